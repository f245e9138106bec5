set_option maxHeartbeats 4000000 in
set_option maxRecDepth 100000 in
theorem xM_confirm (l : Launch) (D : va_G) (cB : ClassId × ClassId) (q : Nat → Nat) (hJ : mw_J 17 q) (sz : Nat) (g : ht_G) (k : Nat) (hk : k ≤ 8) (hn : g 0 1 = nI k) (x : Int32) : Met l yM_confirm kM_confirm ({ frames := 2, cells := 0, slots := 0, locals := 43 }) (va_Pc [.ref (q 0), .int x] (fun U => U.heap.size = sz ∧ rf_I D cB q g U)) (va_Qi (fun r (_ : Unit) => r = (rf_oConfirm (ht_up g 0 0 0) k x).1) (fun _ t => rf_I D cB q ((rf_oConfirm (ht_up g 0 0 0) k x).2) t) (mw_A 17 q sz)) 0 0 (mw_A 17 q sz) := by
  refine Met.ofW (cc := cM_confirm) (maxL := 2) (ret := (some .int)) (by decide) rfl ?_
  intro p e s m args below meth c s₁ B hml hv
  obtain ⟨rfl, hsz, hP, hK, hN⟩ := hv
  have hx := B.exec
  have hb := B.bytes
  have hr := B.returns
  have hts := fun w h => atoms_spec (ws := kM_confirm) B.pre w (List.mem_cons_of_mem _ h)
  have hown : s.vm.findClass RM = some m.cls := findClass_of_methodNamed B.named
  have hlocks := B.notSynchronized
  subst hsz
  have hS : va_S (mw_A 17 q s.heap.size) s.heap s.heap [] := va_S.rf
  have hl := lv_entry ([.ref (q 0), .int x]) (n := 2) (Nat.le_of_ble_eq_true rfl)
  rw [lg_entry_eq]
  generalize (lg_sl ([.ref (q 0), .int x]) ++ List.replicate (2 - (lg_sl ([.ref (q 0), .int x])).length) Slot.unset).toArray = ls at hl ⊢
  have hl : lv_has ls 2 [(0, .ref (q 0)), (1, .int x)] := hl
  refine lv_aload_n hx hb dM_confirm_0 rfl (lv_at hl 0 rfl) ?_
  refine lv_iconst (v := 0) hx hb dM_confirm_1 (by decide) ?_
  refine va_put (D := D) (ci := 2) (C := RM) (T := TM) (N := 19) (v := .int 0) (ty := .int) hx hb hts inM tyM tyM_ok nmM hown hK hP (mw_DA hJ) hS 0 rf_at0 rfl 0 (by decide) (hts _ w444) (fun _ h9 => h9) rfl rfl rfl rfl (Nat.le_of_ble_eq_true rfl) dM_confirm_2 (fun H locs hP _ hS => ?_)
  rw [rf_st0] at hP
  obtain ⟨g1, eg1⟩ : ∃ y9 : ht_G, y9 = ht_up g 0 0 0 := ⟨_, rfl⟩
  rw [← eg1] at hP
  have hn1 : g1 0 1 = nI k := by rw [eg1, ht_up_k (by decide)]; exact hn
  refine lv_aload_n hx hb dM_confirm_5 rfl (lv_at hl 0 rfl) ?_
  refine lv_iload_n hx hb dM_confirm_6 rfl (lv_at hl 1 rfl) ?_
  refine vp_callSi (va_Run.run (va_runV (As := [.int x]) (rest := []) ⟨hx, hb, hml, hown, hts⟩ (xM_isTrain l D cB q g1 k hk (hn1) x) (cwV 1 hts (ht_gV w574 w576 s46 w3 w577) rfl rfl rfl (by decide +kernel) ⟨Nat.le_of_ble_eq_true rfl, Nat.le_of_ble_eq_true rfl⟩) ⟨rf_bl, va_recv hK hP (ci := 2) (q0 := 0) rfl rf_at0, fun U hU hW => ⟨rfl, rf_Im hP hK hN hU hW⟩⟩ rfl rfl hl.1 rfl (lv_room (Nat.le_of_ble_eq_true rfl)) dM_confirm_7 ⟨Nat.zero_le _, Nat.zero_le _⟩)) (fun r2 hr2 => ?_)
  subst hr2
  refine lv_if_ne (tgt := 19) hx hb dM_confirm_10 (by decide) (fun c3 => ?_) (fun c3 => ?_)
  · replace c3 := ht_b1.mp c3
    obtain ⟨j, hjl, hxj, hxc⟩ := rf_isT_ix hk c3
    have hj8 : j < 8 := Nat.lt_of_lt_of_le hjl hk
    refine lv_aload_n hx hb dM_confirm_19 rfl (lv_at hl 0 rfl) ?_
    refine va_get (D := D) (ci := 2) (C := RM) (T := TM) (N := 19) (v := .ref (q 8)) hx hb hts inM hown hK hP 0 rf_at0 rfl 8 (by decide) (hts _ w452) (fun _ h9 => h9) rfl dM_confirm_20 ?_
    refine lv_iload_n hx hb dM_confirm_23 rfl (lv_at hl 1 rfl) ?_
    refine rf_ldZ hx hb hK hP 8 (j := j) (by decide) (by decide) rfl hj8 hxj dM_confirm_24 ?_
    refine lv_if_ne (tgt := 37) hx hb dM_confirm_25 (by decide) (fun c4 => ?_) (fun c4 => ?_)
    · refine lv_aload_n hx hb dM_confirm_37 rfl (lv_at hl 0 rfl) ?_
      refine lv_iconst (v := 2) hx hb dM_confirm_38 (by decide) ?_
      refine va_calli (va_runV (As := [.int 2]) (rest := []) ⟨hx, hb, hml, hown, hts⟩ (xM_raise l D cB q hJ _ g1 2) (cwV 1 hts (ht_gV w514 w516 s32 w3 w517) rfl rfl rfl (by decide +kernel) ⟨Nat.le_of_ble_eq_true rfl, Nat.le_of_ble_eq_true rfl⟩) ⟨rf_bls, va_recv hK hP (ci := 2) (q0 := 0) rfl rf_at0, fun U hU hW => ⟨rfl, by rw [hU], rf_Im hP hK hN hU hW⟩⟩ rfl rfl hl.1 rfl (lv_room (Nat.le_of_ble_eq_true rfl)) dM_confirm_39 ⟨Nat.zero_le _, Nat.zero_le _⟩) hS mw_AA (mw_AF hS.1) (fun r5 u5 t5 H locs ht5 hvm5 hw5 hB5 hz5 hk5 hS => ?_)
      have hP := hB5.1
      rw [ht5] at hP
      subst hw5
      obtain ⟨g6, eg6⟩ : ∃ y9 : ht_G, y9 = ht_up g1 0 0 2 := ⟨_, rfl⟩
      rw [← eg6] at hP
      have hG : g6 = (rf_oConfirm (ht_up g 0 0 0) k x).2 := by rw [← eg1]; subst eg6; simp [rf_oConfirm, c3, hxc, c4]
      rw [hG] at hP
      exact W.iret (v := 0) hx hb hr (fun t ht hW => ⟨⟨0, (), rfl, by rw [← eg1]; subst eg6; simp [rf_oConfirm, c3, hxc, c4, ht_up], rf_Im hP hK hN ht hW⟩, hS.F ht⟩) hS.2.2 dM_confirm_42
    · refine lv_aload_n hx hb dM_confirm_28 rfl (lv_at hl 0 rfl) ?_
      refine va_get (D := D) (ci := 2) (C := RM) (T := TM) (N := 19) (v := .ref (q 11)) hx hb hts inM hown hK hP 0 rf_at0 rfl 11 (by decide) (hts _ w455) (fun _ h9 => h9) rfl dM_confirm_29 ?_
      refine lv_iload_n hx hb dM_confirm_32 rfl (lv_at hl 1 rfl) ?_
      refine rf_ldZ hx hb hK hP 11 (j := j) (by decide) (by decide) rfl hj8 hxj dM_confirm_33 ?_
      refine lv_if_eq (tgt := 43) hx hb dM_confirm_34 (by decide) (fun c7 => ?_) (fun c7 => ?_)
      · refine lv_aload_n hx hb dM_confirm_43 rfl (lv_at hl 0 rfl) ?_
        refine va_get (D := D) (ci := 2) (C := RM) (T := TM) (N := 19) (v := .ref (q 8)) hx hb hts inM hown hK hP 0 rf_at0 rfl 8 (by decide) (hts _ w452) (fun _ h9 => h9) rfl dM_confirm_44 ?_
        refine lv_iload_n hx hb dM_confirm_47 rfl (lv_at hl 1 rfl) ?_
        refine lv_iconst (v := 1) hx hb dM_confirm_48 (by decide) ?_
        refine rf_stZ hx hb hK hP (mw_DA hJ) hS 8 (j := j) (by decide) (by decide) rfl (Or.inr rfl) hj8 hxj dM_confirm_49 (fun H locs hP hS => ?_)
        obtain ⟨g8, eg8⟩ : ∃ y9 : ht_G, y9 = ht_up g1 8 j 1 := ⟨_, rfl⟩
        rw [← eg8] at hP
        refine lv_aload_n hx hb dM_confirm_50 rfl (lv_at hl 0 rfl) ?_
        refine va_get (D := D) (ci := 2) (C := RM) (T := TM) (N := 19) (v := .ref (q 4)) hx hb hts inM hown hK hP 0 rf_at0 rfl 4 (by decide) (hts _ w448) (fun _ h9 => h9) rfl dM_confirm_51 ?_
        refine lv_iload_n hx hb dM_confirm_54 rfl (lv_at hl 1 rfl) ?_
        refine rf_ldI hx hb hK hP 4 (j := j) (by decide) (by decide) rfl hj8 hxj dM_confirm_55 ?_
        have hG : g8 = (rf_oConfirm (ht_up g 0 0 0) k x).2 := by rw [← eg1]; subst eg8; simp [rf_oConfirm, c3, hxc, c4, c7]
        rw [hG] at hP
        exact W.iret (v := g8 4 j) hx hb hr (fun t ht hW => ⟨⟨g8 4 j, (), rfl, by rw [← eg1]; subst eg8; simp [rf_oConfirm, c3, hxc, c4, c7, ht_up], rf_Im hP hK hN ht hW⟩, hS.F ht⟩) hS.2.2 dM_confirm_56
      · refine lv_aload_n hx hb dM_confirm_37 rfl (lv_at hl 0 rfl) ?_
        refine lv_iconst (v := 2) hx hb dM_confirm_38 (by decide) ?_
        refine va_calli (va_runV (As := [.int 2]) (rest := []) ⟨hx, hb, hml, hown, hts⟩ (xM_raise l D cB q hJ _ g1 2) (cwV 1 hts (ht_gV w514 w516 s32 w3 w517) rfl rfl rfl (by decide +kernel) ⟨Nat.le_of_ble_eq_true rfl, Nat.le_of_ble_eq_true rfl⟩) ⟨rf_bls, va_recv hK hP (ci := 2) (q0 := 0) rfl rf_at0, fun U hU hW => ⟨rfl, by rw [hU], rf_Im hP hK hN hU hW⟩⟩ rfl rfl hl.1 rfl (lv_room (Nat.le_of_ble_eq_true rfl)) dM_confirm_39 ⟨Nat.zero_le _, Nat.zero_le _⟩) hS mw_AA (mw_AF hS.1) (fun r9 u9 t9 H locs ht9 hvm9 hw9 hB9 hz9 hk9 hS => ?_)
        have hP := hB9.1
        rw [ht9] at hP
        subst hw9
        obtain ⟨g10, eg10⟩ : ∃ y9 : ht_G, y9 = ht_up g1 0 0 2 := ⟨_, rfl⟩
        rw [← eg10] at hP
        have hG : g10 = (rf_oConfirm (ht_up g 0 0 0) k x).2 := by rw [← eg1]; subst eg10; simp [rf_oConfirm, c3, hxc, c4, c7]
        rw [hG] at hP
        exact W.iret (v := 0) hx hb hr (fun t ht hW => ⟨⟨0, (), rfl, by rw [← eg1]; subst eg10; simp [rf_oConfirm, c3, hxc, c4, c7, ht_up], rf_Im hP hK hN ht hW⟩, hS.F ht⟩) hS.2.2 dM_confirm_42
  · replace c3 := ht_b0.mp c3
    refine lv_aload_n hx hb dM_confirm_13 rfl (lv_at hl 0 rfl) ?_
    refine lv_iconst (v := 1) hx hb dM_confirm_14 (by decide) ?_
    refine va_calli (va_runV (As := [.int 1]) (rest := []) ⟨hx, hb, hml, hown, hts⟩ (xM_raise l D cB q hJ _ g1 1) (cwV 1 hts (ht_gV w514 w516 s32 w3 w517) rfl rfl rfl (by decide +kernel) ⟨Nat.le_of_ble_eq_true rfl, Nat.le_of_ble_eq_true rfl⟩) ⟨rf_bls, va_recv hK hP (ci := 2) (q0 := 0) rfl rf_at0, fun U hU hW => ⟨rfl, by rw [hU], rf_Im hP hK hN hU hW⟩⟩ rfl rfl hl.1 rfl (lv_room (Nat.le_of_ble_eq_true rfl)) dM_confirm_15 ⟨Nat.zero_le _, Nat.zero_le _⟩) hS mw_AA (mw_AF hS.1) (fun r11 u11 t11 H locs ht11 hvm11 hw11 hB11 hz11 hk11 hS => ?_)
    have hP := hB11.1
    rw [ht11] at hP
    subst hw11
    obtain ⟨g12, eg12⟩ : ∃ y9 : ht_G, y9 = ht_up g1 0 0 1 := ⟨_, rfl⟩
    rw [← eg12] at hP
    have hG : g12 = (rf_oConfirm (ht_up g 0 0 0) k x).2 := by rw [← eg1]; subst eg12; simp [rf_oConfirm, c3]
    rw [hG] at hP
    exact W.iret (v := 0) hx hb hr (fun t ht hW => ⟨⟨0, (), rfl, by rw [← eg1]; subst eg12; simp [rf_oConfirm, c3, ht_up], rf_Im hP hK hN ht hW⟩, hS.F ht⟩) hS.2.2 dM_confirm_18
