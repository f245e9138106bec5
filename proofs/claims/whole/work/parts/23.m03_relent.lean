set_option maxHeartbeats 4000000 in
set_option maxRecDepth 100000 in
theorem xM_relent (l : Launch) (D : va_G) (cB : ClassId × ClassId) (q : Nat → Nat) (hJ : mw_J 17 q) (sz : Nat) (g : ht_G) (k : Nat) (hk : k ≤ 8) (hn : g 0 1 = nI k) (x : Int32) : Met l yM_relent kM_relent ({ frames := 2, cells := 0, slots := 0, locals := 43 }) (va_Pc [.ref (q 0), .int x] (fun U => U.heap.size = sz ∧ rf_I D cB q g U)) (va_Qi (fun r (_ : Unit) => r = (rf_oRelent (ht_up g 0 0 0) k x).1) (fun _ t => rf_I D cB q ((rf_oRelent (ht_up g 0 0 0) k x).2) t) (mw_A 17 q sz)) 0 0 (mw_A 17 q sz) := by
  refine Met.ofW (cc := cM_relent) (maxL := 3) (ret := (some .int)) (by decide) rfl ?_
  intro p e s m args below meth c s₁ B hml hv
  obtain ⟨rfl, hsz, hP, hK, hN⟩ := hv
  have hx := B.exec
  have hb := B.bytes
  have hr := B.returns
  have hts := fun w h => atoms_spec (ws := kM_relent) B.pre w (List.mem_cons_of_mem _ h)
  have hown : s.vm.findClass RM = some m.cls := findClass_of_methodNamed B.named
  have hlocks := B.notSynchronized
  subst hsz
  have hS : va_S (mw_A 17 q s.heap.size) s.heap s.heap [] := va_S.rf
  have hl := lv_entry ([.ref (q 0), .int x]) (n := 3) (Nat.le_of_ble_eq_true rfl)
  rw [lg_entry_eq]
  generalize (lg_sl ([.ref (q 0), .int x]) ++ List.replicate (3 - (lg_sl ([.ref (q 0), .int x])).length) Slot.unset).toArray = ls at hl ⊢
  have hl : lv_has ls 3 [(0, .ref (q 0)), (1, .int x)] := hl
  refine lv_aload_n hx hb dM_relent_0 rfl (lv_at hl 0 rfl) ?_
  refine lv_iconst (v := 0) hx hb dM_relent_1 (by decide) ?_
  refine va_put (D := D) (ci := 2) (C := RM) (T := TM) (N := 19) (v := .int 0) (ty := .int) hx hb hts inM tyM tyM_ok nmM hown hK hP (mw_DA hJ) hS 0 rf_at0 rfl 0 (by decide) (hts _ w444) (fun _ h9 => h9) rfl rfl rfl rfl (Nat.le_of_ble_eq_true rfl) dM_relent_2 (fun H locs hP _ hS => ?_)
  rw [rf_st0] at hP
  obtain ⟨g1, eg1⟩ : ∃ y9 : ht_G, y9 = ht_up g 0 0 0 := ⟨_, rfl⟩
  rw [← eg1] at hP
  have hn1 : g1 0 1 = nI k := by rw [eg1, ht_up_k (by decide)]; exact hn
  refine lv_aload_n hx hb dM_relent_5 rfl (lv_at hl 0 rfl) ?_
  refine lv_iload_n hx hb dM_relent_6 rfl (lv_at hl 1 rfl) ?_
  refine vp_callSi (va_Run.run (va_runV (As := [.int x]) (rest := []) ⟨hx, hb, hml, hown, hts⟩ (xM_isTrain l D cB q g1 k hk (hn1) x) (cwV 1 hts (ht_gV w574 w576 s46 w3 w577) rfl rfl rfl (by decide +kernel) ⟨Nat.le_of_ble_eq_true rfl, Nat.le_of_ble_eq_true rfl⟩) ⟨rf_bl, va_recv hK hP (ci := 2) (q0 := 0) rfl rf_at0, fun U hU hW => ⟨rfl, rf_Im hP hK hN hU hW⟩⟩ rfl rfl hl.1 rfl (lv_room (Nat.le_of_ble_eq_true rfl)) dM_relent_7 ⟨Nat.zero_le _, Nat.zero_le _⟩)) (fun r2 hr2 => ?_)
  subst hr2
  refine lv_if_ne (tgt := 19) hx hb dM_relent_10 (by decide) (fun c3 => ?_) (fun c3 => ?_)
  · replace c3 := ht_b1.mp c3
    obtain ⟨j, hjl, hxj, hxc⟩ := rf_isT_ix hk c3
    have hj8 : j < 8 := Nat.lt_of_lt_of_le hjl hk
    refine lv_aload_n hx hb dM_relent_19 rfl (lv_at hl 0 rfl) ?_
    refine va_get (D := D) (ci := 2) (C := RM) (T := TM) (N := 19) (v := .ref (q 7)) hx hb hts inM hown hK hP 0 rf_at0 rfl 7 (by decide) (hts _ w451) (fun _ h9 => h9) rfl dM_relent_20 ?_
    refine lv_iload_n hx hb dM_relent_23 rfl (lv_at hl 1 rfl) ?_
    refine rf_ldZ hx hb hK hP 7 (j := j) (by decide) (by decide) rfl hj8 hxj dM_relent_24 ?_
    refine lv_if_eq (tgt := 34) hx hb dM_relent_25 (by decide) (fun c4 => ?_) (fun c4 => ?_)
    · refine lv_aload_n hx hb dM_relent_34 rfl (lv_at hl 0 rfl) ?_
      refine va_get (D := D) (ci := 2) (C := RM) (T := TM) (N := 19) (v := .ref (q 6)) hx hb hts inM hown hK hP 0 rf_at0 rfl 6 (by decide) (hts _ w450) (fun _ h9 => h9) rfl dM_relent_35 ?_
      refine lv_iload_n hx hb dM_relent_38 rfl (lv_at hl 1 rfl) ?_
      refine rf_ldI hx hb hK hP 6 (j := j) (by decide) (by decide) rfl hj8 hxj dM_relent_39 ?_
      refine lv_aload_n hx hb dM_relent_40 rfl (lv_at hl 0 rfl) ?_
      refine va_get (D := D) (ci := 2) (C := RM) (T := TM) (N := 19) (v := .ref (q 3)) hx hb hts inM hown hK hP 0 rf_at0 rfl 3 (by decide) (hts _ w447) (fun _ h9 => h9) rfl dM_relent_41 ?_
      refine lv_iload_n hx hb dM_relent_44 rfl (lv_at hl 1 rfl) ?_
      refine rf_ldI hx hb hK hP 3 (j := j) (by decide) (by decide) rfl hj8 hxj dM_relent_45 ?_
      refine lv_isub hx hb dM_relent_46 ?_
      refine lv_istore_n (lv' := [(2, .int ((g1 6 j) - (g1 3 j))), (0, .ref (q 0)), (1, .int x)]) hx hb dM_relent_47 rfl hl (by decide) rfl (fun ls hl => ?_)
      refine lv_aload_n hx hb dM_relent_48 rfl (lv_at hl 1 rfl) ?_
      refine va_get (D := D) (ci := 2) (C := RM) (T := TM) (N := 19) (v := .ref (q 6)) hx hb hts inM hown hK hP 0 rf_at0 rfl 6 (by decide) (hts _ w450) (fun _ h9 => h9) rfl dM_relent_49 ?_
      refine lv_iload_n hx hb dM_relent_52 rfl (lv_at hl 2 rfl) ?_
      refine lv_aload_n hx hb dM_relent_53 rfl (lv_at hl 1 rfl) ?_
      refine va_get (D := D) (ci := 2) (C := RM) (T := TM) (N := 19) (v := .ref (q 3)) hx hb hts inM hown hK hP 0 rf_at0 rfl 3 (by decide) (hts _ w447) (fun _ h9 => h9) rfl dM_relent_54 ?_
      refine lv_iload_n hx hb dM_relent_57 rfl (lv_at hl 2 rfl) ?_
      refine rf_ldI hx hb hK hP 3 (j := j) (by decide) (by decide) rfl hj8 hxj dM_relent_58 ?_
      refine rf_stI hx hb hK hP (mw_DA hJ) hS 6 (j := j) (by decide) (by decide) rfl hj8 hxj dM_relent_59 (fun H locs hP hS => ?_)
      obtain ⟨g5, eg5⟩ : ∃ y9 : ht_G, y9 = ht_up g1 6 j (g1 3 j) := ⟨_, rfl⟩
      rw [← eg5] at hP
      refine lv_iload_n hx hb dM_relent_60 rfl (lv_at hl 0 rfl) ?_
      have hG : g5 = (rf_oRelent (ht_up g 0 0 0) k x).2 := by rw [← eg1]; subst eg5; simp [rf_oRelent, c3, hxc, c4]
      rw [hG] at hP
      exact W.iret (v := (g1 6 j) - (g1 3 j)) hx hb hr (fun t ht hW => ⟨⟨(g1 6 j) - (g1 3 j), (), rfl, by rw [← eg1]; subst eg5; simp [rf_oRelent, c3, hxc, c4, ht_up], rf_Im hP hK hN ht hW⟩, hS.F ht⟩) hS.2.2 dM_relent_61
    · refine lv_aload_n hx hb dM_relent_28 rfl (lv_at hl 0 rfl) ?_
      refine lv_iconst (v := 2) hx hb dM_relent_29 (by decide) ?_
      refine va_calli (va_runV (As := [.int 2]) (rest := []) ⟨hx, hb, hml, hown, hts⟩ (xM_raise l D cB q hJ _ g1 2) (cwV 1 hts (ht_gV w514 w516 s32 w3 w517) rfl rfl rfl (by decide +kernel) ⟨Nat.le_of_ble_eq_true rfl, Nat.le_of_ble_eq_true rfl⟩) ⟨rf_bls, va_recv hK hP (ci := 2) (q0 := 0) rfl rf_at0, fun U hU hW => ⟨rfl, by rw [hU], rf_Im hP hK hN hU hW⟩⟩ rfl rfl hl.1 rfl (lv_room (Nat.le_of_ble_eq_true rfl)) dM_relent_30 ⟨Nat.zero_le _, Nat.zero_le _⟩) hS mw_AA (mw_AF hS.1) (fun r6 u6 t6 H locs ht6 hvm6 hw6 hB6 hz6 hk6 hS => ?_)
      have hP := hB6.1
      rw [ht6] at hP
      subst hw6
      obtain ⟨g7, eg7⟩ : ∃ y9 : ht_G, y9 = ht_up g1 0 0 2 := ⟨_, rfl⟩
      rw [← eg7] at hP
      have hG : g7 = (rf_oRelent (ht_up g 0 0 0) k x).2 := by rw [← eg1]; subst eg7; simp [rf_oRelent, c3, hxc, c4]
      rw [hG] at hP
      exact W.iret (v := 0) hx hb hr (fun t ht hW => ⟨⟨0, (), rfl, by rw [← eg1]; subst eg7; simp [rf_oRelent, c3, hxc, c4, ht_up], rf_Im hP hK hN ht hW⟩, hS.F ht⟩) hS.2.2 dM_relent_33
  · replace c3 := ht_b0.mp c3
    refine lv_aload_n hx hb dM_relent_13 rfl (lv_at hl 0 rfl) ?_
    refine lv_iconst (v := 1) hx hb dM_relent_14 (by decide) ?_
    refine va_calli (va_runV (As := [.int 1]) (rest := []) ⟨hx, hb, hml, hown, hts⟩ (xM_raise l D cB q hJ _ g1 1) (cwV 1 hts (ht_gV w514 w516 s32 w3 w517) rfl rfl rfl (by decide +kernel) ⟨Nat.le_of_ble_eq_true rfl, Nat.le_of_ble_eq_true rfl⟩) ⟨rf_bls, va_recv hK hP (ci := 2) (q0 := 0) rfl rf_at0, fun U hU hW => ⟨rfl, by rw [hU], rf_Im hP hK hN hU hW⟩⟩ rfl rfl hl.1 rfl (lv_room (Nat.le_of_ble_eq_true rfl)) dM_relent_15 ⟨Nat.zero_le _, Nat.zero_le _⟩) hS mw_AA (mw_AF hS.1) (fun r8 u8 t8 H locs ht8 hvm8 hw8 hB8 hz8 hk8 hS => ?_)
    have hP := hB8.1
    rw [ht8] at hP
    subst hw8
    obtain ⟨g9, eg9⟩ : ∃ y9 : ht_G, y9 = ht_up g1 0 0 1 := ⟨_, rfl⟩
    rw [← eg9] at hP
    have hG : g9 = (rf_oRelent (ht_up g 0 0 0) k x).2 := by rw [← eg1]; subst eg9; simp [rf_oRelent, c3]
    rw [hG] at hP
    exact W.iret (v := 0) hx hb hr (fun t ht hW => ⟨⟨0, (), rfl, by rw [← eg1]; subst eg9; simp [rf_oRelent, c3, ht_up], rf_Im hP hK hN ht hW⟩, hS.F ht⟩) hS.2.2 dM_relent_18
