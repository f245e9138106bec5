set_option maxHeartbeats 4000000 in
set_option maxRecDepth 100000 in
theorem xM_drive (l : Launch) (D : va_G) (cB : ClassId × ClassId) (q : Nat → Nat) (hJ : mw_J 17 q) (sz : Nat) (g : ht_G) (k : Nat) (hk : k ≤ 8) (hn : g 0 1 = nI k) (x y : Int32) : Met l yM_drive kM_drive ({ frames := 2, cells := 0, slots := 0, locals := 43 }) (va_Pc [.ref (q 0), .int x, .int y] (fun U => U.heap.size = sz ∧ rf_I D cB q g U)) (va_Qi (fun r (_ : Unit) => r = (rf_oDrive (ht_up g 0 0 0) k x y).1) (fun _ t => rf_I D cB q ((rf_oDrive (ht_up g 0 0 0) k x y).2) t) (mw_A 17 q sz)) 0 0 (mw_A 17 q sz) := by
  refine Met.ofW (cc := cM_drive) (maxL := 4) (ret := (some .int)) (by decide) rfl ?_
  intro p e s m args below meth c s₁ B hml hv
  obtain ⟨rfl, hsz, hP, hK, hN⟩ := hv
  have hx := B.exec
  have hb := B.bytes
  have hr := B.returns
  have hts := fun w h => atoms_spec (ws := kM_drive) B.pre w (List.mem_cons_of_mem _ h)
  have hown : s.vm.findClass RM = some m.cls := findClass_of_methodNamed B.named
  have hlocks := B.notSynchronized
  subst hsz
  have hS : va_S (mw_A 17 q s.heap.size) s.heap s.heap [] := va_S.rf
  have hl := lv_entry ([.ref (q 0), .int x, .int y]) (n := 4) (Nat.le_of_ble_eq_true rfl)
  rw [lg_entry_eq]
  generalize (lg_sl ([.ref (q 0), .int x, .int y]) ++ List.replicate (4 - (lg_sl ([.ref (q 0), .int x, .int y])).length) Slot.unset).toArray = ls at hl ⊢
  have hl : lv_has ls 4 [(0, .ref (q 0)), (1, .int x), (2, .int y)] := hl
  refine lv_aload_n hx hb dM_drive_0 rfl (lv_at hl 0 rfl) ?_
  refine lv_iconst (v := 0) hx hb dM_drive_1 (by decide) ?_
  refine va_put (D := D) (ci := 2) (C := RM) (T := TM) (N := 19) (v := .int 0) (ty := .int) hx hb hts inM tyM tyM_ok nmM hown hK hP (mw_DA hJ) hS 0 rf_at0 rfl 0 (by decide) (hts _ w444) (fun _ h9 => h9) rfl rfl rfl rfl (Nat.le_of_ble_eq_true rfl) dM_drive_2 (fun H locs hP _ hS => ?_)
  rw [rf_st0] at hP
  obtain ⟨g1, eg1⟩ : ∃ y9 : ht_G, y9 = ht_up g 0 0 0 := ⟨_, rfl⟩
  rw [← eg1] at hP
  have hn1 : g1 0 1 = nI k := by rw [eg1, ht_up_k (by decide)]; exact hn
  refine lv_aload_n hx hb dM_drive_5 rfl (lv_at hl 0 rfl) ?_
  refine lv_iload_n hx hb dM_drive_6 rfl (lv_at hl 1 rfl) ?_
  refine vp_callSi (va_Run.run (va_runV (As := [.int x]) (rest := []) ⟨hx, hb, hml, hown, hts⟩ (xM_isTrain l D cB q g1 k hk (hn1) x) (cwV 1 hts (ht_gV w574 w576 s46 w3 w577) rfl rfl rfl (by decide +kernel) ⟨Nat.le_of_ble_eq_true rfl, Nat.le_of_ble_eq_true rfl⟩) ⟨rf_bl, va_recv hK hP (ci := 2) (q0 := 0) rfl rf_at0, fun U hU hW => ⟨rfl, rf_Im hP hK hN hU hW⟩⟩ rfl rfl hl.1 rfl (lv_room (Nat.le_of_ble_eq_true rfl)) dM_drive_7 ⟨Nat.zero_le _, Nat.zero_le _⟩)) (fun r2 hr2 => ?_)
  subst hr2
  refine lv_if_ne (tgt := 19) hx hb dM_drive_10 (by decide) (fun c3 => ?_) (fun c3 => ?_)
  · replace c3 := ht_b1.mp c3
    obtain ⟨j, hjl, hxj, hxc⟩ := rf_isT_ix hk c3
    have hj8 : j < 8 := Nat.lt_of_lt_of_le hjl hk
    refine lv_iload_n hx hb dM_drive_19 rfl (lv_at hl 2 rfl) ?_
    refine lv_iconst (v := 0) hx hb dM_drive_20 (by decide) ?_
    refine lv_bipush (v := 9) hx hb dM_drive_21 (by decide) ?_
    refine vp_callSi (va_Run.run (va_runS (As := [.int y, .int 0, .int 9]) (rest := []) ⟨hx, hb, hml, hown, hts⟩ (xM_in l D cB q g1 y 0 9) (cwS 3 hts (ht_gS w511 w512 w3 w513) rfl rfl rfl (by decide +kernel) ⟨Nat.le_of_ble_eq_true rfl, Nat.le_of_ble_eq_true rfl⟩) ⟨rf_bl, fun U hU hW => ⟨rfl, rf_Im hP hK hN hU hW⟩⟩ rfl rfl hl.1 rfl (lv_room (Nat.le_of_ble_eq_true rfl)) dM_drive_23 ⟨Nat.zero_le _, Nat.zero_le _⟩)) (fun r4 hr4 => ?_)
    subst hr4
    refine lv_if_ne (tgt := 35) hx hb dM_drive_26 (by decide) (fun c5 => ?_) (fun c5 => ?_)
    · replace c5 := ht_b1.mp c5
      refine lv_aload_n hx hb dM_drive_35 rfl (lv_at hl 0 rfl) ?_
      refine va_get (D := D) (ci := 2) (C := RM) (T := TM) (N := 19) (v := .ref (q 5)) hx hb hts inM hown hK hP 0 rf_at0 rfl 5 (by decide) (hts _ w449) (fun _ h9 => h9) rfl dM_drive_36 ?_
      refine lv_iload_n hx hb dM_drive_39 rfl (lv_at hl 1 rfl) ?_
      refine rf_ldI hx hb hK hP 5 (j := j) (by decide) (by decide) rfl hj8 hxj dM_drive_40 ?_
      refine lv_istore_n (lv' := [(3, .int (g1 5 j)), (0, .ref (q 0)), (1, .int x), (2, .int y)]) hx hb dM_drive_41 rfl hl (by decide) rfl (fun ls hl => ?_)
      refine lv_aload_n hx hb dM_drive_42 rfl (lv_at hl 1 rfl) ?_
      refine va_get (D := D) (ci := 2) (C := RM) (T := TM) (N := 19) (v := .ref (q 5)) hx hb hts inM hown hK hP 0 rf_at0 rfl 5 (by decide) (hts _ w449) (fun _ h9 => h9) rfl dM_drive_43 ?_
      refine lv_iload_n hx hb dM_drive_46 rfl (lv_at hl 2 rfl) ?_
      refine lv_iload_n hx hb dM_drive_47 rfl (lv_at hl 3 rfl) ?_
      refine rf_stI hx hb hK hP (mw_DA hJ) hS 5 (j := j) (by decide) (by decide) rfl hj8 hxj dM_drive_48 (fun H locs hP hS => ?_)
      obtain ⟨g6, eg6⟩ : ∃ y9 : ht_G, y9 = ht_up g1 5 j y := ⟨_, rfl⟩
      rw [← eg6] at hP
      refine lv_iload_n hx hb dM_drive_49 rfl (lv_at hl 0 rfl) ?_
      have hG : g6 = (rf_oDrive (ht_up g 0 0 0) k x y).2 := by rw [← eg1]; subst eg6; simp [rf_oDrive, c3, hxc, c5]
      rw [hG] at hP
      exact W.iret (v := g1 5 j) hx hb hr (fun t ht hW => ⟨⟨g1 5 j, (), rfl, by rw [← eg1]; subst eg6; simp [rf_oDrive, c3, hxc, c5, ht_up], rf_Im hP hK hN ht hW⟩, hS.F ht⟩) hS.2.2 dM_drive_50
    · replace c5 := ht_b0.mp c5
      refine lv_aload_n hx hb dM_drive_29 rfl (lv_at hl 0 rfl) ?_
      refine lv_iconst (v := 2) hx hb dM_drive_30 (by decide) ?_
      refine va_calli (va_runV (As := [.int 2]) (rest := []) ⟨hx, hb, hml, hown, hts⟩ (xM_raise l D cB q hJ _ g1 2) (cwV 1 hts (ht_gV w514 w516 s32 w3 w517) rfl rfl rfl (by decide +kernel) ⟨Nat.le_of_ble_eq_true rfl, Nat.le_of_ble_eq_true rfl⟩) ⟨rf_bls, va_recv hK hP (ci := 2) (q0 := 0) rfl rf_at0, fun U hU hW => ⟨rfl, by rw [hU], rf_Im hP hK hN hU hW⟩⟩ rfl rfl hl.1 rfl (lv_room (Nat.le_of_ble_eq_true rfl)) dM_drive_31 ⟨Nat.zero_le _, Nat.zero_le _⟩) hS mw_AA (mw_AF hS.1) (fun r7 u7 t7 H locs ht7 hvm7 hw7 hB7 hz7 hk7 hS => ?_)
      have hP := hB7.1
      rw [ht7] at hP
      subst hw7
      obtain ⟨g8, eg8⟩ : ∃ y9 : ht_G, y9 = ht_up g1 0 0 2 := ⟨_, rfl⟩
      rw [← eg8] at hP
      have hG : g8 = (rf_oDrive (ht_up g 0 0 0) k x y).2 := by rw [← eg1]; subst eg8; simp [rf_oDrive, c3, hxc, c5]
      rw [hG] at hP
      exact W.iret (v := 0) hx hb hr (fun t ht hW => ⟨⟨0, (), rfl, by rw [← eg1]; subst eg8; simp [rf_oDrive, c3, hxc, c5, ht_up], rf_Im hP hK hN ht hW⟩, hS.F ht⟩) hS.2.2 dM_drive_34
  · replace c3 := ht_b0.mp c3
    refine lv_aload_n hx hb dM_drive_13 rfl (lv_at hl 0 rfl) ?_
    refine lv_iconst (v := 1) hx hb dM_drive_14 (by decide) ?_
    refine va_calli (va_runV (As := [.int 1]) (rest := []) ⟨hx, hb, hml, hown, hts⟩ (xM_raise l D cB q hJ _ g1 1) (cwV 1 hts (ht_gV w514 w516 s32 w3 w517) rfl rfl rfl (by decide +kernel) ⟨Nat.le_of_ble_eq_true rfl, Nat.le_of_ble_eq_true rfl⟩) ⟨rf_bls, va_recv hK hP (ci := 2) (q0 := 0) rfl rf_at0, fun U hU hW => ⟨rfl, by rw [hU], rf_Im hP hK hN hU hW⟩⟩ rfl rfl hl.1 rfl (lv_room (Nat.le_of_ble_eq_true rfl)) dM_drive_15 ⟨Nat.zero_le _, Nat.zero_le _⟩) hS mw_AA (mw_AF hS.1) (fun r9 u9 t9 H locs ht9 hvm9 hw9 hB9 hz9 hk9 hS => ?_)
    have hP := hB9.1
    rw [ht9] at hP
    subst hw9
    obtain ⟨g10, eg10⟩ : ∃ y9 : ht_G, y9 = ht_up g1 0 0 1 := ⟨_, rfl⟩
    rw [← eg10] at hP
    have hG : g10 = (rf_oDrive (ht_up g 0 0 0) k x y).2 := by rw [← eg1]; subst eg10; simp [rf_oDrive, c3]
    rw [hG] at hP
    exact W.iret (v := 0) hx hb hr (fun t ht hW => ⟨⟨0, (), rfl, by rw [← eg1]; subst eg10; simp [rf_oDrive, c3, ht_up], rf_Im hP hK hN ht hW⟩, hS.F ht⟩) hS.2.2 dM_drive_18
