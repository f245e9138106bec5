set_option maxHeartbeats 4000000 in
set_option maxRecDepth 100000 in
theorem xH_findStates (l : Launch) (D : va_G) (cA : ClassId × ClassId) (q : Nat → Nat) (hJ : mw_J 14 q) (sz : Nat) (g : ht_G) (k : Nat) (hk : k ≤ 8) (hn : g 0 0 = nI k) (hA : ht_al g 3) : Met l yH_findStates kH_findStates ({ frames := 5, cells := 0, slots := 0, locals := 108 }) (va_Pc [.ref (q 0)] (fun U => U.heap.size = sz ∧ ht_I D cA q g U)) (va_Qv (fun _ : Unit => True) (fun _ t => ht_I D cA q (ht_find k g) t) (mw_A 14 q sz)) 0 0 (mw_A 14 q sz) := by
  refine Met.ofW (cc := cH_findStates) (maxL := 2) (ret := none) (by decide) rfl ?_
  intro p e s m args below meth c s₁ B hml hv
  obtain ⟨rfl, hsz, hP, hK, hN⟩ := hv
  have hx := B.exec
  have hb := B.bytes
  have hr := B.returns
  have hts := fun w h => atoms_spec (ws := kH_findStates) B.pre w (List.mem_cons_of_mem _ h)
  have hown : s.vm.findClass RH = some m.cls := findClass_of_methodNamed B.named
  have hlocks := B.notSynchronized
  subst hsz
  have hS : va_S (mw_A 14 q s.heap.size) s.heap s.heap [] := va_S.rf
  have hl := lv_entry ([.ref (q 0)]) (n := 2) (Nat.le_of_ble_eq_true rfl)
  rw [lg_entry_eq]
  generalize (lg_sl ([.ref (q 0)]) ++ List.replicate (2 - (lg_sl ([.ref (q 0)])).length) Slot.unset).toArray = ls at hl ⊢
  have hl : lv_has ls 2 [(0, .ref (q 0))] := hl
  have K31 : ∀ (n9 : Nat), ∀ (gb : ht_G) (z : Nat), (13 ≤ z + n9) → (gb = ht_it (ht_s1 k) 12 (ht_it (ht_ls k) 12 g)) → (gb 0 0 = nI k) → (z ≤ 12) → ∀ (H : Heap) (locs : List Loc), va_P D ht_cl (ht_w cA q (ht_it (ht_s2 k) z gb)) H → va_S (mw_A 14 q s.heap.size) s.heap H locs → ∀ (ls : Array Slot), lv_has ls 2 [(0, .ref (q 0)), (1, .int (nI z))] → W p l e (headSpec kH_findStates ({ frames := 5, cells := 0, slots := 0, locals := 108 })).room s m [.ref (q 0)].toArray below meth c H locs 0 0 (MQ below (va_Qv (fun _ : Unit => True) (fun _ t => ht_I D cA q (ht_find k g) t) (mw_A 14 q s.heap.size)) [.ref (q 0)].toArray s 0 0 (mw_A 14 q s.heap.size)) (F0 m 31 ls []) := by
    intro n9
    induction n9 with
    | zero =>
      intro gb z hn9 hgb hnb hjk H locs hP hS ls hl
      exact absurd hn9 (by omega)
    | succ n9 ih =>
      intro gb z hn9 hgb hnb hjk H locs hP hS ls hl
      have hnz : (ht_it (ht_s2 k) z gb) 0 0 = nI k := (ht_it_keep (fun _ a => ht_s2_o (by decide) a) _ _).trans hnb
      refine lv_iload_n hx hb dH_findStates_31 rfl (lv_at hl 1 rfl) ?_
      refine lv_bipush (v := 12) hx hb dH_findStates_32 (by decide) ?_
      refine lv_icmp_ge (tgt := 78) hx hb dH_findStates_34 (by decide) (fun c1 => ?_) (fun c1 => ?_)
      · have e9 : z = 12 := ht_end12 hjk c1
        have hG : ht_it (ht_s2 k) z gb = ht_find k g := by rw [e9, hgb]; rfl
        rw [hG] at hP
        exact W.vret hx hb hr (fun t ht hW => ⟨⟨(), rfl, trivial, ht_Im hP hK hN ht hW⟩, hS.F ht⟩) hS.2.2 dH_findStates_78
      · have hjl : z < 12 := ht_lt12 hjk c1
        refine lv_aload_n hx hb dH_findStates_37 rfl (lv_at hl 0 rfl) ?_
        refine va_get (D := D) (ci := 1) (C := RH) (T := TH) (N := 7) (v := .ref (q 2)) hx hb hts inH hown hK hP 0 ht_atO rfl 3 (by decide) (hts _ w80) (fun _ h9 => h9) rfl dH_findStates_38 ?_
        refine lv_iload_n hx hb dH_findStates_41 rfl (lv_at hl 1 rfl) ?_
        refine ht_ldI hx hb hK hP 1 (j := z) (by decide) (by decide) hjl rfl dH_findStates_42 ?_
        refine lv_if_ne (tgt := 72) hx hb dH_findStates_43 (by decide) (fun c2 => ?_) (fun c2 => ?_)
        · refine lv_iinc (v := nI (z + 1)) (lv' := [(1, .int (nI (z + 1))), (0, .ref (q 0))]) hx hb dH_findStates_72 hl (k := 1) rfl (nI_1 _) (by decide) rfl (fun ls hl => ?_)
          refine lv_goto (tgt := 31) hx hb dH_findStates_75 (by decide) ?_
          have hG : ht_it (ht_s2 k) z gb = ht_it (ht_s2 k) (z + 1) gb := by simp [ht_it, ht_s2, c1, c2]
          rw [hG] at hP
          exact ih gb (z + 1) (by omega) hgb hnb (by omega) _ _ hP hS ls (lv_sub hl [1, 0] rfl)
        · refine lv_aload_n hx hb dH_findStates_46 rfl (lv_at hl 0 rfl) ?_
          refine lv_iload_n hx hb dH_findStates_47 rfl (lv_at hl 1 rfl) ?_
          refine lv_iload_n hx hb dH_findStates_48 rfl (lv_at hl 1 rfl) ?_
          refine vp_callSi (va_Run.run (va_runV (As := [.int (nI z), .int (nI z)]) (rest := []) ⟨hx, hb, hml, hown, hts⟩ (xH_isAnyClaimedByMute l D cA q (ht_it (ht_s2 k) z gb) k hk hnz (nI z) (nI z)) (cwV 2 hts (ht_gV w262 w264 s17 w1 w265) rfl rfl rfl (by decide +kernel) ⟨Nat.le_of_ble_eq_true rfl, Nat.le_of_ble_eq_true rfl⟩) ⟨ht_bl, va_recv hK hP (ci := 1) (q0 := 0) rfl ht_atO, fun U hU hW => ⟨rfl, ht_Im hP hK hN hU hW⟩⟩ rfl rfl hl.1 rfl (lv_room (Nat.le_of_ble_eq_true rfl)) dH_findStates_49 ⟨Nat.zero_le _, Nat.zero_le _⟩)) (fun r3 hr3 => ?_)
          subst hr3
          refine lv_if_eq (tgt := 72) hx hb dH_findStates_52 (by decide) (fun c4 => ?_) (fun c4 => ?_)
          · replace c4 := ht_b0.mp c4
            refine lv_iinc (v := nI (z + 1)) (lv' := [(1, .int (nI (z + 1))), (0, .ref (q 0))]) hx hb dH_findStates_72 hl (k := 1) rfl (nI_1 _) (by decide) rfl (fun ls hl => ?_)
            refine lv_goto (tgt := 31) hx hb dH_findStates_75 (by decide) ?_
            have hG : ht_it (ht_s2 k) z gb = ht_it (ht_s2 k) (z + 1) gb := by simp [ht_it, ht_s2, c1, c2, c4]
            rw [hG] at hP
            exact ih gb (z + 1) (by omega) hgb hnb (by omega) _ _ hP hS ls (lv_sub hl [1, 0] rfl)
          · replace c4 := ht_b1.mp c4
            refine lv_aload_n hx hb dH_findStates_55 rfl (lv_at hl 0 rfl) ?_
            refine lv_iload_n hx hb dH_findStates_56 rfl (lv_at hl 1 rfl) ?_
            refine lv_iconst (v := 3) hx hb dH_findStates_57 (by decide) ?_
            refine lv_idiv hx hb dH_findStates_58 (by decide) ?_
            refine vp_callSi (va_Run.run (va_runV (As := [.int ((nI z) / 3)]) (rest := []) ⟨hx, hb, hml, hown, hts⟩ (xH_isDetectedOccupied l D cA q (ht_it (ht_s2 k) z gb) k hk hnz (nI z / 3)) (cwV 1 hts (ht_gV w246 w248 s13 w1 w249) rfl rfl rfl (by decide +kernel) ⟨Nat.le_of_ble_eq_true rfl, Nat.le_of_ble_eq_true rfl⟩) ⟨ht_bl, va_recv hK hP (ci := 1) (q0 := 0) rfl ht_atO, fun U hU hW => ⟨rfl, ht_Im hP hK hN hU hW⟩⟩ rfl rfl hl.1 rfl (lv_room (Nat.le_of_ble_eq_true rfl)) dH_findStates_59 ⟨Nat.zero_le _, Nat.zero_le _⟩)) (fun r5 hr5 => ?_)
            subst hr5
            refine lv_if_eq (tgt := 72) hx hb dH_findStates_62 (by decide) (fun c6 => ?_) (fun c6 => ?_)
            · replace c6 := ht_b0.mp c6
              refine lv_iinc (v := nI (z + 1)) (lv' := [(1, .int (nI (z + 1))), (0, .ref (q 0))]) hx hb dH_findStates_72 hl (k := 1) rfl (nI_1 _) (by decide) rfl (fun ls hl => ?_)
              refine lv_goto (tgt := 31) hx hb dH_findStates_75 (by decide) ?_
              have hG : ht_it (ht_s2 k) z gb = ht_it (ht_s2 k) (z + 1) gb := by simp [ht_it, ht_s2, c1, c2, c4, c6]
              rw [hG] at hP
              exact ih gb (z + 1) (by omega) hgb hnb (by omega) _ _ hP hS ls (lv_sub hl [1, 0] rfl)
            · replace c6 := ht_b1.mp c6
              refine lv_aload_n hx hb dH_findStates_65 rfl (lv_at hl 0 rfl) ?_
              refine va_get (D := D) (ci := 1) (C := RH) (T := TH) (N := 7) (v := .ref (q 2)) hx hb hts inH hown hK hP 0 ht_atO rfl 3 (by decide) (hts _ w80) (fun _ h9 => h9) rfl dH_findStates_66 ?_
              refine lv_iload_n hx hb dH_findStates_69 rfl (lv_at hl 1 rfl) ?_
              refine lv_iconst (v := 3) hx hb dH_findStates_70 (by decide) ?_
              refine ht_stI hx hb hK hP (mw_DA hJ) hS 1 (j := z) (by decide) (by decide) hjl rfl dH_findStates_71 (fun H locs hP hS => ?_)
              obtain ⟨g7, eg7⟩ : ∃ y9 : ht_G, y9 = ht_up (ht_it (ht_s2 k) z gb) 1 z 3 := ⟨_, rfl⟩
              rw [← eg7] at hP
              refine lv_iinc (v := nI (z + 1)) (lv' := [(1, .int (nI (z + 1))), (0, .ref (q 0))]) hx hb dH_findStates_72 hl (k := 1) rfl (nI_1 _) (by decide) rfl (fun ls hl => ?_)
              refine lv_goto (tgt := 31) hx hb dH_findStates_75 (by decide) ?_
              have hG : g7 = ht_it (ht_s2 k) (z + 1) gb := by subst eg7; simp [ht_it, ht_s2, c1, c2, c4, c6]
              rw [hG] at hP
              exact ih gb (z + 1) (by omega) hgb hnb (by omega) _ _ hP hS ls (lv_sub hl [1, 0] rfl)
  have K6 : ∀ (n9 : Nat), ∀ (ga : ht_G) (z : Nat), (13 ≤ z + n9) → (ga = ht_it (ht_ls k) 12 g) → (ga 0 0 = nI k) → (ht_al ga 3) → (ht_al ga 4) → (z ≤ 12) → ∀ (H : Heap) (locs : List Loc), va_P D ht_cl (ht_w cA q (ht_it (ht_s1 k) z ga)) H → va_S (mw_A 14 q s.heap.size) s.heap H locs → ∀ (ls : Array Slot), lv_has ls 2 [(0, .ref (q 0)), (1, .int (nI z))] → W p l e (headSpec kH_findStates ({ frames := 5, cells := 0, slots := 0, locals := 108 })).room s m [.ref (q 0)].toArray below meth c H locs 0 0 (MQ below (va_Qv (fun _ : Unit => True) (fun _ t => ht_I D cA q (ht_find k g) t) (mw_A 14 q s.heap.size)) [.ref (q 0)].toArray s 0 0 (mw_A 14 q s.heap.size)) (F0 m 6 ls []) := by
    intro n9
    induction n9 with
    | zero =>
      intro ga z hn9 hga hna h3 h4 hjk H locs hP hS ls hl
      exact absurd hn9 (by omega)
    | succ n9 ih =>
      intro ga z hn9 hga hna h3 h4 hjk H locs hP hS ls hl
      have hnz : (ht_it (ht_s1 k) z ga) 0 0 = nI k := (ht_it_keep (fun _ a => ht_s1_o (by decide) a) _ _).trans hna
      have ha3 : ht_al (ht_it (ht_s1 k) z ga) 3 := ht_al_of h3 (fun y _ => (ht_it_keep (fun _ a => ht_s1_o (by decide) a) _ _))
      have ha4 : ht_al (ht_it (ht_s1 k) z ga) 4 := ht_al_of h4 (fun y _ => (ht_it_keep (fun _ a => ht_s1_o (by decide) a) _ _))
      refine lv_iload_n hx hb dH_findStates_6 rfl (lv_at hl 1 rfl) ?_
      refine lv_bipush (v := 12) hx hb dH_findStates_7 (by decide) ?_
      refine lv_icmp_ge (tgt := 29) hx hb dH_findStates_9 (by decide) (fun c8 => ?_) (fun c8 => ?_)
      · have e9 : z = 12 := ht_end12 hjk c8
        refine lv_iconst (v := 0) hx hb dH_findStates_29 (by decide) ?_
        refine lv_istore_n (lv' := [(1, .int 0), (0, .ref (q 0))]) hx hb dH_findStates_30 rfl hl (by decide) rfl (fun ls hl => ?_)
        rw [e9] at hP hnz
        exact K31 13 (ht_it (ht_s1 k) 12 ga) 0 (by omega) (by rw [hga]) hnz (by omega) _ _ hP hS ls (lv_sub hl [1, 0] rfl)
      · have hjl : z < 12 := ht_lt12 hjk c8
        refine lv_aload_n hx hb dH_findStates_12 rfl (lv_at hl 0 rfl) ?_
        refine va_get (D := D) (ci := 1) (C := RH) (T := TH) (N := 7) (v := .ref (q 2)) hx hb hts inH hown hK hP 0 ht_atO rfl 3 (by decide) (hts _ w80) (fun _ h9 => h9) rfl dH_findStates_13 ?_
        refine lv_iload_n hx hb dH_findStates_16 rfl (lv_at hl 1 rfl) ?_
        refine lv_aload_n hx hb dH_findStates_17 rfl (lv_at hl 0 rfl) ?_
        refine lv_iload_n hx hb dH_findStates_18 rfl (lv_at hl 1 rfl) ?_
        refine vp_callSi (va_Run.run (va_runV (As := [.int (nI z)]) (rest := [.int (nI z), .ref (q 2)]) ⟨hx, hb, hml, hown, hts⟩ (xH_stateByReports l D cA q (ht_it (ht_s1 k) z ga) k hk hnz z hjl (ha3 z hjl) (ha4 z hjl)) (cwV 1 hts (ht_gV w242 w244 s12 w1 w245) rfl rfl rfl (by decide +kernel) ⟨Nat.le_of_ble_eq_true rfl, Nat.le_of_ble_eq_true rfl⟩) ⟨ht_bl, va_recv hK hP (ci := 1) (q0 := 0) rfl ht_atO, fun U hU hW => ⟨rfl, ht_Im hP hK hN hU hW⟩⟩ rfl rfl hl.1 rfl (lv_room (Nat.le_of_ble_eq_true rfl)) dH_findStates_19 ⟨Nat.zero_le _, Nat.zero_le _⟩)) (fun r9 hr9 => ?_)
        subst hr9
        refine ht_stI hx hb hK hP (mw_DA hJ) hS 1 (j := z) (by decide) (by decide) hjl rfl dH_findStates_22 (fun H locs hP hS => ?_)
        obtain ⟨g10, eg10⟩ : ∃ y9 : ht_G, y9 = ht_up (ht_it (ht_s1 k) z ga) 1 z (ht_st (ht_it (ht_s1 k) z ga) k z) := ⟨_, rfl⟩
        rw [← eg10] at hP
        refine lv_iinc (v := nI (z + 1)) (lv' := [(1, .int (nI (z + 1))), (0, .ref (q 0))]) hx hb dH_findStates_23 hl (k := 1) rfl (nI_1 _) (by decide) rfl (fun ls hl => ?_)
        refine lv_goto (tgt := 6) hx hb dH_findStates_26 (by decide) ?_
        have hG : g10 = ht_it (ht_s1 k) (z + 1) ga := by subst eg10; rfl
        rw [hG] at hP
        exact ih ga (z + 1) (by omega) hga hna h3 h4 (by omega) _ _ hP hS ls (lv_sub hl [1, 0] rfl)
  refine lv_aload_n hx hb dH_findStates_0 rfl (lv_at hl 0 rfl) ?_
  refine va_callv (va_runV (As := []) (rest := []) ⟨hx, hb, hml, hown, hts⟩ (xH_locateTrains l D cA q hJ _ g k hk hn) (cwV 0 hts (ht_gV w230 w232 s9 w1 w233) rfl rfl rfl (by decide +kernel) ⟨Nat.le_of_ble_eq_true rfl, Nat.le_of_ble_eq_true rfl⟩) ⟨ht_bls, va_recv hK hP (ci := 1) (q0 := 0) rfl ht_atO, fun U hU hW => ⟨rfl, by rw [hU], ht_Im hP hK hN hU hW⟩⟩ rfl rfl hl.1 rfl (lv_room (Nat.le_of_ble_eq_true rfl)) dH_findStates_1 ⟨Nat.zero_le _, Nat.zero_le _⟩) hS mw_AA (mw_AF hS.1) (fun u11 t11 H locs ht11 hvm11 hw11 hB11 hz11 hk11 hS => ?_)
  have hP := hB11.1
  rw [ht11] at hP
  obtain ⟨g12, eg12⟩ : ∃ y9 : ht_G, y9 = ht_it (ht_ls k) 12 g := ⟨_, rfl⟩
  rw [← eg12] at hP
  refine lv_iconst (v := 0) hx hb dH_findStates_4 (by decide) ?_
  refine lv_istore_n (lv' := [(1, .int 0), (0, .ref (q 0))]) hx hb dH_findStates_5 rfl hl (by decide) rfl (fun ls hl => ?_)
  exact K6 13 g12 0 (by omega) eg12 (by rw [eg12]; exact (ht_it_keep (fun _ a => ht_ls_o (by decide) (by decide) (by decide) a) _ _).trans hn) (by rw [eg12]; exact ht_loc3 hk hA 12) (by rw [eg12]; exact ht_loc4a hA) (by omega) _ _ hP hS ls (lv_sub hl [1, 0] rfl)
