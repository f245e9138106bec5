set_option maxHeartbeats 4000000 in
set_option maxRecDepth 100000 in
theorem xM_findStates (l : Launch) (D : va_G) (cB : ClassId × ClassId) (q : Nat → Nat) (hJ : mw_J 17 q) (sz : Nat) (g : ht_G) (k : Nat) (hk : k ≤ 8) (hn : g 0 1 = nI k) (hA : ht_al g 16) : Met l yM_findStates kM_findStates ({ frames := 4, cells := 0, slots := 0, locals := 89 }) (va_Pc [.ref (q 0)] (fun U => U.heap.size = sz ∧ rf_I D cB q g U)) (va_Qv (fun _ : Unit => True) (fun _ t => rf_I D cB q (rf_find k g) t) (mw_A 17 q sz)) 0 0 (mw_A 17 q sz) := by
  refine Met.ofW (cc := cM_findStates) (maxL := 4) (ret := none) (by decide) rfl ?_
  intro p e s m args below meth c s₁ B hml hv
  obtain ⟨rfl, hsz, hP, hK, hN⟩ := hv
  have hx := B.exec
  have hb := B.bytes
  have hr := B.returns
  have hts := fun w h => atoms_spec (ws := kM_findStates) B.pre w (List.mem_cons_of_mem _ h)
  have hown : s.vm.findClass RM = some m.cls := findClass_of_methodNamed B.named
  have hlocks := B.notSynchronized
  subst hsz
  have hS : va_S (mw_A 17 q s.heap.size) s.heap s.heap [] := va_S.rf
  have hl := lv_entry ([.ref (q 0)]) (n := 4) (Nat.le_of_ble_eq_true rfl)
  rw [lg_entry_eq]
  generalize (lg_sl ([.ref (q 0)]) ++ List.replicate (4 - (lg_sl ([.ref (q 0)])).length) Slot.unset).toArray = ls at hl ⊢
  have hl : lv_has ls 4 [(0, .ref (q 0))] := hl
  have K93 : ∀ (n9 : Nat), ∀ (z : Nat) (g0 : ht_G) (j : Nat), (k + 1 ≤ j + n9) → (z < 12) → (g0 0 1 = nI k) → (∀ (H : Heap) (locs : List Loc), va_P D ht_cl (rf_w cB q (ht_it (rf_f3 z) k g0)) H → va_S (mw_A 17 q s.heap.size) s.heap H locs → ∀ (ls : Array Slot), lv_has ls 4 [(0, .ref (q 0)), (1, .int (nI z))] → W p l e (headSpec kM_findStates ({ frames := 4, cells := 0, slots := 0, locals := 89 })).room s m [.ref (q 0)].toArray below meth c H locs 0 0 (MQ below (va_Qv (fun _ : Unit => True) (fun _ t => rf_I D cB q (rf_find k g) t) (mw_A 17 q s.heap.size)) [.ref (q 0)].toArray s 0 0 (mw_A 17 q s.heap.size)) (F0 m 140 ls [])) → (j ≤ k) → ∀ (H : Heap) (locs : List Loc), va_P D ht_cl (rf_w cB q (ht_it (rf_f3 z) j g0)) H → va_S (mw_A 17 q s.heap.size) s.heap H locs → ∀ (ls : Array Slot), lv_has ls 4 [(0, .ref (q 0)), (1, .int (nI z)), (3, .int (nI j))] → W p l e (headSpec kM_findStates ({ frames := 4, cells := 0, slots := 0, locals := 89 })).room s m [.ref (q 0)].toArray below meth c H locs 0 0 (MQ below (va_Qv (fun _ : Unit => True) (fun _ t => rf_I D cB q (rf_find k g) t) (mw_A 17 q s.heap.size)) [.ref (q 0)].toArray s 0 0 (mw_A 17 q s.heap.size)) (F0 m 93 ls []) := by
    intro n9
    induction n9 with
    | zero =>
      intro z g0 j hn9 hz hn0 hc hjk H locs hP hS ls hl
      exact absurd hn9 (by omega)
    | succ n9 ih =>
      intro z g0 j hn9 hz hn0 hc hjk H locs hP hS ls hl
      have hnj : (ht_it (rf_f3 z) j g0) 0 1 = nI k := (ht_it_keep (fun _ a => rf_f3_o (by decide) a) _ _).trans hn0
      refine lv_iload_n hx hb dM_findStates_93 rfl (lv_at hl 2 rfl) ?_
      refine lv_aload_n hx hb dM_findStates_94 rfl (lv_at hl 0 rfl) ?_
      refine va_get (D := D) (ci := 2) (C := RM) (T := TM) (N := 19) (v := .int ((ht_it (rf_f3 z) j g0) 0 1)) hx hb hts inM hown hK hP 0 rf_at0 rfl 14 (by decide) (hts _ w458) (fun _ h9 => h9) rfl dM_findStates_95 ?_
      refine lv_icmp_ge (tgt := 140) hx hb dM_findStates_98 (by decide) (fun c1 => ?_) (fun c1 => ?_)
      · rw [hnj] at c1
        have e9 : j = k := ht_end hk hjk c1
        rw [e9] at hP
        exact hc _ _ hP hS ls (lv_sub hl [0, 1] rfl)
      · rw [hnj] at c1
        have hjl : j < k := ht_lt hk hjk c1
        have hj8 : j < 8 := Nat.lt_of_lt_of_le hjl hk
        refine lv_aload_n hx hb dM_findStates_101 rfl (lv_at hl 0 rfl) ?_
        refine va_get (D := D) (ci := 2) (C := RM) (T := TM) (N := 19) (v := .ref (q 1)) hx hb hts inM hown hK hP 0 rf_at0 rfl 1 (by decide) (hts _ w445) (fun _ h9 => h9) rfl dM_findStates_102 ?_
        refine lv_iload_n hx hb dM_findStates_105 rfl (lv_at hl 2 rfl) ?_
        refine rf_ldZ hx hb hK hP 1 (j := j) (by decide) (by decide) rfl hj8 rfl dM_findStates_106 ?_
        refine lv_if_eq (tgt := 134) hx hb dM_findStates_107 (by decide) (fun c2 => ?_) (fun c2 => ?_)
        · refine lv_iinc (v := nI (j + 1)) (lv' := [(3, .int (nI (j + 1))), (0, .ref (q 0)), (1, .int (nI z))]) hx hb dM_findStates_134 hl (k := 2) rfl (nI_1 _) (by decide) rfl (fun ls hl => ?_)
          refine lv_goto (tgt := 93) hx hb dM_findStates_137 (by decide) ?_
          have hG : ht_it (rf_f3 z) j g0 = ht_it (rf_f3 z) (j + 1) g0 := by simp [ht_it, rf_f3, c1, c2]
          rw [hG] at hP
          exact ih z g0 (j + 1) (by omega) hz hn0 hc (by omega) _ _ hP hS ls (lv_sub hl [1, 2, 0] rfl)
        · refine lv_aload_n hx hb dM_findStates_110 rfl (lv_at hl 0 rfl) ?_
          refine lv_iload_n hx hb dM_findStates_111 rfl (lv_at hl 2 rfl) ?_
          refine vp_callSi (va_Run.run (va_runV (As := [.int (nI j)]) (rest := []) ⟨hx, hb, hml, hown, hts⟩ (xM_mute l D cB q (ht_it (rf_f3 z) j g0) j hj8 ) (cwV 1 hts (ht_gV w558 w560 s43 w3 w561) rfl rfl rfl (by decide +kernel) ⟨Nat.le_of_ble_eq_true rfl, Nat.le_of_ble_eq_true rfl⟩) ⟨rf_bl, va_recv hK hP (ci := 2) (q0 := 0) rfl rf_at0, fun U hU hW => ⟨rfl, rf_Im hP hK hN hU hW⟩⟩ rfl rfl hl.1 rfl (lv_room (Nat.le_of_ble_eq_true rfl)) dM_findStates_112 ⟨Nat.zero_le _, Nat.zero_le _⟩)) (fun r3 hr3 => ?_)
          subst hr3
          refine lv_if_eq (tgt := 134) hx hb dM_findStates_115 (by decide) (fun c4 => ?_) (fun c4 => ?_)
          · replace c4 := ht_b0.mp c4
            refine lv_iinc (v := nI (j + 1)) (lv' := [(3, .int (nI (j + 1))), (0, .ref (q 0)), (1, .int (nI z))]) hx hb dM_findStates_134 hl (k := 2) rfl (nI_1 _) (by decide) rfl (fun ls hl => ?_)
            refine lv_goto (tgt := 93) hx hb dM_findStates_137 (by decide) ?_
            have hG : ht_it (rf_f3 z) j g0 = ht_it (rf_f3 z) (j + 1) g0 := by simp [ht_it, rf_f3, c1, c2, c4]
            rw [hG] at hP
            exact ih z g0 (j + 1) (by omega) hz hn0 hc (by omega) _ _ hP hS ls (lv_sub hl [1, 2, 0] rfl)
          · replace c4 := ht_b1.mp c4
            refine lv_aload_n hx hb dM_findStates_118 rfl (lv_at hl 0 rfl) ?_
            refine lv_iload_n hx hb dM_findStates_119 rfl (lv_at hl 2 rfl) ?_
            refine lv_iload_n hx hb dM_findStates_120 rfl (lv_at hl 1 rfl) ?_
            refine vp_callSi (va_Run.run (va_runV (As := [.int (nI j), .int (nI z)]) (rest := []) ⟨hx, hb, hml, hown, hts⟩ (xM_claims l D cB q (ht_it (rf_f3 z) j g0) j hj8 (nI z)) (cwV 2 hts (ht_gV w530 w532 s36 w3 w533) rfl rfl rfl (by decide +kernel) ⟨Nat.le_of_ble_eq_true rfl, Nat.le_of_ble_eq_true rfl⟩) ⟨rf_bl, va_recv hK hP (ci := 2) (q0 := 0) rfl rf_at0, fun U hU hW => ⟨rfl, rf_Im hP hK hN hU hW⟩⟩ rfl rfl hl.1 rfl (lv_room (Nat.le_of_ble_eq_true rfl)) dM_findStates_121 ⟨Nat.zero_le _, Nat.zero_le _⟩)) (fun r5 hr5 => ?_)
            subst hr5
            refine lv_if_eq (tgt := 134) hx hb dM_findStates_124 (by decide) (fun c6 => ?_) (fun c6 => ?_)
            · replace c6 := ht_b0.mp c6
              refine lv_iinc (v := nI (j + 1)) (lv' := [(3, .int (nI (j + 1))), (0, .ref (q 0)), (1, .int (nI z))]) hx hb dM_findStates_134 hl (k := 2) rfl (nI_1 _) (by decide) rfl (fun ls hl => ?_)
              refine lv_goto (tgt := 93) hx hb dM_findStates_137 (by decide) ?_
              have hG : ht_it (rf_f3 z) j g0 = ht_it (rf_f3 z) (j + 1) g0 := by simp [ht_it, rf_f3, c1, c2, c4, c6]
              rw [hG] at hP
              exact ih z g0 (j + 1) (by omega) hz hn0 hc (by omega) _ _ hP hS ls (lv_sub hl [1, 2, 0] rfl)
            · replace c6 := ht_b1.mp c6
              refine lv_aload_n hx hb dM_findStates_127 rfl (lv_at hl 0 rfl) ?_
              refine va_get (D := D) (ci := 2) (C := RM) (T := TM) (N := 19) (v := .ref (q 14)) hx hb hts inM hown hK hP 0 rf_at0 rfl 15 (by decide) (hts _ w459) (fun _ h9 => h9) rfl dM_findStates_128 ?_
              refine lv_iload_n hx hb dM_findStates_131 rfl (lv_at hl 1 rfl) ?_
              refine lv_iconst (v := 3) hx hb dM_findStates_132 (by decide) ?_
              refine rf_stI hx hb hK hP (mw_DA hJ) hS 14 (j := z) (by decide) (by decide) rfl hz rfl dM_findStates_133 (fun H locs hP hS => ?_)
              obtain ⟨g7, eg7⟩ : ∃ y9 : ht_G, y9 = ht_up (ht_it (rf_f3 z) j g0) 14 z 3 := ⟨_, rfl⟩
              rw [← eg7] at hP
              refine lv_iinc (v := nI (j + 1)) (lv' := [(3, .int (nI (j + 1))), (0, .ref (q 0)), (1, .int (nI z))]) hx hb dM_findStates_134 hl (k := 2) rfl (nI_1 _) (by decide) rfl (fun ls hl => ?_)
              refine lv_goto (tgt := 93) hx hb dM_findStates_137 (by decide) ?_
              have hG : g7 = ht_it (rf_f3 z) (j + 1) g0 := by subst eg7; simp [ht_it, rf_f3, c1, c2, c4, c6]
              rw [hG] at hP
              exact ih z g0 (j + 1) (by omega) hz hn0 hc (by omega) _ _ hP hS ls (lv_sub hl [1, 2, 0] rfl)
  have K27 : ∀ (n9 : Nat), ∀ (gb : ht_G) (z : Nat), (13 ≤ z + n9) → (gb = ht_it (rf_f1 k) 12 g) → (gb 0 1 = nI k) → (z ≤ 12) → ∀ (H : Heap) (locs : List Loc), va_P D ht_cl (rf_w cB q (ht_it (rf_f2 k) z gb)) H → va_S (mw_A 17 q s.heap.size) s.heap H locs → ∀ (ls : Array Slot), lv_has ls 4 [(0, .ref (q 0)), (1, .int (nI z))] → W p l e (headSpec kM_findStates ({ frames := 4, cells := 0, slots := 0, locals := 89 })).room s m [.ref (q 0)].toArray below meth c H locs 0 0 (MQ below (va_Qv (fun _ : Unit => True) (fun _ t => rf_I D cB q (rf_find k g) t) (mw_A 17 q s.heap.size)) [.ref (q 0)].toArray s 0 0 (mw_A 17 q s.heap.size)) (F0 m 27 ls []) := by
    intro n9
    induction n9 with
    | zero =>
      intro gb z hn9 hgb hnb hjk H locs hP hS ls hl
      exact absurd hn9 (by omega)
    | succ n9 ih =>
      intro gb z hn9 hgb hnb hjk H locs hP hS ls hl
      have hnz : (ht_it (rf_f2 k) z gb) 0 1 = nI k := (ht_it_keep (fun _ a => rf_f2_o (by decide) (by decide) a) _ _).trans hnb
      refine lv_iload_n hx hb dM_findStates_27 rfl (lv_at hl 1 rfl) ?_
      refine lv_bipush (v := 12) hx hb dM_findStates_28 (by decide) ?_
      refine lv_icmp_ge (tgt := 146) hx hb dM_findStates_30 (by decide) (fun c8 => ?_) (fun c8 => ?_)
      · have e9 : z = 12 := ht_end12 hjk c8
        have hG : ht_it (rf_f2 k) z gb = rf_find k g := by rw [e9, hgb]; rfl
        rw [hG] at hP
        exact W.vret hx hb hr (fun t ht hW => ⟨⟨(), rfl, trivial, rf_Im hP hK hN ht hW⟩, hS.F ht⟩) hS.2.2 dM_findStates_146
      · have hjl : z < 12 := ht_lt12 hjk c8
        refine lv_aload_n hx hb dM_findStates_33 rfl (lv_at hl 0 rfl) ?_
        refine va_get (D := D) (ci := 2) (C := RM) (T := TM) (N := 19) (v := .ref (q 14)) hx hb hts inM hown hK hP 0 rf_at0 rfl 15 (by decide) (hts _ w459) (fun _ h9 => h9) rfl dM_findStates_34 ?_
        refine lv_iload_n hx hb dM_findStates_37 rfl (lv_at hl 1 rfl) ?_
        refine lv_aload_n hx hb dM_findStates_38 rfl (lv_at hl 0 rfl) ?_
        refine va_get (D := D) (ci := 2) (C := RM) (T := TM) (N := 19) (v := .ref (q 15)) hx hb hts inM hown hK hP 0 rf_at0 rfl 16 (by decide) (hts _ w460) (fun _ h9 => h9) rfl dM_findStates_39 ?_
        refine lv_iload_n hx hb dM_findStates_42 rfl (lv_at hl 1 rfl) ?_
        refine rf_ldI hx hb hK hP 15 (j := z) (by decide) (by decide) rfl hjl rfl dM_findStates_43 ?_
        refine rf_stI hx hb hK hP (mw_DA hJ) hS 14 (j := z) (by decide) (by decide) rfl hjl rfl dM_findStates_44 (fun H locs hP hS => ?_)
        obtain ⟨g9, eg9⟩ : ∃ y9 : ht_G, y9 = ht_up (ht_it (rf_f2 k) z gb) 14 z ((ht_it (rf_f2 k) z gb) 15 z) := ⟨_, rfl⟩
        rw [← eg9] at hP
        refine lv_aload_n hx hb dM_findStates_45 rfl (lv_at hl 0 rfl) ?_
        refine lv_iload_n hx hb dM_findStates_46 rfl (lv_at hl 1 rfl) ?_
        refine vp_callSi (va_Run.run (va_runV (As := [.int (nI z)]) (rest := []) ⟨hx, hb, hml, hown, hts⟩ (xM_many l D cB q g9 k hk (by subst eg9; simp [ht_up, hnz]) (nI z)) (cwV 1 hts (ht_gV w550 w552 s41 w3 w553) rfl rfl rfl (by decide +kernel) ⟨Nat.le_of_ble_eq_true rfl, Nat.le_of_ble_eq_true rfl⟩) ⟨rf_bl, va_recv hK hP (ci := 2) (q0 := 0) rfl rf_at0, fun U hU hW => ⟨rfl, rf_Im hP hK hN hU hW⟩⟩ rfl rfl hl.1 rfl (lv_room (Nat.le_of_ble_eq_true rfl)) dM_findStates_47 ⟨Nat.zero_le _, Nat.zero_le _⟩)) (fun r10 hr10 => ?_)
        subst hr10
        refine lv_istore_n (lv' := [(2, .int (rf_many g9 k (nI z))), (0, .ref (q 0)), (1, .int (nI z))]) hx hb dM_findStates_50 rfl hl (by decide) rfl (fun ls hl => ?_)
        refine lv_aload_n hx hb dM_findStates_51 rfl (lv_at hl 1 rfl) ?_
        refine va_get (D := D) (ci := 2) (C := RM) (T := TM) (N := 19) (v := .ref (q 16)) hx hb hts inM hown hK hP 0 rf_at0 rfl 17 (by decide) (hts _ w461) (fun _ h9 => h9) rfl dM_findStates_52 ?_
        refine lv_iload_n hx hb dM_findStates_55 rfl (lv_at hl 2 rfl) ?_
        refine lv_iload_n hx hb dM_findStates_56 rfl (lv_at hl 0 rfl) ?_
        refine lv_if_ge (tgt := 67) hx hb dM_findStates_57 (by decide) (fun c11 => ?_) (fun c11 => ?_)
        · refine lv_iconst (v := (-1)) hx hb dM_findStates_67 (by decide) ?_
          refine rf_stI hx hb hK hP (mw_DA hJ) hS 16 (j := z) (by decide) (by decide) rfl hjl rfl dM_findStates_68 (fun H locs hP hS => ?_)
          obtain ⟨g12, eg12⟩ : ∃ y9 : ht_G, y9 = ht_up g9 16 z (-1 : Int32) := ⟨_, rfl⟩
          rw [← eg12] at hP
          refine lv_aload_n hx hb dM_findStates_69 rfl (lv_at hl 1 rfl) ?_
          refine va_get (D := D) (ci := 2) (C := RM) (T := TM) (N := 19) (v := .ref (q 15)) hx hb hts inM hown hK hP 0 rf_at0 rfl 16 (by decide) (hts _ w460) (fun _ h9 => h9) rfl dM_findStates_70 ?_
          refine lv_iload_n hx hb dM_findStates_73 rfl (lv_at hl 2 rfl) ?_
          refine rf_ldI hx hb hK hP 15 (j := z) (by decide) (by decide) rfl hjl rfl dM_findStates_74 ?_
          refine lv_if_ne (tgt := 140) hx hb dM_findStates_75 (by decide) (fun c13 => ?_) (fun c13 => ?_)
          · refine lv_iinc (v := nI (z + 1)) (lv' := [(1, .int (nI (z + 1))), (2, .int (rf_many g9 k (nI z))), (0, .ref (q 0))]) hx hb dM_findStates_140 hl (k := 2) rfl (nI_1 _) (by decide) rfl (fun ls hl => ?_)
            refine lv_goto (tgt := 27) hx hb dM_findStates_143 (by decide) ?_
            have hG : g12 = ht_it (rf_f2 k) (z + 1) gb := by subst eg12 eg9; simp [ht_it, rf_f2, rf_f2a, c8, c11, c13]
            rw [hG] at hP
            exact ih gb (z + 1) (by omega) hgb hnb (by omega) _ _ hP hS ls (lv_sub hl [2, 0] rfl)
          · refine lv_aload_n hx hb dM_findStates_78 rfl (lv_at hl 1 rfl) ?_
            refine lv_iload_n hx hb dM_findStates_79 rfl (lv_at hl 2 rfl) ?_
            refine lv_iconst (v := 3) hx hb dM_findStates_80 (by decide) ?_
            refine lv_idiv hx hb dM_findStates_81 (by decide) ?_
            refine vp_callSi (va_Run.run (va_runV (As := [.int ((nI z) / 3)]) (rest := []) ⟨hx, hb, hml, hown, hts⟩ (xM_occupied l D cB q g12 k hk (by subst eg12 eg9; simp [ht_up, hnz]) (nI z / 3)) (cwV 1 hts (ht_gV w546 w548 s40 w3 w549) rfl rfl rfl (by decide +kernel) ⟨Nat.le_of_ble_eq_true rfl, Nat.le_of_ble_eq_true rfl⟩) ⟨rf_bl, va_recv hK hP (ci := 2) (q0 := 0) rfl rf_at0, fun U hU hW => ⟨rfl, rf_Im hP hK hN hU hW⟩⟩ rfl rfl hl.1 rfl (lv_room (Nat.le_of_ble_eq_true rfl)) dM_findStates_82 ⟨Nat.zero_le _, Nat.zero_le _⟩)) (fun r14 hr14 => ?_)
            subst hr14
            refine lv_if_ne (tgt := 91) hx hb dM_findStates_85 (by decide) (fun c15 => ?_) (fun c15 => ?_)
            · replace c15 := ht_b1.mp c15
              refine lv_iconst (v := 0) hx hb dM_findStates_91 (by decide) ?_
              refine lv_istore_n (lv' := [(3, .int 0), (2, .int (rf_many g9 k (nI z))), (0, .ref (q 0)), (1, .int (nI z))]) hx hb dM_findStates_92 rfl hl (by decide) rfl (fun ls hl => ?_)
              refine K93 (k + 1) z g12 0 (by omega) hjl (by subst eg12 eg9; simp [ht_up, hnz]) (fun H locs hP hS ls hl => ?_) (by omega) _ _ hP hS ls (lv_sub hl [2, 3, 0] rfl)
              refine lv_iinc (v := nI (z + 1)) (lv' := [(1, .int (nI (z + 1))), (0, .ref (q 0))]) hx hb dM_findStates_140 hl (k := 1) rfl (nI_1 _) (by decide) rfl (fun ls hl => ?_)
              refine lv_goto (tgt := 27) hx hb dM_findStates_143 (by decide) ?_
              have hG : ht_it (rf_f3 z) k g12 = ht_it (rf_f2 k) (z + 1) gb := by subst eg12 eg9; simp [ht_it, rf_f2, rf_f2a, c8, c11, c13, c15]
              rw [hG] at hP
              exact ih gb (z + 1) (by omega) hgb hnb (by omega) _ _ hP hS ls (lv_sub hl [1, 0] rfl)
            · replace c15 := ht_b0.mp c15
              refine lv_goto (tgt := 140) hx hb dM_findStates_88 (by decide) ?_
              refine lv_iinc (v := nI (z + 1)) (lv' := [(1, .int (nI (z + 1))), (2, .int (rf_many g9 k (nI z))), (0, .ref (q 0))]) hx hb dM_findStates_140 hl (k := 2) rfl (nI_1 _) (by decide) rfl (fun ls hl => ?_)
              refine lv_goto (tgt := 27) hx hb dM_findStates_143 (by decide) ?_
              have hG : g12 = ht_it (rf_f2 k) (z + 1) gb := by subst eg12 eg9; simp [ht_it, rf_f2, rf_f2a, c8, c11, c13, c15]
              rw [hG] at hP
              exact ih gb (z + 1) (by omega) hgb hnb (by omega) _ _ hP hS ls (lv_sub hl [2, 0] rfl)
        · refine lv_iload_n hx hb dM_findStates_60 rfl (lv_at hl 0 rfl) ?_
          refine lv_bipush (v := 100) hx hb dM_findStates_61 (by decide) ?_
          refine lv_iadd hx hb dM_findStates_63 ?_
          refine lv_goto (tgt := 68) hx hb dM_findStates_64 (by decide) ?_
          refine rf_stI hx hb hK hP (mw_DA hJ) hS 16 (j := z) (by decide) (by decide) rfl hjl rfl dM_findStates_68 (fun H locs hP hS => ?_)
          obtain ⟨g16, eg16⟩ : ∃ y9 : ht_G, y9 = ht_up g9 16 z ((rf_many g9 k (nI z)) + 100) := ⟨_, rfl⟩
          rw [← eg16] at hP
          refine lv_aload_n hx hb dM_findStates_69 rfl (lv_at hl 1 rfl) ?_
          refine va_get (D := D) (ci := 2) (C := RM) (T := TM) (N := 19) (v := .ref (q 15)) hx hb hts inM hown hK hP 0 rf_at0 rfl 16 (by decide) (hts _ w460) (fun _ h9 => h9) rfl dM_findStates_70 ?_
          refine lv_iload_n hx hb dM_findStates_73 rfl (lv_at hl 2 rfl) ?_
          refine rf_ldI hx hb hK hP 15 (j := z) (by decide) (by decide) rfl hjl rfl dM_findStates_74 ?_
          refine lv_if_ne (tgt := 140) hx hb dM_findStates_75 (by decide) (fun c17 => ?_) (fun c17 => ?_)
          · refine lv_iinc (v := nI (z + 1)) (lv' := [(1, .int (nI (z + 1))), (2, .int (rf_many g9 k (nI z))), (0, .ref (q 0))]) hx hb dM_findStates_140 hl (k := 2) rfl (nI_1 _) (by decide) rfl (fun ls hl => ?_)
            refine lv_goto (tgt := 27) hx hb dM_findStates_143 (by decide) ?_
            have hG : g16 = ht_it (rf_f2 k) (z + 1) gb := by subst eg16 eg9; simp [ht_it, rf_f2, rf_f2a, c8, c11, c17]
            rw [hG] at hP
            exact ih gb (z + 1) (by omega) hgb hnb (by omega) _ _ hP hS ls (lv_sub hl [2, 0] rfl)
          · refine lv_aload_n hx hb dM_findStates_78 rfl (lv_at hl 1 rfl) ?_
            refine lv_iload_n hx hb dM_findStates_79 rfl (lv_at hl 2 rfl) ?_
            refine lv_iconst (v := 3) hx hb dM_findStates_80 (by decide) ?_
            refine lv_idiv hx hb dM_findStates_81 (by decide) ?_
            refine vp_callSi (va_Run.run (va_runV (As := [.int ((nI z) / 3)]) (rest := []) ⟨hx, hb, hml, hown, hts⟩ (xM_occupied l D cB q g16 k hk (by subst eg16 eg9; simp [ht_up, hnz]) (nI z / 3)) (cwV 1 hts (ht_gV w546 w548 s40 w3 w549) rfl rfl rfl (by decide +kernel) ⟨Nat.le_of_ble_eq_true rfl, Nat.le_of_ble_eq_true rfl⟩) ⟨rf_bl, va_recv hK hP (ci := 2) (q0 := 0) rfl rf_at0, fun U hU hW => ⟨rfl, rf_Im hP hK hN hU hW⟩⟩ rfl rfl hl.1 rfl (lv_room (Nat.le_of_ble_eq_true rfl)) dM_findStates_82 ⟨Nat.zero_le _, Nat.zero_le _⟩)) (fun r18 hr18 => ?_)
            subst hr18
            refine lv_if_ne (tgt := 91) hx hb dM_findStates_85 (by decide) (fun c19 => ?_) (fun c19 => ?_)
            · replace c19 := ht_b1.mp c19
              refine lv_iconst (v := 0) hx hb dM_findStates_91 (by decide) ?_
              refine lv_istore_n (lv' := [(3, .int 0), (2, .int (rf_many g9 k (nI z))), (0, .ref (q 0)), (1, .int (nI z))]) hx hb dM_findStates_92 rfl hl (by decide) rfl (fun ls hl => ?_)
              refine K93 (k + 1) z g16 0 (by omega) hjl (by subst eg16 eg9; simp [ht_up, hnz]) (fun H locs hP hS ls hl => ?_) (by omega) _ _ hP hS ls (lv_sub hl [2, 3, 0] rfl)
              refine lv_iinc (v := nI (z + 1)) (lv' := [(1, .int (nI (z + 1))), (0, .ref (q 0))]) hx hb dM_findStates_140 hl (k := 1) rfl (nI_1 _) (by decide) rfl (fun ls hl => ?_)
              refine lv_goto (tgt := 27) hx hb dM_findStates_143 (by decide) ?_
              have hG : ht_it (rf_f3 z) k g16 = ht_it (rf_f2 k) (z + 1) gb := by subst eg16 eg9; simp [ht_it, rf_f2, rf_f2a, c8, c11, c17, c19]
              rw [hG] at hP
              exact ih gb (z + 1) (by omega) hgb hnb (by omega) _ _ hP hS ls (lv_sub hl [1, 0] rfl)
            · replace c19 := ht_b0.mp c19
              refine lv_goto (tgt := 140) hx hb dM_findStates_88 (by decide) ?_
              refine lv_iinc (v := nI (z + 1)) (lv' := [(1, .int (nI (z + 1))), (2, .int (rf_many g9 k (nI z))), (0, .ref (q 0))]) hx hb dM_findStates_140 hl (k := 2) rfl (nI_1 _) (by decide) rfl (fun ls hl => ?_)
              refine lv_goto (tgt := 27) hx hb dM_findStates_143 (by decide) ?_
              have hG : g16 = ht_it (rf_f2 k) (z + 1) gb := by subst eg16 eg9; simp [ht_it, rf_f2, rf_f2a, c8, c11, c17, c19]
              rw [hG] at hP
              exact ih gb (z + 1) (by omega) hgb hnb (by omega) _ _ hP hS ls (lv_sub hl [2, 0] rfl)
  have K2 : ∀ (n9 : Nat), ∀ (z : Nat), (13 ≤ z + n9) → (z ≤ 12) → ∀ (H : Heap) (locs : List Loc), va_P D ht_cl (rf_w cB q (ht_it (rf_f1 k) z g)) H → va_S (mw_A 17 q s.heap.size) s.heap H locs → ∀ (ls : Array Slot), lv_has ls 4 [(0, .ref (q 0)), (1, .int (nI z))] → W p l e (headSpec kM_findStates ({ frames := 4, cells := 0, slots := 0, locals := 89 })).room s m [.ref (q 0)].toArray below meth c H locs 0 0 (MQ below (va_Qv (fun _ : Unit => True) (fun _ t => rf_I D cB q (rf_find k g) t) (mw_A 17 q s.heap.size)) [.ref (q 0)].toArray s 0 0 (mw_A 17 q s.heap.size)) (F0 m 2 ls []) := by
    intro n9
    induction n9 with
    | zero =>
      intro z hn9 hjk H locs hP hS ls hl
      exact absurd hn9 (by omega)
    | succ n9 ih =>
      intro z hn9 hjk H locs hP hS ls hl
      have hnz : (ht_it (rf_f1 k) z g) 0 1 = nI k := (ht_it_keep (fun _ a => rf_f1_o (by decide) a) _ _).trans hn
      have haz : ht_al (ht_it (rf_f1 k) z g) 16 := ht_al_of hA (fun y _ => ht_it_keep (fun _ a => rf_f1_o (by decide) a) _ _)
      refine lv_iload_n hx hb dM_findStates_2 rfl (lv_at hl 1 rfl) ?_
      refine lv_bipush (v := 12) hx hb dM_findStates_3 (by decide) ?_
      refine lv_icmp_ge (tgt := 25) hx hb dM_findStates_5 (by decide) (fun c20 => ?_) (fun c20 => ?_)
      · have e9 : z = 12 := ht_end12 hjk c20
        refine lv_iconst (v := 0) hx hb dM_findStates_25 (by decide) ?_
        refine lv_istore_n (lv' := [(1, .int 0), (0, .ref (q 0))]) hx hb dM_findStates_26 rfl hl (by decide) rfl (fun ls hl => ?_)
        rw [e9] at hP hnz
        exact K27 13 (ht_it (rf_f1 k) 12 g) 0 (by omega) rfl hnz (by omega) _ _ hP hS ls (lv_sub hl [1, 0] rfl)
      · have hjl : z < 12 := ht_lt12 hjk c20
        refine lv_aload_n hx hb dM_findStates_8 rfl (lv_at hl 0 rfl) ?_
        refine va_get (D := D) (ci := 2) (C := RM) (T := TM) (N := 19) (v := .ref (q 15)) hx hb hts inM hown hK hP 0 rf_at0 rfl 16 (by decide) (hts _ w460) (fun _ h9 => h9) rfl dM_findStates_9 ?_
        refine lv_iload_n hx hb dM_findStates_12 rfl (lv_at hl 1 rfl) ?_
        refine lv_aload_n hx hb dM_findStates_13 rfl (lv_at hl 0 rfl) ?_
        refine lv_iload_n hx hb dM_findStates_14 rfl (lv_at hl 1 rfl) ?_
        refine vp_callSi (va_Run.run (va_runV (As := [.int (nI z)]) (rest := [.int (nI z), .ref (q 15)]) ⟨hx, hb, hml, hown, hts⟩ (xM_found l D cB q (ht_it (rf_f1 k) z g) k hk hnz haz z hjl) (cwV 1 hts (ht_gV w542 w544 s39 w3 w545) rfl rfl rfl (by decide +kernel) ⟨Nat.le_of_ble_eq_true rfl, Nat.le_of_ble_eq_true rfl⟩) ⟨rf_bl, va_recv hK hP (ci := 2) (q0 := 0) rfl rf_at0, fun U hU hW => ⟨rfl, rf_Im hP hK hN hU hW⟩⟩ rfl rfl hl.1 rfl (lv_room (Nat.le_of_ble_eq_true rfl)) dM_findStates_15 ⟨Nat.zero_le _, Nat.zero_le _⟩)) (fun r21 hr21 => ?_)
        subst hr21
        refine rf_stI hx hb hK hP (mw_DA hJ) hS 15 (j := z) (by decide) (by decide) rfl hjl rfl dM_findStates_18 (fun H locs hP hS => ?_)
        obtain ⟨g22, eg22⟩ : ∃ y9 : ht_G, y9 = ht_up (ht_it (rf_f1 k) z g) 15 z (rf_found (ht_it (rf_f1 k) z g) k z) := ⟨_, rfl⟩
        rw [← eg22] at hP
        refine lv_iinc (v := nI (z + 1)) (lv' := [(1, .int (nI (z + 1))), (0, .ref (q 0))]) hx hb dM_findStates_19 hl (k := 1) rfl (nI_1 _) (by decide) rfl (fun ls hl => ?_)
        refine lv_goto (tgt := 2) hx hb dM_findStates_22 (by decide) ?_
        have hG : g22 = ht_it (rf_f1 k) (z + 1) g := by subst eg22; rfl
        rw [hG] at hP
        exact ih (z + 1) (by omega) (by omega) _ _ hP hS ls (lv_sub hl [1, 0] rfl)
  refine lv_iconst (v := 0) hx hb dM_findStates_0 (by decide) ?_
  refine lv_istore_n (lv' := [(1, .int 0), (0, .ref (q 0))]) hx hb dM_findStates_1 rfl hl (by decide) rfl (fun ls hl => ?_)
  exact K2 13 0 (by omega) (by omega) _ _ hP hS ls (lv_sub hl [1, 0] rfl)
