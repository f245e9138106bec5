set_option maxHeartbeats 4000000 in
set_option maxRecDepth 100000 in
theorem xM_countStates (l : Launch) (D : va_G) (cB : ClassId × ClassId) (q : Nat → Nat) (g : ht_G) (x : Int32) : Met l yM_countStates kM_countStates ({ frames := 0, cells := 0, slots := 0, locals := 0 }) (va_Pc [.ref (q 0), .int x] (rf_I D cB q g)) (vp_Si (fun r => r = nI (rf_cs g x))) 0 0 (fun _ => False) := by
  refine Met.ofW (cc := cM_countStates) (maxL := 4) (ret := (some .int)) (by decide) rfl ?_
  intro p e s m args below meth c s₁ B hml hv
  obtain ⟨rfl, hP, hK, hN⟩ := hv
  have hx := B.exec
  have hb := B.bytes
  have hr := B.returns
  have hts := fun w h => atoms_spec (ws := kM_countStates) B.pre w (List.mem_cons_of_mem _ h)
  have hown : s.vm.findClass RM = some m.cls := findClass_of_methodNamed B.named
  have hlocks := B.notSynchronized
  have hl := lv_entry ([.ref (q 0), .int x]) (n := 4) (Nat.le_of_ble_eq_true rfl)
  rw [lg_entry_eq]
  generalize (lg_sl ([.ref (q 0), .int x]) ++ List.replicate (4 - (lg_sl ([.ref (q 0), .int x])).length) Slot.unset).toArray = ls at hl ⊢
  have hl : lv_has ls 4 [(0, .ref (q 0)), (1, .int x)] := hl
  have K4 : ∀ (n9 : Nat), ∀ (j : Nat), (13 ≤ j + n9) → (j ≤ 12) → ∀ (ls : Array Slot), lv_has ls 4 [(0, .ref (q 0)), (1, .int x), (2, .int (nI (ht_num (fun s => decide (g 14 s = x)) j))), (3, .int (nI j))] → W p l e (headSpec kM_countStates ({ frames := 0, cells := 0, slots := 0, locals := 0 })).room s m [.ref (q 0), .int x].toArray below meth c s.heap [] 0 0 (MQ below (vp_Si (fun r => r = nI (rf_cs g x))) [.ref (q 0), .int x].toArray s 0 0 (fun _ => False)) (F0 m 4 ls []) := by
    intro n9
    induction n9 with
    | zero =>
      intro j hn9 hjk ls hl
      exact absurd hn9 (by omega)
    | succ n9 ih =>
      intro j hn9 hjk ls hl
      refine lv_iload_n hx hb dM_countStates_4 rfl (lv_at hl 3 rfl) ?_
      refine lv_bipush (v := 12) hx hb dM_countStates_5 (by decide) ?_
      refine lv_icmp_ge (tgt := 29) hx hb dM_countStates_7 (by decide) (fun c1 => ?_) (fun c1 => ?_)
      · have e9 : j = 12 := ht_end12 hjk c1
        refine lv_iload_n hx hb dM_countStates_29 rfl (lv_at hl 2 rfl) ?_
        exact W.iret (v := nI (ht_num (fun s => decide (g 14 s = x)) j)) hx hb hr (fun t ht hW => ⟨nI (ht_num (fun s => decide (g 14 s = x)) j), rfl, by rw [e9, rf_cs], ht⟩) (fun _ h => nomatch h) dM_countStates_30
      · have hjl : j < 12 := ht_lt12 hjk c1
        refine lv_aload_n hx hb dM_countStates_10 rfl (lv_at hl 0 rfl) ?_
        refine va_get (D := D) (ci := 2) (C := RM) (T := TM) (N := 19) (v := .ref (q 14)) hx hb hts inM hown hK hP 0 rf_at0 rfl 15 (by decide) (hts _ w459) (fun _ h9 => h9) rfl dM_countStates_11 ?_
        refine lv_iload_n hx hb dM_countStates_14 rfl (lv_at hl 3 rfl) ?_
        refine rf_ldI hx hb hK hP 14 (j := j) (by decide) (by decide) rfl hjl rfl dM_countStates_15 ?_
        refine lv_iload_n hx hb dM_countStates_16 rfl (lv_at hl 1 rfl) ?_
        refine lv_icmp_ne (tgt := 23) hx hb dM_countStates_17 (by decide) (fun c2 => ?_) (fun c2 => ?_)
        · refine lv_iinc (v := nI (j + 1)) (lv' := [(3, .int (nI (j + 1))), (0, .ref (q 0)), (1, .int x), (2, .int (nI (ht_num (fun s => decide (g 14 s = x)) j)))]) hx hb dM_countStates_23 hl (k := 3) rfl (nI_1 _) (by decide) rfl (fun ls hl => ?_)
          refine lv_goto (tgt := 4) hx hb dM_countStates_26 (by decide) ?_
          have e8 : ht_num (fun s => decide (g 14 s = x)) (j + 1) = ht_num (fun s => decide (g 14 s = x)) j := by simp [ht_num, c2]
          rw [← e8] at hl
          exact ih (j + 1) (by omega) (by omega) ls (lv_sub hl [1, 2, 3, 0] rfl)
        · refine lv_iinc (v := nI (ht_num (fun s => decide (g 14 s = x)) j + 1)) (lv' := [(2, .int (nI (ht_num (fun s => decide (g 14 s = x)) j + 1))), (0, .ref (q 0)), (1, .int x), (3, .int (nI j))]) hx hb dM_countStates_20 hl (k := 2) rfl (nI_1 _) (by decide) rfl (fun ls hl => ?_)
          refine lv_iinc (v := nI (j + 1)) (lv' := [(3, .int (nI (j + 1))), (2, .int (nI (ht_num (fun s => decide (g 14 s = x)) j + 1))), (0, .ref (q 0)), (1, .int x)]) hx hb dM_countStates_23 hl (k := 3) rfl (nI_1 _) (by decide) rfl (fun ls hl => ?_)
          refine lv_goto (tgt := 4) hx hb dM_countStates_26 (by decide) ?_
          have e8 : ht_num (fun s => decide (g 14 s = x)) (j + 1) = ht_num (fun s => decide (g 14 s = x)) j + 1 := by simp [ht_num, c2]
          rw [← e8] at hl
          exact ih (j + 1) (by omega) (by omega) ls (lv_sub hl [2, 3, 1, 0] rfl)
  refine lv_iconst (v := 0) hx hb dM_countStates_0 (by decide) ?_
  refine lv_istore_n (lv' := [(2, .int 0), (0, .ref (q 0)), (1, .int x)]) hx hb dM_countStates_1 rfl hl (by decide) rfl (fun ls hl => ?_)
  refine lv_iconst (v := 0) hx hb dM_countStates_2 (by decide) ?_
  refine lv_istore_n (lv' := [(3, .int 0), (2, .int 0), (0, .ref (q 0)), (1, .int x)]) hx hb dM_countStates_3 rfl hl (by decide) rfl (fun ls hl => ?_)
  exact K4 13 0 (by omega) (by omega) ls (lv_sub hl [2, 3, 1, 0] rfl)
set_option maxHeartbeats 4000000 in
set_option maxRecDepth 100000 in
theorem xM_many (l : Launch) (D : va_G) (cB : ClassId × ClassId) (q : Nat → Nat) (g : ht_G) (k : Nat) (hk : k ≤ 8) (hn : g 0 1 = nI k) (x : Int32) : Met l yM_many kM_many ({ frames := 2, cells := 0, slots := 0, locals := 43 }) (va_Pc [.ref (q 0), .int x] (rf_I D cB q g)) (vp_Si (fun r => r = rf_many g k x)) 0 0 (fun _ => False) := by
  refine Met.ofW (cc := cM_many) (maxL := 5) (ret := (some .int)) (by decide) rfl ?_
  intro p e s m args below meth c s₁ B hml hv
  obtain ⟨rfl, hP, hK, hN⟩ := hv
  have hx := B.exec
  have hb := B.bytes
  have hr := B.returns
  have hts := fun w h => atoms_spec (ws := kM_many) B.pre w (List.mem_cons_of_mem _ h)
  have hown : s.vm.findClass RM = some m.cls := findClass_of_methodNamed B.named
  have hlocks := B.notSynchronized
  have hl := lv_entry ([.ref (q 0), .int x]) (n := 5) (Nat.le_of_ble_eq_true rfl)
  rw [lg_entry_eq]
  generalize (lg_sl ([.ref (q 0), .int x]) ++ List.replicate (5 - (lg_sl ([.ref (q 0), .int x])).length) Slot.unset).toArray = ls at hl ⊢
  have hl : lv_has ls 5 [(0, .ref (q 0)), (1, .int x)] := hl
  have K7 : ∀ (n9 : Nat), ∀ (j : Nat), (k + 1 ≤ j + n9) → (j ≤ k) → ∀ (ls : Array Slot), lv_has ls 5 [(0, .ref (q 0)), (1, .int x), (2, .int (nI (rf_n g x j))), (3, .int (nI (rf_one g x j))), (4, .int (nI j))] → W p l e (headSpec kM_many ({ frames := 2, cells := 0, slots := 0, locals := 43 })).room s m [.ref (q 0), .int x].toArray below meth c s.heap [] 0 0 (MQ below (vp_Si (fun r => r = rf_many g k x)) [.ref (q 0), .int x].toArray s 0 0 (fun _ => False)) (F0 m 7 ls []) := by
    intro n9
    induction n9 with
    | zero =>
      intro j hn9 hjk ls hl
      exact absurd hn9 (by omega)
    | succ n9 ih =>
      intro j hn9 hjk ls hl
      refine lv_iload hx hb dM_many_7 (lv_at hl 4 rfl) ?_
      refine lv_aload_n hx hb dM_many_9 rfl (lv_at hl 0 rfl) ?_
      refine va_get (D := D) (ci := 2) (C := RM) (T := TM) (N := 19) (v := .int (g 0 1)) hx hb hts inM hown hK hP 0 rf_at0 rfl 14 (by decide) (hts _ w458) (fun _ h9 => h9) rfl dM_many_10 ?_
      refine lv_icmp_ge (tgt := 41) hx hb dM_many_13 (by decide) (fun c1 => ?_) (fun c1 => ?_)
      · rw [hn] at c1
        have e9 : j = k := ht_end hk hjk c1
        refine lv_iload_n hx hb dM_many_41 rfl (lv_at hl 2 rfl) ?_
        refine lv_iconst (v := 1) hx hb dM_many_42 (by decide) ?_
        refine lv_icmp_ne (tgt := 53) hx hb dM_many_43 (by decide) (fun c2 => ?_) (fun c2 => ?_)
        · refine lv_iload_n hx hb dM_many_53 rfl (lv_at hl 2 rfl) ?_
          exact W.iret (v := nI (rf_n g x j)) hx hb hr (fun t ht hW => ⟨nI (rf_n g x j), rfl, by rw [e9] at c2; simp [rf_many, e9, c2], ht⟩) (fun _ h => nomatch h) dM_many_54
        · refine lv_iload_n hx hb dM_many_46 rfl (lv_at hl 3 rfl) ?_
          refine lv_bipush (v := 100) hx hb dM_many_47 (by decide) ?_
          refine lv_isub hx hb dM_many_49 ?_
          refine lv_goto (tgt := 54) hx hb dM_many_50 (by decide) ?_
          exact W.iret (v := (nI (rf_one g x j)) - 100) hx hb hr (fun t ht hW => ⟨(nI (rf_one g x j)) - 100, rfl, by rw [e9] at c2; simp [rf_many, e9, c2], ht⟩) (fun _ h => nomatch h) dM_many_54
      · rw [hn] at c1
        have hjl : j < k := ht_lt hk hjk c1
        have hj8 : j < 8 := Nat.lt_of_lt_of_le hjl hk
        refine lv_aload_n hx hb dM_many_16 rfl (lv_at hl 0 rfl) ?_
        refine lv_iload hx hb dM_many_17 (lv_at hl 4 rfl) ?_
        refine lv_iload_n hx hb dM_many_19 rfl (lv_at hl 1 rfl) ?_
        refine vp_callSi (va_Run.run (va_runV (As := [.int (nI j), .int x]) (rest := []) ⟨hx, hb, hml, hown, hts⟩ (xM_located l D cB q g j hj8 x) (cwV 2 hts (ht_gV w554 w556 s42 w3 w557) rfl rfl rfl (by decide +kernel) ⟨Nat.le_of_ble_eq_true rfl, Nat.le_of_ble_eq_true rfl⟩) ⟨rf_bl, va_recv hK hP (ci := 2) (q0 := 0) rfl rf_at0, fun U hU hW => ⟨rfl, rf_Im hP hK hN hU hW⟩⟩ rfl rfl hl.1 rfl (lv_room (Nat.le_of_ble_eq_true rfl)) dM_many_20 ⟨Nat.zero_le _, Nat.zero_le _⟩)) (fun r3 hr3 => ?_)
        subst hr3
        refine lv_if_ne (tgt := 29) hx hb dM_many_23 (by decide) (fun c4 => ?_) (fun c4 => ?_)
        · replace c4 := ht_b1.mp c4
          refine lv_iinc (v := nI (rf_n g x j + 1)) (lv' := [(2, .int (nI (rf_n g x j + 1))), (0, .ref (q 0)), (1, .int x), (3, .int (nI (rf_one g x j))), (4, .int (nI j))]) hx hb dM_many_29 hl (k := 2) rfl (nI_1 _) (by decide) rfl (fun ls hl => ?_)
          refine lv_iload hx hb dM_many_32 (lv_at hl 4 rfl) ?_
          refine lv_istore_n (lv' := [(3, .int (nI j)), (2, .int (nI (rf_n g x j + 1))), (0, .ref (q 0)), (1, .int x), (4, .int (nI j))]) hx hb dM_many_34 rfl hl (by decide) rfl (fun ls hl => ?_)
          refine lv_iinc (v := nI (j + 1)) (lv' := [(4, .int (nI (j + 1))), (3, .int (nI j)), (2, .int (nI (rf_n g x j + 1))), (0, .ref (q 0)), (1, .int x)]) hx hb dM_many_35 hl (k := 4) rfl (nI_1 _) (by decide) rfl (fun ls hl => ?_)
          refine lv_goto (tgt := 7) hx hb dM_many_38 (by decide) ?_
          have e8 : rf_n g x (j + 1) = rf_n g x j + 1 := by simp [rf_n, ht_num, c4]
          have e7 : rf_one g x (j + 1) = j := by simp [rf_one, c4]
          exact ih (j + 1) (by omega) (by omega) ls (by rw [e8, e7]; exact lv_sub hl [3, 4, 2, 1, 0] rfl)
        · replace c4 := ht_b0.mp c4
          refine lv_goto (tgt := 35) hx hb dM_many_26 (by decide) ?_
          refine lv_iinc (v := nI (j + 1)) (lv' := [(4, .int (nI (j + 1))), (0, .ref (q 0)), (1, .int x), (2, .int (nI (rf_n g x j))), (3, .int (nI (rf_one g x j)))]) hx hb dM_many_35 hl (k := 4) rfl (nI_1 _) (by decide) rfl (fun ls hl => ?_)
          refine lv_goto (tgt := 7) hx hb dM_many_38 (by decide) ?_
          have e8 : rf_n g x (j + 1) = rf_n g x j := by simp [rf_n, ht_num, c4]
          have e7 : rf_one g x (j + 1) = rf_one g x j := by simp [rf_one, c4]
          exact ih (j + 1) (by omega) (by omega) ls (by rw [e8, e7]; exact lv_sub hl [1, 2, 3, 4, 0] rfl)
  refine lv_iconst (v := 0) hx hb dM_many_0 (by decide) ?_
  refine lv_istore_n (lv' := [(2, .int 0), (0, .ref (q 0)), (1, .int x)]) hx hb dM_many_1 rfl hl (by decide) rfl (fun ls hl => ?_)
  refine lv_iconst (v := 0) hx hb dM_many_2 (by decide) ?_
  refine lv_istore_n (lv' := [(3, .int 0), (2, .int 0), (0, .ref (q 0)), (1, .int x)]) hx hb dM_many_3 rfl hl (by decide) rfl (fun ls hl => ?_)
  refine lv_iconst (v := 0) hx hb dM_many_4 (by decide) ?_
  refine lv_istore (lv' := [(4, .int 0), (3, .int 0), (2, .int 0), (0, .ref (q 0)), (1, .int x)]) hx hb dM_many_5 hl (by decide) rfl (fun ls hl => ?_)
  exact K7 (k + 1) 0 (by omega) (by omega) ls (lv_sub hl [3, 4, 2, 1, 0] rfl)
set_option maxHeartbeats 4000000 in
set_option maxRecDepth 100000 in
theorem xM_stood (l : Launch) (D : va_G) (cB : ClassId × ClassId) (q : Nat → Nat) (g : ht_G) (k : Nat) (hk : k ≤ 8) (hn : g 0 1 = nI k) (z : Nat) (hz : z < 12) : Met l yM_stood kM_stood ({ frames := 2, cells := 0, slots := 0, locals := 44 }) (va_Pc [.ref (q 0), .int (nI z)] (rf_I D cB q g)) (vp_Si (fun r => r = ht_b (rf_stood g k z))) 0 0 (fun _ => False) := by
  refine Met.ofW (cc := cM_stood) (maxL := 3) (ret := (some .boolean)) (by decide) rfl ?_
  intro p e s m args below meth c s₁ B hml hv
  obtain ⟨rfl, hP, hK, hN⟩ := hv
  have hx := B.exec
  have hb := B.bytes
  have hr := B.returns
  have hts := fun w h => atoms_spec (ws := kM_stood) B.pre w (List.mem_cons_of_mem _ h)
  have hown : s.vm.findClass RM = some m.cls := findClass_of_methodNamed B.named
  have hlocks := B.notSynchronized
  have hl := lv_entry ([.ref (q 0), .int (nI z)]) (n := 3) (Nat.le_of_ble_eq_true rfl)
  rw [lg_entry_eq]
  generalize (lg_sl ([.ref (q 0), .int (nI z)]) ++ List.replicate (3 - (lg_sl ([.ref (q 0), .int (nI z)])).length) Slot.unset).toArray = ls at hl ⊢
  have hl : lv_has ls 3 [(0, .ref (q 0)), (1, .int (nI z))] := hl
  have K5 : ∀ (n9 : Nat), ∀ (u : Nat), (11 ≤ u + n9) → (u ≤ 10) → (ht_ex (fun i => !decide (rf_so g k (nI (10 * z + i)) (-1) < 0)) u = false) → ∀ (ls : Array Slot), lv_has ls 3 [(0, .ref (q 0)), (1, .int (nI z)), (2, .int (nI (10 * z + u)))] → W p l e (headSpec kM_stood ({ frames := 2, cells := 0, slots := 0, locals := 44 })).room s m [.ref (q 0), .int (nI z)].toArray below meth c s.heap [] 0 0 (MQ below (vp_Si (fun r => r = ht_b (rf_stood g k z))) [.ref (q 0), .int (nI z)].toArray s 0 0 (fun _ => False)) (F0 m 5 ls []) := by
    intro n9
    induction n9 with
    | zero =>
      intro u hn9 hu hE ls hl
      exact absurd hn9 (by omega)
    | succ n9 ih =>
      intro u hn9 hu hE ls hl
      refine lv_iload_n hx hb dM_stood_5 rfl (lv_at hl 2 rfl) ?_
      refine lv_bipush (v := 10) hx hb dM_stood_6 (by decide) ?_
      refine lv_iload_n hx hb dM_stood_8 rfl (lv_at hl 1 rfl) ?_
      refine lv_imul hx hb dM_stood_9 ?_
      refine lv_bipush (v := 10) hx hb dM_stood_10 (by decide) ?_
      refine lv_iadd hx hb dM_stood_12 ?_
      refine lv_icmp_ge (tgt := 33) hx hb dM_stood_13 (by decide) (fun c1 => ?_) (fun c1 => ?_)
      · rw [ht_1010] at c1
        have e9 : u = 10 := by have h9 := (nI_leI (by omega) (by omega)).mp c1; omega
        refine lv_iconst (v := 0) hx hb dM_stood_33 (by decide) ?_
        exact W.zret (v := 0) (ty := .boolean) hx hb hr rfl (fun t ht hW => ⟨0, rfl, by rw [e9] at hE; simp [rf_stood, ht_b, hE], ht⟩) (fun _ h => nomatch h) dM_stood_34
      · rw [ht_1010] at c1
        have hlt : u < 10 := by have h9 := mt (nI_leI (a := 10 * z + 10) (b := 10 * z + u) (by omega) (by omega)).mpr c1; omega
        refine lv_aload_n hx hb dM_stood_16 rfl (lv_at hl 0 rfl) ?_
        refine lv_iload_n hx hb dM_stood_17 rfl (lv_at hl 2 rfl) ?_
        refine lv_iconst (v := (-1)) hx hb dM_stood_18 (by decide) ?_
        refine vp_callSi (va_Run.run (va_runV (As := [.int (nI (10 * z + u)), .int (-1 : Int32)]) (rest := []) ⟨hx, hb, hml, hown, hts⟩ (xM_standsOn l D cB q g k hk hn (nI (10 * z + u)) (-1 : Int32)) (cwV 2 hts (ht_gV w518 w520 s33 w3 w521) rfl rfl rfl (by decide +kernel) ⟨Nat.le_of_ble_eq_true rfl, Nat.le_of_ble_eq_true rfl⟩) ⟨rf_bl, va_recv hK hP (ci := 2) (q0 := 0) rfl rf_at0, fun U hU hW => ⟨rfl, rf_Im hP hK hN hU hW⟩⟩ rfl rfl hl.1 rfl (lv_room (Nat.le_of_ble_eq_true rfl)) dM_stood_19 ⟨Nat.zero_le _, Nat.zero_le _⟩)) (fun r2 hr2 => ?_)
        subst hr2
        refine lv_if_lt (tgt := 27) hx hb dM_stood_22 (by decide) (fun c3 => ?_) (fun c3 => ?_)
        · refine lv_iinc (v := nI (10 * z + u + 1)) (lv' := [(2, .int (nI (10 * z + u + 1))), (0, .ref (q 0)), (1, .int (nI z))]) hx hb dM_stood_27 hl (k := 2) rfl (nI_1 _) (by decide) rfl (fun ls hl => ?_)
          refine lv_goto (tgt := 5) hx hb dM_stood_30 (by decide) ?_
          exact ih (u + 1) (by omega) (by omega) (ht_ex_s hE (by simp [c3])) ls (lv_sub hl [1, 2, 0] rfl)
        · refine lv_iconst (v := 1) hx hb dM_stood_25 (by decide) ?_
          exact W.zret (v := 1) (ty := .boolean) hx hb hr rfl (fun t ht hW => ⟨1, rfl, by rw [rf_stood, ht_ex_t (i := u) hlt (by simp [c3])]; rfl, ht⟩) (fun _ h => nomatch h) dM_stood_26
  refine lv_bipush (v := 10) hx hb dM_stood_0 (by decide) ?_
  refine lv_iload_n hx hb dM_stood_2 rfl (lv_at hl 1 rfl) ?_
  refine lv_imul hx hb dM_stood_3 ?_
  refine lv_istore_n (lv' := [(2, .int (10 * (nI z))), (0, .ref (q 0)), (1, .int (nI z))]) hx hb dM_stood_4 rfl hl (by decide) rfl (fun ls hl => ?_)
  rw [ht_10 z] at hl
  exact K5 11 0 (by omega) (by omega) rfl ls (lv_sub hl [1, 2, 0] rfl)
set_option maxHeartbeats 4000000 in
set_option maxRecDepth 100000 in
theorem xM_accounted (l : Launch) (D : va_G) (cB : ClassId × ClassId) (q : Nat → Nat) (g : ht_G) (k : Nat) (hk : k ≤ 8) (hn : g 0 1 = nI k) (d : Nat) (hd : d < 4) : Met l yM_accounted kM_accounted ({ frames := 2, cells := 0, slots := 0, locals := 43 }) (va_Pc [.ref (q 0), .int (nI d)] (rf_I D cB q g)) (vp_Si (fun r => r = ht_b (rf_acc g k d))) 0 0 (fun _ => False) := by
  refine Met.ofW (cc := cM_accounted) (maxL := 4) (ret := (some .boolean)) (by decide) rfl ?_
  intro p e s m args below meth c s₁ B hml hv
  obtain ⟨rfl, hP, hK, hN⟩ := hv
  have hx := B.exec
  have hb := B.bytes
  have hr := B.returns
  have hts := fun w h => atoms_spec (ws := kM_accounted) B.pre w (List.mem_cons_of_mem _ h)
  have hown : s.vm.findClass RM = some m.cls := findClass_of_methodNamed B.named
  have hlocks := B.notSynchronized
  have hl := lv_entry ([.ref (q 0), .int (nI d)]) (n := 4) (Nat.le_of_ble_eq_true rfl)
  rw [lg_entry_eq]
  generalize (lg_sl ([.ref (q 0), .int (nI d)]) ++ List.replicate (4 - (lg_sl ([.ref (q 0), .int (nI d)])).length) Slot.unset).toArray = ls at hl ⊢
  have hl : lv_has ls 4 [(0, .ref (q 0)), (1, .int (nI d))] := hl
  have K14 : ∀ (n9 : Nat), ∀ (j i : Nat), (4 ≤ i + n9) → (j < k) → (i ≤ 3) → (ht_ex (fun i => rf_am g j (nI (3 * d + i))) i = false) → (ht_ex (fun i => rf_am g j (nI (3 * d + i))) 3 = false → ∀ (ls : Array Slot), lv_has ls 4 [(0, .ref (q 0)), (1, .int (nI d)), (2, .int (nI j))] → W p l e (headSpec kM_accounted ({ frames := 2, cells := 0, slots := 0, locals := 43 })).room s m [.ref (q 0), .int (nI d)].toArray below meth c s.heap [] 0 0 (MQ below (vp_Si (fun r => r = ht_b (rf_acc g k d))) [.ref (q 0), .int (nI d)].toArray s 0 0 (fun _ => False)) (F0 m 66 ls [])) → ∀ (ls : Array Slot), lv_has ls 4 [(0, .ref (q 0)), (1, .int (nI d)), (2, .int (nI j)), (3, .int (nI (3 * d + i)))] → W p l e (headSpec kM_accounted ({ frames := 2, cells := 0, slots := 0, locals := 43 })).room s m [.ref (q 0), .int (nI d)].toArray below meth c s.heap [] 0 0 (MQ below (vp_Si (fun r => r = ht_b (rf_acc g k d))) [.ref (q 0), .int (nI d)].toArray s 0 0 (fun _ => False)) (F0 m 14 ls []) := by
    intro n9
    induction n9 with
    | zero =>
      intro j i hn9 hjl hi3 hI hc ls hl
      exact absurd hn9 (by omega)
    | succ n9 ih =>
      intro j i hn9 hjl hi3 hI hc ls hl
      have hj8 : j < 8 := Nat.lt_of_lt_of_le hjl hk
      refine lv_iload_n hx hb dM_accounted_14 rfl (lv_at hl 3 rfl) ?_
      refine lv_iconst (v := 3) hx hb dM_accounted_15 (by decide) ?_
      refine lv_iload_n hx hb dM_accounted_16 rfl (lv_at hl 1 rfl) ?_
      refine lv_imul hx hb dM_accounted_17 ?_
      refine lv_iconst (v := 3) hx hb dM_accounted_18 (by decide) ?_
      refine lv_iadd hx hb dM_accounted_19 ?_
      refine lv_icmp_ge (tgt := 66) hx hb dM_accounted_20 (by decide) (fun c1 => ?_) (fun c1 => ?_)
      · rw [ht_3d3] at c1
        have e3 : 3 ≤ i := by have h9 := (nI_leI (by omega) (by omega)).mp c1; omega
        exact hc (by rw [show i = 3 by omega] at hI; exact hI) ls (lv_sub hl [0, 1, 2] rfl)
      · rw [ht_3d3] at c1
        have hlt : i < 3 := by have h9 := mt (nI_leI (a := 3 * d + 3) (b := 3 * d + i) (by omega) (by omega)).mpr c1; omega
        refine lv_aload_n hx hb dM_accounted_23 rfl (lv_at hl 0 rfl) ?_
        refine lv_iload_n hx hb dM_accounted_24 rfl (lv_at hl 2 rfl) ?_
        refine lv_iload_n hx hb dM_accounted_25 rfl (lv_at hl 3 rfl) ?_
        refine vp_callSi (va_Run.run (va_runV (As := [.int (nI j), .int (nI (3 * d + i))]) (rest := []) ⟨hx, hb, hml, hown, hts⟩ (xM_located l D cB q g j hj8 (nI (3 * d + i))) (cwV 2 hts (ht_gV w554 w556 s42 w3 w557) rfl rfl rfl (by decide +kernel) ⟨Nat.le_of_ble_eq_true rfl, Nat.le_of_ble_eq_true rfl⟩) ⟨rf_bl, va_recv hK hP (ci := 2) (q0 := 0) rfl rf_at0, fun U hU hW => ⟨rfl, rf_Im hP hK hN hU hW⟩⟩ rfl rfl hl.1 rfl (lv_room (Nat.le_of_ble_eq_true rfl)) dM_accounted_26 ⟨Nat.zero_le _, Nat.zero_le _⟩)) (fun r2 hr2 => ?_)
        subst hr2
        refine lv_if_ne (tgt := 58) hx hb dM_accounted_29 (by decide) (fun c3 => ?_) (fun c3 => ?_)
        · replace c3 := ht_b1.mp c3
          refine lv_iconst (v := 1) hx hb dM_accounted_58 (by decide) ?_
          exact W.zret (v := 1) (ty := .boolean) hx hb hr rfl (fun t ht hW => ⟨1, rfl, by rw [rf_acc, ht_ex_t (p := fun t => ht_ex (fun i => rf_am g t (nI (3 * d + i))) 3) (i := j) hjl (ht_ex_t (p := fun i => rf_am g j (nI (3 * d + i))) (i := i) hlt (by simp [rf_am, c3]))]; rfl, ht⟩) (fun _ h => nomatch h) dM_accounted_59
        · replace c3 := ht_b0.mp c3
          refine lv_aload_n hx hb dM_accounted_32 rfl (lv_at hl 0 rfl) ?_
          refine va_get (D := D) (ci := 2) (C := RM) (T := TM) (N := 19) (v := .ref (q 1)) hx hb hts inM hown hK hP 0 rf_at0 rfl 1 (by decide) (hts _ w445) (fun _ h9 => h9) rfl dM_accounted_33 ?_
          refine lv_iload_n hx hb dM_accounted_36 rfl (lv_at hl 2 rfl) ?_
          refine rf_ldZ hx hb hK hP 1 (j := j) (by decide) (by decide) rfl hj8 rfl dM_accounted_37 ?_
          refine lv_if_eq (tgt := 60) hx hb dM_accounted_38 (by decide) (fun c4 => ?_) (fun c4 => ?_)
          · refine lv_iinc (v := nI (3 * d + i + 1)) (lv' := [(3, .int (nI (3 * d + i + 1))), (0, .ref (q 0)), (1, .int (nI d)), (2, .int (nI j))]) hx hb dM_accounted_60 hl (k := 3) rfl (nI_1 _) (by decide) rfl (fun ls hl => ?_)
            refine lv_goto (tgt := 14) hx hb dM_accounted_63 (by decide) ?_
            exact ih j (i + 1) (by omega) hjl (by omega) (ht_ex_s hI (by simp [rf_am, c3, c4])) hc ls (lv_sub hl [1, 2, 3, 0] rfl)
          · refine lv_aload_n hx hb dM_accounted_41 rfl (lv_at hl 0 rfl) ?_
            refine lv_iload_n hx hb dM_accounted_42 rfl (lv_at hl 2 rfl) ?_
            refine vp_callSi (va_Run.run (va_runV (As := [.int (nI j)]) (rest := []) ⟨hx, hb, hml, hown, hts⟩ (xM_mute l D cB q g j hj8 ) (cwV 1 hts (ht_gV w558 w560 s43 w3 w561) rfl rfl rfl (by decide +kernel) ⟨Nat.le_of_ble_eq_true rfl, Nat.le_of_ble_eq_true rfl⟩) ⟨rf_bl, va_recv hK hP (ci := 2) (q0 := 0) rfl rf_at0, fun U hU hW => ⟨rfl, rf_Im hP hK hN hU hW⟩⟩ rfl rfl hl.1 rfl (lv_room (Nat.le_of_ble_eq_true rfl)) dM_accounted_43 ⟨Nat.zero_le _, Nat.zero_le _⟩)) (fun r5 hr5 => ?_)
            subst hr5
            refine lv_if_eq (tgt := 60) hx hb dM_accounted_46 (by decide) (fun c6 => ?_) (fun c6 => ?_)
            · replace c6 := ht_b0.mp c6
              refine lv_iinc (v := nI (3 * d + i + 1)) (lv' := [(3, .int (nI (3 * d + i + 1))), (0, .ref (q 0)), (1, .int (nI d)), (2, .int (nI j))]) hx hb dM_accounted_60 hl (k := 3) rfl (nI_1 _) (by decide) rfl (fun ls hl => ?_)
              refine lv_goto (tgt := 14) hx hb dM_accounted_63 (by decide) ?_
              exact ih j (i + 1) (by omega) hjl (by omega) (ht_ex_s hI (by simp [rf_am, c3, c4, c6])) hc ls (lv_sub hl [1, 2, 3, 0] rfl)
            · replace c6 := ht_b1.mp c6
              refine lv_aload_n hx hb dM_accounted_49 rfl (lv_at hl 0 rfl) ?_
              refine lv_iload_n hx hb dM_accounted_50 rfl (lv_at hl 2 rfl) ?_
              refine lv_iload_n hx hb dM_accounted_51 rfl (lv_at hl 3 rfl) ?_
              refine vp_callSi (va_Run.run (va_runV (As := [.int (nI j), .int (nI (3 * d + i))]) (rest := []) ⟨hx, hb, hml, hown, hts⟩ (xM_claims l D cB q g j hj8 (nI (3 * d + i))) (cwV 2 hts (ht_gV w530 w532 s36 w3 w533) rfl rfl rfl (by decide +kernel) ⟨Nat.le_of_ble_eq_true rfl, Nat.le_of_ble_eq_true rfl⟩) ⟨rf_bl, va_recv hK hP (ci := 2) (q0 := 0) rfl rf_at0, fun U hU hW => ⟨rfl, rf_Im hP hK hN hU hW⟩⟩ rfl rfl hl.1 rfl (lv_room (Nat.le_of_ble_eq_true rfl)) dM_accounted_52 ⟨Nat.zero_le _, Nat.zero_le _⟩)) (fun r7 hr7 => ?_)
              subst hr7
              refine lv_if_eq (tgt := 60) hx hb dM_accounted_55 (by decide) (fun c8 => ?_) (fun c8 => ?_)
              · replace c8 := ht_b0.mp c8
                refine lv_iinc (v := nI (3 * d + i + 1)) (lv' := [(3, .int (nI (3 * d + i + 1))), (0, .ref (q 0)), (1, .int (nI d)), (2, .int (nI j))]) hx hb dM_accounted_60 hl (k := 3) rfl (nI_1 _) (by decide) rfl (fun ls hl => ?_)
                refine lv_goto (tgt := 14) hx hb dM_accounted_63 (by decide) ?_
                exact ih j (i + 1) (by omega) hjl (by omega) (ht_ex_s hI (by simp [rf_am, c3, c4, c6, c8])) hc ls (lv_sub hl [1, 2, 3, 0] rfl)
              · replace c8 := ht_b1.mp c8
                refine lv_iconst (v := 1) hx hb dM_accounted_58 (by decide) ?_
                exact W.zret (v := 1) (ty := .boolean) hx hb hr rfl (fun t ht hW => ⟨1, rfl, by rw [rf_acc, ht_ex_t (p := fun t => ht_ex (fun i => rf_am g t (nI (3 * d + i))) 3) (i := j) hjl (ht_ex_t (p := fun i => rf_am g j (nI (3 * d + i))) (i := i) hlt (by simp [rf_am, c3, c4, c6, c8]))]; rfl, ht⟩) (fun _ h => nomatch h) dM_accounted_59
  have K2 : ∀ (n9 : Nat), ∀ (j : Nat), (k + 1 ≤ j + n9) → (j ≤ k) → (ht_ex (fun t => ht_ex (fun i => rf_am g t (nI (3 * d + i))) 3) j = false) → ∀ (ls : Array Slot), lv_has ls 4 [(0, .ref (q 0)), (1, .int (nI d)), (2, .int (nI j))] → W p l e (headSpec kM_accounted ({ frames := 2, cells := 0, slots := 0, locals := 43 })).room s m [.ref (q 0), .int (nI d)].toArray below meth c s.heap [] 0 0 (MQ below (vp_Si (fun r => r = ht_b (rf_acc g k d))) [.ref (q 0), .int (nI d)].toArray s 0 0 (fun _ => False)) (F0 m 2 ls []) := by
    intro n9
    induction n9 with
    | zero =>
      intro j hn9 hjk hE ls hl
      exact absurd hn9 (by omega)
    | succ n9 ih =>
      intro j hn9 hjk hE ls hl
      refine lv_iload_n hx hb dM_accounted_2 rfl (lv_at hl 2 rfl) ?_
      refine lv_aload_n hx hb dM_accounted_3 rfl (lv_at hl 0 rfl) ?_
      refine va_get (D := D) (ci := 2) (C := RM) (T := TM) (N := 19) (v := .int (g 0 1)) hx hb hts inM hown hK hP 0 rf_at0 rfl 14 (by decide) (hts _ w458) (fun _ h9 => h9) rfl dM_accounted_4 ?_
      refine lv_icmp_ge (tgt := 72) hx hb dM_accounted_7 (by decide) (fun c9 => ?_) (fun c9 => ?_)
      · rw [hn] at c9
        have e9 : j = k := ht_end hk hjk c9
        refine lv_iconst (v := 0) hx hb dM_accounted_72 (by decide) ?_
        exact W.zret (v := 0) (ty := .boolean) hx hb hr rfl (fun t ht hW => ⟨0, rfl, by rw [e9] at hE; simp [rf_acc, ht_b, hE], ht⟩) (fun _ h => nomatch h) dM_accounted_73
      · rw [hn] at c9
        have hjl : j < k := ht_lt hk hjk c9
        have hj8 : j < 8 := Nat.lt_of_lt_of_le hjl hk
        refine lv_iconst (v := 3) hx hb dM_accounted_10 (by decide) ?_
        refine lv_iload_n hx hb dM_accounted_11 rfl (lv_at hl 1 rfl) ?_
        refine lv_imul hx hb dM_accounted_12 ?_
        refine lv_istore_n (lv' := [(3, .int (3 * (nI d))), (0, .ref (q 0)), (1, .int (nI d)), (2, .int (nI j))]) hx hb dM_accounted_13 rfl hl (by decide) rfl (fun ls hl => ?_)
        rw [ht_3d d] at hl
        refine K14 4 j 0 (by omega) hjl (by omega) rfl (fun h3 ls hl => ?_) ls (lv_sub hl [1, 2, 3, 0] rfl)
        refine lv_iinc (v := nI (j + 1)) (lv' := [(2, .int (nI (j + 1))), (0, .ref (q 0)), (1, .int (nI d))]) hx hb dM_accounted_66 hl (k := 2) rfl (nI_1 _) (by decide) rfl (fun ls hl => ?_)
        refine lv_goto (tgt := 2) hx hb dM_accounted_69 (by decide) ?_
        exact ih (j + 1) (by omega) (by omega) (ht_ex_s hE h3) ls (lv_sub hl [1, 2, 0] rfl)
  refine lv_iconst (v := 0) hx hb dM_accounted_0 (by decide) ?_
  refine lv_istore_n (lv' := [(2, .int 0), (0, .ref (q 0)), (1, .int (nI d))]) hx hb dM_accounted_1 rfl hl (by decide) rfl (fun ls hl => ?_)
  exact K2 (k + 1) 0 (by omega) (by omega) rfl ls (lv_sub hl [1, 2, 0] rfl)
set_option maxHeartbeats 4000000 in
set_option maxRecDepth 100000 in
theorem xM_found (l : Launch) (D : va_G) (cB : ClassId × ClassId) (q : Nat → Nat) (g : ht_G) (k : Nat) (hk : k ≤ 8) (hn : g 0 1 = nI k) (hA : ht_al g 16) (z : Nat) (hz : z < 12) : Met l yM_found kM_found ({ frames := 3, cells := 0, slots := 0, locals := 67 }) (va_Pc [.ref (q 0), .int (nI z)] (rf_I D cB q g)) (vp_Si (fun r => r = rf_found g k z)) 0 0 (fun _ => False) := by
  refine Met.ofW (cc := cM_found) (maxL := 3) (ret := (some .int)) (by decide) rfl ?_
  intro p e s m args below meth c s₁ B hml hv
  obtain ⟨rfl, hP, hK, hN⟩ := hv
  have hx := B.exec
  have hb := B.bytes
  have hr := B.returns
  have hts := fun w h => atoms_spec (ws := kM_found) B.pre w (List.mem_cons_of_mem _ h)
  have hown : s.vm.findClass RM = some m.cls := findClass_of_methodNamed B.named
  have hlocks := B.notSynchronized
  have hl := lv_entry ([.ref (q 0), .int (nI z)]) (n := 3) (Nat.le_of_ble_eq_true rfl)
  rw [lg_entry_eq]
  generalize (lg_sl ([.ref (q 0), .int (nI z)]) ++ List.replicate (3 - (lg_sl ([.ref (q 0), .int (nI z)])).length) Slot.unset).toArray = ls at hl ⊢
  have hl : lv_has ls 3 [(0, .ref (q 0)), (1, .int (nI z))] := hl
  refine lv_aload_n hx hb dM_found_0 rfl (lv_at hl 0 rfl) ?_
  refine lv_iload_n hx hb dM_found_1 rfl (lv_at hl 1 rfl) ?_
  refine lv_iconst (v := 3) hx hb dM_found_2 (by decide) ?_
  refine lv_idiv hx hb dM_found_3 (by decide) ?_
  refine vp_callSi (va_Run.run (va_runV (As := [.int ((nI z) / 3)]) (rest := []) ⟨hx, hb, hml, hown, hts⟩ (xM_occupied l D cB q g k hk hn ((nI z) / 3)) (cwV 1 hts (ht_gV w546 w548 s40 w3 w549) rfl rfl rfl (by decide +kernel) ⟨Nat.le_of_ble_eq_true rfl, Nat.le_of_ble_eq_true rfl⟩) ⟨rf_bl, va_recv hK hP (ci := 2) (q0 := 0) rfl rf_at0, fun U hU hW => ⟨rfl, rf_Im hP hK hN hU hW⟩⟩ rfl rfl hl.1 rfl (lv_room (Nat.le_of_ble_eq_true rfl)) dM_found_4 ⟨Nat.zero_le _, Nat.zero_le _⟩)) (fun r1 hr1 => ?_)
  subst hr1
  refine lv_if_ne (tgt := 12) hx hb dM_found_7 (by decide) (fun c2 => ?_) (fun c2 => ?_)
  · replace c2 := ht_b1.mp c2
    refine lv_aload_n hx hb dM_found_12 rfl (lv_at hl 0 rfl) ?_
    refine lv_iload_n hx hb dM_found_13 rfl (lv_at hl 1 rfl) ?_
    refine vp_callSi (va_Run.run (va_runV (As := [.int (nI z)]) (rest := []) ⟨hx, hb, hml, hown, hts⟩ (xM_many l D cB q g k hk hn (nI z)) (cwV 1 hts (ht_gV w550 w552 s41 w3 w553) rfl rfl rfl (by decide +kernel) ⟨Nat.le_of_ble_eq_true rfl, Nat.le_of_ble_eq_true rfl⟩) ⟨rf_bl, va_recv hK hP (ci := 2) (q0 := 0) rfl rf_at0, fun U hU hW => ⟨rfl, rf_Im hP hK hN hU hW⟩⟩ rfl rfl hl.1 rfl (lv_room (Nat.le_of_ble_eq_true rfl)) dM_found_14 ⟨Nat.zero_le _, Nat.zero_le _⟩)) (fun r3 hr3 => ?_)
    subst hr3
    refine lv_istore_n (lv' := [(2, .int (rf_many g k (nI z))), (0, .ref (q 0)), (1, .int (nI z))]) hx hb dM_found_17 rfl hl (by decide) rfl (fun ls hl => ?_)
    refine lv_iload_n hx hb dM_found_18 rfl (lv_at hl 0 rfl) ?_
    refine lv_if_eq (tgt := 54) hx hb dM_found_19 (by decide) (fun c4 => ?_) (fun c4 => ?_)
    · refine lv_aload_n hx hb dM_found_54 rfl (lv_at hl 1 rfl) ?_
      refine va_get (D := D) (ci := 2) (C := RM) (T := TM) (N := 19) (v := .ref (q 14)) hx hb hts inM hown hK hP 0 rf_at0 rfl 15 (by decide) (hts _ w459) (fun _ h9 => h9) rfl dM_found_55 ?_
      refine lv_iload_n hx hb dM_found_58 rfl (lv_at hl 2 rfl) ?_
      refine rf_ldI hx hb hK hP 14 (j := z) (by decide) (by decide) rfl hz rfl dM_found_59 ?_
      refine lv_if_ne (tgt := 87) hx hb dM_found_60 (by decide) (fun c5 => ?_) (fun c5 => ?_)
      · refine lv_aload_n hx hb dM_found_87 rfl (lv_at hl 1 rfl) ?_
        refine va_get (D := D) (ci := 2) (C := RM) (T := TM) (N := 19) (v := .ref (q 14)) hx hb hts inM hown hK hP 0 rf_at0 rfl 15 (by decide) (hts _ w459) (fun _ h9 => h9) rfl dM_found_88 ?_
        refine lv_iload_n hx hb dM_found_91 rfl (lv_at hl 2 rfl) ?_
        refine rf_ldI hx hb hK hP 14 (j := z) (by decide) (by decide) rfl hz rfl dM_found_92 ?_
        refine lv_iconst (v := 1) hx hb dM_found_93 (by decide) ?_
        refine lv_icmp_gt (tgt := 106) hx hb dM_found_94 (by decide) (fun c6 => ?_) (fun c6 => ?_)
        · refine lv_iconst (v := 3) hx hb dM_found_106 (by decide) ?_
          exact W.iret (v := 3) hx hb hr (fun t ht hW => ⟨3, rfl, by simp [rf_found, c2, c4, c5, c6], ht⟩) (fun _ h => nomatch h) dM_found_107
        · refine lv_aload_n hx hb dM_found_97 rfl (lv_at hl 1 rfl) ?_
          refine va_get (D := D) (ci := 2) (C := RM) (T := TM) (N := 19) (v := .ref (q 16)) hx hb hts inM hown hK hP 0 rf_at0 rfl 17 (by decide) (hts _ w461) (fun _ h9 => h9) rfl dM_found_98 ?_
          refine lv_iload_n hx hb dM_found_101 rfl (lv_at hl 2 rfl) ?_
          refine rf_ldI hx hb hK hP 16 (j := z) (by decide) (by decide) rfl hz rfl dM_found_102 ?_
          refine lv_if_ge (tgt := 108) hx hb dM_found_103 (by decide) (fun c7 => ?_) (fun c7 => ?_)
          · obtain ⟨j, hj8, haj, hac⟩ := hA z hz (fun h9 => absurd c7 (by rw [h9]; decide))
            refine lv_aload_n hx hb dM_found_108 rfl (lv_at hl 1 rfl) ?_
            refine va_get (D := D) (ci := 2) (C := RM) (T := TM) (N := 19) (v := .ref (q 12)) hx hb hts inM hown hK hP 0 rf_at0 rfl 12 (by decide) (hts _ w456) (fun _ h9 => h9) rfl dM_found_109 ?_
            refine lv_aload_n hx hb dM_found_112 rfl (lv_at hl 1 rfl) ?_
            refine va_get (D := D) (ci := 2) (C := RM) (T := TM) (N := 19) (v := .ref (q 16)) hx hb hts inM hown hK hP 0 rf_at0 rfl 17 (by decide) (hts _ w461) (fun _ h9 => h9) rfl dM_found_113 ?_
            refine lv_iload_n hx hb dM_found_116 rfl (lv_at hl 2 rfl) ?_
            refine rf_ldI hx hb hK hP 16 (j := z) (by decide) (by decide) rfl hz rfl dM_found_117 ?_
            refine rf_ldI hx hb hK hP 12 (j := j) (by decide) (by decide) rfl hj8 haj dM_found_118 ?_
            refine lv_if_ne (tgt := 140) hx hb dM_found_119 (by decide) (fun c8 => ?_) (fun c8 => ?_)
            · refine lv_iconst (v := 3) hx hb dM_found_140 (by decide) ?_
              exact W.iret (v := 3) hx hb hr (fun t ht hW => ⟨3, rfl, by simp [rf_found, c2, c4, c5, c6, c7, hac, c8], ht⟩) (fun _ h => nomatch h) dM_found_141
            · refine lv_aload_n hx hb dM_found_122 rfl (lv_at hl 1 rfl) ?_
              refine va_get (D := D) (ci := 2) (C := RM) (T := TM) (N := 19) (v := .ref (q 11)) hx hb hts inM hown hK hP 0 rf_at0 rfl 11 (by decide) (hts _ w455) (fun _ h9 => h9) rfl dM_found_123 ?_
              refine lv_aload_n hx hb dM_found_126 rfl (lv_at hl 1 rfl) ?_
              refine va_get (D := D) (ci := 2) (C := RM) (T := TM) (N := 19) (v := .ref (q 16)) hx hb hts inM hown hK hP 0 rf_at0 rfl 17 (by decide) (hts _ w461) (fun _ h9 => h9) rfl dM_found_127 ?_
              refine lv_iload_n hx hb dM_found_130 rfl (lv_at hl 2 rfl) ?_
              refine rf_ldI hx hb hK hP 16 (j := z) (by decide) (by decide) rfl hz rfl dM_found_131 ?_
              refine rf_ldZ hx hb hK hP 11 (j := j) (by decide) (by decide) rfl hj8 haj dM_found_132 ?_
              refine lv_if_eq (tgt := 140) hx hb dM_found_133 (by decide) (fun c9 => ?_) (fun c9 => ?_)
              · refine lv_iconst (v := 3) hx hb dM_found_140 (by decide) ?_
                exact W.iret (v := 3) hx hb hr (fun t ht hW => ⟨3, rfl, by simp [rf_found, c2, c4, c5, c6, c7, hac, c8, c9], ht⟩) (fun _ h => nomatch h) dM_found_141
              · refine lv_iconst (v := 0) hx hb dM_found_136 (by decide) ?_
                refine lv_goto (tgt := 141) hx hb dM_found_137 (by decide) ?_
                exact W.iret (v := 0) hx hb hr (fun t ht hW => ⟨0, rfl, by simp [rf_found, c2, c4, c5, c6, c7, hac, c8, c9], ht⟩) (fun _ h => nomatch h) dM_found_141
          · refine lv_iconst (v := 3) hx hb dM_found_106 (by decide) ?_
            exact W.iret (v := 3) hx hb hr (fun t ht hW => ⟨3, rfl, by simp [rf_found, c2, c4, c5, c6, c7], ht⟩) (fun _ h => nomatch h) dM_found_107
      · refine lv_aload_n hx hb dM_found_63 rfl (lv_at hl 1 rfl) ?_
        refine lv_iload_n hx hb dM_found_64 rfl (lv_at hl 2 rfl) ?_
        refine lv_iconst (v := 3) hx hb dM_found_65 (by decide) ?_
        refine lv_idiv hx hb dM_found_66 (by decide) ?_
        rw [ht_z3 hz]
        refine vp_callSi (va_Run.run (va_runV (As := [.int (nI (z / 3))]) (rest := []) ⟨hx, hb, hml, hown, hts⟩ (xM_accounted l D cB q g k hk hn (z / 3) (by omega)) (cwV 1 hts (ht_gV w562 w564 s44 w3 w565) rfl rfl rfl (by decide +kernel) ⟨Nat.le_of_ble_eq_true rfl, Nat.le_of_ble_eq_true rfl⟩) ⟨rf_bl, va_recv hK hP (ci := 2) (q0 := 0) rfl rf_at0, fun U hU hW => ⟨rfl, rf_Im hP hK hN hU hW⟩⟩ rfl rfl hl.1 rfl (lv_room (Nat.le_of_ble_eq_true rfl)) dM_found_67 ⟨Nat.zero_le _, Nat.zero_le _⟩)) (fun r10 hr10 => ?_)
        subst hr10
        refine lv_if_eq (tgt := 85) hx hb dM_found_70 (by decide) (fun c11 => ?_) (fun c11 => ?_)
        · replace c11 := ht_b0.mp c11
          refine lv_iconst (v := 3) hx hb dM_found_85 (by decide) ?_
          exact W.iret (v := 3) hx hb hr (fun t ht hW => ⟨3, rfl, by simp [rf_found, c2, c4, c5, c11], ht⟩) (fun _ h => nomatch h) dM_found_86
        · replace c11 := ht_b1.mp c11
          refine lv_aload_n hx hb dM_found_73 rfl (lv_at hl 1 rfl) ?_
          refine lv_iload_n hx hb dM_found_74 rfl (lv_at hl 2 rfl) ?_
          refine vp_callSi (va_Run.run (va_runV (As := [.int (nI z)]) (rest := []) ⟨hx, hb, hml, hown, hts⟩ (xM_left l D cB q g k hk hn (nI z)) (cwV 1 hts (ht_gV w566 w568 s45 w3 w569) rfl rfl rfl (by decide +kernel) ⟨Nat.le_of_ble_eq_true rfl, Nat.le_of_ble_eq_true rfl⟩) ⟨rf_bl, va_recv hK hP (ci := 2) (q0 := 0) rfl rf_at0, fun U hU hW => ⟨rfl, rf_Im hP hK hN hU hW⟩⟩ rfl rfl hl.1 rfl (lv_room (Nat.le_of_ble_eq_true rfl)) dM_found_75 ⟨Nat.zero_le _, Nat.zero_le _⟩)) (fun r12 hr12 => ?_)
          subst hr12
          refine lv_if_ne (tgt := 85) hx hb dM_found_78 (by decide) (fun c13 => ?_) (fun c13 => ?_)
          · replace c13 := ht_b1.mp c13
            refine lv_iconst (v := 3) hx hb dM_found_85 (by decide) ?_
            exact W.iret (v := 3) hx hb hr (fun t ht hW => ⟨3, rfl, by simp [rf_found, c2, c4, c5, c11, c13], ht⟩) (fun _ h => nomatch h) dM_found_86
          · replace c13 := ht_b0.mp c13
            refine lv_iconst (v := 0) hx hb dM_found_81 (by decide) ?_
            refine lv_goto (tgt := 86) hx hb dM_found_82 (by decide) ?_
            exact W.iret (v := 0) hx hb hr (fun t ht hW => ⟨0, rfl, by simp [rf_found, c2, c4, c5, c11, c13], ht⟩) (fun _ h => nomatch h) dM_found_86
    · refine lv_iload_n hx hb dM_found_22 rfl (lv_at hl 0 rfl) ?_
      refine lv_if_ge (tgt := 52) hx hb dM_found_23 (by decide) (fun c14 => ?_) (fun c14 => ?_)
      · refine lv_iconst (v := 2) hx hb dM_found_52 (by decide) ?_
        exact W.iret (v := 2) hx hb hr (fun t ht hW => ⟨2, rfl, by simp [rf_found, c2, c4, c14], ht⟩) (fun _ h => nomatch h) dM_found_53
      · obtain ⟨j, hj8, hmj, hmc⟩ := rf_many_neg hk c14
        refine lv_aload_n hx hb dM_found_26 rfl (lv_at hl 1 rfl) ?_
        refine va_get (D := D) (ci := 2) (C := RM) (T := TM) (N := 19) (v := .ref (q 11)) hx hb hts inM hown hK hP 0 rf_at0 rfl 11 (by decide) (hts _ w455) (fun _ h9 => h9) rfl dM_found_27 ?_
        refine lv_iload_n hx hb dM_found_30 rfl (lv_at hl 0 rfl) ?_
        refine lv_bipush (v := 100) hx hb dM_found_31 (by decide) ?_
        refine lv_iadd hx hb dM_found_33 ?_
        refine rf_ldZ hx hb hK hP 11 (j := j) (by decide) (by decide) rfl hj8 hmj dM_found_34 ?_
        refine lv_if_eq (tgt := 52) hx hb dM_found_35 (by decide) (fun c15 => ?_) (fun c15 => ?_)
        · refine lv_iconst (v := 2) hx hb dM_found_52 (by decide) ?_
          exact W.iret (v := 2) hx hb hr (fun t ht hW => ⟨2, rfl, by simp [rf_found, c2, c4, c14, hmc, c15], ht⟩) (fun _ h => nomatch h) dM_found_53
        · refine lv_aload_n hx hb dM_found_38 rfl (lv_at hl 1 rfl) ?_
          refine va_get (D := D) (ci := 2) (C := RM) (T := TM) (N := 19) (v := .ref (q 14)) hx hb hts inM hown hK hP 0 rf_at0 rfl 15 (by decide) (hts _ w459) (fun _ h9 => h9) rfl dM_found_39 ?_
          refine lv_iload_n hx hb dM_found_42 rfl (lv_at hl 2 rfl) ?_
          refine rf_ldI hx hb hK hP 14 (j := z) (by decide) (by decide) rfl hz rfl dM_found_43 ?_
          refine lv_iconst (v := 2) hx hb dM_found_44 (by decide) ?_
          refine lv_icmp_ge (tgt := 52) hx hb dM_found_45 (by decide) (fun c16 => ?_) (fun c16 => ?_)
          · refine lv_iconst (v := 2) hx hb dM_found_52 (by decide) ?_
            exact W.iret (v := 2) hx hb hr (fun t ht hW => ⟨2, rfl, by simp [rf_found, c2, c4, c14, hmc, c15, c16], ht⟩) (fun _ h => nomatch h) dM_found_53
          · refine lv_iconst (v := 1) hx hb dM_found_48 (by decide) ?_
            refine lv_goto (tgt := 53) hx hb dM_found_49 (by decide) ?_
            exact W.iret (v := 1) hx hb hr (fun t ht hW => ⟨1, rfl, by simp [rf_found, c2, c4, c14, hmc, c15, c16], ht⟩) (fun _ h => nomatch h) dM_found_53
  · replace c2 := ht_b0.mp c2
    refine lv_iconst (v := 0) hx hb dM_found_10 (by decide) ?_
    exact W.iret (v := 0) hx hb hr (fun t ht hW => ⟨0, rfl, by simp [rf_found, c2], ht⟩) (fun _ h => nomatch h) dM_found_11
set_option maxHeartbeats 4000000 in
set_option maxRecDepth 100000 in
theorem xM_raise (l : Launch) (D : va_G) (cB : ClassId × ClassId) (q : Nat → Nat) (hJ : mw_J 17 q) (sz : Nat) (g : ht_G) (x : Int32) : Met l yM_raise kM_raise ({ frames := 0, cells := 0, slots := 0, locals := 0 }) (va_Pc [.ref (q 0), .int x] (fun U => U.heap.size = sz ∧ rf_I D cB q g U)) (va_Qi (fun r (_ : Unit) => r = 0) (fun _ t => rf_I D cB q (ht_up g 0 0 x) t) (mw_A 17 q sz)) 0 0 (mw_A 17 q sz) := by
  refine Met.ofW (cc := cM_raise) (maxL := 2) (ret := (some .int)) (by decide) rfl ?_
  intro p e s m args below meth c s₁ B hml hv
  obtain ⟨rfl, hsz, hP, hK, hN⟩ := hv
  have hx := B.exec
  have hb := B.bytes
  have hr := B.returns
  have hts := fun w h => atoms_spec (ws := kM_raise) B.pre w (List.mem_cons_of_mem _ h)
  have hown : s.vm.findClass RM = some m.cls := findClass_of_methodNamed B.named
  have hlocks := B.notSynchronized
  subst hsz
  have hS : va_S (mw_A 17 q s.heap.size) s.heap s.heap [] := va_S.rf
  have hl := lv_entry ([.ref (q 0), .int x]) (n := 2) (Nat.le_of_ble_eq_true rfl)
  rw [lg_entry_eq]
  generalize (lg_sl ([.ref (q 0), .int x]) ++ List.replicate (2 - (lg_sl ([.ref (q 0), .int x])).length) Slot.unset).toArray = ls at hl ⊢
  have hl : lv_has ls 2 [(0, .ref (q 0)), (1, .int x)] := hl
  refine lv_aload_n hx hb dM_raise_0 rfl (lv_at hl 0 rfl) ?_
  refine lv_iload_n hx hb dM_raise_1 rfl (lv_at hl 1 rfl) ?_
  refine va_put (D := D) (ci := 2) (C := RM) (T := TM) (N := 19) (v := .int x) (ty := .int) hx hb hts inM tyM tyM_ok nmM hown hK hP (mw_DA hJ) hS 0 rf_at0 rfl 0 (by decide) (hts _ w444) (fun _ h9 => h9) rfl rfl rfl rfl (Nat.le_of_ble_eq_true rfl) dM_raise_2 (fun H locs hP _ hS => ?_)
  rw [rf_st0] at hP
  obtain ⟨g1, eg1⟩ : ∃ y9 : ht_G, y9 = ht_up g 0 0 x := ⟨_, rfl⟩
  rw [← eg1] at hP
  refine lv_iconst (v := 0) hx hb dM_raise_5 (by decide) ?_
  have hG : g1 = ht_up g 0 0 x := by rw [eg1]
  rw [hG] at hP
  exact W.iret (v := 0) hx hb hr (fun t ht hW => ⟨⟨0, (), rfl, by rfl, rf_Im hP hK hN ht hW⟩, hS.F ht⟩) hS.2.2 dM_raise_6
set_option maxHeartbeats 4000000 in
set_option maxRecDepth 100000 in
theorem xM_report (l : Launch) (D : va_G) (cB : ClassId × ClassId) (q : Nat → Nat) (hJ : mw_J 17 q) (sz : Nat) (g : ht_G) (j : Nat) (hj : j < 8) (hw : g 8 j = 0 ∨ g 8 j = 1) : Met l yM_report kM_report ({ frames := 1, cells := 0, slots := 0, locals := 21 }) (va_Pc [.ref (q 0), .int (nI j)] (fun U => U.heap.size = sz ∧ rf_I D cB q g U)) (va_Qv (fun _ : Unit => True) (fun _ t => rf_I D cB q (rf_rep j g) t) (mw_A 17 q sz)) 0 0 (mw_A 17 q sz) := by
  refine Met.ofW (cc := cM_report) (maxL := 2) (ret := none) (by decide) rfl ?_
  intro p e s m args below meth c s₁ B hml hv
  obtain ⟨rfl, hsz, hP, hK, hN⟩ := hv
  have hx := B.exec
  have hb := B.bytes
  have hr := B.returns
  have hts := fun w h => atoms_spec (ws := kM_report) B.pre w (List.mem_cons_of_mem _ h)
  have hown : s.vm.findClass RM = some m.cls := findClass_of_methodNamed B.named
  have hlocks := B.notSynchronized
  subst hsz
  have hS : va_S (mw_A 17 q s.heap.size) s.heap s.heap [] := va_S.rf
  have hl := lv_entry ([.ref (q 0), .int (nI j)]) (n := 2) (Nat.le_of_ble_eq_true rfl)
  rw [lg_entry_eq]
  generalize (lg_sl ([.ref (q 0), .int (nI j)]) ++ List.replicate (2 - (lg_sl ([.ref (q 0), .int (nI j)])).length) Slot.unset).toArray = ls at hl ⊢
  have hl : lv_has ls 2 [(0, .ref (q 0)), (1, .int (nI j))] := hl
  refine lv_aload_n hx hb dM_report_0 rfl (lv_at hl 0 rfl) ?_
  refine va_get (D := D) (ci := 2) (C := RM) (T := TM) (N := 19) (v := .ref (q 9)) hx hb hts inM hown hK hP 0 rf_at0 rfl 9 (by decide) (hts _ w453) (fun _ h9 => h9) rfl dM_report_1 ?_
  refine lv_iload_n hx hb dM_report_4 rfl (lv_at hl 1 rfl) ?_
  refine lv_aload_n hx hb dM_report_5 rfl (lv_at hl 0 rfl) ?_
  refine va_get (D := D) (ci := 2) (C := RM) (T := TM) (N := 19) (v := .ref (q 3)) hx hb hts inM hown hK hP 0 rf_at0 rfl 3 (by decide) (hts _ w447) (fun _ h9 => h9) rfl dM_report_6 ?_
  refine lv_iload_n hx hb dM_report_9 rfl (lv_at hl 1 rfl) ?_
  refine rf_ldI hx hb hK hP 3 (j := j) (by decide) (by decide) rfl hj rfl dM_report_10 ?_
  refine rf_stI hx hb hK hP (mw_DA hJ) hS 9 (j := j) (by decide) (by decide) rfl hj rfl dM_report_11 (fun H locs hP hS => ?_)
  obtain ⟨g1, eg1⟩ : ∃ y9 : ht_G, y9 = ht_up g 9 j (g 3 j) := ⟨_, rfl⟩
  rw [← eg1] at hP
  refine lv_aload_n hx hb dM_report_12 rfl (lv_at hl 0 rfl) ?_
  refine va_get (D := D) (ci := 2) (C := RM) (T := TM) (N := 19) (v := .ref (q 10)) hx hb hts inM hown hK hP 0 rf_at0 rfl 10 (by decide) (hts _ w454) (fun _ h9 => h9) rfl dM_report_13 ?_
  refine lv_iload_n hx hb dM_report_16 rfl (lv_at hl 1 rfl) ?_
  refine lv_aload_n hx hb dM_report_17 rfl (lv_at hl 0 rfl) ?_
  refine lv_iload_n hx hb dM_report_18 rfl (lv_at hl 1 rfl) ?_
  refine vp_callSi (va_Run.run (va_runV (As := [.int (nI j)]) (rest := [.int (nI j), .ref (q 10)]) ⟨hx, hb, hml, hown, hts⟩ (xM_last l D cB q g1 j hj) (cwV 1 hts (ht_gV w522 w524 s34 w3 w525) rfl rfl rfl (by decide +kernel) ⟨Nat.le_of_ble_eq_true rfl, Nat.le_of_ble_eq_true rfl⟩) ⟨rf_bl, va_recv hK hP (ci := 2) (q0 := 0) rfl rf_at0, fun U hU hW => ⟨rfl, rf_Im hP hK hN hU hW⟩⟩ rfl rfl hl.1 rfl (lv_room (Nat.le_of_ble_eq_true rfl)) dM_report_19 ⟨Nat.zero_le _, Nat.zero_le _⟩)) (fun r2 hr2 => ?_)
  subst hr2
  refine rf_stI hx hb hK hP (mw_DA hJ) hS 10 (j := j) (by decide) (by decide) rfl hj rfl dM_report_22 (fun H locs hP hS => ?_)
  obtain ⟨g3, eg3⟩ : ∃ y9 : ht_G, y9 = ht_up g1 10 j (rf_last g1 j) := ⟨_, rfl⟩
  rw [← eg3] at hP
  refine lv_aload_n hx hb dM_report_23 rfl (lv_at hl 0 rfl) ?_
  refine va_get (D := D) (ci := 2) (C := RM) (T := TM) (N := 19) (v := .ref (q 11)) hx hb hts inM hown hK hP 0 rf_at0 rfl 11 (by decide) (hts _ w455) (fun _ h9 => h9) rfl dM_report_24 ?_
  refine lv_iload_n hx hb dM_report_27 rfl (lv_at hl 1 rfl) ?_
  refine lv_aload_n hx hb dM_report_28 rfl (lv_at hl 0 rfl) ?_
  refine va_get (D := D) (ci := 2) (C := RM) (T := TM) (N := 19) (v := .ref (q 8)) hx hb hts inM hown hK hP 0 rf_at0 rfl 8 (by decide) (hts _ w452) (fun _ h9 => h9) rfl dM_report_29 ?_
  refine lv_iload_n hx hb dM_report_32 rfl (lv_at hl 1 rfl) ?_
  refine rf_ldZ hx hb hK hP 8 (j := j) (by decide) (by decide) rfl hj rfl dM_report_33 ?_
  refine rf_stZ hx hb hK hP (mw_DA hJ) hS 11 (j := j) (by decide) (by decide) rfl (by simpa [ht_up, eg1, eg3] using hw) hj rfl dM_report_34 (fun H locs hP hS => ?_)
  obtain ⟨g4, eg4⟩ : ∃ y9 : ht_G, y9 = ht_up g3 11 j (g3 8 j) := ⟨_, rfl⟩
  rw [← eg4] at hP
  refine lv_aload_n hx hb dM_report_35 rfl (lv_at hl 0 rfl) ?_
  refine va_get (D := D) (ci := 2) (C := RM) (T := TM) (N := 19) (v := .ref (q 12)) hx hb hts inM hown hK hP 0 rf_at0 rfl 12 (by decide) (hts _ w456) (fun _ h9 => h9) rfl dM_report_36 ?_
  refine lv_iload_n hx hb dM_report_39 rfl (lv_at hl 1 rfl) ?_
  refine lv_iconst (v := 0) hx hb dM_report_40 (by decide) ?_
  refine rf_stI hx hb hK hP (mw_DA hJ) hS 12 (j := j) (by decide) (by decide) rfl hj rfl dM_report_41 (fun H locs hP hS => ?_)
  obtain ⟨g5, eg5⟩ : ∃ y9 : ht_G, y9 = ht_up g4 12 j 0 := ⟨_, rfl⟩
  rw [← eg5] at hP
  have hG : g5 = rf_rep j g := by simp only [rf_rep, eg1, eg3, eg4, eg5]
  rw [hG] at hP
  exact W.vret hx hb hr (fun t ht hW => ⟨⟨(), rfl, trivial, rf_Im hP hK hN ht hW⟩, hS.F ht⟩) hS.2.2 dM_report_42
