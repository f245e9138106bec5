theorem ht_first {s : Nat} (hs : s < 12) : nI s - (nI s - nI s / 3 * 3) = nI (s - s % 3) := by
  rw [show (3 : Int32) = nI 3 from rfl, pk_rem (by omega) (by omega) (by omega), pk_sub (Nat.mod_le _ _)]
theorem ht_lastS (s : Nat) : nI (s - s % 3) + 3 - 1 = nI (s - s % 3 + 2) := by
  rw [show (3 : Int32) = nI 3 from rfl, show (1 : Int32) = nI 1 from rfl, nI_add, pk_sub (by omega), show s - s % 3 + 3 - 1 = s - s % 3 + 2 by omega]
set_option maxHeartbeats 4000000 in
set_option maxRecDepth 100000 in
theorem xH_trainsThatCame (l : Launch) (D : va_G) (cA : ClassId × ClassId) (q : Nat → Nat) (g : ht_G) (k : Nat) (hk : k ≤ 8) (hn : g 0 0 = nI k) : Met l yH_trainsThatCame kH_trainsThatCame ({ frames := 0, cells := 0, slots := 0, locals := 0 }) (va_Pc [.ref (q 0)] (ht_I D cA q g)) (vp_Si (fun r => r = nI (ht_trains g k))) 0 0 (fun _ => False) := by
  refine Met.ofW (cc := cH_trainsThatCame) (maxL := 3) (ret := (some .int)) (by decide) rfl ?_
  intro p e s m args below meth c s₁ B hml hv
  obtain ⟨rfl, hP, hK, hN⟩ := hv
  have hx := B.exec
  have hb := B.bytes
  have hr := B.returns
  have hts := fun w h => atoms_spec (ws := kH_trainsThatCame) B.pre w (List.mem_cons_of_mem _ h)
  have hown : s.vm.findClass RH = some m.cls := findClass_of_methodNamed B.named
  have hlocks := B.notSynchronized
  have hl := lv_entry ([.ref (q 0)]) (n := 3) (Nat.le_of_ble_eq_true rfl)
  rw [lg_entry_eq]
  generalize (lg_sl ([.ref (q 0)]) ++ List.replicate (3 - (lg_sl ([.ref (q 0)])).length) Slot.unset).toArray = ls at hl ⊢
  have hl : lv_has ls 3 [(0, .ref (q 0))] := hl
  have K4 : ∀ (n9 : Nat), ∀ (j : Nat), (k + 1 ≤ j + n9) → (j ≤ k) → ∀ (ls : Array Slot), lv_has ls 3 [(0, .ref (q 0)), (1, .int (nI (ht_num (fun i => !decide (g (5 + i) 0 = 0)) j))), (2, .int (nI j))] → W p l e (headSpec kH_trainsThatCame ({ frames := 0, cells := 0, slots := 0, locals := 0 })).room s m [.ref (q 0)].toArray below meth c s.heap [] 0 0 (MQ below (vp_Si (fun r => r = nI (ht_trains g k))) [.ref (q 0)].toArray s 0 0 (fun _ => False)) (F0 m 4 ls []) := by
    intro n9
    induction n9 with
    | zero =>
      intro j hn9 hjk ls hl
      exact absurd hn9 (by omega)
    | succ n9 ih =>
      intro j hn9 hjk ls hl
      refine lv_iload_n hx hb dH_trainsThatCame_4 rfl (lv_at hl 2 rfl) ?_
      refine lv_aload_n hx hb dH_trainsThatCame_5 rfl (lv_at hl 0 rfl) ?_
      refine va_get (D := D) (ci := 1) (C := RH) (T := TH) (N := 7) (v := .int (g 0 0)) hx hb hts inH hown hK hP 0 ht_atO rfl 1 (by decide) (hts _ w78) (fun _ h9 => h9) rfl dH_trainsThatCame_6 ?_
      refine lv_icmp_ge (tgt := 33) hx hb dH_trainsThatCame_9 (by decide) (fun c1 => ?_) (fun c1 => ?_)
      · rw [hn] at c1
        have e9 : j = k := ht_end hk hjk c1
        refine lv_iload_n hx hb dH_trainsThatCame_33 rfl (lv_at hl 1 rfl) ?_
        exact W.iret (v := nI (ht_num (fun i => !decide (g (5 + i) 0 = 0)) j)) hx hb hr (fun t ht hW => ⟨nI (ht_num (fun i => !decide (g (5 + i) 0 = 0)) j), rfl, by rw [e9, ht_trains], ht⟩) (fun _ h => nomatch h) dH_trainsThatCame_34
      · rw [hn] at c1
        have hjl : j < k := ht_lt hk hjk c1
        have hj8 : j < 8 := Nat.lt_of_lt_of_le hjl hk
        refine lv_aload_n hx hb dH_trainsThatCame_12 rfl (lv_at hl 0 rfl) ?_
        refine va_get (D := D) (ci := 1) (C := RH) (T := TH) (N := 7) (v := .ref (q 1)) hx hb hts inH hown hK hP 0 ht_atO rfl 0 (by decide) (hts _ w77) (fun _ h9 => h9) rfl dH_trainsThatCame_13 ?_
        refine lv_iload_n hx hb dH_trainsThatCame_16 rfl (lv_at hl 2 rfl) ?_
        refine ht_ldV hx hb hK hP (j := j) hj8 rfl dH_trainsThatCame_17 ?_
        refine va_getN (D := D) (ci := 0) (C := RV) (T := TV) (N := 13) (v := .int (g (5 + j) 0)) hx hb hts inV hown hK hP (j + 6) (ht_atV hj8) rfl 0 (by decide) (hN.use 1 rfl rfl) (fun _ h9 => h9) rfl dH_trainsThatCame_18 ?_
        refine lv_if_eq (tgt := 27) hx hb dH_trainsThatCame_21 (by decide) (fun c2 => ?_) (fun c2 => ?_)
        · refine lv_iinc (v := nI (j + 1)) (lv' := [(2, .int (nI (j + 1))), (0, .ref (q 0)), (1, .int (nI (ht_num (fun i => !decide (g (5 + i) 0 = 0)) j)))]) hx hb dH_trainsThatCame_27 hl (k := 2) rfl (nI_1 _) (by decide) rfl (fun ls hl => ?_)
          refine lv_goto (tgt := 4) hx hb dH_trainsThatCame_30 (by decide) ?_
          have e8 : ht_num (fun i => !decide (g (5 + i) 0 = 0)) (j + 1) = ht_num (fun i => !decide (g (5 + i) 0 = 0)) j := by simp [ht_num, c2]
          rw [← e8] at hl
          exact ih (j + 1) (by omega) (by omega) ls (lv_sub hl [1, 2, 0] rfl)
        · refine lv_iinc (v := nI (ht_num (fun i => !decide (g (5 + i) 0 = 0)) j + 1)) (lv' := [(1, .int (nI (ht_num (fun i => !decide (g (5 + i) 0 = 0)) j + 1))), (0, .ref (q 0)), (2, .int (nI j))]) hx hb dH_trainsThatCame_24 hl (k := 1) rfl (nI_1 _) (by decide) rfl (fun ls hl => ?_)
          refine lv_iinc (v := nI (j + 1)) (lv' := [(2, .int (nI (j + 1))), (1, .int (nI (ht_num (fun i => !decide (g (5 + i) 0 = 0)) j + 1))), (0, .ref (q 0))]) hx hb dH_trainsThatCame_27 hl (k := 2) rfl (nI_1 _) (by decide) rfl (fun ls hl => ?_)
          refine lv_goto (tgt := 4) hx hb dH_trainsThatCame_30 (by decide) ?_
          have e8 : ht_num (fun i => !decide (g (5 + i) 0 = 0)) (j + 1) = ht_num (fun i => !decide (g (5 + i) 0 = 0)) j + 1 := by simp [ht_num, c2]
          rw [← e8] at hl
          exact ih (j + 1) (by omega) (by omega) ls (lv_sub hl [2, 1, 0] rfl)
  refine lv_iconst (v := 0) hx hb dH_trainsThatCame_0 (by decide) ?_
  refine lv_istore_n (lv' := [(1, .int 0), (0, .ref (q 0))]) hx hb dH_trainsThatCame_1 rfl hl (by decide) rfl (fun ls hl => ?_)
  refine lv_iconst (v := 0) hx hb dH_trainsThatCame_2 (by decide) ?_
  refine lv_istore_n (lv' := [(2, .int 0), (1, .int 0), (0, .ref (q 0))]) hx hb dH_trainsThatCame_3 rfl hl (by decide) rfl (fun ls hl => ?_)
  exact K4 (k + 1) 0 (by omega) (by omega) ls (lv_sub hl [2, 1, 0] rfl)
set_option maxHeartbeats 4000000 in
set_option maxRecDepth 100000 in
theorem xH_sectionsInState (l : Launch) (D : va_G) (cA : ClassId × ClassId) (q : Nat → Nat) (g : ht_G) (k : Nat) (hk : k ≤ 8) (hn : g 0 0 = nI k) (x : Int32) : Met l yH_sectionsInState kH_sectionsInState ({ frames := 0, cells := 0, slots := 0, locals := 0 }) (va_Pc [.ref (q 0), .int x] (ht_I D cA q g)) (vp_Si (fun r => r = nI (ht_in g x))) 0 0 (fun _ => False) := by
  refine Met.ofW (cc := cH_sectionsInState) (maxL := 4) (ret := (some .int)) (by decide) rfl ?_
  intro p e s m args below meth c s₁ B hml hv
  obtain ⟨rfl, hP, hK, hN⟩ := hv
  have hx := B.exec
  have hb := B.bytes
  have hr := B.returns
  have hts := fun w h => atoms_spec (ws := kH_sectionsInState) B.pre w (List.mem_cons_of_mem _ h)
  have hown : s.vm.findClass RH = some m.cls := findClass_of_methodNamed B.named
  have hlocks := B.notSynchronized
  have hl := lv_entry ([.ref (q 0), .int x]) (n := 4) (Nat.le_of_ble_eq_true rfl)
  rw [lg_entry_eq]
  generalize (lg_sl ([.ref (q 0), .int x]) ++ List.replicate (4 - (lg_sl ([.ref (q 0), .int x])).length) Slot.unset).toArray = ls at hl ⊢
  have hl : lv_has ls 4 [(0, .ref (q 0)), (1, .int x)] := hl
  have K4 : ∀ (n9 : Nat), ∀ (j : Nat), (12 + 1 ≤ j + n9) → (j ≤ 12) → ∀ (ls : Array Slot), lv_has ls 4 [(0, .ref (q 0)), (1, .int x), (2, .int (nI (ht_num (fun s => decide (g 1 s = x)) j))), (3, .int (nI j))] → W p l e (headSpec kH_sectionsInState ({ frames := 0, cells := 0, slots := 0, locals := 0 })).room s m [.ref (q 0), .int x].toArray below meth c s.heap [] 0 0 (MQ below (vp_Si (fun r => r = nI (ht_in g x))) [.ref (q 0), .int x].toArray s 0 0 (fun _ => False)) (F0 m 4 ls []) := by
    intro n9
    induction n9 with
    | zero =>
      intro j hn9 hjk ls hl
      exact absurd hn9 (by omega)
    | succ n9 ih =>
      intro j hn9 hjk ls hl
      refine lv_iload_n hx hb dH_sectionsInState_4 rfl (lv_at hl 3 rfl) ?_
      refine lv_bipush (v := 12) hx hb dH_sectionsInState_5 (by decide) ?_
      refine lv_icmp_ge (tgt := 29) hx hb dH_sectionsInState_7 (by decide) (fun c1 => ?_) (fun c1 => ?_)
      · have e9 : j = 12 := ht_end12 hjk c1
        refine lv_iload_n hx hb dH_sectionsInState_29 rfl (lv_at hl 2 rfl) ?_
        exact W.iret (v := nI (ht_num (fun s => decide (g 1 s = x)) j)) hx hb hr (fun t ht hW => ⟨nI (ht_num (fun s => decide (g 1 s = x)) j), rfl, by rw [e9, ht_in], ht⟩) (fun _ h => nomatch h) dH_sectionsInState_30
      · have hjl : j < 12 := ht_lt12 hjk c1
        refine lv_aload_n hx hb dH_sectionsInState_10 rfl (lv_at hl 0 rfl) ?_
        refine va_get (D := D) (ci := 1) (C := RH) (T := TH) (N := 7) (v := .ref (q 2)) hx hb hts inH hown hK hP 0 ht_atO rfl 3 (by decide) (hts _ w80) (fun _ h9 => h9) rfl dH_sectionsInState_11 ?_
        refine lv_iload_n hx hb dH_sectionsInState_14 rfl (lv_at hl 3 rfl) ?_
        refine ht_ldI hx hb hK hP 1 (j := j) (by decide) (by decide) hjl rfl dH_sectionsInState_15 ?_
        refine lv_iload_n hx hb dH_sectionsInState_16 rfl (lv_at hl 1 rfl) ?_
        refine lv_icmp_ne (tgt := 23) hx hb dH_sectionsInState_17 (by decide) (fun c2 => ?_) (fun c2 => ?_)
        · refine lv_iinc (v := nI (j + 1)) (lv' := [(3, .int (nI (j + 1))), (0, .ref (q 0)), (1, .int x), (2, .int (nI (ht_num (fun s => decide (g 1 s = x)) j)))]) hx hb dH_sectionsInState_23 hl (k := 3) rfl (nI_1 _) (by decide) rfl (fun ls hl => ?_)
          refine lv_goto (tgt := 4) hx hb dH_sectionsInState_26 (by decide) ?_
          have e8 : ht_num (fun s => decide (g 1 s = x)) (j + 1) = ht_num (fun s => decide (g 1 s = x)) j := by simp [ht_num, c2]
          rw [← e8] at hl
          exact ih (j + 1) (by omega) (by omega) ls (lv_sub hl [1, 2, 3, 0] rfl)
        · refine lv_iinc (v := nI (ht_num (fun s => decide (g 1 s = x)) j + 1)) (lv' := [(2, .int (nI (ht_num (fun s => decide (g 1 s = x)) j + 1))), (0, .ref (q 0)), (1, .int x), (3, .int (nI j))]) hx hb dH_sectionsInState_20 hl (k := 2) rfl (nI_1 _) (by decide) rfl (fun ls hl => ?_)
          refine lv_iinc (v := nI (j + 1)) (lv' := [(3, .int (nI (j + 1))), (2, .int (nI (ht_num (fun s => decide (g 1 s = x)) j + 1))), (0, .ref (q 0)), (1, .int x)]) hx hb dH_sectionsInState_23 hl (k := 3) rfl (nI_1 _) (by decide) rfl (fun ls hl => ?_)
          refine lv_goto (tgt := 4) hx hb dH_sectionsInState_26 (by decide) ?_
          have e8 : ht_num (fun s => decide (g 1 s = x)) (j + 1) = ht_num (fun s => decide (g 1 s = x)) j + 1 := by simp [ht_num, c2]
          rw [← e8] at hl
          exact ih (j + 1) (by omega) (by omega) ls (lv_sub hl [2, 3, 1, 0] rfl)
  refine lv_iconst (v := 0) hx hb dH_sectionsInState_0 (by decide) ?_
  refine lv_istore_n (lv' := [(2, .int 0), (0, .ref (q 0)), (1, .int x)]) hx hb dH_sectionsInState_1 rfl hl (by decide) rfl (fun ls hl => ?_)
  refine lv_iconst (v := 0) hx hb dH_sectionsInState_2 (by decide) ?_
  refine lv_istore_n (lv' := [(3, .int 0), (2, .int 0), (0, .ref (q 0)), (1, .int x)]) hx hb dH_sectionsInState_3 rfl hl (by decide) rfl (fun ls hl => ?_)
  exact K4 (12 + 1) 0 (by omega) (by omega) ls (lv_sub hl [2, 3, 1, 0] rfl)
set_option maxHeartbeats 4000000 in
set_option maxRecDepth 100000 in
theorem xH_sectionsWronglyFree (l : Launch) (D : va_G) (cA : ClassId × ClassId) (q : Nat → Nat) (g : ht_G) (k : Nat) (hk : k ≤ 8) (hn : g 0 0 = nI k) : Met l yH_sectionsWronglyFree kH_sectionsWronglyFree ({ frames := 4, cells := 0, slots := 0, locals := 87 }) (va_Pc [.ref (q 0)] (ht_I D cA q g)) (vp_Si (fun r => r = nI (ht_wrong g k))) 0 0 (fun _ => False) := by
  refine Met.ofW (cc := cH_sectionsWronglyFree) (maxL := 3) (ret := (some .int)) (by decide) rfl ?_
  intro p e s m args below meth c s₁ B hml hv
  obtain ⟨rfl, hP, hK, hN⟩ := hv
  have hx := B.exec
  have hb := B.bytes
  have hr := B.returns
  have hts := fun w h => atoms_spec (ws := kH_sectionsWronglyFree) B.pre w (List.mem_cons_of_mem _ h)
  have hown : s.vm.findClass RH = some m.cls := findClass_of_methodNamed B.named
  have hlocks := B.notSynchronized
  have hl := lv_entry ([.ref (q 0)]) (n := 3) (Nat.le_of_ble_eq_true rfl)
  rw [lg_entry_eq]
  generalize (lg_sl ([.ref (q 0)]) ++ List.replicate (3 - (lg_sl ([.ref (q 0)])).length) Slot.unset).toArray = ls at hl ⊢
  have hl : lv_has ls 3 [(0, .ref (q 0))] := hl
  have K4 : ∀ (n9 : Nat), ∀ (j : Nat), (12 + 1 ≤ j + n9) → (j ≤ 12) → ∀ (ls : Array Slot), lv_has ls 3 [(0, .ref (q 0)), (1, .int (nI (ht_num (fun s => decide (g 1 s = 0) && (!ht_claimed g k (nI s) (nI s) (-1) && ht_sec g k (nI s))) j))), (2, .int (nI j))] → W p l e (headSpec kH_sectionsWronglyFree ({ frames := 4, cells := 0, slots := 0, locals := 87 })).room s m [.ref (q 0)].toArray below meth c s.heap [] 0 0 (MQ below (vp_Si (fun r => r = nI (ht_wrong g k))) [.ref (q 0)].toArray s 0 0 (fun _ => False)) (F0 m 4 ls []) := by
    intro n9
    induction n9 with
    | zero =>
      intro j hn9 hjk ls hl
      exact absurd hn9 (by omega)
    | succ n9 ih =>
      intro j hn9 hjk ls hl
      refine lv_iload_n hx hb dH_sectionsWronglyFree_4 rfl (lv_at hl 2 rfl) ?_
      refine lv_bipush (v := 12) hx hb dH_sectionsWronglyFree_5 (by decide) ?_
      refine lv_icmp_ge (tgt := 46) hx hb dH_sectionsWronglyFree_7 (by decide) (fun c1 => ?_) (fun c1 => ?_)
      · have e9 : j = 12 := ht_end12 hjk c1
        refine lv_iload_n hx hb dH_sectionsWronglyFree_46 rfl (lv_at hl 1 rfl) ?_
        exact W.iret (v := nI (ht_num (fun s => decide (g 1 s = 0) && (!ht_claimed g k (nI s) (nI s) (-1) && ht_sec g k (nI s))) j)) hx hb hr (fun t ht hW => ⟨nI (ht_num (fun s => decide (g 1 s = 0) && (!ht_claimed g k (nI s) (nI s) (-1) && ht_sec g k (nI s))) j), rfl, by rw [e9, ht_wrong], ht⟩) (fun _ h => nomatch h) dH_sectionsWronglyFree_47
      · have hjl : j < 12 := ht_lt12 hjk c1
        refine lv_aload_n hx hb dH_sectionsWronglyFree_10 rfl (lv_at hl 0 rfl) ?_
        refine va_get (D := D) (ci := 1) (C := RH) (T := TH) (N := 7) (v := .ref (q 2)) hx hb hts inH hown hK hP 0 ht_atO rfl 3 (by decide) (hts _ w80) (fun _ h9 => h9) rfl dH_sectionsWronglyFree_11 ?_
        refine lv_iload_n hx hb dH_sectionsWronglyFree_14 rfl (lv_at hl 2 rfl) ?_
        refine ht_ldI hx hb hK hP 1 (j := j) (by decide) (by decide) hjl rfl dH_sectionsWronglyFree_15 ?_
        refine lv_if_ne (tgt := 40) hx hb dH_sectionsWronglyFree_16 (by decide) (fun c2 => ?_) (fun c2 => ?_)
        · refine lv_iinc (v := nI (j + 1)) (lv' := [(2, .int (nI (j + 1))), (0, .ref (q 0)), (1, .int (nI (ht_num (fun s => decide (g 1 s = 0) && (!ht_claimed g k (nI s) (nI s) (-1) && ht_sec g k (nI s))) j)))]) hx hb dH_sectionsWronglyFree_40 hl (k := 2) rfl (nI_1 _) (by decide) rfl (fun ls hl => ?_)
          refine lv_goto (tgt := 4) hx hb dH_sectionsWronglyFree_43 (by decide) ?_
          have e8 : ht_num (fun s => decide (g 1 s = 0) && (!ht_claimed g k (nI s) (nI s) (-1) && ht_sec g k (nI s))) (j + 1) = ht_num (fun s => decide (g 1 s = 0) && (!ht_claimed g k (nI s) (nI s) (-1) && ht_sec g k (nI s))) j := by simp [ht_num, c2]
          rw [← e8] at hl
          exact ih (j + 1) (by omega) (by omega) ls (lv_sub hl [1, 2, 0] rfl)
        · refine lv_aload_n hx hb dH_sectionsWronglyFree_19 rfl (lv_at hl 0 rfl) ?_
          refine lv_iload_n hx hb dH_sectionsWronglyFree_20 rfl (lv_at hl 2 rfl) ?_
          refine lv_iload_n hx hb dH_sectionsWronglyFree_21 rfl (lv_at hl 2 rfl) ?_
          refine lv_iconst (v := (-1)) hx hb dH_sectionsWronglyFree_22 (by decide) ?_
          refine vp_callSi (va_Run.run (va_runV (As := [.int (nI j), .int (nI j), .int (-1 : Int32)]) (rest := []) ⟨hx, hb, hml, hown, hts⟩ (xH_isAnyClaimed l D cA q g k hk hn (nI j) (nI j) (-1 : Int32)) (cwV 3 hts (ht_gV w209 w211 s4 w1 w212) rfl rfl rfl (by decide +kernel) ⟨Nat.le_of_ble_eq_true rfl, Nat.le_of_ble_eq_true rfl⟩) ⟨ht_bl, va_recv hK hP (ci := 1) (q0 := 0) rfl ht_atO, fun U hU hW => ⟨rfl, ht_Im hP hK hN hU hW⟩⟩ rfl rfl hl.1 rfl (lv_room (Nat.le_of_ble_eq_true rfl)) dH_sectionsWronglyFree_23 ⟨Nat.zero_le _, Nat.zero_le _⟩)) (fun r3 hr3 => ?_)
          subst hr3
          refine lv_if_ne (tgt := 40) hx hb dH_sectionsWronglyFree_26 (by decide) (fun c4 => ?_) (fun c4 => ?_)
          · replace c4 := ht_b1.mp c4
            refine lv_iinc (v := nI (j + 1)) (lv' := [(2, .int (nI (j + 1))), (0, .ref (q 0)), (1, .int (nI (ht_num (fun s => decide (g 1 s = 0) && (!ht_claimed g k (nI s) (nI s) (-1) && ht_sec g k (nI s))) j)))]) hx hb dH_sectionsWronglyFree_40 hl (k := 2) rfl (nI_1 _) (by decide) rfl (fun ls hl => ?_)
            refine lv_goto (tgt := 4) hx hb dH_sectionsWronglyFree_43 (by decide) ?_
            have e8 : ht_num (fun s => decide (g 1 s = 0) && (!ht_claimed g k (nI s) (nI s) (-1) && ht_sec g k (nI s))) (j + 1) = ht_num (fun s => decide (g 1 s = 0) && (!ht_claimed g k (nI s) (nI s) (-1) && ht_sec g k (nI s))) j := by simp [ht_num, c2, c4]
            rw [← e8] at hl
            exact ih (j + 1) (by omega) (by omega) ls (lv_sub hl [1, 2, 0] rfl)
          · replace c4 := ht_b0.mp c4
            refine lv_aload_n hx hb dH_sectionsWronglyFree_29 rfl (lv_at hl 0 rfl) ?_
            refine lv_iload_n hx hb dH_sectionsWronglyFree_30 rfl (lv_at hl 2 rfl) ?_
            refine vp_callSi (va_Run.run (va_runV (As := [.int (nI j)]) (rest := []) ⟨hx, hb, hml, hown, hts⟩ (xH_isSectionStoodOn l D cA q g k hk hn (nI j)) (cwV 1 hts (ht_gV w433 w435 s31 w1 w436) rfl rfl rfl (by decide +kernel) ⟨Nat.le_of_ble_eq_true rfl, Nat.le_of_ble_eq_true rfl⟩) ⟨ht_bl, va_recv hK hP (ci := 1) (q0 := 0) rfl ht_atO, fun U hU hW => ⟨rfl, ht_Im hP hK hN hU hW⟩⟩ rfl rfl hl.1 rfl (lv_room (Nat.le_of_ble_eq_true rfl)) dH_sectionsWronglyFree_31 ⟨Nat.zero_le _, Nat.zero_le _⟩)) (fun r5 hr5 => ?_)
            subst hr5
            refine lv_if_eq (tgt := 40) hx hb dH_sectionsWronglyFree_34 (by decide) (fun c6 => ?_) (fun c6 => ?_)
            · replace c6 := ht_b0.mp c6
              refine lv_iinc (v := nI (j + 1)) (lv' := [(2, .int (nI (j + 1))), (0, .ref (q 0)), (1, .int (nI (ht_num (fun s => decide (g 1 s = 0) && (!ht_claimed g k (nI s) (nI s) (-1) && ht_sec g k (nI s))) j)))]) hx hb dH_sectionsWronglyFree_40 hl (k := 2) rfl (nI_1 _) (by decide) rfl (fun ls hl => ?_)
              refine lv_goto (tgt := 4) hx hb dH_sectionsWronglyFree_43 (by decide) ?_
              have e8 : ht_num (fun s => decide (g 1 s = 0) && (!ht_claimed g k (nI s) (nI s) (-1) && ht_sec g k (nI s))) (j + 1) = ht_num (fun s => decide (g 1 s = 0) && (!ht_claimed g k (nI s) (nI s) (-1) && ht_sec g k (nI s))) j := by simp [ht_num, c2, c4, c6]
              rw [← e8] at hl
              exact ih (j + 1) (by omega) (by omega) ls (lv_sub hl [1, 2, 0] rfl)
            · replace c6 := ht_b1.mp c6
              refine lv_iinc (v := nI (ht_num (fun s => decide (g 1 s = 0) && (!ht_claimed g k (nI s) (nI s) (-1) && ht_sec g k (nI s))) j + 1)) (lv' := [(1, .int (nI (ht_num (fun s => decide (g 1 s = 0) && (!ht_claimed g k (nI s) (nI s) (-1) && ht_sec g k (nI s))) j + 1))), (0, .ref (q 0)), (2, .int (nI j))]) hx hb dH_sectionsWronglyFree_37 hl (k := 1) rfl (nI_1 _) (by decide) rfl (fun ls hl => ?_)
              refine lv_iinc (v := nI (j + 1)) (lv' := [(2, .int (nI (j + 1))), (1, .int (nI (ht_num (fun s => decide (g 1 s = 0) && (!ht_claimed g k (nI s) (nI s) (-1) && ht_sec g k (nI s))) j + 1))), (0, .ref (q 0))]) hx hb dH_sectionsWronglyFree_40 hl (k := 2) rfl (nI_1 _) (by decide) rfl (fun ls hl => ?_)
              refine lv_goto (tgt := 4) hx hb dH_sectionsWronglyFree_43 (by decide) ?_
              have e8 : ht_num (fun s => decide (g 1 s = 0) && (!ht_claimed g k (nI s) (nI s) (-1) && ht_sec g k (nI s))) (j + 1) = ht_num (fun s => decide (g 1 s = 0) && (!ht_claimed g k (nI s) (nI s) (-1) && ht_sec g k (nI s))) j + 1 := by simp [ht_num, c2, c4, c6]
              rw [← e8] at hl
              exact ih (j + 1) (by omega) (by omega) ls (lv_sub hl [2, 1, 0] rfl)
  refine lv_iconst (v := 0) hx hb dH_sectionsWronglyFree_0 (by decide) ?_
  refine lv_istore_n (lv' := [(1, .int 0), (0, .ref (q 0))]) hx hb dH_sectionsWronglyFree_1 rfl hl (by decide) rfl (fun ls hl => ?_)
  refine lv_iconst (v := 0) hx hb dH_sectionsWronglyFree_2 (by decide) ?_
  refine lv_istore_n (lv' := [(2, .int 0), (1, .int 0), (0, .ref (q 0))]) hx hb dH_sectionsWronglyFree_3 rfl hl (by decide) rfl (fun ls hl => ?_)
  exact K4 (12 + 1) 0 (by omega) (by omega) ls (lv_sub hl [2, 1, 0] rfl)
set_option maxHeartbeats 4000000 in
set_option maxRecDepth 100000 in
theorem xH_farthestFreeFrom (l : Launch) (D : va_G) (cA : ClassId × ClassId) (q : Nat → Nat) (g : ht_G) (k : Nat) (hk : k ≤ 8) (hn : g 0 0 = nI k) (s0 : Nat) (hs : s0 < 12) (t : Int32) : Met l yH_farthestFreeFrom kH_farthestFreeFrom ({ frames := 2, cells := 0, slots := 0, locals := 46 }) (va_Pc [.ref (q 0), .int (nI s0), .int t] (ht_I D cA q g)) (vp_Si (fun r => r = nI (ht_far g k t (11 - s0) s0))) 0 0 (fun _ => False) := by
  refine Met.ofW (cc := cH_farthestFreeFrom) (maxL := 5) (ret := (some .int)) (by decide) rfl ?_
  intro p e s m args below meth c s₁ B hml hv
  obtain ⟨rfl, hP, hK, hN⟩ := hv
  have hx := B.exec
  have hb := B.bytes
  have hr := B.returns
  have hts := fun w h => atoms_spec (ws := kH_farthestFreeFrom) B.pre w (List.mem_cons_of_mem _ h)
  have hown : s.vm.findClass RH = some m.cls := findClass_of_methodNamed B.named
  have hlocks := B.notSynchronized
  have hl := lv_entry ([.ref (q 0), .int (nI s0), .int t]) (n := 5) (Nat.le_of_ble_eq_true rfl)
  rw [lg_entry_eq]
  generalize (lg_sl ([.ref (q 0), .int (nI s0), .int t]) ++ List.replicate (5 - (lg_sl ([.ref (q 0), .int (nI s0), .int t])).length) Slot.unset).toArray = ls at hl ⊢
  have hl : lv_has ls 5 [(0, .ref (q 0)), (1, .int (nI s0)), (2, .int t)] := hl
  have K7 : ∀ (n9 : Nat), ∀ (f : Nat), (13 ≤ f + n9) → (f < 12) → (ht_far g k t (11 - f) f = ht_far g k t (11 - s0) s0) → ∀ (ls : Array Slot), lv_has ls 5 [(0, .ref (q 0)), (2, .int t), (3, .int (nI f)), (4, .int (nI (f + 1)))] → W p l e (headSpec kH_farthestFreeFrom ({ frames := 2, cells := 0, slots := 0, locals := 46 })).room s m [.ref (q 0), .int (nI s0), .int t].toArray below meth c s.heap [] 0 0 (MQ below (vp_Si (fun r => r = nI (ht_far g k t (11 - s0) s0))) [.ref (q 0), .int (nI s0), .int t].toArray s 0 0 (fun _ => False)) (F0 m 7 ls []) := by
    intro n9
    induction n9 with
    | zero =>
      intro f hn9 hf hF ls hl
      exact absurd hn9 (by omega)
    | succ n9 ih =>
      intro f hn9 hf hF ls hl
      refine lv_iload hx hb dH_farthestFreeFrom_7 (lv_at hl 3 rfl) ?_
      refine lv_bipush (v := 12) hx hb dH_farthestFreeFrom_9 (by decide) ?_
      refine lv_icmp_ge (tgt := 48) hx hb dH_farthestFreeFrom_11 (by decide) (fun c1 => ?_) (fun c1 => ?_)
      · have e9 : f + 1 = 12 := ht_end12 (by omega) c1
        refine lv_iload_n hx hb dH_farthestFreeFrom_48 rfl (lv_at hl 2 rfl) ?_
        exact W.iret (v := nI f) hx hb hr (fun t ht hW => ⟨nI f, rfl, by rw [← hF, show f = 11 by omega]; rfl, ht⟩) (fun _ h => nomatch h) dH_farthestFreeFrom_49
      · have hjl : f + 1 < 12 := ht_lt12 (by omega) c1
        refine lv_aload_n hx hb dH_farthestFreeFrom_14 rfl (lv_at hl 0 rfl) ?_
        refine va_get (D := D) (ci := 1) (C := RH) (T := TH) (N := 7) (v := .ref (q 2)) hx hb hts inH hown hK hP 0 ht_atO rfl 3 (by decide) (hts _ w80) (fun _ h9 => h9) rfl dH_farthestFreeFrom_15 ?_
        refine lv_iload hx hb dH_farthestFreeFrom_18 (lv_at hl 3 rfl) ?_
        refine ht_ldI hx hb hK hP 1 (j := f + 1) (by decide) (by decide) hjl rfl dH_farthestFreeFrom_20 ?_
        refine lv_if_ne (tgt := 48) hx hb dH_farthestFreeFrom_21 (by decide) (fun c2 => ?_) (fun c2 => ?_)
        · refine lv_iload_n hx hb dH_farthestFreeFrom_48 rfl (lv_at hl 2 rfl) ?_
          exact W.iret (v := nI f) hx hb hr (fun t ht hW => ⟨nI f, rfl, by rw [← hF, show 11 - f = (11 - (f + 1)) + 1 by omega, ht_far, if_neg (by simp [c2])], ht⟩) (fun _ h => nomatch h) dH_farthestFreeFrom_49
        · refine lv_aload_n hx hb dH_farthestFreeFrom_24 rfl (lv_at hl 0 rfl) ?_
          refine lv_iload hx hb dH_farthestFreeFrom_25 (lv_at hl 3 rfl) ?_
          refine lv_iload hx hb dH_farthestFreeFrom_27 (lv_at hl 3 rfl) ?_
          refine lv_iload_n hx hb dH_farthestFreeFrom_29 rfl (lv_at hl 1 rfl) ?_
          refine vp_callSi (va_Run.run (va_runV (As := [.int (nI (f + 1)), .int (nI (f + 1)), .int t]) (rest := []) ⟨hx, hb, hml, hown, hts⟩ (xH_isAnyClaimed l D cA q g k hk hn (nI (f + 1)) (nI (f + 1)) t) (cwV 3 hts (ht_gV w209 w211 s4 w1 w212) rfl rfl rfl (by decide +kernel) ⟨Nat.le_of_ble_eq_true rfl, Nat.le_of_ble_eq_true rfl⟩) ⟨ht_bl, va_recv hK hP (ci := 1) (q0 := 0) rfl ht_atO, fun U hU hW => ⟨rfl, ht_Im hP hK hN hU hW⟩⟩ rfl rfl hl.1 rfl (lv_room (Nat.le_of_ble_eq_true rfl)) dH_farthestFreeFrom_30 ⟨Nat.zero_le _, Nat.zero_le _⟩)) (fun r3 hr3 => ?_)
          subst hr3
          refine lv_if_eq (tgt := 39) hx hb dH_farthestFreeFrom_33 (by decide) (fun c4 => ?_) (fun c4 => ?_)
          · replace c4 := ht_b0.mp c4
            refine lv_iload hx hb dH_farthestFreeFrom_39 (lv_at hl 3 rfl) ?_
            refine lv_istore_n (lv' := [(3, .int (nI (f + 1))), (0, .ref (q 0)), (2, .int t), (4, .int (nI (f + 1)))]) hx hb dH_farthestFreeFrom_41 rfl hl (by decide) rfl (fun ls hl => ?_)
            refine lv_iinc (v := nI (f + 1 + 1)) (lv' := [(4, .int (nI (f + 1 + 1))), (3, .int (nI (f + 1))), (0, .ref (q 0)), (2, .int t)]) hx hb dH_farthestFreeFrom_42 hl (k := 3) rfl (nI_1 _) (by decide) rfl (fun ls hl => ?_)
            refine lv_goto (tgt := 7) hx hb dH_farthestFreeFrom_45 (by decide) ?_
            exact ih (f + 1) (by omega) (by omega) (by rw [← hF, show 11 - f = (11 - (f + 1)) + 1 by omega, ht_far, if_pos ⟨c2, c4⟩]) ls (lv_sub hl [2, 3, 1, 0] rfl)
          · replace c4 := ht_b1.mp c4
            refine lv_goto (tgt := 48) hx hb dH_farthestFreeFrom_36 (by decide) ?_
            refine lv_iload_n hx hb dH_farthestFreeFrom_48 rfl (lv_at hl 2 rfl) ?_
            exact W.iret (v := nI f) hx hb hr (fun t ht hW => ⟨nI f, rfl, by rw [← hF, show 11 - f = (11 - (f + 1)) + 1 by omega, ht_far, if_neg (by simp [c2, c4])], ht⟩) (fun _ h => nomatch h) dH_farthestFreeFrom_49
  refine lv_iload_n hx hb dH_farthestFreeFrom_0 rfl (lv_at hl 1 rfl) ?_
  refine lv_istore_n (lv' := [(3, .int (nI s0)), (0, .ref (q 0)), (1, .int (nI s0)), (2, .int t)]) hx hb dH_farthestFreeFrom_1 rfl hl (by decide) rfl (fun ls hl => ?_)
  refine lv_iload_n hx hb dH_farthestFreeFrom_2 rfl (lv_at hl 2 rfl) ?_
  refine lv_iconst (v := 1) hx hb dH_farthestFreeFrom_3 (by decide) ?_
  refine lv_iadd hx hb dH_farthestFreeFrom_4 ?_
  rw [nI_1 s0]
  refine lv_istore (lv' := [(4, .int (nI (s0 + 1))), (3, .int (nI s0)), (0, .ref (q 0)), (1, .int (nI s0)), (2, .int t)]) hx hb dH_farthestFreeFrom_5 hl (by decide) rfl (fun ls hl => ?_)
  exact K7 13 s0 (by omega) hs rfl ls (lv_sub hl [2, 4, 1, 0] rfl)
set_option maxHeartbeats 4000000 in
set_option maxRecDepth 100000 in
theorem xH_isAnyTrainLocated (l : Launch) (D : va_G) (cA : ClassId × ClassId) (q : Nat → Nat) (g : ht_G) (a : Nat) (ha : a + 2 < 12) : Met l yH_isAnyTrainLocated kH_isAnyTrainLocated ({ frames := 0, cells := 0, slots := 0, locals := 0 }) (va_Pc [.ref (q 0), .int (nI a), .int (nI (a + 2))] (ht_I D cA q g)) (vp_Si (fun r => r = ht_b (ht_anyLoc g a 3))) 0 0 (fun _ => False) := by
  refine Met.ofW (cc := cH_isAnyTrainLocated) (maxL := 4) (ret := (some .boolean)) (by decide) rfl ?_
  intro p e s m args below meth c s₁ B hml hv
  obtain ⟨rfl, hP, hK, hN⟩ := hv
  have hx := B.exec
  have hb := B.bytes
  have hr := B.returns
  have hts := fun w h => atoms_spec (ws := kH_isAnyTrainLocated) B.pre w (List.mem_cons_of_mem _ h)
  have hown : s.vm.findClass RH = some m.cls := findClass_of_methodNamed B.named
  have hlocks := B.notSynchronized
  have hl := lv_entry ([.ref (q 0), .int (nI a), .int (nI (a + 2))]) (n := 4) (Nat.le_of_ble_eq_true rfl)
  rw [lg_entry_eq]
  generalize (lg_sl ([.ref (q 0), .int (nI a), .int (nI (a + 2))]) ++ List.replicate (4 - (lg_sl ([.ref (q 0), .int (nI a), .int (nI (a + 2))])).length) Slot.unset).toArray = ls at hl ⊢
  have hl : lv_has ls 4 [(0, .ref (q 0)), (1, .int (nI a)), (2, .int (nI (a + 2)))] := hl
  have K2 : ∀ (n9 : Nat), ∀ (u : Nat), (4 ≤ u + n9) → (u ≤ 3) → (ht_ex (fun i => decide (0 < g 2 (a + i))) u = false) → ∀ (ls : Array Slot), lv_has ls 4 [(0, .ref (q 0)), (2, .int (nI (a + 2))), (3, .int (nI (a + u)))] → W p l e (headSpec kH_isAnyTrainLocated ({ frames := 0, cells := 0, slots := 0, locals := 0 })).room s m [.ref (q 0), .int (nI a), .int (nI (a + 2))].toArray below meth c s.heap [] 0 0 (MQ below (vp_Si (fun r => r = ht_b (ht_anyLoc g a 3))) [.ref (q 0), .int (nI a), .int (nI (a + 2))].toArray s 0 0 (fun _ => False)) (F0 m 2 ls []) := by
    intro n9
    induction n9 with
    | zero =>
      intro u hn9 ht3 hE ls hl
      exact absurd hn9 (by omega)
    | succ n9 ih =>
      intro u hn9 ht3 hE ls hl
      refine lv_iload_n hx hb dH_isAnyTrainLocated_2 rfl (lv_at hl 2 rfl) ?_
      refine lv_iload_n hx hb dH_isAnyTrainLocated_3 rfl (lv_at hl 1 rfl) ?_
      refine lv_icmp_gt (tgt := 24) hx hb dH_isAnyTrainLocated_4 (by decide) (fun c1 => ?_) (fun c1 => ?_)
      · have e9 : u = 3 := by have h9 := (nI_ltI (by omega) (by omega)).mp c1; omega
        refine lv_iconst (v := 0) hx hb dH_isAnyTrainLocated_24 (by decide) ?_
        exact W.zret (v := 0) (ty := .boolean) hx hb hr rfl (fun t ht hW => ⟨0, rfl, by rw [e9] at hE; simp [ht_anyLoc, ht_b, hE], ht⟩) (fun _ h => nomatch h) dH_isAnyTrainLocated_25
      · have h2 : u < 3 := by have h9 := mt (nI_ltI (a := a + 2) (b := a + u) (by omega) (by omega)).mpr c1; omega
        refine lv_aload_n hx hb dH_isAnyTrainLocated_7 rfl (lv_at hl 0 rfl) ?_
        refine va_get (D := D) (ci := 1) (C := RH) (T := TH) (N := 7) (v := .ref (q 3)) hx hb hts inH hown hK hP 0 ht_atO rfl 4 (by decide) (hts _ w81) (fun _ h9 => h9) rfl dH_isAnyTrainLocated_8 ?_
        refine lv_iload_n hx hb dH_isAnyTrainLocated_11 rfl (lv_at hl 2 rfl) ?_
        refine ht_ldI hx hb hK hP 2 (j := a + u) (by decide) (by decide) (by omega) rfl dH_isAnyTrainLocated_12 ?_
        refine lv_if_le (tgt := 18) hx hb dH_isAnyTrainLocated_13 (by decide) (fun c2 => ?_) (fun c2 => ?_)
        · refine lv_iinc (v := nI (a + u + 1)) (lv' := [(3, .int (nI (a + u + 1))), (0, .ref (q 0)), (2, .int (nI (a + 2)))]) hx hb dH_isAnyTrainLocated_18 hl (k := 2) rfl (nI_1 _) (by decide) rfl (fun ls hl => ?_)
          refine lv_goto (tgt := 2) hx hb dH_isAnyTrainLocated_21 (by decide) ?_
          exact ih (u + 1) (by omega) (by omega) (ht_ex_s hE (by simp [c2])) ls (lv_sub hl [1, 2, 0] rfl)
        · refine lv_iconst (v := 1) hx hb dH_isAnyTrainLocated_16 (by decide) ?_
          exact W.zret (v := 1) (ty := .boolean) hx hb hr rfl (fun t ht hW => ⟨1, rfl, by rw [ht_anyLoc, ht_ex_t (i := u) h2 (by simpa using c2)]; rfl, ht⟩) (fun _ h => nomatch h) dH_isAnyTrainLocated_17
  refine lv_iload_n hx hb dH_isAnyTrainLocated_0 rfl (lv_at hl 1 rfl) ?_
  refine lv_istore_n (lv' := [(3, .int (nI a)), (0, .ref (q 0)), (1, .int (nI a)), (2, .int (nI (a + 2)))]) hx hb dH_isAnyTrainLocated_1 rfl hl (by decide) rfl (fun ls hl => ?_)
  exact K2 4 0 (by omega) (by omega) rfl ls (lv_sub hl [1, 3, 0] rfl)
set_option maxHeartbeats 4000000 in
set_option maxRecDepth 100000 in
theorem xH_wasLeftByBrokenTrain (l : Launch) (D : va_G) (cA : ClassId × ClassId) (q : Nat → Nat) (g : ht_G) (k : Nat) (hk : k ≤ 8) (hn : g 0 0 = nI k) (s0 : Nat) : Met l yH_wasLeftByBrokenTrain kH_wasLeftByBrokenTrain ({ frames := 1, cells := 0, slots := 0, locals := 21 }) (va_Pc [.ref (q 0), .int (nI s0)] (ht_I D cA q g)) (vp_Si (fun r => r = ht_b (ht_broken g k s0))) 0 0 (fun _ => False) := by
  refine Met.ofW (cc := cH_wasLeftByBrokenTrain) (maxL := 4) (ret := (some .boolean)) (by decide) rfl ?_
  intro p e s m args below meth c s₁ B hml hv
  obtain ⟨rfl, hP, hK, hN⟩ := hv
  have hx := B.exec
  have hb := B.bytes
  have hr := B.returns
  have hts := fun w h => atoms_spec (ws := kH_wasLeftByBrokenTrain) B.pre w (List.mem_cons_of_mem _ h)
  have hown : s.vm.findClass RH = some m.cls := findClass_of_methodNamed B.named
  have hlocks := B.notSynchronized
  have hl := lv_entry ([.ref (q 0), .int (nI s0)]) (n := 4) (Nat.le_of_ble_eq_true rfl)
  rw [lg_entry_eq]
  generalize (lg_sl ([.ref (q 0), .int (nI s0)]) ++ List.replicate (4 - (lg_sl ([.ref (q 0), .int (nI s0)])).length) Slot.unset).toArray = ls at hl ⊢
  have hl : lv_has ls 4 [(0, .ref (q 0)), (1, .int (nI s0))] := hl
  have K2 : ∀ (n9 : Nat), ∀ (j : Nat), (k + 1 ≤ j + n9) → (j ≤ k) → (ht_ex (fun i => !decide (g (5 + i) 0 = 0) && (decide (g (5 + i) 8 = 0) && (decide (g (5 + i) 10 = 0) && ht_left (g (5 + i)) (nI s0)))) j = false) → ∀ (ls : Array Slot), lv_has ls 4 [(0, .ref (q 0)), (1, .int (nI s0)), (2, .int (nI j))] → W p l e (headSpec kH_wasLeftByBrokenTrain ({ frames := 1, cells := 0, slots := 0, locals := 21 })).room s m [.ref (q 0), .int (nI s0)].toArray below meth c s.heap [] 0 0 (MQ below (vp_Si (fun r => r = ht_b (ht_broken g k s0))) [.ref (q 0), .int (nI s0)].toArray s 0 0 (fun _ => False)) (F0 m 2 ls []) := by
    intro n9
    induction n9 with
    | zero =>
      intro j hn9 hjk hE ls hl
      exact absurd hn9 (by omega)
    | succ n9 ih =>
      intro j hn9 hjk hE ls hl
      refine lv_iload_n hx hb dH_wasLeftByBrokenTrain_2 rfl (lv_at hl 2 rfl) ?_
      refine lv_aload_n hx hb dH_wasLeftByBrokenTrain_3 rfl (lv_at hl 0 rfl) ?_
      refine va_get (D := D) (ci := 1) (C := RH) (T := TH) (N := 7) (v := .int (g 0 0)) hx hb hts inH hown hK hP 0 ht_atO rfl 1 (by decide) (hts _ w78) (fun _ h9 => h9) rfl dH_wasLeftByBrokenTrain_4 ?_
      refine lv_icmp_ge (tgt := 54) hx hb dH_wasLeftByBrokenTrain_7 (by decide) (fun c1 => ?_) (fun c1 => ?_)
      · rw [hn] at c1
        have e9 : j = k := ht_end hk hjk c1
        refine lv_iconst (v := 0) hx hb dH_wasLeftByBrokenTrain_54 (by decide) ?_
        exact W.zret (v := 0) (ty := .boolean) hx hb hr rfl (fun t ht hW => ⟨0, rfl, by rw [e9] at hE; simp [ht_broken, ht_b, hE], ht⟩) (fun _ h => nomatch h) dH_wasLeftByBrokenTrain_55
      · rw [hn] at c1
        have hjl : j < k := ht_lt hk hjk c1
        have hj8 : j < 8 := Nat.lt_of_lt_of_le hjl hk
        refine lv_aload_n hx hb dH_wasLeftByBrokenTrain_10 rfl (lv_at hl 0 rfl) ?_
        refine va_get (D := D) (ci := 1) (C := RH) (T := TH) (N := 7) (v := .ref (q 1)) hx hb hts inH hown hK hP 0 ht_atO rfl 0 (by decide) (hts _ w77) (fun _ h9 => h9) rfl dH_wasLeftByBrokenTrain_11 ?_
        refine lv_iload_n hx hb dH_wasLeftByBrokenTrain_14 rfl (lv_at hl 2 rfl) ?_
        refine ht_ldV hx hb hK hP (j := j) hj8 rfl dH_wasLeftByBrokenTrain_15 ?_
        refine lv_astore_n (lv' := [(3, .ref (q (j + 6))), (0, .ref (q 0)), (1, .int (nI s0)), (2, .int (nI j))]) hx hb dH_wasLeftByBrokenTrain_16 rfl hl (by decide) rfl (fun ls hl => ?_)
        refine lv_aload_n hx hb dH_wasLeftByBrokenTrain_17 rfl (lv_at hl 0 rfl) ?_
        refine va_getN (D := D) (ci := 0) (C := RV) (T := TV) (N := 13) (v := .int (g (5 + j) 0)) hx hb hts inV hown hK hP (j + 6) (ht_atV hj8) rfl 0 (by decide) (hN.use 1 rfl rfl) (fun _ h9 => h9) rfl dH_wasLeftByBrokenTrain_18 ?_
        refine lv_if_eq (tgt := 48) hx hb dH_wasLeftByBrokenTrain_21 (by decide) (fun c2 => ?_) (fun c2 => ?_)
        · refine lv_iinc (v := nI (j + 1)) (lv' := [(2, .int (nI (j + 1))), (3, .ref (q (j + 6))), (0, .ref (q 0)), (1, .int (nI s0))]) hx hb dH_wasLeftByBrokenTrain_48 hl (k := 3) rfl (nI_1 _) (by decide) rfl (fun ls hl => ?_)
          refine lv_goto (tgt := 2) hx hb dH_wasLeftByBrokenTrain_51 (by decide) ?_
          exact ih (j + 1) (by omega) (by omega) (ht_ex_s hE (by simp [c2])) ls (lv_sub hl [2, 3, 0] rfl)
        · refine lv_aload_n hx hb dH_wasLeftByBrokenTrain_24 rfl (lv_at hl 0 rfl) ?_
          refine va_getN (D := D) (ci := 0) (C := RV) (T := TV) (N := 13) (v := .int (g (5 + j) 8)) hx hb hts inV hown hK hP (j + 6) (ht_atV hj8) rfl 8 (by decide) (hN.use 9 rfl rfl) (fun _ h9 => h9) rfl dH_wasLeftByBrokenTrain_25 ?_
          refine lv_if_ne (tgt := 48) hx hb dH_wasLeftByBrokenTrain_28 (by decide) (fun c3 => ?_) (fun c3 => ?_)
          · refine lv_iinc (v := nI (j + 1)) (lv' := [(2, .int (nI (j + 1))), (3, .ref (q (j + 6))), (0, .ref (q 0)), (1, .int (nI s0))]) hx hb dH_wasLeftByBrokenTrain_48 hl (k := 3) rfl (nI_1 _) (by decide) rfl (fun ls hl => ?_)
            refine lv_goto (tgt := 2) hx hb dH_wasLeftByBrokenTrain_51 (by decide) ?_
            exact ih (j + 1) (by omega) (by omega) (ht_ex_s hE (by simp [c2, c3])) ls (lv_sub hl [2, 3, 0] rfl)
          · refine lv_aload_n hx hb dH_wasLeftByBrokenTrain_31 rfl (lv_at hl 0 rfl) ?_
            refine va_getN (D := D) (ci := 0) (C := RV) (T := TV) (N := 13) (v := .int (g (5 + j) 10)) hx hb hts inV hown hK hP (j + 6) (ht_atV hj8) rfl 10 (by decide) (hN.use 11 rfl rfl) (fun _ h9 => h9) rfl dH_wasLeftByBrokenTrain_32 ?_
            refine lv_if_ne (tgt := 48) hx hb dH_wasLeftByBrokenTrain_35 (by decide) (fun c4 => ?_) (fun c4 => ?_)
            · refine lv_iinc (v := nI (j + 1)) (lv' := [(2, .int (nI (j + 1))), (3, .ref (q (j + 6))), (0, .ref (q 0)), (1, .int (nI s0))]) hx hb dH_wasLeftByBrokenTrain_48 hl (k := 3) rfl (nI_1 _) (by decide) rfl (fun ls hl => ?_)
              refine lv_goto (tgt := 2) hx hb dH_wasLeftByBrokenTrain_51 (by decide) ?_
              exact ih (j + 1) (by omega) (by omega) (ht_ex_s hE (by simp [c2, c3, c4])) ls (lv_sub hl [2, 3, 0] rfl)
            · refine lv_aload_n hx hb dH_wasLeftByBrokenTrain_38 rfl (lv_at hl 0 rfl) ?_
              refine lv_iload_n hx hb dH_wasLeftByBrokenTrain_39 rfl (lv_at hl 2 rfl) ?_
              refine vp_callSi (va_Run.run (va_runVN (As := [.int (nI s0)]) (rest := []) ⟨hx, hb, hml, hown, hts⟩ (xV_hasLeft l D cA q g j hj8 (nI s0)) ⟨va_cnB 1 hts (ht_gW w274) rfl rfl rfl (hN _ (List.mem_of_getElem? (i := 17) rfl)) (hts _ w2) (by decide +kernel) ⟨Nat.le_of_ble_eq_true rfl, Nat.le_of_ble_eq_true rfl⟩, hts _ w273, hts _ s19⟩ ⟨ht_bl, va_recv hK hP (ci := 0) (q0 := j + 6) rfl (ht_atV hj8), fun U hU hW => ⟨rfl, ht_Im hP hK hN hU hW⟩⟩ rfl rfl hl.1 rfl (lv_room (Nat.le_of_ble_eq_true rfl)) dH_wasLeftByBrokenTrain_40 ⟨Nat.zero_le _, Nat.zero_le _⟩)) (fun r5 hr5 => ?_)
              subst hr5
              refine lv_if_eq (tgt := 48) hx hb dH_wasLeftByBrokenTrain_43 (by decide) (fun c6 => ?_) (fun c6 => ?_)
              · replace c6 := ht_b0.mp c6
                refine lv_iinc (v := nI (j + 1)) (lv' := [(2, .int (nI (j + 1))), (3, .ref (q (j + 6))), (0, .ref (q 0)), (1, .int (nI s0))]) hx hb dH_wasLeftByBrokenTrain_48 hl (k := 3) rfl (nI_1 _) (by decide) rfl (fun ls hl => ?_)
                refine lv_goto (tgt := 2) hx hb dH_wasLeftByBrokenTrain_51 (by decide) ?_
                exact ih (j + 1) (by omega) (by omega) (ht_ex_s hE (by simp [c2, c3, c4, c6])) ls (lv_sub hl [2, 3, 0] rfl)
              · replace c6 := ht_b1.mp c6
                refine lv_iconst (v := 1) hx hb dH_wasLeftByBrokenTrain_46 (by decide) ?_
                exact W.zret (v := 1) (ty := .boolean) hx hb hr rfl (fun t ht hW => ⟨1, rfl, by rw [ht_broken, ht_ex_t (i := j) hjl (by simp [c2, c3, c4, c6])]; rfl, ht⟩) (fun _ h => nomatch h) dH_wasLeftByBrokenTrain_47
  refine lv_iconst (v := 0) hx hb dH_wasLeftByBrokenTrain_0 (by decide) ?_
  refine lv_istore_n (lv' := [(2, .int 0), (0, .ref (q 0)), (1, .int (nI s0))]) hx hb dH_wasLeftByBrokenTrain_1 rfl hl (by decide) rfl (fun ls hl => ?_)
  exact K2 (k + 1) 0 (by omega) (by omega) rfl ls (lv_sub hl [1, 2, 0] rfl)
set_option maxHeartbeats 4000000 in
set_option maxRecDepth 100000 in
theorem xH_wasLeftByWholeTrain (l : Launch) (D : va_G) (cA : ClassId × ClassId) (q : Nat → Nat) (g : ht_G) (z : Nat) (hs : z < 12) (ha : ¬ g 4 z = -1 → ∃ j, j < 8 ∧ g 4 z = nI j ∧ (g 4 z).toNatClampNeg = j) : Met l yH_wasLeftByWholeTrain kH_wasLeftByWholeTrain ({ frames := 0, cells := 0, slots := 0, locals := 0 }) (va_Pc [.ref (q 0), .int (nI z)] (ht_I D cA q g)) (vp_Si (fun r => r = ht_b (ht_byW g z))) 0 0 (fun _ => False) := by
  refine Met.ofW (cc := cH_wasLeftByWholeTrain) (maxL := 3) (ret := (some .boolean)) (by decide) rfl ?_
  intro p e s m args below meth c s₁ B hml hv
  obtain ⟨rfl, hP, hK, hN⟩ := hv
  have hx := B.exec
  have hb := B.bytes
  have hr := B.returns
  have hts := fun w h => atoms_spec (ws := kH_wasLeftByWholeTrain) B.pre w (List.mem_cons_of_mem _ h)
  have hown : s.vm.findClass RH = some m.cls := findClass_of_methodNamed B.named
  have hlocks := B.notSynchronized
  have hl := lv_entry ([.ref (q 0), .int (nI z)]) (n := 3) (Nat.le_of_ble_eq_true rfl)
  rw [lg_entry_eq]
  generalize (lg_sl ([.ref (q 0), .int (nI z)]) ++ List.replicate (3 - (lg_sl ([.ref (q 0), .int (nI z)])).length) Slot.unset).toArray = ls at hl ⊢
  have hl : lv_has ls 3 [(0, .ref (q 0)), (1, .int (nI z))] := hl
  refine lv_aload_n hx hb dH_wasLeftByWholeTrain_0 rfl (lv_at hl 0 rfl) ?_
  refine va_get (D := D) (ci := 1) (C := RH) (T := TH) (N := 7) (v := .ref (q 5)) hx hb hts inH hown hK hP 0 ht_atO rfl 6 (by decide) (hts _ w83) (fun _ h9 => h9) rfl dH_wasLeftByWholeTrain_1 ?_
  refine lv_iload_n hx hb dH_wasLeftByWholeTrain_4 rfl (lv_at hl 1 rfl) ?_
  refine ht_ldI hx hb hK hP 4 (j := z) (by decide) (by decide) hs rfl dH_wasLeftByWholeTrain_5 ?_
  refine lv_istore_n (lv' := [(2, .int (g 4 z)), (0, .ref (q 0)), (1, .int (nI z))]) hx hb dH_wasLeftByWholeTrain_6 rfl hl (by decide) rfl (fun ls hl => ?_)
  refine lv_iload_n hx hb dH_wasLeftByWholeTrain_7 rfl (lv_at hl 0 rfl) ?_
  refine lv_iconst (v := (-1)) hx hb dH_wasLeftByWholeTrain_8 (by decide) ?_
  refine lv_icmp_eq (tgt := 40) hx hb dH_wasLeftByWholeTrain_9 (by decide) (fun c1 => ?_) (fun c1 => ?_)
  · refine lv_iconst (v := 0) hx hb dH_wasLeftByWholeTrain_40 (by decide) ?_
    exact W.zret (v := 0) (ty := .boolean) hx hb hr rfl (fun t ht hW => ⟨0, rfl, by simp [ht_byW, ht_b, c1], ht⟩) (fun _ h => nomatch h) dH_wasLeftByWholeTrain_41
  · obtain ⟨j, hj8, hxj, hxc⟩ := ha c1
    refine lv_aload_n hx hb dH_wasLeftByWholeTrain_12 rfl (lv_at hl 1 rfl) ?_
    refine va_get (D := D) (ci := 1) (C := RH) (T := TH) (N := 7) (v := .ref (q 1)) hx hb hts inH hown hK hP 0 ht_atO rfl 0 (by decide) (hts _ w77) (fun _ h9 => h9) rfl dH_wasLeftByWholeTrain_13 ?_
    refine lv_iload_n hx hb dH_wasLeftByWholeTrain_16 rfl (lv_at hl 0 rfl) ?_
    refine ht_ldV hx hb hK hP (j := j) hj8 hxj dH_wasLeftByWholeTrain_17 ?_
    refine va_getN (D := D) (ci := 0) (C := RV) (T := TV) (N := 13) (v := .int (g (5 + j) 8)) hx hb hts inV hown hK hP (j + 6) (ht_atV hj8) rfl 8 (by decide) (hN.use 9 rfl rfl) (fun _ h9 => h9) rfl dH_wasLeftByWholeTrain_18 ?_
    refine lv_if_ne (tgt := 40) hx hb dH_wasLeftByWholeTrain_21 (by decide) (fun c2 => ?_) (fun c2 => ?_)
    · refine lv_iconst (v := 0) hx hb dH_wasLeftByWholeTrain_40 (by decide) ?_
      exact W.zret (v := 0) (ty := .boolean) hx hb hr rfl (fun t ht hW => ⟨0, rfl, by simp [ht_byW, ht_b, hxc, c1, c2], ht⟩) (fun _ h => nomatch h) dH_wasLeftByWholeTrain_41
    · refine lv_aload_n hx hb dH_wasLeftByWholeTrain_24 rfl (lv_at hl 1 rfl) ?_
      refine va_get (D := D) (ci := 1) (C := RH) (T := TH) (N := 7) (v := .ref (q 1)) hx hb hts inH hown hK hP 0 ht_atO rfl 0 (by decide) (hts _ w77) (fun _ h9 => h9) rfl dH_wasLeftByWholeTrain_25 ?_
      refine lv_iload_n hx hb dH_wasLeftByWholeTrain_28 rfl (lv_at hl 0 rfl) ?_
      refine ht_ldV hx hb hK hP (j := j) hj8 hxj dH_wasLeftByWholeTrain_29 ?_
      refine va_getN (D := D) (ci := 0) (C := RV) (T := TV) (N := 13) (v := .int (g (5 + j) 10)) hx hb hts inV hown hK hP (j + 6) (ht_atV hj8) rfl 10 (by decide) (hN.use 11 rfl rfl) (fun _ h9 => h9) rfl dH_wasLeftByWholeTrain_30 ?_
      refine lv_if_eq (tgt := 40) hx hb dH_wasLeftByWholeTrain_33 (by decide) (fun c3 => ?_) (fun c3 => ?_)
      · refine lv_iconst (v := 0) hx hb dH_wasLeftByWholeTrain_40 (by decide) ?_
        exact W.zret (v := 0) (ty := .boolean) hx hb hr rfl (fun t ht hW => ⟨0, rfl, by simp [ht_byW, ht_b, hxc, c1, c2, c3], ht⟩) (fun _ h => nomatch h) dH_wasLeftByWholeTrain_41
      · refine lv_iconst (v := 1) hx hb dH_wasLeftByWholeTrain_36 (by decide) ?_
        refine lv_goto (tgt := 41) hx hb dH_wasLeftByWholeTrain_37 (by decide) ?_
        exact W.zret (v := 1) (ty := .boolean) hx hb hr rfl (fun t ht hW => ⟨1, rfl, by simp [ht_byW, ht_b, hxc, c1, c2, c3], ht⟩) (fun _ h => nomatch h) dH_wasLeftByWholeTrain_41
set_option maxHeartbeats 4000000 in
set_option maxRecDepth 100000 in
theorem xH_stateUnderTrains (l : Launch) (D : va_G) (cA : ClassId × ClassId) (q : Nat → Nat) (g : ht_G) (z : Nat) (hs : z < 12) (ha : ¬ g 3 z = -1 → ∃ j, j < 8 ∧ g 3 z = nI j ∧ (g 3 z).toNatClampNeg = j) : Met l yH_stateUnderTrains kH_stateUnderTrains ({ frames := 0, cells := 0, slots := 0, locals := 0 }) (va_Pc [.ref (q 0), .int (nI z)] (ht_I D cA q g)) (vp_Si (fun r => r = ht_under g z)) 0 0 (fun _ => False) := by
  refine Met.ofW (cc := cH_stateUnderTrains) (maxL := 5) (ret := (some .int)) (by decide) rfl ?_
  intro p e s m args below meth c s₁ B hml hv
  obtain ⟨rfl, hP, hK, hN⟩ := hv
  have hx := B.exec
  have hb := B.bytes
  have hr := B.returns
  have hts := fun w h => atoms_spec (ws := kH_stateUnderTrains) B.pre w (List.mem_cons_of_mem _ h)
  have hown : s.vm.findClass RH = some m.cls := findClass_of_methodNamed B.named
  have hlocks := B.notSynchronized
  have hl := lv_entry ([.ref (q 0), .int (nI z)]) (n := 5) (Nat.le_of_ble_eq_true rfl)
  rw [lg_entry_eq]
  generalize (lg_sl ([.ref (q 0), .int (nI z)]) ++ List.replicate (5 - (lg_sl ([.ref (q 0), .int (nI z)])).length) Slot.unset).toArray = ls at hl ⊢
  have hl : lv_has ls 5 [(0, .ref (q 0)), (1, .int (nI z))] := hl
  refine lv_aload_n hx hb dH_stateUnderTrains_0 rfl (lv_at hl 0 rfl) ?_
  refine va_get (D := D) (ci := 1) (C := RH) (T := TH) (N := 7) (v := .ref (q 4)) hx hb hts inH hown hK hP 0 ht_atO rfl 5 (by decide) (hts _ w82) (fun _ h9 => h9) rfl dH_stateUnderTrains_1 ?_
  refine lv_iload_n hx hb dH_stateUnderTrains_4 rfl (lv_at hl 1 rfl) ?_
  refine ht_ldI hx hb hK hP 3 (j := z) (by decide) (by decide) hs rfl dH_stateUnderTrains_5 ?_
  refine lv_istore_n (lv' := [(2, .int (g 3 z)), (0, .ref (q 0)), (1, .int (nI z))]) hx hb dH_stateUnderTrains_6 rfl hl (by decide) rfl (fun ls hl => ?_)
  refine lv_aload_n hx hb dH_stateUnderTrains_7 rfl (lv_at hl 1 rfl) ?_
  refine va_get (D := D) (ci := 1) (C := RH) (T := TH) (N := 7) (v := .ref (q 2)) hx hb hts inH hown hK hP 0 ht_atO rfl 3 (by decide) (hts _ w80) (fun _ h9 => h9) rfl dH_stateUnderTrains_8 ?_
  refine lv_iload_n hx hb dH_stateUnderTrains_11 rfl (lv_at hl 2 rfl) ?_
  refine ht_ldI hx hb hK hP 1 (j := z) (by decide) (by decide) hs rfl dH_stateUnderTrains_12 ?_
  refine lv_if_eq (tgt := 26) hx hb dH_stateUnderTrains_13 (by decide) (fun c1 => ?_) (fun c1 => ?_)
  · refine lv_iconst (v := 1) hx hb dH_stateUnderTrains_26 (by decide) ?_
    refine lv_goto (tgt := 31) hx hb dH_stateUnderTrains_27 (by decide) ?_
    refine lv_istore_n (lv' := [(3, .int 1), (2, .int (g 3 z)), (0, .ref (q 0)), (1, .int (nI z))]) hx hb dH_stateUnderTrains_31 rfl hl (by decide) rfl (fun ls hl => ?_)
    refine lv_iload_n hx hb dH_stateUnderTrains_32 rfl (lv_at hl 1 rfl) ?_
    refine lv_iconst (v := (-1)) hx hb dH_stateUnderTrains_33 (by decide) ?_
    refine lv_icmp_eq (tgt := 57) hx hb dH_stateUnderTrains_34 (by decide) (fun c2 => ?_) (fun c2 => ?_)
    · refine lv_iconst (v := 0) hx hb dH_stateUnderTrains_57 (by decide) ?_
      refine lv_istore (lv' := [(4, .int 0), (3, .int 1), (2, .int (g 3 z)), (0, .ref (q 0)), (1, .int (nI z))]) hx hb dH_stateUnderTrains_58 hl (by decide) rfl (fun ls hl => ?_)
      refine lv_iload hx hb dH_stateUnderTrains_60 (lv_at hl 0 rfl) ?_
      refine lv_if_eq (tgt := 69) hx hb dH_stateUnderTrains_62 (by decide) (fun c3 => ?_) (fun c3 => ?_)
      · refine lv_iconst (v := 2) hx hb dH_stateUnderTrains_69 (by decide) ?_
        exact W.iret (v := 2) hx hb hr (fun t ht hW => ⟨2, rfl, by simp [ht_under, c1, c2], ht⟩) (fun _ h => nomatch h) dH_stateUnderTrains_70
      · exact absurd c3 (by decide)
    · obtain ⟨j, hj8, hxj, hxc⟩ := ha c2
      refine lv_aload_n hx hb dH_stateUnderTrains_37 rfl (lv_at hl 2 rfl) ?_
      refine va_get (D := D) (ci := 1) (C := RH) (T := TH) (N := 7) (v := .ref (q 1)) hx hb hts inH hown hK hP 0 ht_atO rfl 0 (by decide) (hts _ w77) (fun _ h9 => h9) rfl dH_stateUnderTrains_38 ?_
      refine lv_iload_n hx hb dH_stateUnderTrains_41 rfl (lv_at hl 1 rfl) ?_
      refine ht_ldV hx hb hK hP (j := j) hj8 hxj dH_stateUnderTrains_42 ?_
      refine va_getN (D := D) (ci := 0) (C := RV) (T := TV) (N := 13) (v := .int (g (5 + j) 10)) hx hb hts inV hown hK hP (j + 6) (ht_atV hj8) rfl 10 (by decide) (hN.use 11 rfl rfl) (fun _ h9 => h9) rfl dH_stateUnderTrains_43 ?_
      refine lv_if_eq (tgt := 57) hx hb dH_stateUnderTrains_46 (by decide) (fun c4 => ?_) (fun c4 => ?_)
      · refine lv_iconst (v := 0) hx hb dH_stateUnderTrains_57 (by decide) ?_
        refine lv_istore (lv' := [(4, .int 0), (3, .int 1), (2, .int (g 3 z)), (0, .ref (q 0)), (1, .int (nI z))]) hx hb dH_stateUnderTrains_58 hl (by decide) rfl (fun ls hl => ?_)
        refine lv_iload hx hb dH_stateUnderTrains_60 (lv_at hl 0 rfl) ?_
        refine lv_if_eq (tgt := 69) hx hb dH_stateUnderTrains_62 (by decide) (fun c5 => ?_) (fun c5 => ?_)
        · refine lv_iconst (v := 2) hx hb dH_stateUnderTrains_69 (by decide) ?_
          exact W.iret (v := 2) hx hb hr (fun t ht hW => ⟨2, rfl, by simp [ht_under, hxc, c1, c2, c4], ht⟩) (fun _ h => nomatch h) dH_stateUnderTrains_70
        · exact absurd c5 (by decide)
      · refine lv_iload_n hx hb dH_stateUnderTrains_49 rfl (lv_at hl 0 rfl) ?_
        refine lv_if_eq (tgt := 57) hx hb dH_stateUnderTrains_50 (by decide) (fun c6 => ?_) (fun c6 => ?_)
        · exact absurd c6 (by decide)
        · refine lv_iconst (v := 1) hx hb dH_stateUnderTrains_53 (by decide) ?_
          refine lv_goto (tgt := 58) hx hb dH_stateUnderTrains_54 (by decide) ?_
          refine lv_istore (lv' := [(4, .int 1), (3, .int 1), (2, .int (g 3 z)), (0, .ref (q 0)), (1, .int (nI z))]) hx hb dH_stateUnderTrains_58 hl (by decide) rfl (fun ls hl => ?_)
          refine lv_iload hx hb dH_stateUnderTrains_60 (lv_at hl 0 rfl) ?_
          refine lv_if_eq (tgt := 69) hx hb dH_stateUnderTrains_62 (by decide) (fun c7 => ?_) (fun c7 => ?_)
          · exact absurd c7 (by decide)
          · refine lv_iconst (v := 1) hx hb dH_stateUnderTrains_65 (by decide) ?_
            refine lv_goto (tgt := 70) hx hb dH_stateUnderTrains_66 (by decide) ?_
            exact W.iret (v := 1) hx hb hr (fun t ht hW => ⟨1, rfl, by simp [ht_under, hxc, c1, c2, c4], ht⟩) (fun _ h => nomatch h) dH_stateUnderTrains_70
  · refine lv_aload_n hx hb dH_stateUnderTrains_16 rfl (lv_at hl 1 rfl) ?_
    refine va_get (D := D) (ci := 1) (C := RH) (T := TH) (N := 7) (v := .ref (q 2)) hx hb hts inH hown hK hP 0 ht_atO rfl 3 (by decide) (hts _ w80) (fun _ h9 => h9) rfl dH_stateUnderTrains_17 ?_
    refine lv_iload_n hx hb dH_stateUnderTrains_20 rfl (lv_at hl 2 rfl) ?_
    refine ht_ldI hx hb hK hP 1 (j := z) (by decide) (by decide) hs rfl dH_stateUnderTrains_21 ?_
    refine lv_iconst (v := 1) hx hb dH_stateUnderTrains_22 (by decide) ?_
    refine lv_icmp_ne (tgt := 30) hx hb dH_stateUnderTrains_23 (by decide) (fun c8 => ?_) (fun c8 => ?_)
    · refine lv_iconst (v := 0) hx hb dH_stateUnderTrains_30 (by decide) ?_
      refine lv_istore_n (lv' := [(3, .int 0), (2, .int (g 3 z)), (0, .ref (q 0)), (1, .int (nI z))]) hx hb dH_stateUnderTrains_31 rfl hl (by decide) rfl (fun ls hl => ?_)
      refine lv_iload_n hx hb dH_stateUnderTrains_32 rfl (lv_at hl 1 rfl) ?_
      refine lv_iconst (v := (-1)) hx hb dH_stateUnderTrains_33 (by decide) ?_
      refine lv_icmp_eq (tgt := 57) hx hb dH_stateUnderTrains_34 (by decide) (fun c9 => ?_) (fun c9 => ?_)
      · refine lv_iconst (v := 0) hx hb dH_stateUnderTrains_57 (by decide) ?_
        refine lv_istore (lv' := [(4, .int 0), (3, .int 0), (2, .int (g 3 z)), (0, .ref (q 0)), (1, .int (nI z))]) hx hb dH_stateUnderTrains_58 hl (by decide) rfl (fun ls hl => ?_)
        refine lv_iload hx hb dH_stateUnderTrains_60 (lv_at hl 0 rfl) ?_
        refine lv_if_eq (tgt := 69) hx hb dH_stateUnderTrains_62 (by decide) (fun c10 => ?_) (fun c10 => ?_)
        · refine lv_iconst (v := 2) hx hb dH_stateUnderTrains_69 (by decide) ?_
          exact W.iret (v := 2) hx hb hr (fun t ht hW => ⟨2, rfl, by simp [ht_under, c1, c8, c9], ht⟩) (fun _ h => nomatch h) dH_stateUnderTrains_70
        · exact absurd c10 (by decide)
      · obtain ⟨j, hj8, hxj, hxc⟩ := ha c9
        refine lv_aload_n hx hb dH_stateUnderTrains_37 rfl (lv_at hl 2 rfl) ?_
        refine va_get (D := D) (ci := 1) (C := RH) (T := TH) (N := 7) (v := .ref (q 1)) hx hb hts inH hown hK hP 0 ht_atO rfl 0 (by decide) (hts _ w77) (fun _ h9 => h9) rfl dH_stateUnderTrains_38 ?_
        refine lv_iload_n hx hb dH_stateUnderTrains_41 rfl (lv_at hl 1 rfl) ?_
        refine ht_ldV hx hb hK hP (j := j) hj8 hxj dH_stateUnderTrains_42 ?_
        refine va_getN (D := D) (ci := 0) (C := RV) (T := TV) (N := 13) (v := .int (g (5 + j) 10)) hx hb hts inV hown hK hP (j + 6) (ht_atV hj8) rfl 10 (by decide) (hN.use 11 rfl rfl) (fun _ h9 => h9) rfl dH_stateUnderTrains_43 ?_
        refine lv_if_eq (tgt := 57) hx hb dH_stateUnderTrains_46 (by decide) (fun c11 => ?_) (fun c11 => ?_)
        · refine lv_iconst (v := 0) hx hb dH_stateUnderTrains_57 (by decide) ?_
          refine lv_istore (lv' := [(4, .int 0), (3, .int 0), (2, .int (g 3 z)), (0, .ref (q 0)), (1, .int (nI z))]) hx hb dH_stateUnderTrains_58 hl (by decide) rfl (fun ls hl => ?_)
          refine lv_iload hx hb dH_stateUnderTrains_60 (lv_at hl 0 rfl) ?_
          refine lv_if_eq (tgt := 69) hx hb dH_stateUnderTrains_62 (by decide) (fun c12 => ?_) (fun c12 => ?_)
          · refine lv_iconst (v := 2) hx hb dH_stateUnderTrains_69 (by decide) ?_
            exact W.iret (v := 2) hx hb hr (fun t ht hW => ⟨2, rfl, by simp [ht_under, hxc, c1, c8, c9, c11], ht⟩) (fun _ h => nomatch h) dH_stateUnderTrains_70
          · exact absurd c12 (by decide)
        · refine lv_iload_n hx hb dH_stateUnderTrains_49 rfl (lv_at hl 0 rfl) ?_
          refine lv_if_eq (tgt := 57) hx hb dH_stateUnderTrains_50 (by decide) (fun c13 => ?_) (fun c13 => ?_)
          · refine lv_iconst (v := 0) hx hb dH_stateUnderTrains_57 (by decide) ?_
            refine lv_istore (lv' := [(4, .int 0), (3, .int 0), (2, .int (g 3 z)), (0, .ref (q 0)), (1, .int (nI z))]) hx hb dH_stateUnderTrains_58 hl (by decide) rfl (fun ls hl => ?_)
            refine lv_iload hx hb dH_stateUnderTrains_60 (lv_at hl 0 rfl) ?_
            refine lv_if_eq (tgt := 69) hx hb dH_stateUnderTrains_62 (by decide) (fun c14 => ?_) (fun c14 => ?_)
            · refine lv_iconst (v := 2) hx hb dH_stateUnderTrains_69 (by decide) ?_
              exact W.iret (v := 2) hx hb hr (fun t ht hW => ⟨2, rfl, by simp [ht_under, hxc, c1, c8, c9, c11], ht⟩) (fun _ h => nomatch h) dH_stateUnderTrains_70
            · exact absurd c14 (by decide)
          · exact absurd c13 (by decide)
    · refine lv_iconst (v := 1) hx hb dH_stateUnderTrains_26 (by decide) ?_
      refine lv_goto (tgt := 31) hx hb dH_stateUnderTrains_27 (by decide) ?_
      refine lv_istore_n (lv' := [(3, .int 1), (2, .int (g 3 z)), (0, .ref (q 0)), (1, .int (nI z))]) hx hb dH_stateUnderTrains_31 rfl hl (by decide) rfl (fun ls hl => ?_)
      refine lv_iload_n hx hb dH_stateUnderTrains_32 rfl (lv_at hl 1 rfl) ?_
      refine lv_iconst (v := (-1)) hx hb dH_stateUnderTrains_33 (by decide) ?_
      refine lv_icmp_eq (tgt := 57) hx hb dH_stateUnderTrains_34 (by decide) (fun c15 => ?_) (fun c15 => ?_)
      · refine lv_iconst (v := 0) hx hb dH_stateUnderTrains_57 (by decide) ?_
        refine lv_istore (lv' := [(4, .int 0), (3, .int 1), (2, .int (g 3 z)), (0, .ref (q 0)), (1, .int (nI z))]) hx hb dH_stateUnderTrains_58 hl (by decide) rfl (fun ls hl => ?_)
        refine lv_iload hx hb dH_stateUnderTrains_60 (lv_at hl 0 rfl) ?_
        refine lv_if_eq (tgt := 69) hx hb dH_stateUnderTrains_62 (by decide) (fun c16 => ?_) (fun c16 => ?_)
        · refine lv_iconst (v := 2) hx hb dH_stateUnderTrains_69 (by decide) ?_
          exact W.iret (v := 2) hx hb hr (fun t ht hW => ⟨2, rfl, by simp [ht_under, c1, c8, c15], ht⟩) (fun _ h => nomatch h) dH_stateUnderTrains_70
        · exact absurd c16 (by decide)
      · obtain ⟨j, hj8, hxj, hxc⟩ := ha c15
        refine lv_aload_n hx hb dH_stateUnderTrains_37 rfl (lv_at hl 2 rfl) ?_
        refine va_get (D := D) (ci := 1) (C := RH) (T := TH) (N := 7) (v := .ref (q 1)) hx hb hts inH hown hK hP 0 ht_atO rfl 0 (by decide) (hts _ w77) (fun _ h9 => h9) rfl dH_stateUnderTrains_38 ?_
        refine lv_iload_n hx hb dH_stateUnderTrains_41 rfl (lv_at hl 1 rfl) ?_
        refine ht_ldV hx hb hK hP (j := j) hj8 hxj dH_stateUnderTrains_42 ?_
        refine va_getN (D := D) (ci := 0) (C := RV) (T := TV) (N := 13) (v := .int (g (5 + j) 10)) hx hb hts inV hown hK hP (j + 6) (ht_atV hj8) rfl 10 (by decide) (hN.use 11 rfl rfl) (fun _ h9 => h9) rfl dH_stateUnderTrains_43 ?_
        refine lv_if_eq (tgt := 57) hx hb dH_stateUnderTrains_46 (by decide) (fun c17 => ?_) (fun c17 => ?_)
        · refine lv_iconst (v := 0) hx hb dH_stateUnderTrains_57 (by decide) ?_
          refine lv_istore (lv' := [(4, .int 0), (3, .int 1), (2, .int (g 3 z)), (0, .ref (q 0)), (1, .int (nI z))]) hx hb dH_stateUnderTrains_58 hl (by decide) rfl (fun ls hl => ?_)
          refine lv_iload hx hb dH_stateUnderTrains_60 (lv_at hl 0 rfl) ?_
          refine lv_if_eq (tgt := 69) hx hb dH_stateUnderTrains_62 (by decide) (fun c18 => ?_) (fun c18 => ?_)
          · refine lv_iconst (v := 2) hx hb dH_stateUnderTrains_69 (by decide) ?_
            exact W.iret (v := 2) hx hb hr (fun t ht hW => ⟨2, rfl, by simp [ht_under, hxc, c1, c8, c15, c17], ht⟩) (fun _ h => nomatch h) dH_stateUnderTrains_70
          · exact absurd c18 (by decide)
        · refine lv_iload_n hx hb dH_stateUnderTrains_49 rfl (lv_at hl 0 rfl) ?_
          refine lv_if_eq (tgt := 57) hx hb dH_stateUnderTrains_50 (by decide) (fun c19 => ?_) (fun c19 => ?_)
          · exact absurd c19 (by decide)
          · refine lv_iconst (v := 1) hx hb dH_stateUnderTrains_53 (by decide) ?_
            refine lv_goto (tgt := 58) hx hb dH_stateUnderTrains_54 (by decide) ?_
            refine lv_istore (lv' := [(4, .int 1), (3, .int 1), (2, .int (g 3 z)), (0, .ref (q 0)), (1, .int (nI z))]) hx hb dH_stateUnderTrains_58 hl (by decide) rfl (fun ls hl => ?_)
            refine lv_iload hx hb dH_stateUnderTrains_60 (lv_at hl 0 rfl) ?_
            refine lv_if_eq (tgt := 69) hx hb dH_stateUnderTrains_62 (by decide) (fun c20 => ?_) (fun c20 => ?_)
            · exact absurd c20 (by decide)
            · refine lv_iconst (v := 1) hx hb dH_stateUnderTrains_65 (by decide) ?_
              refine lv_goto (tgt := 70) hx hb dH_stateUnderTrains_66 (by decide) ?_
              exact W.iret (v := 1) hx hb hr (fun t ht hW => ⟨1, rfl, by simp [ht_under, hxc, c1, c8, c15, c17], ht⟩) (fun _ h => nomatch h) dH_stateUnderTrains_70
set_option maxHeartbeats 4000000 in
set_option maxRecDepth 100000 in
theorem xH_staysFree (l : Launch) (D : va_G) (cA : ClassId × ClassId) (q : Nat → Nat) (g : ht_G) (k : Nat) (hk : k ≤ 8) (hn : g 0 0 = nI k) (z : Nat) (hs : z < 12) : Met l yH_staysFree kH_staysFree ({ frames := 2, cells := 0, slots := 0, locals := 45 }) (va_Pc [.ref (q 0), .int (nI z)] (ht_I D cA q g)) (vp_Si (fun r => r = ht_b (ht_stays g k z))) 0 0 (fun _ => False) := by
  refine Met.ofW (cc := cH_staysFree) (maxL := 5) (ret := (some .boolean)) (by decide) rfl ?_
  intro p e s m args below meth c s₁ B hml hv
  obtain ⟨rfl, hP, hK, hN⟩ := hv
  have hx := B.exec
  have hb := B.bytes
  have hr := B.returns
  have hts := fun w h => atoms_spec (ws := kH_staysFree) B.pre w (List.mem_cons_of_mem _ h)
  have hown : s.vm.findClass RH = some m.cls := findClass_of_methodNamed B.named
  have hlocks := B.notSynchronized
  have hl := lv_entry ([.ref (q 0), .int (nI z)]) (n := 5) (Nat.le_of_ble_eq_true rfl)
  rw [lg_entry_eq]
  generalize (lg_sl ([.ref (q 0), .int (nI z)]) ++ List.replicate (5 - (lg_sl ([.ref (q 0), .int (nI z)])).length) Slot.unset).toArray = ls at hl ⊢
  have hl : lv_has ls 5 [(0, .ref (q 0)), (1, .int (nI z))] := hl
  refine lv_iload_n hx hb dH_staysFree_0 rfl (lv_at hl 1 rfl) ?_
  refine lv_iload_n hx hb dH_staysFree_1 rfl (lv_at hl 1 rfl) ?_
  refine lv_iconst (v := 3) hx hb dH_staysFree_2 (by decide) ?_
  refine lv_irem hx hb dH_staysFree_3 (by decide) ?_
  refine lv_isub hx hb dH_staysFree_4 ?_
  refine lv_topi (fun f9 ef9 => ?_)
  obtain rfl : f9 = nI (z - z % 3) := ef9.trans (ht_first hs)
  refine lv_istore_n (lv' := [(2, .int (nI (z - z % 3))), (0, .ref (q 0)), (1, .int (nI z))]) hx hb dH_staysFree_5 rfl hl (by decide) rfl (fun ls hl => ?_)
  refine lv_iload_n hx hb dH_staysFree_6 rfl (lv_at hl 0 rfl) ?_
  refine lv_iconst (v := 3) hx hb dH_staysFree_7 (by decide) ?_
  refine lv_iadd hx hb dH_staysFree_8 ?_
  refine lv_iconst (v := 1) hx hb dH_staysFree_9 (by decide) ?_
  refine lv_isub hx hb dH_staysFree_10 ?_
  refine lv_topi (fun f9 ef9 => ?_)
  obtain rfl : f9 = nI (z - z % 3 + 2) := ef9.trans (ht_lastS z)
  refine lv_istore_n (lv' := [(3, .int (nI (z - z % 3 + 2))), (2, .int (nI (z - z % 3))), (0, .ref (q 0)), (1, .int (nI z))]) hx hb dH_staysFree_11 rfl hl (by decide) rfl (fun ls hl => ?_)
  refine lv_aload_n hx hb dH_staysFree_12 rfl (lv_at hl 2 rfl) ?_
  refine lv_iload_n hx hb dH_staysFree_13 rfl (lv_at hl 1 rfl) ?_
  refine lv_iload_n hx hb dH_staysFree_14 rfl (lv_at hl 0 rfl) ?_
  refine vp_callSi (va_Run.run (va_runV (As := [.int (nI (z - z % 3)), .int (nI (z - z % 3 + 2))]) (rest := []) ⟨hx, hb, hml, hown, hts⟩ (xH_isAnyTrainLocated l D cA q g (z - z % 3) (by omega)) (cwV 2 hts (ht_gV w258 w260 s16 w1 w261) rfl rfl rfl (by decide +kernel) ⟨Nat.le_of_ble_eq_true rfl, Nat.le_of_ble_eq_true rfl⟩) ⟨ht_bl, va_recv hK hP (ci := 1) (q0 := 0) rfl ht_atO, fun U hU hW => ⟨rfl, ht_Im hP hK hN hU hW⟩⟩ rfl rfl hl.1 rfl (lv_room (Nat.le_of_ble_eq_true rfl)) dH_staysFree_15 ⟨Nat.zero_le _, Nat.zero_le _⟩)) (fun r1 hr1 => ?_)
  subst hr1
  refine lv_if_ne (tgt := 30) hx hb dH_staysFree_18 (by decide) (fun c2 => ?_) (fun c2 => ?_)
  · replace c2 := ht_b1.mp c2
    refine lv_iconst (v := 1) hx hb dH_staysFree_30 (by decide) ?_
    refine lv_goto (tgt := 35) hx hb dH_staysFree_31 (by decide) ?_
    refine lv_istore (lv' := [(4, .int 1), (3, .int (nI (z - z % 3 + 2))), (2, .int (nI (z - z % 3))), (0, .ref (q 0)), (1, .int (nI z))]) hx hb dH_staysFree_35 hl (by decide) rfl (fun ls hl => ?_)
    refine lv_iload hx hb dH_staysFree_37 (lv_at hl 0 rfl) ?_
    refine lv_if_eq (tgt := 54) hx hb dH_staysFree_39 (by decide) (fun c3 => ?_) (fun c3 => ?_)
    · exact absurd c3 (by decide)
    · refine lv_aload_n hx hb dH_staysFree_42 rfl (lv_at hl 3 rfl) ?_
      refine lv_iload_n hx hb dH_staysFree_43 rfl (lv_at hl 4 rfl) ?_
      refine vp_callSi (va_Run.run (va_runV (As := [.int (nI z)]) (rest := []) ⟨hx, hb, hml, hown, hts⟩ (xH_wasLeftByBrokenTrain l D cA q g k hk hn z) (cwV 1 hts (ht_gV w267 w269 s18 w1 w270) rfl rfl rfl (by decide +kernel) ⟨Nat.le_of_ble_eq_true rfl, Nat.le_of_ble_eq_true rfl⟩) ⟨ht_bl, va_recv hK hP (ci := 1) (q0 := 0) rfl ht_atO, fun U hU hW => ⟨rfl, ht_Im hP hK hN hU hW⟩⟩ rfl rfl hl.1 rfl (lv_room (Nat.le_of_ble_eq_true rfl)) dH_staysFree_44 ⟨Nat.zero_le _, Nat.zero_le _⟩)) (fun r4 hr4 => ?_)
      subst hr4
      refine lv_if_ne (tgt := 54) hx hb dH_staysFree_47 (by decide) (fun c5 => ?_) (fun c5 => ?_)
      · replace c5 := ht_b1.mp c5
        refine lv_iconst (v := 0) hx hb dH_staysFree_54 (by decide) ?_
        exact W.zret (v := 0) (ty := .boolean) hx hb hr rfl (fun t ht hW => ⟨0, rfl, by simp [ht_stays, ht_b, c2, c5], ht⟩) (fun _ h => nomatch h) dH_staysFree_55
      · replace c5 := ht_b0.mp c5
        refine lv_iconst (v := 1) hx hb dH_staysFree_50 (by decide) ?_
        refine lv_goto (tgt := 55) hx hb dH_staysFree_51 (by decide) ?_
        exact W.zret (v := 1) (ty := .boolean) hx hb hr rfl (fun t ht hW => ⟨1, rfl, by simp [ht_stays, ht_b, c2, c5], ht⟩) (fun _ h => nomatch h) dH_staysFree_55
  · replace c2 := ht_b0.mp c2
    refine lv_aload_n hx hb dH_staysFree_21 rfl (lv_at hl 2 rfl) ?_
    refine lv_iload_n hx hb dH_staysFree_22 rfl (lv_at hl 1 rfl) ?_
    refine lv_iload_n hx hb dH_staysFree_23 rfl (lv_at hl 0 rfl) ?_
    refine vp_callSi (va_Run.run (va_runV (As := [.int (nI (z - z % 3)), .int (nI (z - z % 3 + 2))]) (rest := []) ⟨hx, hb, hml, hown, hts⟩ (xH_isAnyClaimedByMute l D cA q g k hk hn (nI (z - z % 3)) (nI (z - z % 3 + 2))) (cwV 2 hts (ht_gV w262 w264 s17 w1 w265) rfl rfl rfl (by decide +kernel) ⟨Nat.le_of_ble_eq_true rfl, Nat.le_of_ble_eq_true rfl⟩) ⟨ht_bl, va_recv hK hP (ci := 1) (q0 := 0) rfl ht_atO, fun U hU hW => ⟨rfl, ht_Im hP hK hN hU hW⟩⟩ rfl rfl hl.1 rfl (lv_room (Nat.le_of_ble_eq_true rfl)) dH_staysFree_24 ⟨Nat.zero_le _, Nat.zero_le _⟩)) (fun r6 hr6 => ?_)
    subst hr6
    refine lv_if_eq (tgt := 34) hx hb dH_staysFree_27 (by decide) (fun c7 => ?_) (fun c7 => ?_)
    · replace c7 := ht_b0.mp c7
      refine lv_iconst (v := 0) hx hb dH_staysFree_34 (by decide) ?_
      refine lv_istore (lv' := [(4, .int 0), (3, .int (nI (z - z % 3 + 2))), (2, .int (nI (z - z % 3))), (0, .ref (q 0)), (1, .int (nI z))]) hx hb dH_staysFree_35 hl (by decide) rfl (fun ls hl => ?_)
      refine lv_iload hx hb dH_staysFree_37 (lv_at hl 0 rfl) ?_
      refine lv_if_eq (tgt := 54) hx hb dH_staysFree_39 (by decide) (fun c8 => ?_) (fun c8 => ?_)
      · refine lv_iconst (v := 0) hx hb dH_staysFree_54 (by decide) ?_
        exact W.zret (v := 0) (ty := .boolean) hx hb hr rfl (fun t ht hW => ⟨0, rfl, by simp [ht_stays, ht_b, c2, c7], ht⟩) (fun _ h => nomatch h) dH_staysFree_55
      · exact absurd c8 (by decide)
    · replace c7 := ht_b1.mp c7
      refine lv_iconst (v := 1) hx hb dH_staysFree_30 (by decide) ?_
      refine lv_goto (tgt := 35) hx hb dH_staysFree_31 (by decide) ?_
      refine lv_istore (lv' := [(4, .int 1), (3, .int (nI (z - z % 3 + 2))), (2, .int (nI (z - z % 3))), (0, .ref (q 0)), (1, .int (nI z))]) hx hb dH_staysFree_35 hl (by decide) rfl (fun ls hl => ?_)
      refine lv_iload hx hb dH_staysFree_37 (lv_at hl 0 rfl) ?_
      refine lv_if_eq (tgt := 54) hx hb dH_staysFree_39 (by decide) (fun c9 => ?_) (fun c9 => ?_)
      · exact absurd c9 (by decide)
      · refine lv_aload_n hx hb dH_staysFree_42 rfl (lv_at hl 3 rfl) ?_
        refine lv_iload_n hx hb dH_staysFree_43 rfl (lv_at hl 4 rfl) ?_
        refine vp_callSi (va_Run.run (va_runV (As := [.int (nI z)]) (rest := []) ⟨hx, hb, hml, hown, hts⟩ (xH_wasLeftByBrokenTrain l D cA q g k hk hn z) (cwV 1 hts (ht_gV w267 w269 s18 w1 w270) rfl rfl rfl (by decide +kernel) ⟨Nat.le_of_ble_eq_true rfl, Nat.le_of_ble_eq_true rfl⟩) ⟨ht_bl, va_recv hK hP (ci := 1) (q0 := 0) rfl ht_atO, fun U hU hW => ⟨rfl, ht_Im hP hK hN hU hW⟩⟩ rfl rfl hl.1 rfl (lv_room (Nat.le_of_ble_eq_true rfl)) dH_staysFree_44 ⟨Nat.zero_le _, Nat.zero_le _⟩)) (fun r10 hr10 => ?_)
        subst hr10
        refine lv_if_ne (tgt := 54) hx hb dH_staysFree_47 (by decide) (fun c11 => ?_) (fun c11 => ?_)
        · replace c11 := ht_b1.mp c11
          refine lv_iconst (v := 0) hx hb dH_staysFree_54 (by decide) ?_
          exact W.zret (v := 0) (ty := .boolean) hx hb hr rfl (fun t ht hW => ⟨0, rfl, by simp [ht_stays, ht_b, c2, c7, c11], ht⟩) (fun _ h => nomatch h) dH_staysFree_55
        · replace c11 := ht_b0.mp c11
          refine lv_iconst (v := 1) hx hb dH_staysFree_50 (by decide) ?_
          refine lv_goto (tgt := 55) hx hb dH_staysFree_51 (by decide) ?_
          exact W.zret (v := 1) (ty := .boolean) hx hb hr rfl (fun t ht hW => ⟨1, rfl, by simp [ht_stays, ht_b, c2, c7, c11], ht⟩) (fun _ h => nomatch h) dH_staysFree_55
set_option maxHeartbeats 4000000 in
set_option maxRecDepth 100000 in
theorem xH_stateByReports (l : Launch) (D : va_G) (cA : ClassId × ClassId) (q : Nat → Nat) (g : ht_G) (k : Nat) (hk : k ≤ 8) (hn : g 0 0 = nI k) (z : Nat) (hs : z < 12) (ha3 : ¬ g 3 z = -1 → ∃ j, j < 8 ∧ g 3 z = nI j ∧ (g 3 z).toNatClampNeg = j) (ha4 : ¬ g 4 z = -1 → ∃ j, j < 8 ∧ g 4 z = nI j ∧ (g 4 z).toNatClampNeg = j) : Met l yH_stateByReports kH_stateByReports ({ frames := 4, cells := 0, slots := 0, locals := 87 }) (va_Pc [.ref (q 0), .int (nI z)] (ht_I D cA q g)) (vp_Si (fun r => r = ht_st g k z)) 0 0 (fun _ => False) := by
  refine Met.ofW (cc := cH_stateByReports) (maxL := 2) (ret := (some .int)) (by decide) rfl ?_
  intro p e s m args below meth c s₁ B hml hv
  obtain ⟨rfl, hP, hK, hN⟩ := hv
  have hx := B.exec
  have hb := B.bytes
  have hr := B.returns
  have hts := fun w h => atoms_spec (ws := kH_stateByReports) B.pre w (List.mem_cons_of_mem _ h)
  have hown : s.vm.findClass RH = some m.cls := findClass_of_methodNamed B.named
  have hlocks := B.notSynchronized
  have hl := lv_entry ([.ref (q 0), .int (nI z)]) (n := 2) (Nat.le_of_ble_eq_true rfl)
  rw [lg_entry_eq]
  generalize (lg_sl ([.ref (q 0), .int (nI z)]) ++ List.replicate (2 - (lg_sl ([.ref (q 0), .int (nI z)])).length) Slot.unset).toArray = ls at hl ⊢
  have hl : lv_has ls 2 [(0, .ref (q 0)), (1, .int (nI z))] := hl
  refine lv_aload_n hx hb dH_stateByReports_0 rfl (lv_at hl 0 rfl) ?_
  refine lv_iload_n hx hb dH_stateByReports_1 rfl (lv_at hl 1 rfl) ?_
  refine lv_iconst (v := 3) hx hb dH_stateByReports_2 (by decide) ?_
  refine lv_idiv hx hb dH_stateByReports_3 (by decide) ?_
  refine vp_callSi (va_Run.run (va_runV (As := [.int ((nI z) / 3)]) (rest := []) ⟨hx, hb, hml, hown, hts⟩ (xH_isDetectedOccupied l D cA q g k hk hn ((nI z) / 3)) (cwV 1 hts (ht_gV w246 w248 s13 w1 w249) rfl rfl rfl (by decide +kernel) ⟨Nat.le_of_ble_eq_true rfl, Nat.le_of_ble_eq_true rfl⟩) ⟨ht_bl, va_recv hK hP (ci := 1) (q0 := 0) rfl ht_atO, fun U hU hW => ⟨rfl, ht_Im hP hK hN hU hW⟩⟩ rfl rfl hl.1 rfl (lv_room (Nat.le_of_ble_eq_true rfl)) dH_stateByReports_4 ⟨Nat.zero_le _, Nat.zero_le _⟩)) (fun r1 hr1 => ?_)
  subst hr1
  refine lv_if_ne (tgt := 12) hx hb dH_stateByReports_7 (by decide) (fun c2 => ?_) (fun c2 => ?_)
  · replace c2 := ht_b1.mp c2
    refine lv_aload_n hx hb dH_stateByReports_12 rfl (lv_at hl 0 rfl) ?_
    refine va_get (D := D) (ci := 1) (C := RH) (T := TH) (N := 7) (v := .ref (q 3)) hx hb hts inH hown hK hP 0 ht_atO rfl 4 (by decide) (hts _ w81) (fun _ h9 => h9) rfl dH_stateByReports_13 ?_
    refine lv_iload_n hx hb dH_stateByReports_16 rfl (lv_at hl 1 rfl) ?_
    refine ht_ldI hx hb hK hP 2 (j := z) (by decide) (by decide) hs rfl dH_stateByReports_17 ?_
    refine lv_if_le (tgt := 27) hx hb dH_stateByReports_18 (by decide) (fun c3 => ?_) (fun c3 => ?_)
    · refine lv_aload_n hx hb dH_stateByReports_27 rfl (lv_at hl 0 rfl) ?_
      refine va_get (D := D) (ci := 1) (C := RH) (T := TH) (N := 7) (v := .ref (q 2)) hx hb hts inH hown hK hP 0 ht_atO rfl 3 (by decide) (hts _ w80) (fun _ h9 => h9) rfl dH_stateByReports_28 ?_
      refine lv_iload_n hx hb dH_stateByReports_31 rfl (lv_at hl 1 rfl) ?_
      refine ht_ldI hx hb hK hP 1 (j := z) (by decide) (by decide) hs rfl dH_stateByReports_32 ?_
      refine lv_if_ne (tgt := 50) hx hb dH_stateByReports_33 (by decide) (fun c4 => ?_) (fun c4 => ?_)
      · refine lv_aload_n hx hb dH_stateByReports_50 rfl (lv_at hl 0 rfl) ?_
        refine va_get (D := D) (ci := 1) (C := RH) (T := TH) (N := 7) (v := .ref (q 2)) hx hb hts inH hown hK hP 0 ht_atO rfl 3 (by decide) (hts _ w80) (fun _ h9 => h9) rfl dH_stateByReports_51 ?_
        refine lv_iload_n hx hb dH_stateByReports_54 rfl (lv_at hl 1 rfl) ?_
        refine ht_ldI hx hb hK hP 1 (j := z) (by decide) (by decide) hs rfl dH_stateByReports_55 ?_
        refine lv_iconst (v := 1) hx hb dH_stateByReports_56 (by decide) ?_
        refine lv_icmp_ne (tgt := 74) hx hb dH_stateByReports_57 (by decide) (fun c5 => ?_) (fun c5 => ?_)
        · refine lv_iconst (v := 3) hx hb dH_stateByReports_74 (by decide) ?_
          exact W.iret (v := 3) hx hb hr (fun t ht hW => ⟨3, rfl, by simp [ht_st, c2, c3, c4, c5], ht⟩) (fun _ h => nomatch h) dH_stateByReports_75
        · refine lv_aload_n hx hb dH_stateByReports_60 rfl (lv_at hl 0 rfl) ?_
          refine lv_iload_n hx hb dH_stateByReports_61 rfl (lv_at hl 1 rfl) ?_
          refine vp_callSi (va_Run.run (va_runV (As := [.int (nI z)]) (rest := []) ⟨hx, hb, hml, hown, hts⟩ (xH_wasLeftByWholeTrain l D cA q g z hs ha4) (cwV 1 hts (ht_gV w275 w277 s20 w1 w278) rfl rfl rfl (by decide +kernel) ⟨Nat.le_of_ble_eq_true rfl, Nat.le_of_ble_eq_true rfl⟩) ⟨ht_bl, va_recv hK hP (ci := 1) (q0 := 0) rfl ht_atO, fun U hU hW => ⟨rfl, ht_Im hP hK hN hU hW⟩⟩ rfl rfl hl.1 rfl (lv_room (Nat.le_of_ble_eq_true rfl)) dH_stateByReports_62 ⟨Nat.zero_le _, Nat.zero_le _⟩)) (fun r6 hr6 => ?_)
          subst hr6
          refine lv_if_eq (tgt := 72) hx hb dH_stateByReports_65 (by decide) (fun c7 => ?_) (fun c7 => ?_)
          · replace c7 := ht_b0.mp c7
            refine lv_iconst (v := 3) hx hb dH_stateByReports_72 (by decide) ?_
            exact W.iret (v := 3) hx hb hr (fun t ht hW => ⟨3, rfl, by simp [ht_st, c2, c3, c4, c5, c7], ht⟩) (fun _ h => nomatch h) dH_stateByReports_73
          · replace c7 := ht_b1.mp c7
            refine lv_iconst (v := 0) hx hb dH_stateByReports_68 (by decide) ?_
            refine lv_goto (tgt := 73) hx hb dH_stateByReports_69 (by decide) ?_
            exact W.iret (v := 0) hx hb hr (fun t ht hW => ⟨0, rfl, by simp [ht_st, c2, c3, c4, c5, c7], ht⟩) (fun _ h => nomatch h) dH_stateByReports_73
      · refine lv_aload_n hx hb dH_stateByReports_36 rfl (lv_at hl 0 rfl) ?_
        refine lv_iload_n hx hb dH_stateByReports_37 rfl (lv_at hl 1 rfl) ?_
        refine vp_callSi (va_Run.run (va_runV (As := [.int (nI z)]) (rest := []) ⟨hx, hb, hml, hown, hts⟩ (xH_staysFree l D cA q g k hk hn z hs) (cwV 1 hts (ht_gV w254 w256 s15 w1 w257) rfl rfl rfl (by decide +kernel) ⟨Nat.le_of_ble_eq_true rfl, Nat.le_of_ble_eq_true rfl⟩) ⟨ht_bl, va_recv hK hP (ci := 1) (q0 := 0) rfl ht_atO, fun U hU hW => ⟨rfl, ht_Im hP hK hN hU hW⟩⟩ rfl rfl hl.1 rfl (lv_room (Nat.le_of_ble_eq_true rfl)) dH_stateByReports_38 ⟨Nat.zero_le _, Nat.zero_le _⟩)) (fun r8 hr8 => ?_)
        subst hr8
        refine lv_if_eq (tgt := 48) hx hb dH_stateByReports_41 (by decide) (fun c9 => ?_) (fun c9 => ?_)
        · replace c9 := ht_b0.mp c9
          refine lv_iconst (v := 3) hx hb dH_stateByReports_48 (by decide) ?_
          exact W.iret (v := 3) hx hb hr (fun t ht hW => ⟨3, rfl, by simp [ht_st, c2, c3, c4, c9], ht⟩) (fun _ h => nomatch h) dH_stateByReports_49
        · replace c9 := ht_b1.mp c9
          refine lv_iconst (v := 0) hx hb dH_stateByReports_44 (by decide) ?_
          refine lv_goto (tgt := 49) hx hb dH_stateByReports_45 (by decide) ?_
          exact W.iret (v := 0) hx hb hr (fun t ht hW => ⟨0, rfl, by simp [ht_st, c2, c3, c4, c9], ht⟩) (fun _ h => nomatch h) dH_stateByReports_49
    · refine lv_aload_n hx hb dH_stateByReports_21 rfl (lv_at hl 0 rfl) ?_
      refine lv_iload_n hx hb dH_stateByReports_22 rfl (lv_at hl 1 rfl) ?_
      refine vp_callSi (va_Run.run (va_runV (As := [.int (nI z)]) (rest := []) ⟨hx, hb, hml, hown, hts⟩ (xH_stateUnderTrains l D cA q g z hs ha3) (cwV 1 hts (ht_gV w250 w252 s14 w1 w253) rfl rfl rfl (by decide +kernel) ⟨Nat.le_of_ble_eq_true rfl, Nat.le_of_ble_eq_true rfl⟩) ⟨ht_bl, va_recv hK hP (ci := 1) (q0 := 0) rfl ht_atO, fun U hU hW => ⟨rfl, ht_Im hP hK hN hU hW⟩⟩ rfl rfl hl.1 rfl (lv_room (Nat.le_of_ble_eq_true rfl)) dH_stateByReports_23 ⟨Nat.zero_le _, Nat.zero_le _⟩)) (fun r10 hr10 => ?_)
      subst hr10
      exact W.iret (v := ht_under g z) hx hb hr (fun t ht hW => ⟨ht_under g z, rfl, by simp [ht_st, c2, c3], ht⟩) (fun _ h => nomatch h) dH_stateByReports_26
  · replace c2 := ht_b0.mp c2
    refine lv_iconst (v := 0) hx hb dH_stateByReports_10 (by decide) ?_
    exact W.iret (v := 0) hx hb hr (fun t ht hW => ⟨0, rfl, by simp [ht_st, c2], ht⟩) (fun _ h => nomatch h) dH_stateByReports_11
