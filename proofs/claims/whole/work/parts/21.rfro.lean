set_option maxHeartbeats 4000000 in
set_option maxRecDepth 100000 in
theorem xM_thrown (l : Launch) (D : va_G) (cB : ClassId × ClassId) (q : Nat → Nat) (g : ht_G)  : Met l yM_thrown kM_thrown ({ frames := 0, cells := 0, slots := 0, locals := 0 }) (va_Pc [.ref (q 0)] (rf_I D cB q g)) (vp_Si (fun r => r = g 0 0)) 0 0 (fun _ => False) := by
  refine Met.ofW (cc := cM_thrown) (maxL := 1) (ret := (some .int)) (by decide) rfl ?_
  intro p e s m args below meth c s₁ B hml hv
  obtain ⟨rfl, hP, hK, hN⟩ := hv
  have hx := B.exec
  have hb := B.bytes
  have hr := B.returns
  have hts := fun w h => atoms_spec (ws := kM_thrown) B.pre w (List.mem_cons_of_mem _ h)
  have hown : s.vm.findClass RM = some m.cls := findClass_of_methodNamed B.named
  have hlocks := B.notSynchronized
  have hl := lv_entry ([.ref (q 0)]) (n := 1) (Nat.le_of_ble_eq_true rfl)
  rw [lg_entry_eq]
  generalize (lg_sl ([.ref (q 0)]) ++ List.replicate (1 - (lg_sl ([.ref (q 0)])).length) Slot.unset).toArray = ls at hl ⊢
  have hl : lv_has ls 1 [(0, .ref (q 0))] := hl
  refine lv_aload_n hx hb dM_thrown_0 rfl (lv_at hl 0 rfl) ?_
  refine va_get (D := D) (ci := 2) (C := RM) (T := TM) (N := 19) (v := .int (g 0 0)) hx hb hts inM hown hK hP 0 rf_at0 rfl 0 (by decide) (hts _ w444) (fun _ h9 => h9) rfl dM_thrown_1 ?_
  exact W.iret (v := g 0 0) hx hb hr (fun t ht hW => ⟨g 0 0, rfl, by rfl, ht⟩) (fun _ h => nomatch h) dM_thrown_4
set_option maxHeartbeats 4000000 in
set_option maxRecDepth 100000 in
theorem xM_in (l : Launch) (D : va_G) (cB : ClassId × ClassId) (q : Nat → Nat) (g : ht_G) (x a b : Int32) : Met l yM_in kM_in ({ frames := 0, cells := 0, slots := 0, locals := 0 }) (va_Pc [.int x, .int a, .int b] (rf_I D cB q g)) (vp_Si (fun r => r = ht_b (rf_in x a b))) 0 0 (fun _ => False) := by
  refine Met.ofW (cc := cM_in) (maxL := 3) (ret := (some .boolean)) (by decide) rfl ?_
  intro p e s m args below meth c s₁ B hml hv
  obtain ⟨rfl, hP, hK, hN⟩ := hv
  have hx := B.exec
  have hb := B.bytes
  have hr := B.returns
  have hts := fun w h => atoms_spec (ws := kM_in) B.pre w (List.mem_cons_of_mem _ h)
  have hown : s.vm.findClass RM = some m.cls := findClass_of_methodNamed B.named
  have hlocks := B.notSynchronized
  have hl := lv_entry ([.int x, .int a, .int b]) (n := 3) (Nat.le_of_ble_eq_true rfl)
  rw [lg_entry_eq]
  generalize (lg_sl ([.int x, .int a, .int b]) ++ List.replicate (3 - (lg_sl ([.int x, .int a, .int b])).length) Slot.unset).toArray = ls at hl ⊢
  have hl : lv_has ls 3 [(0, .int x), (1, .int a), (2, .int b)] := hl
  refine lv_iload_n hx hb dM_in_0 rfl (lv_at hl 0 rfl) ?_
  refine lv_iload_n hx hb dM_in_1 rfl (lv_at hl 1 rfl) ?_
  refine lv_icmp_lt (tgt := 14) hx hb dM_in_2 (by decide) (fun c1 => ?_) (fun c1 => ?_)
  · refine lv_iconst (v := 0) hx hb dM_in_14 (by decide) ?_
    exact W.zret (v := 0) (ty := .boolean) hx hb hr rfl (fun t ht hW => ⟨0, rfl, by simp [rf_in, ht_b, c1], ht⟩) (fun _ h => nomatch h) dM_in_15
  · refine lv_iload_n hx hb dM_in_5 rfl (lv_at hl 0 rfl) ?_
    refine lv_iload_n hx hb dM_in_6 rfl (lv_at hl 2 rfl) ?_
    refine lv_icmp_gt (tgt := 14) hx hb dM_in_7 (by decide) (fun c2 => ?_) (fun c2 => ?_)
    · refine lv_iconst (v := 0) hx hb dM_in_14 (by decide) ?_
      exact W.zret (v := 0) (ty := .boolean) hx hb hr rfl (fun t ht hW => ⟨0, rfl, by simp [rf_in, ht_b, c1, c2], ht⟩) (fun _ h => nomatch h) dM_in_15
    · refine lv_iconst (v := 1) hx hb dM_in_10 (by decide) ?_
      refine lv_goto (tgt := 15) hx hb dM_in_11 (by decide) ?_
      exact W.zret (v := 1) (ty := .boolean) hx hb hr rfl (fun t ht hW => ⟨1, rfl, by simp [rf_in, ht_b, c1, c2], ht⟩) (fun _ h => nomatch h) dM_in_15
set_option maxHeartbeats 4000000 in
set_option maxRecDepth 100000 in
theorem xM_last (l : Launch) (D : va_G) (cB : ClassId × ClassId) (q : Nat → Nat) (g : ht_G) (j : Nat) (hj : j < 8) : Met l yM_last kM_last ({ frames := 0, cells := 0, slots := 0, locals := 0 }) (va_Pc [.ref (q 0), .int (nI j)] (rf_I D cB q g)) (vp_Si (fun r => r = rf_last g j)) 0 0 (fun _ => False) := by
  refine Met.ofW (cc := cM_last) (maxL := 2) (ret := (some .int)) (by decide) rfl ?_
  intro p e s m args below meth c s₁ B hml hv
  obtain ⟨rfl, hP, hK, hN⟩ := hv
  have hx := B.exec
  have hb := B.bytes
  have hr := B.returns
  have hts := fun w h => atoms_spec (ws := kM_last) B.pre w (List.mem_cons_of_mem _ h)
  have hown : s.vm.findClass RM = some m.cls := findClass_of_methodNamed B.named
  have hlocks := B.notSynchronized
  have hl := lv_entry ([.ref (q 0), .int (nI j)]) (n := 2) (Nat.le_of_ble_eq_true rfl)
  rw [lg_entry_eq]
  generalize (lg_sl ([.ref (q 0), .int (nI j)]) ++ List.replicate (2 - (lg_sl ([.ref (q 0), .int (nI j)])).length) Slot.unset).toArray = ls at hl ⊢
  have hl : lv_has ls 2 [(0, .ref (q 0)), (1, .int (nI j))] := hl
  refine lv_aload_n hx hb dM_last_0 rfl (lv_at hl 0 rfl) ?_
  refine va_get (D := D) (ci := 2) (C := RM) (T := TM) (N := 19) (v := .ref (q 3)) hx hb hts inM hown hK hP 0 rf_at0 rfl 3 (by decide) (hts _ w447) (fun _ h9 => h9) rfl dM_last_1 ?_
  refine lv_iload_n hx hb dM_last_4 rfl (lv_at hl 1 rfl) ?_
  refine rf_ldI hx hb hK hP 3 (j := j) (by decide) (by decide) rfl hj rfl dM_last_5 ?_
  refine lv_aload_n hx hb dM_last_6 rfl (lv_at hl 0 rfl) ?_
  refine va_get (D := D) (ci := 2) (C := RM) (T := TM) (N := 19) (v := .ref (q 4)) hx hb hts inM hown hK hP 0 rf_at0 rfl 4 (by decide) (hts _ w448) (fun _ h9 => h9) rfl dM_last_7 ?_
  refine lv_iload_n hx hb dM_last_10 rfl (lv_at hl 1 rfl) ?_
  refine rf_ldI hx hb hK hP 4 (j := j) (by decide) (by decide) rfl hj rfl dM_last_11 ?_
  refine lv_isub hx hb dM_last_12 ?_
  refine lv_iconst (v := 1) hx hb dM_last_13 (by decide) ?_
  refine lv_iadd hx hb dM_last_14 ?_
  exact W.iret (v := ((g 3 j) - (g 4 j)) + 1) hx hb hr (fun t ht hW => ⟨((g 3 j) - (g 4 j)) + 1, rfl, by rfl, ht⟩) (fun _ h => nomatch h) dM_last_15
set_option maxHeartbeats 4000000 in
set_option maxRecDepth 100000 in
theorem xM_mute (l : Launch) (D : va_G) (cB : ClassId × ClassId) (q : Nat → Nat) (g : ht_G) (j : Nat) (hj : j < 8) : Met l yM_mute kM_mute ({ frames := 0, cells := 0, slots := 0, locals := 0 }) (va_Pc [.ref (q 0), .int (nI j)] (rf_I D cB q g)) (vp_Si (fun r => r = ht_b (rf_mute g j))) 0 0 (fun _ => False) := by
  refine Met.ofW (cc := cM_mute) (maxL := 2) (ret := (some .boolean)) (by decide) rfl ?_
  intro p e s m args below meth c s₁ B hml hv
  obtain ⟨rfl, hP, hK, hN⟩ := hv
  have hx := B.exec
  have hb := B.bytes
  have hr := B.returns
  have hts := fun w h => atoms_spec (ws := kM_mute) B.pre w (List.mem_cons_of_mem _ h)
  have hown : s.vm.findClass RM = some m.cls := findClass_of_methodNamed B.named
  have hlocks := B.notSynchronized
  have hl := lv_entry ([.ref (q 0), .int (nI j)]) (n := 2) (Nat.le_of_ble_eq_true rfl)
  rw [lg_entry_eq]
  generalize (lg_sl ([.ref (q 0), .int (nI j)]) ++ List.replicate (2 - (lg_sl ([.ref (q 0), .int (nI j)])).length) Slot.unset).toArray = ls at hl ⊢
  have hl : lv_has ls 2 [(0, .ref (q 0)), (1, .int (nI j))] := hl
  refine lv_aload_n hx hb dM_mute_0 rfl (lv_at hl 0 rfl) ?_
  refine va_get (D := D) (ci := 2) (C := RM) (T := TM) (N := 19) (v := .ref (q 12)) hx hb hts inM hown hK hP 0 rf_at0 rfl 12 (by decide) (hts _ w456) (fun _ h9 => h9) rfl dM_mute_1 ?_
  refine lv_iload_n hx hb dM_mute_4 rfl (lv_at hl 1 rfl) ?_
  refine rf_ldI hx hb hK hP 12 (j := j) (by decide) (by decide) rfl hj rfl dM_mute_5 ?_
  refine lv_iconst (v := 5) hx hb dM_mute_6 (by decide) ?_
  refine lv_icmp_le (tgt := 14) hx hb dM_mute_7 (by decide) (fun c1 => ?_) (fun c1 => ?_)
  · refine lv_iconst (v := 0) hx hb dM_mute_14 (by decide) ?_
    exact W.zret (v := 0) (ty := .boolean) hx hb hr rfl (fun t ht hW => ⟨0, rfl, by simp [rf_mute, ht_b, c1], ht⟩) (fun _ h => nomatch h) dM_mute_15
  · refine lv_iconst (v := 1) hx hb dM_mute_10 (by decide) ?_
    refine lv_goto (tgt := 15) hx hb dM_mute_11 (by decide) ?_
    exact W.zret (v := 1) (ty := .boolean) hx hb hr rfl (fun t ht hW => ⟨1, rfl, by simp [rf_mute, ht_b, c1], ht⟩) (fun _ h => nomatch h) dM_mute_15
set_option maxHeartbeats 4000000 in
set_option maxRecDepth 100000 in
theorem xM_located (l : Launch) (D : va_G) (cB : ClassId × ClassId) (q : Nat → Nat) (g : ht_G) (j : Nat) (hj : j < 8) (x : Int32) : Met l yM_located kM_located ({ frames := 1, cells := 0, slots := 0, locals := 21 }) (va_Pc [.ref (q 0), .int (nI j), .int x] (rf_I D cB q g)) (vp_Si (fun r => r = ht_b (rf_loc g j x))) 0 0 (fun _ => False) := by
  refine Met.ofW (cc := cM_located) (maxL := 3) (ret := (some .boolean)) (by decide) rfl ?_
  intro p e s m args below meth c s₁ B hml hv
  obtain ⟨rfl, hP, hK, hN⟩ := hv
  have hx := B.exec
  have hb := B.bytes
  have hr := B.returns
  have hts := fun w h => atoms_spec (ws := kM_located) B.pre w (List.mem_cons_of_mem _ h)
  have hown : s.vm.findClass RM = some m.cls := findClass_of_methodNamed B.named
  have hlocks := B.notSynchronized
  have hl := lv_entry ([.ref (q 0), .int (nI j), .int x]) (n := 3) (Nat.le_of_ble_eq_true rfl)
  rw [lg_entry_eq]
  generalize (lg_sl ([.ref (q 0), .int (nI j), .int x]) ++ List.replicate (3 - (lg_sl ([.ref (q 0), .int (nI j), .int x])).length) Slot.unset).toArray = ls at hl ⊢
  have hl : lv_has ls 3 [(0, .ref (q 0)), (1, .int (nI j)), (2, .int x)] := hl
  refine lv_aload_n hx hb dM_located_0 rfl (lv_at hl 0 rfl) ?_
  refine va_get (D := D) (ci := 2) (C := RM) (T := TM) (N := 19) (v := .ref (q 1)) hx hb hts inM hown hK hP 0 rf_at0 rfl 1 (by decide) (hts _ w445) (fun _ h9 => h9) rfl dM_located_1 ?_
  refine lv_iload_n hx hb dM_located_4 rfl (lv_at hl 1 rfl) ?_
  refine rf_ldZ hx hb hK hP 1 (j := j) (by decide) (by decide) rfl hj rfl dM_located_5 ?_
  refine lv_if_eq (tgt := 47) hx hb dM_located_6 (by decide) (fun c1 => ?_) (fun c1 => ?_)
  · refine lv_iconst (v := 0) hx hb dM_located_47 (by decide) ?_
    exact W.zret (v := 0) (ty := .boolean) hx hb hr rfl (fun t ht hW => ⟨0, rfl, by simp [rf_loc, ht_b, c1], ht⟩) (fun _ h => nomatch h) dM_located_48
  · refine lv_aload_n hx hb dM_located_9 rfl (lv_at hl 0 rfl) ?_
    refine lv_iload_n hx hb dM_located_10 rfl (lv_at hl 1 rfl) ?_
    refine vp_callSi (va_Run.run (va_runV (As := [.int (nI j)]) (rest := []) ⟨hx, hb, hml, hown, hts⟩ (xM_mute l D cB q g j hj) (cwV 1 hts (ht_gV w558 w560 s43 w3 w561) rfl rfl rfl (by decide +kernel) ⟨Nat.le_of_ble_eq_true rfl, Nat.le_of_ble_eq_true rfl⟩) ⟨rf_bl, va_recv hK hP (ci := 2) (q0 := 0) rfl rf_at0, fun U hU hW => ⟨rfl, rf_Im hP hK hN hU hW⟩⟩ rfl rfl hl.1 rfl (lv_room (Nat.le_of_ble_eq_true rfl)) dM_located_11 ⟨Nat.zero_le _, Nat.zero_le _⟩)) (fun r2 hr2 => ?_)
    subst hr2
    refine lv_if_ne (tgt := 47) hx hb dM_located_14 (by decide) (fun c3 => ?_) (fun c3 => ?_)
    · replace c3 := ht_b1.mp c3
      refine lv_iconst (v := 0) hx hb dM_located_47 (by decide) ?_
      exact W.zret (v := 0) (ty := .boolean) hx hb hr rfl (fun t ht hW => ⟨0, rfl, by simp [rf_loc, ht_b, c1, c3], ht⟩) (fun _ h => nomatch h) dM_located_48
    · replace c3 := ht_b0.mp c3
      refine lv_aload_n hx hb dM_located_17 rfl (lv_at hl 0 rfl) ?_
      refine va_get (D := D) (ci := 2) (C := RM) (T := TM) (N := 19) (v := .ref (q 10)) hx hb hts inM hown hK hP 0 rf_at0 rfl 10 (by decide) (hts _ w454) (fun _ h9 => h9) rfl dM_located_18 ?_
      refine lv_iload_n hx hb dM_located_21 rfl (lv_at hl 1 rfl) ?_
      refine rf_ldI hx hb hK hP 10 (j := j) (by decide) (by decide) rfl hj rfl dM_located_22 ?_
      refine lv_bipush (v := 10) hx hb dM_located_23 (by decide) ?_
      refine lv_idiv hx hb dM_located_25 (by decide) ?_
      refine lv_iload_n hx hb dM_located_26 rfl (lv_at hl 2 rfl) ?_
      refine lv_icmp_gt (tgt := 47) hx hb dM_located_27 (by decide) (fun c4 => ?_) (fun c4 => ?_)
      · refine lv_iconst (v := 0) hx hb dM_located_47 (by decide) ?_
        exact W.zret (v := 0) (ty := .boolean) hx hb hr rfl (fun t ht hW => ⟨0, rfl, by simp [rf_loc, ht_b, c1, c3, c4], ht⟩) (fun _ h => nomatch h) dM_located_48
      · refine lv_aload_n hx hb dM_located_30 rfl (lv_at hl 0 rfl) ?_
        refine va_get (D := D) (ci := 2) (C := RM) (T := TM) (N := 19) (v := .ref (q 9)) hx hb hts inM hown hK hP 0 rf_at0 rfl 9 (by decide) (hts _ w453) (fun _ h9 => h9) rfl dM_located_31 ?_
        refine lv_iload_n hx hb dM_located_34 rfl (lv_at hl 1 rfl) ?_
        refine rf_ldI hx hb hK hP 9 (j := j) (by decide) (by decide) rfl hj rfl dM_located_35 ?_
        refine lv_bipush (v := 10) hx hb dM_located_36 (by decide) ?_
        refine lv_idiv hx hb dM_located_38 (by decide) ?_
        refine lv_iload_n hx hb dM_located_39 rfl (lv_at hl 2 rfl) ?_
        refine lv_icmp_lt (tgt := 47) hx hb dM_located_40 (by decide) (fun c5 => ?_) (fun c5 => ?_)
        · refine lv_iconst (v := 0) hx hb dM_located_47 (by decide) ?_
          exact W.zret (v := 0) (ty := .boolean) hx hb hr rfl (fun t ht hW => ⟨0, rfl, by simp [rf_loc, ht_b, c1, c3, c4, c5], ht⟩) (fun _ h => nomatch h) dM_located_48
        · refine lv_iconst (v := 1) hx hb dM_located_43 (by decide) ?_
          refine lv_goto (tgt := 48) hx hb dM_located_44 (by decide) ?_
          exact W.zret (v := 1) (ty := .boolean) hx hb hr rfl (fun t ht hW => ⟨1, rfl, by simp [rf_loc, ht_b, c1, c3, c4, c5], ht⟩) (fun _ h => nomatch h) dM_located_48
set_option maxHeartbeats 4000000 in
set_option maxRecDepth 100000 in
theorem xM_claims (l : Launch) (D : va_G) (cB : ClassId × ClassId) (q : Nat → Nat) (g : ht_G) (j : Nat) (hj : j < 8) (x : Int32) : Met l yM_claims kM_claims ({ frames := 0, cells := 0, slots := 0, locals := 0 }) (va_Pc [.ref (q 0), .int (nI j), .int x] (rf_I D cB q g)) (vp_Si (fun r => r = ht_b (rf_claims g j x))) 0 0 (fun _ => False) := by
  refine Met.ofW (cc := cM_claims) (maxL := 3) (ret := (some .boolean)) (by decide) rfl ?_
  intro p e s m args below meth c s₁ B hml hv
  obtain ⟨rfl, hP, hK, hN⟩ := hv
  have hx := B.exec
  have hb := B.bytes
  have hr := B.returns
  have hts := fun w h => atoms_spec (ws := kM_claims) B.pre w (List.mem_cons_of_mem _ h)
  have hown : s.vm.findClass RM = some m.cls := findClass_of_methodNamed B.named
  have hlocks := B.notSynchronized
  have hl := lv_entry ([.ref (q 0), .int (nI j), .int x]) (n := 3) (Nat.le_of_ble_eq_true rfl)
  rw [lg_entry_eq]
  generalize (lg_sl ([.ref (q 0), .int (nI j), .int x]) ++ List.replicate (3 - (lg_sl ([.ref (q 0), .int (nI j), .int x])).length) Slot.unset).toArray = ls at hl ⊢
  have hl : lv_has ls 3 [(0, .ref (q 0)), (1, .int (nI j)), (2, .int x)] := hl
  refine lv_aload_n hx hb dM_claims_0 rfl (lv_at hl 0 rfl) ?_
  refine va_get (D := D) (ci := 2) (C := RM) (T := TM) (N := 19) (v := .ref (q 1)) hx hb hts inM hown hK hP 0 rf_at0 rfl 1 (by decide) (hts _ w445) (fun _ h9 => h9) rfl dM_claims_1 ?_
  refine lv_iload_n hx hb dM_claims_4 rfl (lv_at hl 1 rfl) ?_
  refine rf_ldZ hx hb hK hP 1 (j := j) (by decide) (by decide) rfl hj rfl dM_claims_5 ?_
  refine lv_if_eq (tgt := 39) hx hb dM_claims_6 (by decide) (fun c1 => ?_) (fun c1 => ?_)
  · refine lv_iconst (v := 0) hx hb dM_claims_39 (by decide) ?_
    exact W.zret (v := 0) (ty := .boolean) hx hb hr rfl (fun t ht hW => ⟨0, rfl, by simp [rf_claims, ht_b, c1], ht⟩) (fun _ h => nomatch h) dM_claims_40
  · refine lv_aload_n hx hb dM_claims_9 rfl (lv_at hl 0 rfl) ?_
    refine va_get (D := D) (ci := 2) (C := RM) (T := TM) (N := 19) (v := .ref (q 10)) hx hb hts inM hown hK hP 0 rf_at0 rfl 10 (by decide) (hts _ w454) (fun _ h9 => h9) rfl dM_claims_10 ?_
    refine lv_iload_n hx hb dM_claims_13 rfl (lv_at hl 1 rfl) ?_
    refine rf_ldI hx hb hK hP 10 (j := j) (by decide) (by decide) rfl hj rfl dM_claims_14 ?_
    refine lv_bipush (v := 10) hx hb dM_claims_15 (by decide) ?_
    refine lv_idiv hx hb dM_claims_17 (by decide) ?_
    refine lv_iload_n hx hb dM_claims_18 rfl (lv_at hl 2 rfl) ?_
    refine lv_icmp_gt (tgt := 39) hx hb dM_claims_19 (by decide) (fun c2 => ?_) (fun c2 => ?_)
    · refine lv_iconst (v := 0) hx hb dM_claims_39 (by decide) ?_
      exact W.zret (v := 0) (ty := .boolean) hx hb hr rfl (fun t ht hW => ⟨0, rfl, by simp [rf_claims, ht_b, c1, c2], ht⟩) (fun _ h => nomatch h) dM_claims_40
    · refine lv_aload_n hx hb dM_claims_22 rfl (lv_at hl 0 rfl) ?_
      refine va_get (D := D) (ci := 2) (C := RM) (T := TM) (N := 19) (v := .ref (q 6)) hx hb hts inM hown hK hP 0 rf_at0 rfl 6 (by decide) (hts _ w450) (fun _ h9 => h9) rfl dM_claims_23 ?_
      refine lv_iload_n hx hb dM_claims_26 rfl (lv_at hl 1 rfl) ?_
      refine rf_ldI hx hb hK hP 6 (j := j) (by decide) (by decide) rfl hj rfl dM_claims_27 ?_
      refine lv_bipush (v := 10) hx hb dM_claims_28 (by decide) ?_
      refine lv_idiv hx hb dM_claims_30 (by decide) ?_
      refine lv_iload_n hx hb dM_claims_31 rfl (lv_at hl 2 rfl) ?_
      refine lv_icmp_lt (tgt := 39) hx hb dM_claims_32 (by decide) (fun c3 => ?_) (fun c3 => ?_)
      · refine lv_iconst (v := 0) hx hb dM_claims_39 (by decide) ?_
        exact W.zret (v := 0) (ty := .boolean) hx hb hr rfl (fun t ht hW => ⟨0, rfl, by simp [rf_claims, ht_b, c1, c2, c3], ht⟩) (fun _ h => nomatch h) dM_claims_40
      · refine lv_iconst (v := 1) hx hb dM_claims_35 (by decide) ?_
        refine lv_goto (tgt := 40) hx hb dM_claims_36 (by decide) ?_
        exact W.zret (v := 1) (ty := .boolean) hx hb hr rfl (fun t ht hW => ⟨1, rfl, by simp [rf_claims, ht_b, c1, c2, c3], ht⟩) (fun _ h => nomatch h) dM_claims_40
set_option maxHeartbeats 4000000 in
set_option maxRecDepth 100000 in
theorem xM_isTrain (l : Launch) (D : va_G) (cB : ClassId × ClassId) (q : Nat → Nat) (g : ht_G) (k : Nat) (hk : k ≤ 8) (hn : g 0 1 = nI k) (x : Int32) : Met l yM_isTrain kM_isTrain ({ frames := 1, cells := 0, slots := 0, locals := 22 }) (va_Pc [.ref (q 0), .int x] (rf_I D cB q g)) (vp_Si (fun r => r = ht_b (rf_isT g k x))) 0 0 (fun _ => False) := by
  refine Met.ofW (cc := cM_isTrain) (maxL := 2) (ret := (some .boolean)) (by decide) rfl ?_
  intro p e s m args below meth c s₁ B hml hv
  obtain ⟨rfl, hP, hK, hN⟩ := hv
  have hx := B.exec
  have hb := B.bytes
  have hr := B.returns
  have hts := fun w h => atoms_spec (ws := kM_isTrain) B.pre w (List.mem_cons_of_mem _ h)
  have hown : s.vm.findClass RM = some m.cls := findClass_of_methodNamed B.named
  have hlocks := B.notSynchronized
  have hl := lv_entry ([.ref (q 0), .int x]) (n := 2) (Nat.le_of_ble_eq_true rfl)
  rw [lg_entry_eq]
  generalize (lg_sl ([.ref (q 0), .int x]) ++ List.replicate (2 - (lg_sl ([.ref (q 0), .int x])).length) Slot.unset).toArray = ls at hl ⊢
  have hl : lv_has ls 2 [(0, .ref (q 0)), (1, .int x)] := hl
  refine lv_iload_n hx hb dM_isTrain_0 rfl (lv_at hl 1 rfl) ?_
  refine lv_iconst (v := 0) hx hb dM_isTrain_1 (by decide) ?_
  refine lv_aload_n hx hb dM_isTrain_2 rfl (lv_at hl 0 rfl) ?_
  refine va_get (D := D) (ci := 2) (C := RM) (T := TM) (N := 19) (v := .int (g 0 1)) hx hb hts inM hown hK hP 0 rf_at0 rfl 14 (by decide) (hts _ w458) (fun _ h9 => h9) rfl dM_isTrain_3 ?_
  refine lv_iconst (v := 1) hx hb dM_isTrain_6 (by decide) ?_
  refine lv_isub hx hb dM_isTrain_7 ?_
  refine vp_callSi (va_Run.run (va_runS (As := [.int x, .int 0, .int ((g 0 1) - 1)]) (rest := []) ⟨hx, hb, hml, hown, hts⟩ (xM_in l D cB q g x 0 ((g 0 1) - 1)) (cwS 3 hts (ht_gS w511 w512 w3 w513) rfl rfl rfl (by decide +kernel) ⟨Nat.le_of_ble_eq_true rfl, Nat.le_of_ble_eq_true rfl⟩) ⟨rf_bl, fun U hU hW => ⟨rfl, rf_Im hP hK hN hU hW⟩⟩ rfl rfl hl.1 rfl (lv_room (Nat.le_of_ble_eq_true rfl)) dM_isTrain_8 ⟨Nat.zero_le _, Nat.zero_le _⟩)) (fun r1 hr1 => ?_)
  subst hr1
  refine lv_if_eq (tgt := 27) hx hb dM_isTrain_11 (by decide) (fun c2 => ?_) (fun c2 => ?_)
  · replace c2 := ht_b0.mp c2
    rw [hn] at c2
    refine lv_iconst (v := 0) hx hb dM_isTrain_27 (by decide) ?_
    exact W.zret (v := 0) (ty := .boolean) hx hb hr rfl (fun t ht hW => ⟨0, rfl, by simp [rf_isT, ht_b, c2], ht⟩) (fun _ h => nomatch h) dM_isTrain_28
  · replace c2 := ht_b1.mp c2
    rw [hn] at c2
    obtain ⟨j, hjl, hxj, hxc⟩ := rf_ix hk c2
    refine lv_aload_n hx hb dM_isTrain_14 rfl (lv_at hl 0 rfl) ?_
    refine va_get (D := D) (ci := 2) (C := RM) (T := TM) (N := 19) (v := .ref (q 1)) hx hb hts inM hown hK hP 0 rf_at0 rfl 1 (by decide) (hts _ w445) (fun _ h9 => h9) rfl dM_isTrain_15 ?_
    refine lv_iload_n hx hb dM_isTrain_18 rfl (lv_at hl 1 rfl) ?_
    refine rf_ldZ hx hb hK hP 1 (j := j) (by decide) (by decide) rfl (Nat.lt_of_lt_of_le hjl hk) hxj dM_isTrain_19 ?_
    refine lv_if_eq (tgt := 27) hx hb dM_isTrain_20 (by decide) (fun c3 => ?_) (fun c3 => ?_)
    · refine lv_iconst (v := 0) hx hb dM_isTrain_27 (by decide) ?_
      exact W.zret (v := 0) (ty := .boolean) hx hb hr rfl (fun t ht hW => ⟨0, rfl, by simp [rf_isT, ht_b, hxc, c2, c3], ht⟩) (fun _ h => nomatch h) dM_isTrain_28
    · refine lv_iconst (v := 1) hx hb dM_isTrain_23 (by decide) ?_
      refine lv_goto (tgt := 28) hx hb dM_isTrain_24 (by decide) ?_
      exact W.zret (v := 1) (ty := .boolean) hx hb hr rfl (fun t ht hW => ⟨1, rfl, by simp [rf_isT, ht_b, hxc, c2, c3], ht⟩) (fun _ h => nomatch h) dM_isTrain_28
set_option maxHeartbeats 4000000 in
set_option maxRecDepth 100000 in
theorem xM_occupied (l : Launch) (D : va_G) (cB : ClassId × ClassId) (q : Nat → Nat) (g : ht_G) (k : Nat) (hk : k ≤ 8) (hn : g 0 1 = nI k) (d : Int32) : Met l yM_occupied kM_occupied ({ frames := 1, cells := 0, slots := 0, locals := 21 }) (va_Pc [.ref (q 0), .int d] (rf_I D cB q g)) (vp_Si (fun r => r = ht_b (rf_occ g k d))) 0 0 (fun _ => False) := by
  refine Met.ofW (cc := cM_occupied) (maxL := 3) (ret := (some .boolean)) (by decide) rfl ?_
  intro p e s m args below meth c s₁ B hml hv
  obtain ⟨rfl, hP, hK, hN⟩ := hv
  have hx := B.exec
  have hb := B.bytes
  have hr := B.returns
  have hts := fun w h => atoms_spec (ws := kM_occupied) B.pre w (List.mem_cons_of_mem _ h)
  have hown : s.vm.findClass RM = some m.cls := findClass_of_methodNamed B.named
  have hlocks := B.notSynchronized
  have hl := lv_entry ([.ref (q 0), .int d]) (n := 3) (Nat.le_of_ble_eq_true rfl)
  rw [lg_entry_eq]
  generalize (lg_sl ([.ref (q 0), .int d]) ++ List.replicate (3 - (lg_sl ([.ref (q 0), .int d])).length) Slot.unset).toArray = ls at hl ⊢
  have hl : lv_has ls 3 [(0, .ref (q 0)), (1, .int d)] := hl
  have K2 : ∀ (n9 : Nat), ∀ (j : Nat), (k + 1 ≤ j + n9) → (j ≤ k) → (ht_ex (fun v => !decide (g 2 v = 0) && (!decide (g 3 v / 30 < d) && !decide (d < rf_last g v / 30))) j = false) → ∀ (ls : Array Slot), lv_has ls 3 [(0, .ref (q 0)), (1, .int d), (2, .int (nI j))] → W p l e (headSpec kM_occupied ({ frames := 1, cells := 0, slots := 0, locals := 21 })).room s m [.ref (q 0), .int d].toArray below meth c s.heap [] 0 0 (MQ below (vp_Si (fun r => r = ht_b (rf_occ g k d))) [.ref (q 0), .int d].toArray s 0 0 (fun _ => False)) (F0 m 2 ls []) := by
    intro n9
    induction n9 with
    | zero =>
      intro j hn9 hjk hE ls hl
      exact absurd hn9 (by omega)
    | succ n9 ih =>
      intro j hn9 hjk hE ls hl
      refine lv_iload_n hx hb dM_occupied_2 rfl (lv_at hl 2 rfl) ?_
      refine lv_aload_n hx hb dM_occupied_3 rfl (lv_at hl 0 rfl) ?_
      refine va_get (D := D) (ci := 2) (C := RM) (T := TM) (N := 19) (v := .int (g 0 1)) hx hb hts inM hown hK hP 0 rf_at0 rfl 14 (by decide) (hts _ w458) (fun _ h9 => h9) rfl dM_occupied_4 ?_
      refine lv_icmp_ge (tgt := 52) hx hb dM_occupied_7 (by decide) (fun c1 => ?_) (fun c1 => ?_)
      · rw [hn] at c1
        have e9 : j = k := ht_end hk hjk c1
        refine lv_iconst (v := 0) hx hb dM_occupied_52 (by decide) ?_
        exact W.zret (v := 0) (ty := .boolean) hx hb hr rfl (fun t ht hW => ⟨0, rfl, by rw [e9] at hE; simp [rf_occ, ht_b, hE], ht⟩) (fun _ h => nomatch h) dM_occupied_53
      · rw [hn] at c1
        have hjl : j < k := ht_lt hk hjk c1
        have hj8 : j < 8 := Nat.lt_of_lt_of_le hjl hk
        refine lv_aload_n hx hb dM_occupied_10 rfl (lv_at hl 0 rfl) ?_
        refine va_get (D := D) (ci := 2) (C := RM) (T := TM) (N := 19) (v := .ref (q 2)) hx hb hts inM hown hK hP 0 rf_at0 rfl 2 (by decide) (hts _ w446) (fun _ h9 => h9) rfl dM_occupied_11 ?_
        refine lv_iload_n hx hb dM_occupied_14 rfl (lv_at hl 2 rfl) ?_
        refine rf_ldZ hx hb hK hP 2 (j := j) (by decide) (by decide) rfl hj8 rfl dM_occupied_15 ?_
        refine lv_if_eq (tgt := 46) hx hb dM_occupied_16 (by decide) (fun c2 => ?_) (fun c2 => ?_)
        · refine lv_iinc (v := nI (j + 1)) (lv' := [(2, .int (nI (j + 1))), (0, .ref (q 0)), (1, .int d)]) hx hb dM_occupied_46 hl (k := 2) rfl (nI_1 _) (by decide) rfl (fun ls hl => ?_)
          refine lv_goto (tgt := 2) hx hb dM_occupied_49 (by decide) ?_
          exact ih (j + 1) (by omega) (by omega) (ht_ex_s hE (by simp [c2])) ls (lv_sub hl [1, 2, 0] rfl)
        · refine lv_aload_n hx hb dM_occupied_19 rfl (lv_at hl 0 rfl) ?_
          refine va_get (D := D) (ci := 2) (C := RM) (T := TM) (N := 19) (v := .ref (q 3)) hx hb hts inM hown hK hP 0 rf_at0 rfl 3 (by decide) (hts _ w447) (fun _ h9 => h9) rfl dM_occupied_20 ?_
          refine lv_iload_n hx hb dM_occupied_23 rfl (lv_at hl 2 rfl) ?_
          refine rf_ldI hx hb hK hP 3 (j := j) (by decide) (by decide) rfl hj8 rfl dM_occupied_24 ?_
          refine lv_bipush (v := 30) hx hb dM_occupied_25 (by decide) ?_
          refine lv_idiv hx hb dM_occupied_27 (by decide) ?_
          refine lv_iload_n hx hb dM_occupied_28 rfl (lv_at hl 1 rfl) ?_
          refine lv_icmp_lt (tgt := 46) hx hb dM_occupied_29 (by decide) (fun c3 => ?_) (fun c3 => ?_)
          · refine lv_iinc (v := nI (j + 1)) (lv' := [(2, .int (nI (j + 1))), (0, .ref (q 0)), (1, .int d)]) hx hb dM_occupied_46 hl (k := 2) rfl (nI_1 _) (by decide) rfl (fun ls hl => ?_)
            refine lv_goto (tgt := 2) hx hb dM_occupied_49 (by decide) ?_
            exact ih (j + 1) (by omega) (by omega) (ht_ex_s hE (by simp [c2, c3])) ls (lv_sub hl [1, 2, 0] rfl)
          · refine lv_aload_n hx hb dM_occupied_32 rfl (lv_at hl 0 rfl) ?_
            refine lv_iload_n hx hb dM_occupied_33 rfl (lv_at hl 2 rfl) ?_
            refine vp_callSi (va_Run.run (va_runV (As := [.int (nI j)]) (rest := []) ⟨hx, hb, hml, hown, hts⟩ (xM_last l D cB q g j hj8 ) (cwV 1 hts (ht_gV w522 w524 s34 w3 w525) rfl rfl rfl (by decide +kernel) ⟨Nat.le_of_ble_eq_true rfl, Nat.le_of_ble_eq_true rfl⟩) ⟨rf_bl, va_recv hK hP (ci := 2) (q0 := 0) rfl rf_at0, fun U hU hW => ⟨rfl, rf_Im hP hK hN hU hW⟩⟩ rfl rfl hl.1 rfl (lv_room (Nat.le_of_ble_eq_true rfl)) dM_occupied_34 ⟨Nat.zero_le _, Nat.zero_le _⟩)) (fun r4 hr4 => ?_)
            subst hr4
            refine lv_bipush (v := 30) hx hb dM_occupied_37 (by decide) ?_
            refine lv_idiv hx hb dM_occupied_39 (by decide) ?_
            refine lv_iload_n hx hb dM_occupied_40 rfl (lv_at hl 1 rfl) ?_
            refine lv_icmp_gt (tgt := 46) hx hb dM_occupied_41 (by decide) (fun c5 => ?_) (fun c5 => ?_)
            · refine lv_iinc (v := nI (j + 1)) (lv' := [(2, .int (nI (j + 1))), (0, .ref (q 0)), (1, .int d)]) hx hb dM_occupied_46 hl (k := 2) rfl (nI_1 _) (by decide) rfl (fun ls hl => ?_)
              refine lv_goto (tgt := 2) hx hb dM_occupied_49 (by decide) ?_
              exact ih (j + 1) (by omega) (by omega) (ht_ex_s hE (by simp [c2, c3, c5])) ls (lv_sub hl [1, 2, 0] rfl)
            · refine lv_iconst (v := 1) hx hb dM_occupied_44 (by decide) ?_
              exact W.zret (v := 1) (ty := .boolean) hx hb hr rfl (fun t ht hW => ⟨1, rfl, by rw [rf_occ, ht_ex_t (i := j) hjl (by simp [c2, c3, c5])]; rfl, ht⟩) (fun _ h => nomatch h) dM_occupied_45
  refine lv_iconst (v := 0) hx hb dM_occupied_0 (by decide) ?_
  refine lv_istore_n (lv' := [(2, .int 0), (0, .ref (q 0)), (1, .int d)]) hx hb dM_occupied_1 rfl hl (by decide) rfl (fun ls hl => ?_)
  exact K2 (k + 1) 0 (by omega) (by omega) rfl ls (lv_sub hl [1, 2, 0] rfl)
set_option maxHeartbeats 4000000 in
set_option maxRecDepth 100000 in
theorem xM_claimed (l : Launch) (D : va_G) (cB : ClassId × ClassId) (q : Nat → Nat) (g : ht_G) (k : Nat) (hk : k ≤ 8) (hn : g 0 1 = nI k) (x b : Int32) : Met l yM_claimed kM_claimed ({ frames := 1, cells := 0, slots := 0, locals := 22 }) (va_Pc [.ref (q 0), .int x, .int b] (rf_I D cB q g)) (vp_Si (fun r => r = ht_b (rf_claimed g k x b))) 0 0 (fun _ => False) := by
  refine Met.ofW (cc := cM_claimed) (maxL := 4) (ret := (some .boolean)) (by decide) rfl ?_
  intro p e s m args below meth c s₁ B hml hv
  obtain ⟨rfl, hP, hK, hN⟩ := hv
  have hx := B.exec
  have hb := B.bytes
  have hr := B.returns
  have hts := fun w h => atoms_spec (ws := kM_claimed) B.pre w (List.mem_cons_of_mem _ h)
  have hown : s.vm.findClass RM = some m.cls := findClass_of_methodNamed B.named
  have hlocks := B.notSynchronized
  have hl := lv_entry ([.ref (q 0), .int x, .int b]) (n := 4) (Nat.le_of_ble_eq_true rfl)
  rw [lg_entry_eq]
  generalize (lg_sl ([.ref (q 0), .int x, .int b]) ++ List.replicate (4 - (lg_sl ([.ref (q 0), .int x, .int b])).length) Slot.unset).toArray = ls at hl ⊢
  have hl : lv_has ls 4 [(0, .ref (q 0)), (1, .int x), (2, .int b)] := hl
  have K2 : ∀ (n9 : Nat), ∀ (j : Nat), (k + 1 ≤ j + n9) → (j ≤ k) → (ht_ex (fun t => !decide (nI t = b) && rf_claims g t x) j = false) → ∀ (ls : Array Slot), lv_has ls 4 [(0, .ref (q 0)), (1, .int x), (2, .int b), (3, .int (nI j))] → W p l e (headSpec kM_claimed ({ frames := 1, cells := 0, slots := 0, locals := 22 })).room s m [.ref (q 0), .int x, .int b].toArray below meth c s.heap [] 0 0 (MQ below (vp_Si (fun r => r = ht_b (rf_claimed g k x b))) [.ref (q 0), .int x, .int b].toArray s 0 0 (fun _ => False)) (F0 m 2 ls []) := by
    intro n9
    induction n9 with
    | zero =>
      intro j hn9 hjk hE ls hl
      exact absurd hn9 (by omega)
    | succ n9 ih =>
      intro j hn9 hjk hE ls hl
      refine lv_iload_n hx hb dM_claimed_2 rfl (lv_at hl 3 rfl) ?_
      refine lv_aload_n hx hb dM_claimed_3 rfl (lv_at hl 0 rfl) ?_
      refine va_get (D := D) (ci := 2) (C := RM) (T := TM) (N := 19) (v := .int (g 0 1)) hx hb hts inM hown hK hP 0 rf_at0 rfl 14 (by decide) (hts _ w458) (fun _ h9 => h9) rfl dM_claimed_4 ?_
      refine lv_icmp_ge (tgt := 32) hx hb dM_claimed_7 (by decide) (fun c1 => ?_) (fun c1 => ?_)
      · rw [hn] at c1
        have e9 : j = k := ht_end hk hjk c1
        refine lv_iconst (v := 0) hx hb dM_claimed_32 (by decide) ?_
        exact W.zret (v := 0) (ty := .boolean) hx hb hr rfl (fun t ht hW => ⟨0, rfl, by rw [e9] at hE; simp [rf_claimed, ht_b, hE], ht⟩) (fun _ h => nomatch h) dM_claimed_33
      · rw [hn] at c1
        have hjl : j < k := ht_lt hk hjk c1
        have hj8 : j < 8 := Nat.lt_of_lt_of_le hjl hk
        refine lv_iload_n hx hb dM_claimed_10 rfl (lv_at hl 3 rfl) ?_
        refine lv_iload_n hx hb dM_claimed_11 rfl (lv_at hl 2 rfl) ?_
        refine lv_icmp_eq (tgt := 26) hx hb dM_claimed_12 (by decide) (fun c2 => ?_) (fun c2 => ?_)
        · refine lv_iinc (v := nI (j + 1)) (lv' := [(3, .int (nI (j + 1))), (0, .ref (q 0)), (1, .int x), (2, .int b)]) hx hb dM_claimed_26 hl (k := 3) rfl (nI_1 _) (by decide) rfl (fun ls hl => ?_)
          refine lv_goto (tgt := 2) hx hb dM_claimed_29 (by decide) ?_
          exact ih (j + 1) (by omega) (by omega) (ht_ex_s hE (by simp [c2])) ls (lv_sub hl [1, 2, 3, 0] rfl)
        · refine lv_aload_n hx hb dM_claimed_15 rfl (lv_at hl 0 rfl) ?_
          refine lv_iload_n hx hb dM_claimed_16 rfl (lv_at hl 3 rfl) ?_
          refine lv_iload_n hx hb dM_claimed_17 rfl (lv_at hl 1 rfl) ?_
          refine vp_callSi (va_Run.run (va_runV (As := [.int (nI j), .int x]) (rest := []) ⟨hx, hb, hml, hown, hts⟩ (xM_claims l D cB q g j hj8 x) (cwV 2 hts (ht_gV w530 w532 s36 w3 w533) rfl rfl rfl (by decide +kernel) ⟨Nat.le_of_ble_eq_true rfl, Nat.le_of_ble_eq_true rfl⟩) ⟨rf_bl, va_recv hK hP (ci := 2) (q0 := 0) rfl rf_at0, fun U hU hW => ⟨rfl, rf_Im hP hK hN hU hW⟩⟩ rfl rfl hl.1 rfl (lv_room (Nat.le_of_ble_eq_true rfl)) dM_claimed_18 ⟨Nat.zero_le _, Nat.zero_le _⟩)) (fun r3 hr3 => ?_)
          subst hr3
          refine lv_if_eq (tgt := 26) hx hb dM_claimed_21 (by decide) (fun c4 => ?_) (fun c4 => ?_)
          · replace c4 := ht_b0.mp c4
            refine lv_iinc (v := nI (j + 1)) (lv' := [(3, .int (nI (j + 1))), (0, .ref (q 0)), (1, .int x), (2, .int b)]) hx hb dM_claimed_26 hl (k := 3) rfl (nI_1 _) (by decide) rfl (fun ls hl => ?_)
            refine lv_goto (tgt := 2) hx hb dM_claimed_29 (by decide) ?_
            exact ih (j + 1) (by omega) (by omega) (ht_ex_s hE (by simp [c2, c4])) ls (lv_sub hl [1, 2, 3, 0] rfl)
          · replace c4 := ht_b1.mp c4
            refine lv_iconst (v := 1) hx hb dM_claimed_24 (by decide) ?_
            exact W.zret (v := 1) (ty := .boolean) hx hb hr rfl (fun t ht hW => ⟨1, rfl, by rw [rf_claimed, ht_ex_t (i := j) hjl (by simp [c2, c4])]; rfl, ht⟩) (fun _ h => nomatch h) dM_claimed_25
  refine lv_iconst (v := 0) hx hb dM_claimed_0 (by decide) ?_
  refine lv_istore_n (lv' := [(3, .int 0), (0, .ref (q 0)), (1, .int x), (2, .int b)]) hx hb dM_claimed_1 rfl hl (by decide) rfl (fun ls hl => ?_)
  exact K2 (k + 1) 0 (by omega) (by omega) rfl ls (lv_sub hl [1, 2, 3, 0] rfl)
set_option maxHeartbeats 4000000 in
set_option maxRecDepth 100000 in
theorem xM_left (l : Launch) (D : va_G) (cB : ClassId × ClassId) (q : Nat → Nat) (g : ht_G) (k : Nat) (hk : k ≤ 8) (hn : g 0 1 = nI k) (x : Int32) : Met l yM_left kM_left ({ frames := 0, cells := 0, slots := 0, locals := 0 }) (va_Pc [.ref (q 0), .int x] (rf_I D cB q g)) (vp_Si (fun r => r = ht_b (rf_left g k x))) 0 0 (fun _ => False) := by
  refine Met.ofW (cc := cM_left) (maxL := 3) (ret := (some .boolean)) (by decide) rfl ?_
  intro p e s m args below meth c s₁ B hml hv
  obtain ⟨rfl, hP, hK, hN⟩ := hv
  have hx := B.exec
  have hb := B.bytes
  have hr := B.returns
  have hts := fun w h => atoms_spec (ws := kM_left) B.pre w (List.mem_cons_of_mem _ h)
  have hown : s.vm.findClass RM = some m.cls := findClass_of_methodNamed B.named
  have hlocks := B.notSynchronized
  have hl := lv_entry ([.ref (q 0), .int x]) (n := 3) (Nat.le_of_ble_eq_true rfl)
  rw [lg_entry_eq]
  generalize (lg_sl ([.ref (q 0), .int x]) ++ List.replicate (3 - (lg_sl ([.ref (q 0), .int x])).length) Slot.unset).toArray = ls at hl ⊢
  have hl : lv_has ls 3 [(0, .ref (q 0)), (1, .int x)] := hl
  have K2 : ∀ (n9 : Nat), ∀ (j : Nat), (k + 1 ≤ j + n9) → (j ≤ k) → (ht_ex (fun t => !decide (g 1 t = 0) && (decide (g 12 t = 0) && (decide (g 11 t = 0) && (!decide (g 13 t < 0) && (!decide (x < g 13 t / 10) && !decide (g 10 t / 10 ≤ x)))))) j = false) → ∀ (ls : Array Slot), lv_has ls 3 [(0, .ref (q 0)), (1, .int x), (2, .int (nI j))] → W p l e (headSpec kM_left ({ frames := 0, cells := 0, slots := 0, locals := 0 })).room s m [.ref (q 0), .int x].toArray below meth c s.heap [] 0 0 (MQ below (vp_Si (fun r => r = ht_b (rf_left g k x))) [.ref (q 0), .int x].toArray s 0 0 (fun _ => False)) (F0 m 2 ls []) := by
    intro n9
    induction n9 with
    | zero =>
      intro j hn9 hjk hE ls hl
      exact absurd hn9 (by omega)
    | succ n9 ih =>
      intro j hn9 hjk hE ls hl
      refine lv_iload_n hx hb dM_left_2 rfl (lv_at hl 2 rfl) ?_
      refine lv_aload_n hx hb dM_left_3 rfl (lv_at hl 0 rfl) ?_
      refine va_get (D := D) (ci := 2) (C := RM) (T := TM) (N := 19) (v := .int (g 0 1)) hx hb hts inM hown hK hP 0 rf_at0 rfl 14 (by decide) (hts _ w458) (fun _ h9 => h9) rfl dM_left_4 ?_
      refine lv_icmp_ge (tgt := 83) hx hb dM_left_7 (by decide) (fun c1 => ?_) (fun c1 => ?_)
      · rw [hn] at c1
        have e9 : j = k := ht_end hk hjk c1
        refine lv_iconst (v := 0) hx hb dM_left_83 (by decide) ?_
        exact W.zret (v := 0) (ty := .boolean) hx hb hr rfl (fun t ht hW => ⟨0, rfl, by rw [e9] at hE; simp [rf_left, ht_b, hE], ht⟩) (fun _ h => nomatch h) dM_left_84
      · rw [hn] at c1
        have hjl : j < k := ht_lt hk hjk c1
        have hj8 : j < 8 := Nat.lt_of_lt_of_le hjl hk
        refine lv_aload_n hx hb dM_left_10 rfl (lv_at hl 0 rfl) ?_
        refine va_get (D := D) (ci := 2) (C := RM) (T := TM) (N := 19) (v := .ref (q 1)) hx hb hts inM hown hK hP 0 rf_at0 rfl 1 (by decide) (hts _ w445) (fun _ h9 => h9) rfl dM_left_11 ?_
        refine lv_iload_n hx hb dM_left_14 rfl (lv_at hl 2 rfl) ?_
        refine rf_ldZ hx hb hK hP 1 (j := j) (by decide) (by decide) rfl hj8 rfl dM_left_15 ?_
        refine lv_if_eq (tgt := 77) hx hb dM_left_16 (by decide) (fun c2 => ?_) (fun c2 => ?_)
        · refine lv_iinc (v := nI (j + 1)) (lv' := [(2, .int (nI (j + 1))), (0, .ref (q 0)), (1, .int x)]) hx hb dM_left_77 hl (k := 2) rfl (nI_1 _) (by decide) rfl (fun ls hl => ?_)
          refine lv_goto (tgt := 2) hx hb dM_left_80 (by decide) ?_
          exact ih (j + 1) (by omega) (by omega) (ht_ex_s hE (by simp [c2])) ls (lv_sub hl [1, 2, 0] rfl)
        · refine lv_aload_n hx hb dM_left_19 rfl (lv_at hl 0 rfl) ?_
          refine va_get (D := D) (ci := 2) (C := RM) (T := TM) (N := 19) (v := .ref (q 12)) hx hb hts inM hown hK hP 0 rf_at0 rfl 12 (by decide) (hts _ w456) (fun _ h9 => h9) rfl dM_left_20 ?_
          refine lv_iload_n hx hb dM_left_23 rfl (lv_at hl 2 rfl) ?_
          refine rf_ldI hx hb hK hP 12 (j := j) (by decide) (by decide) rfl hj8 rfl dM_left_24 ?_
          refine lv_if_ne (tgt := 77) hx hb dM_left_25 (by decide) (fun c3 => ?_) (fun c3 => ?_)
          · refine lv_iinc (v := nI (j + 1)) (lv' := [(2, .int (nI (j + 1))), (0, .ref (q 0)), (1, .int x)]) hx hb dM_left_77 hl (k := 2) rfl (nI_1 _) (by decide) rfl (fun ls hl => ?_)
            refine lv_goto (tgt := 2) hx hb dM_left_80 (by decide) ?_
            exact ih (j + 1) (by omega) (by omega) (ht_ex_s hE (by simp [c2, c3])) ls (lv_sub hl [1, 2, 0] rfl)
          · refine lv_aload_n hx hb dM_left_28 rfl (lv_at hl 0 rfl) ?_
            refine va_get (D := D) (ci := 2) (C := RM) (T := TM) (N := 19) (v := .ref (q 11)) hx hb hts inM hown hK hP 0 rf_at0 rfl 11 (by decide) (hts _ w455) (fun _ h9 => h9) rfl dM_left_29 ?_
            refine lv_iload_n hx hb dM_left_32 rfl (lv_at hl 2 rfl) ?_
            refine rf_ldZ hx hb hK hP 11 (j := j) (by decide) (by decide) rfl hj8 rfl dM_left_33 ?_
            refine lv_if_ne (tgt := 77) hx hb dM_left_34 (by decide) (fun c4 => ?_) (fun c4 => ?_)
            · refine lv_iinc (v := nI (j + 1)) (lv' := [(2, .int (nI (j + 1))), (0, .ref (q 0)), (1, .int x)]) hx hb dM_left_77 hl (k := 2) rfl (nI_1 _) (by decide) rfl (fun ls hl => ?_)
              refine lv_goto (tgt := 2) hx hb dM_left_80 (by decide) ?_
              exact ih (j + 1) (by omega) (by omega) (ht_ex_s hE (by simp [c2, c3, c4])) ls (lv_sub hl [1, 2, 0] rfl)
            · refine lv_aload_n hx hb dM_left_37 rfl (lv_at hl 0 rfl) ?_
              refine va_get (D := D) (ci := 2) (C := RM) (T := TM) (N := 19) (v := .ref (q 13)) hx hb hts inM hown hK hP 0 rf_at0 rfl 13 (by decide) (hts _ w457) (fun _ h9 => h9) rfl dM_left_38 ?_
              refine lv_iload_n hx hb dM_left_41 rfl (lv_at hl 2 rfl) ?_
              refine rf_ldI hx hb hK hP 13 (j := j) (by decide) (by decide) rfl hj8 rfl dM_left_42 ?_
              refine lv_if_ge (tgt := 49) hx hb dM_left_43 (by decide) (fun c5 => ?_) (fun c5 => ?_)
              · refine lv_aload_n hx hb dM_left_49 rfl (lv_at hl 0 rfl) ?_
                refine va_get (D := D) (ci := 2) (C := RM) (T := TM) (N := 19) (v := .ref (q 13)) hx hb hts inM hown hK hP 0 rf_at0 rfl 13 (by decide) (hts _ w457) (fun _ h9 => h9) rfl dM_left_50 ?_
                refine lv_iload_n hx hb dM_left_53 rfl (lv_at hl 2 rfl) ?_
                refine rf_ldI hx hb hK hP 13 (j := j) (by decide) (by decide) rfl hj8 rfl dM_left_54 ?_
                refine lv_bipush (v := 10) hx hb dM_left_55 (by decide) ?_
                refine lv_idiv hx hb dM_left_57 (by decide) ?_
                refine lv_iload_n hx hb dM_left_58 rfl (lv_at hl 1 rfl) ?_
                refine lv_icmp_gt (tgt := 77) hx hb dM_left_59 (by decide) (fun c6 => ?_) (fun c6 => ?_)
                · refine lv_iinc (v := nI (j + 1)) (lv' := [(2, .int (nI (j + 1))), (0, .ref (q 0)), (1, .int x)]) hx hb dM_left_77 hl (k := 2) rfl (nI_1 _) (by decide) rfl (fun ls hl => ?_)
                  refine lv_goto (tgt := 2) hx hb dM_left_80 (by decide) ?_
                  exact ih (j + 1) (by omega) (by omega) (ht_ex_s hE (by simp [c2, c3, c4, c5, c6])) ls (lv_sub hl [1, 2, 0] rfl)
                · refine lv_iload_n hx hb dM_left_62 rfl (lv_at hl 1 rfl) ?_
                  refine lv_aload_n hx hb dM_left_63 rfl (lv_at hl 0 rfl) ?_
                  refine va_get (D := D) (ci := 2) (C := RM) (T := TM) (N := 19) (v := .ref (q 10)) hx hb hts inM hown hK hP 0 rf_at0 rfl 10 (by decide) (hts _ w454) (fun _ h9 => h9) rfl dM_left_64 ?_
                  refine lv_iload_n hx hb dM_left_67 rfl (lv_at hl 2 rfl) ?_
                  refine rf_ldI hx hb hK hP 10 (j := j) (by decide) (by decide) rfl hj8 rfl dM_left_68 ?_
                  refine lv_bipush (v := 10) hx hb dM_left_69 (by decide) ?_
                  refine lv_idiv hx hb dM_left_71 (by decide) ?_
                  refine lv_icmp_ge (tgt := 77) hx hb dM_left_72 (by decide) (fun c7 => ?_) (fun c7 => ?_)
                  · refine lv_iinc (v := nI (j + 1)) (lv' := [(2, .int (nI (j + 1))), (0, .ref (q 0)), (1, .int x)]) hx hb dM_left_77 hl (k := 2) rfl (nI_1 _) (by decide) rfl (fun ls hl => ?_)
                    refine lv_goto (tgt := 2) hx hb dM_left_80 (by decide) ?_
                    exact ih (j + 1) (by omega) (by omega) (ht_ex_s hE (by simp [c2, c3, c4, c5, c6, c7])) ls (lv_sub hl [1, 2, 0] rfl)
                  · refine lv_iconst (v := 1) hx hb dM_left_75 (by decide) ?_
                    exact W.zret (v := 1) (ty := .boolean) hx hb hr rfl (fun t ht hW => ⟨1, rfl, by rw [rf_left, ht_ex_t (i := j) hjl (by simp [c2, c3, c4, c5, c6, c7])]; rfl, ht⟩) (fun _ h => nomatch h) dM_left_76
              · refine lv_goto (tgt := 77) hx hb dM_left_46 (by decide) ?_
                refine lv_iinc (v := nI (j + 1)) (lv' := [(2, .int (nI (j + 1))), (0, .ref (q 0)), (1, .int x)]) hx hb dM_left_77 hl (k := 2) rfl (nI_1 _) (by decide) rfl (fun ls hl => ?_)
                refine lv_goto (tgt := 2) hx hb dM_left_80 (by decide) ?_
                exact ih (j + 1) (by omega) (by omega) (ht_ex_s hE (by simp [c2, c3, c4, c5])) ls (lv_sub hl [1, 2, 0] rfl)
  refine lv_iconst (v := 0) hx hb dM_left_0 (by decide) ?_
  refine lv_istore_n (lv' := [(2, .int 0), (0, .ref (q 0)), (1, .int x)]) hx hb dM_left_1 rfl hl (by decide) rfl (fun ls hl => ?_)
  exact K2 (k + 1) 0 (by omega) (by omega) rfl ls (lv_sub hl [1, 2, 0] rfl)
set_option maxHeartbeats 4000000 in
set_option maxRecDepth 100000 in
theorem xM_standsOn (l : Launch) (D : va_G) (cB : ClassId × ClassId) (q : Nat → Nat) (g : ht_G) (k : Nat) (hk : k ≤ 8) (hn : g 0 1 = nI k) (x b : Int32) : Met l yM_standsOn kM_standsOn ({ frames := 1, cells := 0, slots := 0, locals := 21 }) (va_Pc [.ref (q 0), .int x, .int b] (rf_I D cB q g)) (vp_Si (fun r => r = rf_so g k x b)) 0 0 (fun _ => False) := by
  refine Met.ofW (cc := cM_standsOn) (maxL := 4) (ret := (some .int)) (by decide) rfl ?_
  intro p e s m args below meth c s₁ B hml hv
  obtain ⟨rfl, hP, hK, hN⟩ := hv
  have hx := B.exec
  have hb := B.bytes
  have hr := B.returns
  have hts := fun w h => atoms_spec (ws := kM_standsOn) B.pre w (List.mem_cons_of_mem _ h)
  have hown : s.vm.findClass RM = some m.cls := findClass_of_methodNamed B.named
  have hlocks := B.notSynchronized
  have hl := lv_entry ([.ref (q 0), .int x, .int b]) (n := 4) (Nat.le_of_ble_eq_true rfl)
  rw [lg_entry_eq]
  generalize (lg_sl ([.ref (q 0), .int x, .int b]) ++ List.replicate (4 - (lg_sl ([.ref (q 0), .int x, .int b])).length) Slot.unset).toArray = ls at hl ⊢
  have hl : lv_has ls 4 [(0, .ref (q 0)), (1, .int x), (2, .int b)] := hl
  have K2 : ∀ (n9 : Nat), ∀ (j : Nat), (k + 1 ≤ j + n9) → (j ≤ k) → (ht_fst (fun v => !decide (nI v = b) && (!decide (g 2 v = 0) && (!decide (g 3 v < x) && !decide (x < rf_last g v)))) (k - j) j = ht_fst (fun v => !decide (nI v = b) && (!decide (g 2 v = 0) && (!decide (g 3 v < x) && !decide (x < rf_last g v)))) k 0) → ∀ (ls : Array Slot), lv_has ls 4 [(0, .ref (q 0)), (1, .int x), (2, .int b), (3, .int (nI j))] → W p l e (headSpec kM_standsOn ({ frames := 1, cells := 0, slots := 0, locals := 21 })).room s m [.ref (q 0), .int x, .int b].toArray below meth c s.heap [] 0 0 (MQ below (vp_Si (fun r => r = rf_so g k x b)) [.ref (q 0), .int x, .int b].toArray s 0 0 (fun _ => False)) (F0 m 2 ls []) := by
    intro n9
    induction n9 with
    | zero =>
      intro j hn9 hjk hE ls hl
      exact absurd hn9 (by omega)
    | succ n9 ih =>
      intro j hn9 hjk hE ls hl
      refine lv_iload_n hx hb dM_standsOn_2 rfl (lv_at hl 3 rfl) ?_
      refine lv_aload_n hx hb dM_standsOn_3 rfl (lv_at hl 0 rfl) ?_
      refine va_get (D := D) (ci := 2) (C := RM) (T := TM) (N := 19) (v := .int (g 0 1)) hx hb hts inM hown hK hP 0 rf_at0 rfl 14 (by decide) (hts _ w458) (fun _ h9 => h9) rfl dM_standsOn_4 ?_
      refine lv_icmp_ge (tgt := 51) hx hb dM_standsOn_7 (by decide) (fun c1 => ?_) (fun c1 => ?_)
      · rw [hn] at c1
        have e9 : j = k := ht_end hk hjk c1
        refine lv_iconst (v := (-1)) hx hb dM_standsOn_51 (by decide) ?_
        exact W.iret (v := (-1 : Int32)) hx hb hr (fun t ht hW => ⟨(-1 : Int32), rfl, by rw [rf_so, ← hE, e9, Nat.sub_self]; rfl, ht⟩) (fun _ h => nomatch h) dM_standsOn_52
      · rw [hn] at c1
        have hjl : j < k := ht_lt hk hjk c1
        have hj8 : j < 8 := Nat.lt_of_lt_of_le hjl hk
        refine lv_iload_n hx hb dM_standsOn_10 rfl (lv_at hl 3 rfl) ?_
        refine lv_iload_n hx hb dM_standsOn_11 rfl (lv_at hl 2 rfl) ?_
        refine lv_icmp_eq (tgt := 45) hx hb dM_standsOn_12 (by decide) (fun c2 => ?_) (fun c2 => ?_)
        · refine lv_iinc (v := nI (j + 1)) (lv' := [(3, .int (nI (j + 1))), (0, .ref (q 0)), (1, .int x), (2, .int b)]) hx hb dM_standsOn_45 hl (k := 3) rfl (nI_1 _) (by decide) rfl (fun ls hl => ?_)
          refine lv_goto (tgt := 2) hx hb dM_standsOn_48 (by decide) ?_
          rw [show k - j = (k - (j + 1)) + 1 by omega, ht_fst, if_neg (by simp [c2])] at hE
          exact ih (j + 1) (by omega) (by omega) hE ls (lv_sub hl [1, 2, 3, 0] rfl)
        · refine lv_aload_n hx hb dM_standsOn_15 rfl (lv_at hl 0 rfl) ?_
          refine va_get (D := D) (ci := 2) (C := RM) (T := TM) (N := 19) (v := .ref (q 2)) hx hb hts inM hown hK hP 0 rf_at0 rfl 2 (by decide) (hts _ w446) (fun _ h9 => h9) rfl dM_standsOn_16 ?_
          refine lv_iload_n hx hb dM_standsOn_19 rfl (lv_at hl 3 rfl) ?_
          refine rf_ldZ hx hb hK hP 2 (j := j) (by decide) (by decide) rfl hj8 rfl dM_standsOn_20 ?_
          refine lv_if_eq (tgt := 45) hx hb dM_standsOn_21 (by decide) (fun c3 => ?_) (fun c3 => ?_)
          · refine lv_iinc (v := nI (j + 1)) (lv' := [(3, .int (nI (j + 1))), (0, .ref (q 0)), (1, .int x), (2, .int b)]) hx hb dM_standsOn_45 hl (k := 3) rfl (nI_1 _) (by decide) rfl (fun ls hl => ?_)
            refine lv_goto (tgt := 2) hx hb dM_standsOn_48 (by decide) ?_
            rw [show k - j = (k - (j + 1)) + 1 by omega, ht_fst, if_neg (by simp [c2, c3])] at hE
            exact ih (j + 1) (by omega) (by omega) hE ls (lv_sub hl [1, 2, 3, 0] rfl)
          · refine lv_iload_n hx hb dM_standsOn_24 rfl (lv_at hl 1 rfl) ?_
            refine lv_aload_n hx hb dM_standsOn_25 rfl (lv_at hl 0 rfl) ?_
            refine va_get (D := D) (ci := 2) (C := RM) (T := TM) (N := 19) (v := .ref (q 3)) hx hb hts inM hown hK hP 0 rf_at0 rfl 3 (by decide) (hts _ w447) (fun _ h9 => h9) rfl dM_standsOn_26 ?_
            refine lv_iload_n hx hb dM_standsOn_29 rfl (lv_at hl 3 rfl) ?_
            refine rf_ldI hx hb hK hP 3 (j := j) (by decide) (by decide) rfl hj8 rfl dM_standsOn_30 ?_
            refine lv_icmp_gt (tgt := 45) hx hb dM_standsOn_31 (by decide) (fun c4 => ?_) (fun c4 => ?_)
            · refine lv_iinc (v := nI (j + 1)) (lv' := [(3, .int (nI (j + 1))), (0, .ref (q 0)), (1, .int x), (2, .int b)]) hx hb dM_standsOn_45 hl (k := 3) rfl (nI_1 _) (by decide) rfl (fun ls hl => ?_)
              refine lv_goto (tgt := 2) hx hb dM_standsOn_48 (by decide) ?_
              rw [show k - j = (k - (j + 1)) + 1 by omega, ht_fst, if_neg (by simp [c2, c3, c4])] at hE
              exact ih (j + 1) (by omega) (by omega) hE ls (lv_sub hl [1, 2, 3, 0] rfl)
            · refine lv_iload_n hx hb dM_standsOn_34 rfl (lv_at hl 1 rfl) ?_
              refine lv_aload_n hx hb dM_standsOn_35 rfl (lv_at hl 0 rfl) ?_
              refine lv_iload_n hx hb dM_standsOn_36 rfl (lv_at hl 3 rfl) ?_
              refine vp_callSi (va_Run.run (va_runV (As := [.int (nI j)]) (rest := [.int x]) ⟨hx, hb, hml, hown, hts⟩ (xM_last l D cB q g j hj8 ) (cwV 1 hts (ht_gV w522 w524 s34 w3 w525) rfl rfl rfl (by decide +kernel) ⟨Nat.le_of_ble_eq_true rfl, Nat.le_of_ble_eq_true rfl⟩) ⟨rf_bl, va_recv hK hP (ci := 2) (q0 := 0) rfl rf_at0, fun U hU hW => ⟨rfl, rf_Im hP hK hN hU hW⟩⟩ rfl rfl hl.1 rfl (lv_room (Nat.le_of_ble_eq_true rfl)) dM_standsOn_37 ⟨Nat.zero_le _, Nat.zero_le _⟩)) (fun r5 hr5 => ?_)
              subst hr5
              refine lv_icmp_lt (tgt := 45) hx hb dM_standsOn_40 (by decide) (fun c6 => ?_) (fun c6 => ?_)
              · refine lv_iinc (v := nI (j + 1)) (lv' := [(3, .int (nI (j + 1))), (0, .ref (q 0)), (1, .int x), (2, .int b)]) hx hb dM_standsOn_45 hl (k := 3) rfl (nI_1 _) (by decide) rfl (fun ls hl => ?_)
                refine lv_goto (tgt := 2) hx hb dM_standsOn_48 (by decide) ?_
                rw [show k - j = (k - (j + 1)) + 1 by omega, ht_fst, if_neg (by simp [c2, c3, c4, c6])] at hE
                exact ih (j + 1) (by omega) (by omega) hE ls (lv_sub hl [1, 2, 3, 0] rfl)
              · refine lv_iload_n hx hb dM_standsOn_43 rfl (lv_at hl 3 rfl) ?_
                exact W.iret (v := nI j) hx hb hr (fun t ht hW => ⟨nI j, rfl, by rw [show k - j = (k - (j + 1)) + 1 by omega, ht_fst, if_pos (by simp [c2, c3, c4, c6])] at hE; rw [rf_so, ← hE], ht⟩) (fun _ h => nomatch h) dM_standsOn_44
  refine lv_iconst (v := 0) hx hb dM_standsOn_0 (by decide) ?_
  refine lv_istore_n (lv' := [(3, .int 0), (0, .ref (q 0)), (1, .int x), (2, .int b)]) hx hb dM_standsOn_1 rfl hl (by decide) rfl (fun ls hl => ?_)
  exact K2 (k + 1) 0 (by omega) (by omega) rfl ls (lv_sub hl [1, 2, 3, 0] rfl)
