def ht_become (j : Nat) (a b : Int32) (g : ht_G) : ht_G :=
  let g1 := ht_up g (5 + j) 0 1
  let g2 := ht_up g1 (5 + j) 1 1
  let g3 := ht_up g2 (5 + j) 2 a
  let g4 := ht_up g3 (5 + j) 3 b
  let g5 := ht_up g4 (5 + j) 5 a
  let g6 := ht_up g5 (5 + j) 7 1
  let g7 := ht_send j g6
  ht_up g7 (5 + j) 12 (g7 (5 + j) 11)
def ht_wagon (j : Nat) (a b : Int32) (g : ht_G) : ht_G :=
  let g1 := ht_up g (5 + j) 1 1
  let g2 := ht_up g1 (5 + j) 2 a
  ht_up g2 (5 + j) 3 b
def ht_roa (j : Nat) (g : ht_G) : ht_G := if g (5 + j) 6 = 0 then ht_send j g else ht_up g (5 + j) 8 (g (5 + j) 8 + 1)
theorem ht_fb (p : Bool) : fits .boolean (.int (ht_b p)) = true := by cases p <;> rfl
theorem ht_n01 {x : Int32} (h : x = 0 ∨ x = 1) : narrow .boolean (.int x) = .int x := by rcases h with rfl | rfl <;> rfl
theorem ht_f01 {x : Int32} (h : x = 0 ∨ x = 1) : fits .boolean (.int x) = true := by rcases h with rfl | rfl <;> rfl
set_option maxHeartbeats 4000000 in
set_option maxRecDepth 100000 in
theorem xV_lastPlace (l : Launch) (D : va_G) (cA : ClassId × ClassId) (q : Nat → Nat) (g : ht_G) (j : Nat) (hj : j < 8) : Met l yV_lastPlace kV_lastPlace ({ frames := 0, cells := 0, slots := 0, locals := 0 }) (va_Pc [.ref (q (j + 6))] (ht_I D cA q g)) (vp_Si (fun r => r = ht_last (g (5 + j)))) 0 0 (fun _ => False) := by
  refine Met.ofW (cc := cV_lastPlace) (maxL := 1) (ret := (some .int)) (by decide) rfl ?_
  intro p e s m args below meth c s₁ B hml hv
  obtain ⟨rfl, hP, hK, hN⟩ := hv
  have hx := B.exec
  have hb := B.bytes
  have hr := B.returns
  have hts := fun w h => atoms_spec (ws := kV_lastPlace) B.pre w (List.mem_cons_of_mem _ h)
  have hown : s.vm.findClass RV = some m.cls := findClass_of_methodNamed B.named
  have hlocks := B.notSynchronized
  have hl := lv_entry ([.ref (q (j + 6))]) (n := 1) (Nat.le_of_ble_eq_true rfl)
  rw [lg_entry_eq]
  generalize (lg_sl ([.ref (q (j + 6))]) ++ List.replicate (1 - (lg_sl ([.ref (q (j + 6))])).length) Slot.unset).toArray = ls at hl ⊢
  have hl : lv_has ls 1 [(0, .ref (q (j + 6)))] := hl
  refine lv_aload_n hx hb dV_lastPlace_0 rfl (lv_at hl 0 rfl) ?_
  refine va_get (D := D) (ci := 0) (C := RV) (T := TV) (N := 13) (v := .int (g (5 + j) 2)) hx hb hts inV hown hK hP (j + 6) (ht_atV hj) rfl 2 (by decide) (hts _ w29) (fun _ h9 => h9) rfl dV_lastPlace_1 ?_
  refine lv_aload_n hx hb dV_lastPlace_4 rfl (lv_at hl 0 rfl) ?_
  refine va_get (D := D) (ci := 0) (C := RV) (T := TV) (N := 13) (v := .int (g (5 + j) 3)) hx hb hts inV hown hK hP (j + 6) (ht_atV hj) rfl 3 (by decide) (hts _ w31) (fun _ h9 => h9) rfl dV_lastPlace_5 ?_
  refine lv_isub hx hb dV_lastPlace_8 ?_
  refine lv_iconst (v := 1) hx hb dV_lastPlace_9 (by decide) ?_
  refine lv_iadd hx hb dV_lastPlace_10 ?_
  exact W.iret (v := ((g (5 + j) 2) - (g (5 + j) 3)) + 1) hx hb hr (fun t ht hW => ⟨((g (5 + j) 2) - (g (5 + j) 3)) + 1, rfl, by simp [ht_b, ht_last, true_and], ht⟩) (fun _ h => nomatch h) dV_lastPlace_11
set_option maxHeartbeats 4000000 in
set_option maxRecDepth 100000 in
theorem xV_standsWithin (l : Launch) (D : va_G) (cA : ClassId × ClassId) (q : Nat → Nat) (g : ht_G) (j : Nat) (hj : j < 8) (lo hi : Int32) : Met l yV_standsWithin kV_standsWithin ({ frames := 1, cells := 0, slots := 0, locals := 20 }) (va_Pc [.ref (q (j + 6)), .int lo, .int hi] (ht_I D cA q g)) (vp_Si (fun r => r = ht_b (ht_stands (g (5 + j)) lo hi))) 0 0 (fun _ => False) := by
  refine Met.ofW (cc := cV_standsWithin) (maxL := 3) (ret := (some .boolean)) (by decide) rfl ?_
  intro p e s m args below meth c s₁ B hml hv
  obtain ⟨rfl, hP, hK, hN⟩ := hv
  have hx := B.exec
  have hb := B.bytes
  have hr := B.returns
  have hts := fun w h => atoms_spec (ws := kV_standsWithin) B.pre w (List.mem_cons_of_mem _ h)
  have hown : s.vm.findClass RV = some m.cls := findClass_of_methodNamed B.named
  have hlocks := B.notSynchronized
  have hl := lv_entry ([.ref (q (j + 6)), .int lo, .int hi]) (n := 3) (Nat.le_of_ble_eq_true rfl)
  rw [lg_entry_eq]
  generalize (lg_sl ([.ref (q (j + 6)), .int lo, .int hi]) ++ List.replicate (3 - (lg_sl ([.ref (q (j + 6)), .int lo, .int hi])).length) Slot.unset).toArray = ls at hl ⊢
  have hl : lv_has ls 3 [(0, .ref (q (j + 6))), (1, .int lo), (2, .int hi)] := hl
  refine lv_aload_n hx hb dV_standsWithin_0 rfl (lv_at hl 0 rfl) ?_
  refine va_get (D := D) (ci := 0) (C := RV) (T := TV) (N := 13) (v := .int (g (5 + j) 1)) hx hb hts inV hown hK hP (j + 6) (ht_atV hj) rfl 1 (by decide) (hts _ w27) (fun _ h9 => h9) rfl dV_standsWithin_1 ?_
  refine lv_if_eq (tgt := 27) hx hb dV_standsWithin_4 (by decide) (fun c1 => ?_) (fun c1 => ?_)
  · refine lv_iconst (v := 0) hx hb dV_standsWithin_27 (by decide) ?_
    exact W.zret (v := 0) (ty := .boolean) hx hb hr rfl (fun t ht hW => ⟨0, rfl, by simp [ht_b, ht_stands, c1], ht⟩) (fun _ h => nomatch h) dV_standsWithin_28
  · refine lv_aload_n hx hb dV_standsWithin_7 rfl (lv_at hl 0 rfl) ?_
    refine va_get (D := D) (ci := 0) (C := RV) (T := TV) (N := 13) (v := .int (g (5 + j) 2)) hx hb hts inV hown hK hP (j + 6) (ht_atV hj) rfl 2 (by decide) (hts _ w29) (fun _ h9 => h9) rfl dV_standsWithin_8 ?_
    refine lv_iload_n hx hb dV_standsWithin_11 rfl (lv_at hl 1 rfl) ?_
    refine lv_icmp_lt (tgt := 27) hx hb dV_standsWithin_12 (by decide) (fun c2 => ?_) (fun c2 => ?_)
    · refine lv_iconst (v := 0) hx hb dV_standsWithin_27 (by decide) ?_
      exact W.zret (v := 0) (ty := .boolean) hx hb hr rfl (fun t ht hW => ⟨0, rfl, by simp [ht_b, ht_stands, c1, c2], ht⟩) (fun _ h => nomatch h) dV_standsWithin_28
    · refine lv_aload_n hx hb dV_standsWithin_15 rfl (lv_at hl 0 rfl) ?_
      refine vp_callSi (va_Run.run (va_runV (As := []) (rest := []) ⟨hx, hb, hml, hown, hts⟩ (xV_lastPlace l D cA q g j hj ) (cwV 0 hts (ht_gV w201 w203 s3 w2 w204) rfl rfl rfl (by decide +kernel) ⟨Nat.le_of_ble_eq_true rfl, Nat.le_of_ble_eq_true rfl⟩) ⟨ht_bl, va_recv hK hP (ci := 0) (q0 := j + 6) rfl (ht_atV hj), fun U hU hW => ⟨rfl, ht_Im hP hK hN hU hW⟩⟩ rfl rfl hl.1 rfl (lv_room (Nat.le_of_ble_eq_true rfl)) dV_standsWithin_16 ⟨Nat.zero_le _, Nat.zero_le _⟩)) (fun r3 hr3 => ?_)
      subst hr3
      refine lv_iload_n hx hb dV_standsWithin_19 rfl (lv_at hl 2 rfl) ?_
      refine lv_icmp_gt (tgt := 27) hx hb dV_standsWithin_20 (by decide) (fun c4 => ?_) (fun c4 => ?_)
      · refine lv_iconst (v := 0) hx hb dV_standsWithin_27 (by decide) ?_
        exact W.zret (v := 0) (ty := .boolean) hx hb hr rfl (fun t ht hW => ⟨0, rfl, by simp [ht_b, ht_stands, c1, c2, c4], ht⟩) (fun _ h => nomatch h) dV_standsWithin_28
      · refine lv_iconst (v := 1) hx hb dV_standsWithin_23 (by decide) ?_
        refine lv_goto (tgt := 28) hx hb dV_standsWithin_24 (by decide) ?_
        exact W.zret (v := 1) (ty := .boolean) hx hb hr rfl (fun t ht hW => ⟨1, rfl, by simp [ht_b, ht_stands, c1, c2, c4], ht⟩) (fun _ h => nomatch h) dV_standsWithin_28
set_option maxHeartbeats 4000000 in
set_option maxRecDepth 100000 in
theorem xV_isMute (l : Launch) (D : va_G) (cA : ClassId × ClassId) (q : Nat → Nat) (g : ht_G) (j : Nat) (hj : j < 8) : Met l yV_isMute kV_isMute ({ frames := 0, cells := 0, slots := 0, locals := 0 }) (va_Pc [.ref (q (j + 6))] (ht_I D cA q g)) (vp_Si (fun r => r = ht_b (ht_mute (g (5 + j))))) 0 0 (fun _ => False) := by
  refine Met.ofW (cc := cV_isMute) (maxL := 1) (ret := (some .boolean)) (by decide) rfl ?_
  intro p e s m args below meth c s₁ B hml hv
  obtain ⟨rfl, hP, hK, hN⟩ := hv
  have hx := B.exec
  have hb := B.bytes
  have hr := B.returns
  have hts := fun w h => atoms_spec (ws := kV_isMute) B.pre w (List.mem_cons_of_mem _ h)
  have hown : s.vm.findClass RV = some m.cls := findClass_of_methodNamed B.named
  have hlocks := B.notSynchronized
  have hl := lv_entry ([.ref (q (j + 6))]) (n := 1) (Nat.le_of_ble_eq_true rfl)
  rw [lg_entry_eq]
  generalize (lg_sl ([.ref (q (j + 6))]) ++ List.replicate (1 - (lg_sl ([.ref (q (j + 6))])).length) Slot.unset).toArray = ls at hl ⊢
  have hl : lv_has ls 1 [(0, .ref (q (j + 6)))] := hl
  refine lv_aload_n hx hb dV_isMute_0 rfl (lv_at hl 0 rfl) ?_
  refine va_get (D := D) (ci := 0) (C := RV) (T := TV) (N := 13) (v := .int (g (5 + j) 0)) hx hb hts inV hown hK hP (j + 6) (ht_atV hj) rfl 0 (by decide) (hts _ w25) (fun _ h9 => h9) rfl dV_isMute_1 ?_
  refine lv_if_eq (tgt := 19) hx hb dV_isMute_4 (by decide) (fun c1 => ?_) (fun c1 => ?_)
  · refine lv_iconst (v := 0) hx hb dV_isMute_19 (by decide) ?_
    exact W.zret (v := 0) (ty := .boolean) hx hb hr rfl (fun t ht hW => ⟨0, rfl, by simp [ht_b, ht_mute, c1], ht⟩) (fun _ h => nomatch h) dV_isMute_20
  · refine lv_aload_n hx hb dV_isMute_7 rfl (lv_at hl 0 rfl) ?_
    refine va_get (D := D) (ci := 0) (C := RV) (T := TV) (N := 13) (v := .int (g (5 + j) 8)) hx hb hts inV hown hK hP (j + 6) (ht_atV hj) rfl 8 (by decide) (hts _ w41) (fun _ h9 => h9) rfl dV_isMute_8 ?_
    refine lv_iconst (v := 5) hx hb dV_isMute_11 (by decide) ?_
    refine lv_icmp_le (tgt := 19) hx hb dV_isMute_12 (by decide) (fun c2 => ?_) (fun c2 => ?_)
    · refine lv_iconst (v := 0) hx hb dV_isMute_19 (by decide) ?_
      exact W.zret (v := 0) (ty := .boolean) hx hb hr rfl (fun t ht hW => ⟨0, rfl, by simp [ht_b, ht_mute, c1, c2], ht⟩) (fun _ h => nomatch h) dV_isMute_20
    · refine lv_iconst (v := 1) hx hb dV_isMute_15 (by decide) ?_
      refine lv_goto (tgt := 20) hx hb dV_isMute_16 (by decide) ?_
      exact W.zret (v := 1) (ty := .boolean) hx hb hr rfl (fun t ht hW => ⟨1, rfl, by simp [ht_b, ht_mute, c1, c2], ht⟩) (fun _ h => nomatch h) dV_isMute_20
set_option maxHeartbeats 4000000 in
set_option maxRecDepth 100000 in
theorem xV_isLocatedOn (l : Launch) (D : va_G) (cA : ClassId × ClassId) (q : Nat → Nat) (g : ht_G) (j : Nat) (hj : j < 8) (x : Int32) : Met l yV_isLocatedOn kV_isLocatedOn ({ frames := 1, cells := 0, slots := 0, locals := 20 }) (va_Pc [.ref (q (j + 6)), .int x] (ht_I D cA q g)) (vp_Si (fun r => r = ht_b (ht_locOn (g (5 + j)) x))) 0 0 (fun _ => False) := by
  refine Met.ofW (cc := cV_isLocatedOn) (maxL := 2) (ret := (some .boolean)) (by decide) rfl ?_
  intro p e s m args below meth c s₁ B hml hv
  obtain ⟨rfl, hP, hK, hN⟩ := hv
  have hx := B.exec
  have hb := B.bytes
  have hr := B.returns
  have hts := fun w h => atoms_spec (ws := kV_isLocatedOn) B.pre w (List.mem_cons_of_mem _ h)
  have hown : s.vm.findClass RV = some m.cls := findClass_of_methodNamed B.named
  have hlocks := B.notSynchronized
  have hl := lv_entry ([.ref (q (j + 6)), .int x]) (n := 2) (Nat.le_of_ble_eq_true rfl)
  rw [lg_entry_eq]
  generalize (lg_sl ([.ref (q (j + 6)), .int x]) ++ List.replicate (2 - (lg_sl ([.ref (q (j + 6)), .int x])).length) Slot.unset).toArray = ls at hl ⊢
  have hl : lv_has ls 2 [(0, .ref (q (j + 6))), (1, .int x)] := hl
  refine lv_aload_n hx hb dV_isLocatedOn_0 rfl (lv_at hl 0 rfl) ?_
  refine va_get (D := D) (ci := 0) (C := RV) (T := TV) (N := 13) (v := .int (g (5 + j) 0)) hx hb hts inV hown hK hP (j + 6) (ht_atV hj) rfl 0 (by decide) (hts _ w25) (fun _ h9 => h9) rfl dV_isLocatedOn_1 ?_
  refine lv_if_eq (tgt := 37) hx hb dV_isLocatedOn_4 (by decide) (fun c1 => ?_) (fun c1 => ?_)
  · refine lv_iconst (v := 0) hx hb dV_isLocatedOn_37 (by decide) ?_
    exact W.zret (v := 0) (ty := .boolean) hx hb hr rfl (fun t ht hW => ⟨0, rfl, by simp [ht_b, ht_locOn, c1], ht⟩) (fun _ h => nomatch h) dV_isLocatedOn_38
  · refine lv_aload_n hx hb dV_isLocatedOn_7 rfl (lv_at hl 0 rfl) ?_
    refine vp_callSi (va_Run.run (va_runV (As := []) (rest := []) ⟨hx, hb, hml, hown, hts⟩ (xV_isMute l D cA q g j hj ) (cwV 0 hts (ht_gV w238 w240 s11 w2 w241) rfl rfl rfl (by decide +kernel) ⟨Nat.le_of_ble_eq_true rfl, Nat.le_of_ble_eq_true rfl⟩) ⟨ht_bl, va_recv hK hP (ci := 0) (q0 := j + 6) rfl (ht_atV hj), fun U hU hW => ⟨rfl, ht_Im hP hK hN hU hW⟩⟩ rfl rfl hl.1 rfl (lv_room (Nat.le_of_ble_eq_true rfl)) dV_isLocatedOn_8 ⟨Nat.zero_le _, Nat.zero_le _⟩)) (fun r2 hr2 => ?_)
    subst hr2
    refine lv_if_ne (tgt := 37) hx hb dV_isLocatedOn_11 (by decide) (fun c3 => ?_) (fun c3 => ?_)
    · replace c3 := ht_b1.mp c3
      refine lv_iconst (v := 0) hx hb dV_isLocatedOn_37 (by decide) ?_
      exact W.zret (v := 0) (ty := .boolean) hx hb hr rfl (fun t ht hW => ⟨0, rfl, by simp [ht_b, ht_locOn, c1, c3], ht⟩) (fun _ h => nomatch h) dV_isLocatedOn_38
    · replace c3 := ht_b0.mp c3
      refine lv_aload_n hx hb dV_isLocatedOn_14 rfl (lv_at hl 0 rfl) ?_
      refine va_get (D := D) (ci := 0) (C := RV) (T := TV) (N := 13) (v := .int (g (5 + j) 11)) hx hb hts inV hown hK hP (j + 6) (ht_atV hj) rfl 11 (by decide) (hts _ w47) (fun _ h9 => h9) rfl dV_isLocatedOn_15 ?_
      refine lv_iload_n hx hb dV_isLocatedOn_18 rfl (lv_at hl 1 rfl) ?_
      refine lv_icmp_gt (tgt := 37) hx hb dV_isLocatedOn_19 (by decide) (fun c4 => ?_) (fun c4 => ?_)
      · refine lv_iconst (v := 0) hx hb dV_isLocatedOn_37 (by decide) ?_
        exact W.zret (v := 0) (ty := .boolean) hx hb hr rfl (fun t ht hW => ⟨0, rfl, by simp [ht_b, ht_locOn, c1, c3, c4], ht⟩) (fun _ h => nomatch h) dV_isLocatedOn_38
      · refine lv_iload_n hx hb dV_isLocatedOn_22 rfl (lv_at hl 1 rfl) ?_
        refine lv_aload_n hx hb dV_isLocatedOn_23 rfl (lv_at hl 0 rfl) ?_
        refine va_get (D := D) (ci := 0) (C := RV) (T := TV) (N := 13) (v := .int (g (5 + j) 9)) hx hb hts inV hown hK hP (j + 6) (ht_atV hj) rfl 9 (by decide) (hts _ w43) (fun _ h9 => h9) rfl dV_isLocatedOn_24 ?_
        refine lv_bipush (v := 10) hx hb dV_isLocatedOn_27 (by decide) ?_
        refine lv_idiv hx hb dV_isLocatedOn_29 (by decide) ?_
        refine lv_icmp_gt (tgt := 37) hx hb dV_isLocatedOn_30 (by decide) (fun c5 => ?_) (fun c5 => ?_)
        · refine lv_iconst (v := 0) hx hb dV_isLocatedOn_37 (by decide) ?_
          exact W.zret (v := 0) (ty := .boolean) hx hb hr rfl (fun t ht hW => ⟨0, rfl, by simp [ht_b, ht_locOn, c1, c3, c4, c5], ht⟩) (fun _ h => nomatch h) dV_isLocatedOn_38
        · refine lv_iconst (v := 1) hx hb dV_isLocatedOn_33 (by decide) ?_
          refine lv_goto (tgt := 38) hx hb dV_isLocatedOn_34 (by decide) ?_
          exact W.zret (v := 1) (ty := .boolean) hx hb hr rfl (fun t ht hW => ⟨1, rfl, by simp [ht_b, ht_locOn, c1, c3, c4, c5], ht⟩) (fun _ h => nomatch h) dV_isLocatedOn_38
set_option maxHeartbeats 4000000 in
set_option maxRecDepth 100000 in
theorem xV_claimsWithin (l : Launch) (D : va_G) (cA : ClassId × ClassId) (q : Nat → Nat) (g : ht_G) (j : Nat) (hj : j < 8) (a b : Int32) : Met l yV_claimsWithin kV_claimsWithin ({ frames := 0, cells := 0, slots := 0, locals := 0 }) (va_Pc [.ref (q (j + 6)), .int a, .int b] (ht_I D cA q g)) (vp_Si (fun r => r = ht_b (ht_claims (g (5 + j)) a b))) 0 0 (fun _ => False) := by
  refine Met.ofW (cc := cV_claimsWithin) (maxL := 3) (ret := (some .boolean)) (by decide) rfl ?_
  intro p e s m args below meth c s₁ B hml hv
  obtain ⟨rfl, hP, hK, hN⟩ := hv
  have hx := B.exec
  have hb := B.bytes
  have hr := B.returns
  have hts := fun w h => atoms_spec (ws := kV_claimsWithin) B.pre w (List.mem_cons_of_mem _ h)
  have hown : s.vm.findClass RV = some m.cls := findClass_of_methodNamed B.named
  have hlocks := B.notSynchronized
  have hl := lv_entry ([.ref (q (j + 6)), .int a, .int b]) (n := 3) (Nat.le_of_ble_eq_true rfl)
  rw [lg_entry_eq]
  generalize (lg_sl ([.ref (q (j + 6)), .int a, .int b]) ++ List.replicate (3 - (lg_sl ([.ref (q (j + 6)), .int a, .int b])).length) Slot.unset).toArray = ls at hl ⊢
  have hl : lv_has ls 3 [(0, .ref (q (j + 6))), (1, .int a), (2, .int b)] := hl
  refine lv_aload_n hx hb dV_claimsWithin_0 rfl (lv_at hl 0 rfl) ?_
  refine va_get (D := D) (ci := 0) (C := RV) (T := TV) (N := 13) (v := .int (g (5 + j) 0)) hx hb hts inV hown hK hP (j + 6) (ht_atV hj) rfl 0 (by decide) (hts _ w25) (fun _ h9 => h9) rfl dV_claimsWithin_1 ?_
  refine lv_if_eq (tgt := 30) hx hb dV_claimsWithin_4 (by decide) (fun c1 => ?_) (fun c1 => ?_)
  · refine lv_iconst (v := 0) hx hb dV_claimsWithin_30 (by decide) ?_
    exact W.zret (v := 0) (ty := .boolean) hx hb hr rfl (fun t ht hW => ⟨0, rfl, by simp [ht_b, ht_claims, c1], ht⟩) (fun _ h => nomatch h) dV_claimsWithin_31
  · refine lv_aload_n hx hb dV_claimsWithin_7 rfl (lv_at hl 0 rfl) ?_
    refine va_get (D := D) (ci := 0) (C := RV) (T := TV) (N := 13) (v := .int (g (5 + j) 11)) hx hb hts inV hown hK hP (j + 6) (ht_atV hj) rfl 11 (by decide) (hts _ w47) (fun _ h9 => h9) rfl dV_claimsWithin_8 ?_
    refine lv_iload_n hx hb dV_claimsWithin_11 rfl (lv_at hl 2 rfl) ?_
    refine lv_icmp_gt (tgt := 30) hx hb dV_claimsWithin_12 (by decide) (fun c2 => ?_) (fun c2 => ?_)
    · refine lv_iconst (v := 0) hx hb dV_claimsWithin_30 (by decide) ?_
      exact W.zret (v := 0) (ty := .boolean) hx hb hr rfl (fun t ht hW => ⟨0, rfl, by simp [ht_b, ht_claims, c1, c2], ht⟩) (fun _ h => nomatch h) dV_claimsWithin_31
    · refine lv_aload_n hx hb dV_claimsWithin_15 rfl (lv_at hl 0 rfl) ?_
      refine va_get (D := D) (ci := 0) (C := RV) (T := TV) (N := 13) (v := .int (g (5 + j) 5)) hx hb hts inV hown hK hP (j + 6) (ht_atV hj) rfl 5 (by decide) (hts _ w35) (fun _ h9 => h9) rfl dV_claimsWithin_16 ?_
      refine lv_bipush (v := 10) hx hb dV_claimsWithin_19 (by decide) ?_
      refine lv_idiv hx hb dV_claimsWithin_21 (by decide) ?_
      refine lv_iload_n hx hb dV_claimsWithin_22 rfl (lv_at hl 1 rfl) ?_
      refine lv_icmp_lt (tgt := 30) hx hb dV_claimsWithin_23 (by decide) (fun c3 => ?_) (fun c3 => ?_)
      · refine lv_iconst (v := 0) hx hb dV_claimsWithin_30 (by decide) ?_
        exact W.zret (v := 0) (ty := .boolean) hx hb hr rfl (fun t ht hW => ⟨0, rfl, by simp [ht_b, ht_claims, c1, c2, c3], ht⟩) (fun _ h => nomatch h) dV_claimsWithin_31
      · refine lv_iconst (v := 1) hx hb dV_claimsWithin_26 (by decide) ?_
        refine lv_goto (tgt := 31) hx hb dV_claimsWithin_27 (by decide) ?_
        exact W.zret (v := 1) (ty := .boolean) hx hb hr rfl (fun t ht hW => ⟨1, rfl, by simp [ht_b, ht_claims, c1, c2, c3], ht⟩) (fun _ h => nomatch h) dV_claimsWithin_31
set_option maxHeartbeats 4000000 in
set_option maxRecDepth 100000 in
theorem xV_hasLeft (l : Launch) (D : va_G) (cA : ClassId × ClassId) (q : Nat → Nat) (g : ht_G) (j : Nat) (hj : j < 8) (x : Int32) : Met l yV_hasLeft kV_hasLeft ({ frames := 0, cells := 0, slots := 0, locals := 0 }) (va_Pc [.ref (q (j + 6)), .int x] (ht_I D cA q g)) (vp_Si (fun r => r = ht_b (ht_left (g (5 + j)) x))) 0 0 (fun _ => False) := by
  refine Met.ofW (cc := cV_hasLeft) (maxL := 2) (ret := (some .boolean)) (by decide) rfl ?_
  intro p e s m args below meth c s₁ B hml hv
  obtain ⟨rfl, hP, hK, hN⟩ := hv
  have hx := B.exec
  have hb := B.bytes
  have hr := B.returns
  have hts := fun w h => atoms_spec (ws := kV_hasLeft) B.pre w (List.mem_cons_of_mem _ h)
  have hown : s.vm.findClass RV = some m.cls := findClass_of_methodNamed B.named
  have hlocks := B.notSynchronized
  have hl := lv_entry ([.ref (q (j + 6)), .int x]) (n := 2) (Nat.le_of_ble_eq_true rfl)
  rw [lg_entry_eq]
  generalize (lg_sl ([.ref (q (j + 6)), .int x]) ++ List.replicate (2 - (lg_sl ([.ref (q (j + 6)), .int x])).length) Slot.unset).toArray = ls at hl ⊢
  have hl : lv_has ls 2 [(0, .ref (q (j + 6))), (1, .int x)] := hl
  refine lv_aload_n hx hb dV_hasLeft_0 rfl (lv_at hl 0 rfl) ?_
  refine va_get (D := D) (ci := 0) (C := RV) (T := TV) (N := 13) (v := .int (g (5 + j) 12)) hx hb hts inV hown hK hP (j + 6) (ht_atV hj) rfl 12 (by decide) (hts _ w48) (fun _ h9 => h9) rfl dV_hasLeft_1 ?_
  refine lv_iload_n hx hb dV_hasLeft_4 rfl (lv_at hl 1 rfl) ?_
  refine lv_icmp_gt (tgt := 20) hx hb dV_hasLeft_5 (by decide) (fun c1 => ?_) (fun c1 => ?_)
  · refine lv_iconst (v := 0) hx hb dV_hasLeft_20 (by decide) ?_
    exact W.zret (v := 0) (ty := .boolean) hx hb hr rfl (fun t ht hW => ⟨0, rfl, by simp [ht_b, ht_left, c1], ht⟩) (fun _ h => nomatch h) dV_hasLeft_21
  · refine lv_iload_n hx hb dV_hasLeft_8 rfl (lv_at hl 1 rfl) ?_
    refine lv_aload_n hx hb dV_hasLeft_9 rfl (lv_at hl 0 rfl) ?_
    refine va_get (D := D) (ci := 0) (C := RV) (T := TV) (N := 13) (v := .int (g (5 + j) 11)) hx hb hts inV hown hK hP (j + 6) (ht_atV hj) rfl 11 (by decide) (hts _ w47) (fun _ h9 => h9) rfl dV_hasLeft_10 ?_
    refine lv_icmp_ge (tgt := 20) hx hb dV_hasLeft_13 (by decide) (fun c2 => ?_) (fun c2 => ?_)
    · refine lv_iconst (v := 0) hx hb dV_hasLeft_20 (by decide) ?_
      exact W.zret (v := 0) (ty := .boolean) hx hb hr rfl (fun t ht hW => ⟨0, rfl, by simp [ht_b, ht_left, c1, c2], ht⟩) (fun _ h => nomatch h) dV_hasLeft_21
    · refine lv_iconst (v := 1) hx hb dV_hasLeft_16 (by decide) ?_
      refine lv_goto (tgt := 21) hx hb dV_hasLeft_17 (by decide) ?_
      exact W.zret (v := 1) (ty := .boolean) hx hb hr rfl (fun t ht hW => ⟨1, rfl, by simp [ht_b, ht_left, c1, c2], ht⟩) (fun _ h => nomatch h) dV_hasLeft_21
set_option maxHeartbeats 4000000 in
set_option maxRecDepth 100000 in
theorem xV_sendReport (l : Launch) (D : va_G) (cA : ClassId × ClassId) (q : Nat → Nat) (hJ : mw_J 14 q) (sz : Nat) (g : ht_G) (j : Nat) (hj : j < 8) (hw : g (5 + j) 7 = 0 ∨ g (5 + j) 7 = 1) : Met l yV_sendReport kV_sendReport ({ frames := 1, cells := 0, slots := 0, locals := 20 }) (va_Pc [.ref (q (j + 6))] (fun U => U.heap.size = sz ∧ ht_I D cA q g U)) (va_Qv (fun _ : Unit => True) (fun _ t => ht_I D cA q (ht_send j g) t) (mw_A 14 q sz)) 0 0 (mw_A 14 q sz) := by
  refine Met.ofW (cc := cV_sendReport) (maxL := 1) (ret := none) (by decide) rfl ?_
  intro p e s m args below meth c s₁ B hml hv
  obtain ⟨rfl, hsz, hP, hK, hN⟩ := hv
  have hx := B.exec
  have hb := B.bytes
  have hr := B.returns
  have hts := fun w h => atoms_spec (ws := kV_sendReport) B.pre w (List.mem_cons_of_mem _ h)
  have hown : s.vm.findClass RV = some m.cls := findClass_of_methodNamed B.named
  have hlocks := B.notSynchronized
  subst hsz
  have hS : va_S (mw_A 14 q s.heap.size) s.heap s.heap [] := va_S.rf
  have hl := lv_entry ([.ref (q (j + 6))]) (n := 1) (Nat.le_of_ble_eq_true rfl)
  rw [lg_entry_eq]
  generalize (lg_sl ([.ref (q (j + 6))]) ++ List.replicate (1 - (lg_sl ([.ref (q (j + 6))])).length) Slot.unset).toArray = ls at hl ⊢
  have hl : lv_has ls 1 [(0, .ref (q (j + 6)))] := hl
  refine lv_aload_n hx hb dV_sendReport_0 rfl (lv_at hl 0 rfl) ?_
  refine lv_aload_n hx hb dV_sendReport_1 rfl (lv_at hl 0 rfl) ?_
  refine va_get (D := D) (ci := 0) (C := RV) (T := TV) (N := 13) (v := .int (g (5 + j) 2)) hx hb hts inV hown hK hP (j + 6) (ht_atV hj) rfl 2 (by decide) (hts _ w29) (fun _ h9 => h9) rfl dV_sendReport_2 ?_
  refine va_put (D := D) (ci := 0) (C := RV) (T := TV) (N := 13) (v := .int (g (5 + j) 2)) (ty := .int) hx hb hts inV tyV tyV_ok nmV hown hK hP (mw_DA hJ) hS (j + 6) (ht_atV hj) rfl 9 (by decide) (hts _ w43) (fun _ h9 => h9) rfl rfl rfl rfl (Nat.le_of_ble_eq_true rfl) dV_sendReport_5 (fun H locs hP _ hS => ?_)
  rw [ht_stV hj (by decide)] at hP
  obtain ⟨g1, eg1⟩ : ∃ z, z = ht_up g (5 + j) 9 (g (5 + j) 2) := ⟨_, rfl⟩
  rw [← eg1] at hP
  refine lv_aload_n hx hb dV_sendReport_8 rfl (lv_at hl 0 rfl) ?_
  refine lv_aload_n hx hb dV_sendReport_9 rfl (lv_at hl 0 rfl) ?_
  refine va_get (D := D) (ci := 0) (C := RV) (T := TV) (N := 13) (v := .int (g1 (5 + j) 7)) hx hb hts inV hown hK hP (j + 6) (ht_atV hj) rfl 7 (by decide) (hts _ w39) (fun _ h9 => h9) rfl dV_sendReport_10 ?_
  refine va_put (D := D) (ci := 0) (C := RV) (T := TV) (N := 13) (v := .int (g1 (5 + j) 7)) (ty := .boolean) hx hb hts inV tyV tyV_ok nmV hown hK hP (mw_DA hJ) hS (j + 6) (ht_atV hj) rfl 10 (by decide) (hts _ w45) (fun _ h9 => h9) rfl rfl (ht_n01 (by simpa [ht_up, eg1] using hw)) (ht_f01 (by simpa [ht_up, eg1] using hw)) (Nat.le_of_ble_eq_true rfl) dV_sendReport_13 (fun H locs hP _ hS => ?_)
  rw [ht_stV hj (by decide)] at hP
  obtain ⟨g2, eg2⟩ : ∃ z, z = ht_up g1 (5 + j) 10 (g1 (5 + j) 7) := ⟨_, rfl⟩
  rw [← eg2] at hP
  refine lv_aload_n hx hb dV_sendReport_16 rfl (lv_at hl 0 rfl) ?_
  refine lv_aload_n hx hb dV_sendReport_17 rfl (lv_at hl 0 rfl) ?_
  refine va_get (D := D) (ci := 0) (C := RV) (T := TV) (N := 13) (v := .int (g2 (5 + j) 11)) hx hb hts inV hown hK hP (j + 6) (ht_atV hj) rfl 11 (by decide) (hts _ w47) (fun _ h9 => h9) rfl dV_sendReport_18 ?_
  refine va_put (D := D) (ci := 0) (C := RV) (T := TV) (N := 13) (v := .int (g2 (5 + j) 11)) (ty := .int) hx hb hts inV tyV tyV_ok nmV hown hK hP (mw_DA hJ) hS (j + 6) (ht_atV hj) rfl 12 (by decide) (hts _ w48) (fun _ h9 => h9) rfl rfl rfl rfl (Nat.le_of_ble_eq_true rfl) dV_sendReport_21 (fun H locs hP _ hS => ?_)
  rw [ht_stV hj (by decide)] at hP
  obtain ⟨g3, eg3⟩ : ∃ z, z = ht_up g2 (5 + j) 12 (g2 (5 + j) 11) := ⟨_, rfl⟩
  rw [← eg3] at hP
  refine lv_aload_n hx hb dV_sendReport_24 rfl (lv_at hl 0 rfl) ?_
  refine lv_aload_n hx hb dV_sendReport_25 rfl (lv_at hl 0 rfl) ?_
  refine vp_callSi (va_Run.run (va_runV (As := []) (rest := [.ref (q (j + 6))]) ⟨hx, hb, hml, hown, hts⟩ (xV_lastPlace l D cA q g3 j hj ) (cwV 0 hts (ht_gV w201 w203 s3 w2 w204) rfl rfl rfl (by decide +kernel) ⟨Nat.le_of_ble_eq_true rfl, Nat.le_of_ble_eq_true rfl⟩) ⟨ht_bl, va_recv hK hP (ci := 0) (q0 := j + 6) rfl (ht_atV hj), fun U hU hW => ⟨rfl, ht_Im hP hK hN hU hW⟩⟩ rfl rfl hl.1 rfl (lv_room (Nat.le_of_ble_eq_true rfl)) dV_sendReport_26 ⟨Nat.zero_le _, Nat.zero_le _⟩)) (fun r4 hr4 => ?_)
  subst hr4
  refine lv_bipush (v := 10) hx hb dV_sendReport_29 (by decide) ?_
  refine lv_idiv hx hb dV_sendReport_31 (by decide) ?_
  refine va_put (D := D) (ci := 0) (C := RV) (T := TV) (N := 13) (v := .int ((ht_last (g3 (5 + j))) / 10)) (ty := .int) hx hb hts inV tyV tyV_ok nmV hown hK hP (mw_DA hJ) hS (j + 6) (ht_atV hj) rfl 11 (by decide) (hts _ w47) (fun _ h9 => h9) rfl rfl rfl rfl (Nat.le_of_ble_eq_true rfl) dV_sendReport_32 (fun H locs hP _ hS => ?_)
  rw [ht_stV hj (by decide)] at hP
  obtain ⟨g5, eg5⟩ : ∃ z, z = ht_up g3 (5 + j) 11 ((ht_last (g3 (5 + j))) / 10) := ⟨_, rfl⟩
  rw [← eg5] at hP
  refine lv_aload_n hx hb dV_sendReport_35 rfl (lv_at hl 0 rfl) ?_
  refine lv_iconst (v := 0) hx hb dV_sendReport_36 (by decide) ?_
  refine va_put (D := D) (ci := 0) (C := RV) (T := TV) (N := 13) (v := .int 0) (ty := .int) hx hb hts inV tyV tyV_ok nmV hown hK hP (mw_DA hJ) hS (j + 6) (ht_atV hj) rfl 8 (by decide) (hts _ w41) (fun _ h9 => h9) rfl rfl rfl rfl (Nat.le_of_ble_eq_true rfl) dV_sendReport_37 (fun H locs hP _ hS => ?_)
  rw [ht_stV hj (by decide)] at hP
  obtain ⟨g6, eg6⟩ : ∃ z, z = ht_up g5 (5 + j) 8 0 := ⟨_, rfl⟩
  rw [← eg6] at hP
  have hG : g6 = ht_send j g := by simp only [ht_send, eg1, eg2, eg3, eg5, eg6]
  rw [hG] at hP
  exact W.vret hx hb hr (fun t ht hW => ⟨⟨(), rfl, trivial, ht_Im hP hK hN ht hW⟩, hS.F ht⟩) hS.2.2 dV_sendReport_40
set_option maxHeartbeats 4000000 in
set_option maxRecDepth 100000 in
theorem xV_becomeTrain (l : Launch) (D : va_G) (cA : ClassId × ClassId) (q : Nat → Nat) (hJ : mw_J 14 q) (sz : Nat) (g : ht_G) (j : Nat) (hj : j < 8) (a b : Int32) : Met l yV_becomeTrain kV_becomeTrain ({ frames := 2, cells := 0, slots := 0, locals := 40 }) (va_Pc [.ref (q (j + 6)), .int a, .int b] (fun U => U.heap.size = sz ∧ ht_I D cA q g U)) (va_Qv (fun _ : Unit => True) (fun _ t => ht_I D cA q (ht_become j a b g) t) (mw_A 14 q sz)) 0 0 (mw_A 14 q sz) := by
  refine Met.ofW (cc := cV_becomeTrain) (maxL := 3) (ret := none) (by decide) rfl ?_
  intro p e s m args below meth c s₁ B hml hv
  obtain ⟨rfl, hsz, hP, hK, hN⟩ := hv
  have hx := B.exec
  have hb := B.bytes
  have hr := B.returns
  have hts := fun w h => atoms_spec (ws := kV_becomeTrain) B.pre w (List.mem_cons_of_mem _ h)
  have hown : s.vm.findClass RV = some m.cls := findClass_of_methodNamed B.named
  have hlocks := B.notSynchronized
  subst hsz
  have hS : va_S (mw_A 14 q s.heap.size) s.heap s.heap [] := va_S.rf
  have hl := lv_entry ([.ref (q (j + 6)), .int a, .int b]) (n := 3) (Nat.le_of_ble_eq_true rfl)
  rw [lg_entry_eq]
  generalize (lg_sl ([.ref (q (j + 6)), .int a, .int b]) ++ List.replicate (3 - (lg_sl ([.ref (q (j + 6)), .int a, .int b])).length) Slot.unset).toArray = ls at hl ⊢
  have hl : lv_has ls 3 [(0, .ref (q (j + 6))), (1, .int a), (2, .int b)] := hl
  refine lv_aload_n hx hb dV_becomeTrain_0 rfl (lv_at hl 0 rfl) ?_
  refine lv_iconst (v := 1) hx hb dV_becomeTrain_1 (by decide) ?_
  refine va_put (D := D) (ci := 0) (C := RV) (T := TV) (N := 13) (v := .int 1) (ty := .boolean) hx hb hts inV tyV tyV_ok nmV hown hK hP (mw_DA hJ) hS (j + 6) (ht_atV hj) rfl 0 (by decide) (hts _ w25) (fun _ h9 => h9) rfl rfl rfl rfl (Nat.le_of_ble_eq_true rfl) dV_becomeTrain_2 (fun H locs hP _ hS => ?_)
  rw [ht_stV hj (by decide)] at hP
  obtain ⟨g1, eg1⟩ : ∃ z, z = ht_up g (5 + j) 0 1 := ⟨_, rfl⟩
  rw [← eg1] at hP
  refine lv_aload_n hx hb dV_becomeTrain_5 rfl (lv_at hl 0 rfl) ?_
  refine lv_iconst (v := 1) hx hb dV_becomeTrain_6 (by decide) ?_
  refine va_put (D := D) (ci := 0) (C := RV) (T := TV) (N := 13) (v := .int 1) (ty := .boolean) hx hb hts inV tyV tyV_ok nmV hown hK hP (mw_DA hJ) hS (j + 6) (ht_atV hj) rfl 1 (by decide) (hts _ w27) (fun _ h9 => h9) rfl rfl rfl rfl (Nat.le_of_ble_eq_true rfl) dV_becomeTrain_7 (fun H locs hP _ hS => ?_)
  rw [ht_stV hj (by decide)] at hP
  obtain ⟨g2, eg2⟩ : ∃ z, z = ht_up g1 (5 + j) 1 1 := ⟨_, rfl⟩
  rw [← eg2] at hP
  refine lv_aload_n hx hb dV_becomeTrain_10 rfl (lv_at hl 0 rfl) ?_
  refine lv_iload_n hx hb dV_becomeTrain_11 rfl (lv_at hl 1 rfl) ?_
  refine va_put (D := D) (ci := 0) (C := RV) (T := TV) (N := 13) (v := .int a) (ty := .int) hx hb hts inV tyV tyV_ok nmV hown hK hP (mw_DA hJ) hS (j + 6) (ht_atV hj) rfl 2 (by decide) (hts _ w29) (fun _ h9 => h9) rfl rfl rfl rfl (Nat.le_of_ble_eq_true rfl) dV_becomeTrain_12 (fun H locs hP _ hS => ?_)
  rw [ht_stV hj (by decide)] at hP
  obtain ⟨g3, eg3⟩ : ∃ z, z = ht_up g2 (5 + j) 2 a := ⟨_, rfl⟩
  rw [← eg3] at hP
  refine lv_aload_n hx hb dV_becomeTrain_15 rfl (lv_at hl 0 rfl) ?_
  refine lv_iload_n hx hb dV_becomeTrain_16 rfl (lv_at hl 2 rfl) ?_
  refine va_put (D := D) (ci := 0) (C := RV) (T := TV) (N := 13) (v := .int b) (ty := .int) hx hb hts inV tyV tyV_ok nmV hown hK hP (mw_DA hJ) hS (j + 6) (ht_atV hj) rfl 3 (by decide) (hts _ w31) (fun _ h9 => h9) rfl rfl rfl rfl (Nat.le_of_ble_eq_true rfl) dV_becomeTrain_17 (fun H locs hP _ hS => ?_)
  rw [ht_stV hj (by decide)] at hP
  obtain ⟨g4, eg4⟩ : ∃ z, z = ht_up g3 (5 + j) 3 b := ⟨_, rfl⟩
  rw [← eg4] at hP
  refine lv_aload_n hx hb dV_becomeTrain_20 rfl (lv_at hl 0 rfl) ?_
  refine lv_iload_n hx hb dV_becomeTrain_21 rfl (lv_at hl 1 rfl) ?_
  refine va_put (D := D) (ci := 0) (C := RV) (T := TV) (N := 13) (v := .int a) (ty := .int) hx hb hts inV tyV tyV_ok nmV hown hK hP (mw_DA hJ) hS (j + 6) (ht_atV hj) rfl 5 (by decide) (hts _ w35) (fun _ h9 => h9) rfl rfl rfl rfl (Nat.le_of_ble_eq_true rfl) dV_becomeTrain_22 (fun H locs hP _ hS => ?_)
  rw [ht_stV hj (by decide)] at hP
  obtain ⟨g5, eg5⟩ : ∃ z, z = ht_up g4 (5 + j) 5 a := ⟨_, rfl⟩
  rw [← eg5] at hP
  refine lv_aload_n hx hb dV_becomeTrain_25 rfl (lv_at hl 0 rfl) ?_
  refine lv_iconst (v := 1) hx hb dV_becomeTrain_26 (by decide) ?_
  refine va_put (D := D) (ci := 0) (C := RV) (T := TV) (N := 13) (v := .int 1) (ty := .boolean) hx hb hts inV tyV tyV_ok nmV hown hK hP (mw_DA hJ) hS (j + 6) (ht_atV hj) rfl 7 (by decide) (hts _ w39) (fun _ h9 => h9) rfl rfl rfl rfl (Nat.le_of_ble_eq_true rfl) dV_becomeTrain_27 (fun H locs hP _ hS => ?_)
  rw [ht_stV hj (by decide)] at hP
  obtain ⟨g6, eg6⟩ : ∃ z, z = ht_up g5 (5 + j) 7 1 := ⟨_, rfl⟩
  rw [← eg6] at hP
  refine lv_aload_n hx hb dV_becomeTrain_30 rfl (lv_at hl 0 rfl) ?_
  refine va_callv (va_runV (As := []) (rest := []) ⟨hx, hb, hml, hown, hts⟩ (xV_sendReport l D cA q hJ _ g6 j hj (by simp [ht_up, eg1, eg2, eg3, eg4, eg5, eg6])) (cwV 0 hts (ht_gV w222 w224 s7 w2 w225) rfl rfl rfl (by decide +kernel) ⟨Nat.le_of_ble_eq_true rfl, Nat.le_of_ble_eq_true rfl⟩) ⟨ht_bls, va_recv hK hP (ci := 0) (q0 := j + 6) rfl (ht_atV hj), fun U hU hW => ⟨rfl, by rw [hU], ht_Im hP hK hN hU hW⟩⟩ rfl rfl hl.1 rfl (lv_room (Nat.le_of_ble_eq_true rfl)) dV_becomeTrain_31 ⟨Nat.zero_le _, Nat.zero_le _⟩) hS mw_AA (mw_AF hS.1) (fun u7 t7 H locs ht7 hvm7 hw7 hB7 hz7 hk7 hS => ?_)
  have hP := hB7.1
  rw [ht7] at hP
  obtain ⟨g8, eg8⟩ : ∃ z, z = ht_send j g6 := ⟨_, rfl⟩
  rw [← eg8] at hP
  refine lv_aload_n hx hb dV_becomeTrain_34 rfl (lv_at hl 0 rfl) ?_
  refine lv_aload_n hx hb dV_becomeTrain_35 rfl (lv_at hl 0 rfl) ?_
  refine va_get (D := D) (ci := 0) (C := RV) (T := TV) (N := 13) (v := .int (g8 (5 + j) 11)) hx hb hts inV hown hK hP (j + 6) (ht_atV hj) rfl 11 (by decide) (hts _ w47) (fun _ h9 => h9) rfl dV_becomeTrain_36 ?_
  refine va_put (D := D) (ci := 0) (C := RV) (T := TV) (N := 13) (v := .int (g8 (5 + j) 11)) (ty := .int) hx hb hts inV tyV tyV_ok nmV hown hK hP (mw_DA hJ) hS (j + 6) (ht_atV hj) rfl 12 (by decide) (hts _ w48) (fun _ h9 => h9) rfl rfl rfl rfl (Nat.le_of_ble_eq_true rfl) dV_becomeTrain_39 (fun H locs hP _ hS => ?_)
  rw [ht_stV hj (by decide)] at hP
  obtain ⟨g9, eg9⟩ : ∃ z, z = ht_up g8 (5 + j) 12 (g8 (5 + j) 11) := ⟨_, rfl⟩
  rw [← eg9] at hP
  have hG : g9 = ht_become j a b g := by simp only [ht_become, eg1, eg2, eg3, eg4, eg5, eg6, eg8, eg9]
  rw [hG] at hP
  exact W.vret hx hb hr (fun t ht hW => ⟨⟨(), rfl, trivial, ht_Im hP hK hN ht hW⟩, hS.F ht⟩) hS.2.2 dV_becomeTrain_42
set_option maxHeartbeats 4000000 in
set_option maxRecDepth 100000 in
theorem xV_becomeWagon (l : Launch) (D : va_G) (cA : ClassId × ClassId) (q : Nat → Nat) (hJ : mw_J 14 q) (sz : Nat) (g : ht_G) (j : Nat) (hj : j < 8) (a b : Int32) : Met l yV_becomeWagon kV_becomeWagon ({ frames := 0, cells := 0, slots := 0, locals := 0 }) (va_Pc [.ref (q (j + 6)), .int a, .int b] (fun U => U.heap.size = sz ∧ ht_I D cA q g U)) (va_Qv (fun _ : Unit => True) (fun _ t => ht_I D cA q (ht_wagon j a b g) t) (mw_A 14 q sz)) 0 0 (mw_A 14 q sz) := by
  refine Met.ofW (cc := cV_becomeWagon) (maxL := 3) (ret := none) (by decide) rfl ?_
  intro p e s m args below meth c s₁ B hml hv
  obtain ⟨rfl, hsz, hP, hK, hN⟩ := hv
  have hx := B.exec
  have hb := B.bytes
  have hr := B.returns
  have hts := fun w h => atoms_spec (ws := kV_becomeWagon) B.pre w (List.mem_cons_of_mem _ h)
  have hown : s.vm.findClass RV = some m.cls := findClass_of_methodNamed B.named
  have hlocks := B.notSynchronized
  subst hsz
  have hS : va_S (mw_A 14 q s.heap.size) s.heap s.heap [] := va_S.rf
  have hl := lv_entry ([.ref (q (j + 6)), .int a, .int b]) (n := 3) (Nat.le_of_ble_eq_true rfl)
  rw [lg_entry_eq]
  generalize (lg_sl ([.ref (q (j + 6)), .int a, .int b]) ++ List.replicate (3 - (lg_sl ([.ref (q (j + 6)), .int a, .int b])).length) Slot.unset).toArray = ls at hl ⊢
  have hl : lv_has ls 3 [(0, .ref (q (j + 6))), (1, .int a), (2, .int b)] := hl
  refine lv_aload_n hx hb dV_becomeWagon_0 rfl (lv_at hl 0 rfl) ?_
  refine lv_iconst (v := 1) hx hb dV_becomeWagon_1 (by decide) ?_
  refine va_put (D := D) (ci := 0) (C := RV) (T := TV) (N := 13) (v := .int 1) (ty := .boolean) hx hb hts inV tyV tyV_ok nmV hown hK hP (mw_DA hJ) hS (j + 6) (ht_atV hj) rfl 1 (by decide) (hts _ w27) (fun _ h9 => h9) rfl rfl rfl rfl (Nat.le_of_ble_eq_true rfl) dV_becomeWagon_2 (fun H locs hP _ hS => ?_)
  rw [ht_stV hj (by decide)] at hP
  obtain ⟨g1, eg1⟩ : ∃ z, z = ht_up g (5 + j) 1 1 := ⟨_, rfl⟩
  rw [← eg1] at hP
  refine lv_aload_n hx hb dV_becomeWagon_5 rfl (lv_at hl 0 rfl) ?_
  refine lv_iload_n hx hb dV_becomeWagon_6 rfl (lv_at hl 1 rfl) ?_
  refine va_put (D := D) (ci := 0) (C := RV) (T := TV) (N := 13) (v := .int a) (ty := .int) hx hb hts inV tyV tyV_ok nmV hown hK hP (mw_DA hJ) hS (j + 6) (ht_atV hj) rfl 2 (by decide) (hts _ w29) (fun _ h9 => h9) rfl rfl rfl rfl (Nat.le_of_ble_eq_true rfl) dV_becomeWagon_7 (fun H locs hP _ hS => ?_)
  rw [ht_stV hj (by decide)] at hP
  obtain ⟨g2, eg2⟩ : ∃ z, z = ht_up g1 (5 + j) 2 a := ⟨_, rfl⟩
  rw [← eg2] at hP
  refine lv_aload_n hx hb dV_becomeWagon_10 rfl (lv_at hl 0 rfl) ?_
  refine lv_iload_n hx hb dV_becomeWagon_11 rfl (lv_at hl 2 rfl) ?_
  refine va_put (D := D) (ci := 0) (C := RV) (T := TV) (N := 13) (v := .int b) (ty := .int) hx hb hts inV tyV tyV_ok nmV hown hK hP (mw_DA hJ) hS (j + 6) (ht_atV hj) rfl 3 (by decide) (hts _ w31) (fun _ h9 => h9) rfl rfl rfl rfl (Nat.le_of_ble_eq_true rfl) dV_becomeWagon_12 (fun H locs hP _ hS => ?_)
  rw [ht_stV hj (by decide)] at hP
  obtain ⟨g3, eg3⟩ : ∃ z, z = ht_up g2 (5 + j) 3 b := ⟨_, rfl⟩
  rw [← eg3] at hP
  have hG : g3 = ht_wagon j a b g := by simp only [ht_wagon, eg1, eg2, eg3]
  rw [hG] at hP
  exact W.vret hx hb hr (fun t ht hW => ⟨⟨(), rfl, trivial, ht_Im hP hK hN ht hW⟩, hS.F ht⟩) hS.2.2 dV_becomeWagon_15
set_option maxHeartbeats 4000000 in
set_option maxRecDepth 100000 in
theorem xV_reportOrAge (l : Launch) (D : va_G) (cA : ClassId × ClassId) (q : Nat → Nat) (hJ : mw_J 14 q) (sz : Nat) (g : ht_G) (j : Nat) (hj : j < 8) (hw : g (5 + j) 7 = 0 ∨ g (5 + j) 7 = 1) : Met l yV_reportOrAge kV_reportOrAge ({ frames := 2, cells := 0, slots := 0, locals := 40 }) (va_Pc [.ref (q (j + 6))] (fun U => U.heap.size = sz ∧ ht_I D cA q g U)) (va_Qv (fun _ : Unit => True) (fun _ t => ht_I D cA q (ht_roa j g) t) (mw_A 14 q sz)) 0 0 (mw_A 14 q sz) := by
  refine Met.ofW (cc := cV_reportOrAge) (maxL := 1) (ret := none) (by decide) rfl ?_
  intro p e s m args below meth c s₁ B hml hv
  obtain ⟨rfl, hsz, hP, hK, hN⟩ := hv
  have hx := B.exec
  have hb := B.bytes
  have hr := B.returns
  have hts := fun w h => atoms_spec (ws := kV_reportOrAge) B.pre w (List.mem_cons_of_mem _ h)
  have hown : s.vm.findClass RV = some m.cls := findClass_of_methodNamed B.named
  have hlocks := B.notSynchronized
  subst hsz
  have hS : va_S (mw_A 14 q s.heap.size) s.heap s.heap [] := va_S.rf
  have hl := lv_entry ([.ref (q (j + 6))]) (n := 1) (Nat.le_of_ble_eq_true rfl)
  rw [lg_entry_eq]
  generalize (lg_sl ([.ref (q (j + 6))]) ++ List.replicate (1 - (lg_sl ([.ref (q (j + 6))])).length) Slot.unset).toArray = ls at hl ⊢
  have hl : lv_has ls 1 [(0, .ref (q (j + 6)))] := hl
  refine lv_aload_n hx hb dV_reportOrAge_0 rfl (lv_at hl 0 rfl) ?_
  refine va_get (D := D) (ci := 0) (C := RV) (T := TV) (N := 13) (v := .int (g (5 + j) 6)) hx hb hts inV hown hK hP (j + 6) (ht_atV hj) rfl 6 (by decide) (hts _ w37) (fun _ h9 => h9) rfl dV_reportOrAge_1 ?_
  refine lv_if_eq (tgt := 20) hx hb dV_reportOrAge_4 (by decide) (fun c1 => ?_) (fun c1 => ?_)
  · refine lv_aload_n hx hb dV_reportOrAge_20 rfl (lv_at hl 0 rfl) ?_
    refine va_callv (va_runV (As := []) (rest := []) ⟨hx, hb, hml, hown, hts⟩ (xV_sendReport l D cA q hJ _ g j hj hw) (cwV 0 hts (ht_gV w222 w224 s7 w2 w225) rfl rfl rfl (by decide +kernel) ⟨Nat.le_of_ble_eq_true rfl, Nat.le_of_ble_eq_true rfl⟩) ⟨ht_bls, va_recv hK hP (ci := 0) (q0 := j + 6) rfl (ht_atV hj), fun U hU hW => ⟨rfl, by rw [hU], ht_Im hP hK hN hU hW⟩⟩ rfl rfl hl.1 rfl (lv_room (Nat.le_of_ble_eq_true rfl)) dV_reportOrAge_21 ⟨Nat.zero_le _, Nat.zero_le _⟩) hS mw_AA (mw_AF hS.1) (fun u2 t2 H locs ht2 hvm2 hw2 hB2 hz2 hk2 hS => ?_)
    have hP := hB2.1
    rw [ht2] at hP
    obtain ⟨g3, eg3⟩ : ∃ z, z = ht_send j g := ⟨_, rfl⟩
    rw [← eg3] at hP
    have hG : g3 = ht_roa j g := by simp [ht_roa, c1, eg3]
    rw [hG] at hP
    exact W.vret hx hb hr (fun t ht hW => ⟨⟨(), rfl, trivial, ht_Im hP hK hN ht hW⟩, hS.F ht⟩) hS.2.2 dV_reportOrAge_24
  · refine lv_aload_n hx hb dV_reportOrAge_7 rfl (lv_at hl 0 rfl) ?_
    refine lv_dup hx hb dV_reportOrAge_8 rfl ?_
    refine va_get (D := D) (ci := 0) (C := RV) (T := TV) (N := 13) (v := .int (g (5 + j) 8)) hx hb hts inV hown hK hP (j + 6) (ht_atV hj) rfl 8 (by decide) (hts _ w41) (fun _ h9 => h9) rfl dV_reportOrAge_9 ?_
    refine lv_iconst (v := 1) hx hb dV_reportOrAge_12 (by decide) ?_
    refine lv_iadd hx hb dV_reportOrAge_13 ?_
    refine va_put (D := D) (ci := 0) (C := RV) (T := TV) (N := 13) (v := .int ((g (5 + j) 8) + 1)) (ty := .int) hx hb hts inV tyV tyV_ok nmV hown hK hP (mw_DA hJ) hS (j + 6) (ht_atV hj) rfl 8 (by decide) (hts _ w41) (fun _ h9 => h9) rfl rfl rfl rfl (Nat.le_of_ble_eq_true rfl) dV_reportOrAge_14 (fun H locs hP _ hS => ?_)
    rw [ht_stV hj (by decide)] at hP
    obtain ⟨g4, eg4⟩ : ∃ z, z = ht_up g (5 + j) 8 ((g (5 + j) 8) + 1) := ⟨_, rfl⟩
    rw [← eg4] at hP
    refine lv_goto (tgt := 24) hx hb dV_reportOrAge_17 (by decide) ?_
    have hG : g4 = ht_roa j g := by simp [ht_roa, c1, eg4]
    rw [hG] at hP
    exact W.vret hx hb hr (fun t ht hW => ⟨⟨(), rfl, trivial, ht_Im hP hK hN ht hW⟩, hS.F ht⟩) hS.2.2 dV_reportOrAge_24
