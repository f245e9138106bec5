theorem ht_end {j k : Nat} (hk : k ≤ 8) (hjk : j ≤ k) (c : nI k ≤ nI j) : j = k := by
  have h := (nI_leI (by omega) (by omega)).mp c
  omega
theorem ht_lt {j k : Nat} (hk : k ≤ 8) (hjk : j ≤ k) (c : ¬ nI k ≤ nI j) : j < k := Nat.not_le.mp (fun h => c (nI_le h (by omega)))
theorem ht_end12 {j : Nat} (hjk : j ≤ 12) (c : (12 : Int32) ≤ nI j) : j = 12 := by
  have h := (nI_leI (a := 12) (b := j) (by omega) (by omega)).mp c
  omega
theorem ht_lt12 {j : Nat} (hjk : j ≤ 12) (c : ¬ (12 : Int32) ≤ nI j) : j < 12 := Nat.not_le.mp (fun h => c (nI_le (a := 12) h (by omega)))
def ht_on (g : ht_G) (k : Nat) (x : Int32) : Bool := !decide (x < 0) && (!decide (nI k ≤ x) && !decide (g (5 + x.toNatClampNeg) 1 = 0))
set_option maxHeartbeats 4000000 in
set_option maxRecDepth 100000 in
theorem xH_sectionOf (l : Launch) (D : va_G) (cA : ClassId × ClassId) (q : Nat → Nat) (g : ht_G) (x : Int32) : Met l yH_sectionOf kH_sectionOf ({ frames := 0, cells := 0, slots := 0, locals := 0 }) (va_Pc [.int x] (ht_I D cA q g)) (vp_Si (fun r => r = x / 10)) 0 0 (fun _ => False) := by
  refine Met.ofW (cc := cH_sectionOf) (maxL := 1) (ret := (some .int)) (by decide) rfl ?_
  intro p e s m args below meth c s₁ B hml hv
  obtain ⟨rfl, hP, hK, hN⟩ := hv
  have hx := B.exec
  have hb := B.bytes
  have hr := B.returns
  have hts := fun w h => atoms_spec (ws := kH_sectionOf) B.pre w (List.mem_cons_of_mem _ h)
  have hown : s.vm.findClass RH = some m.cls := findClass_of_methodNamed B.named
  have hlocks := B.notSynchronized
  have hl := lv_entry ([.int x]) (n := 1) (Nat.le_of_ble_eq_true rfl)
  rw [lg_entry_eq]
  generalize (lg_sl ([.int x]) ++ List.replicate (1 - (lg_sl ([.int x])).length) Slot.unset).toArray = ls at hl ⊢
  have hl : lv_has ls 1 [(0, .int x)] := hl
  refine lv_iload_n hx hb dH_sectionOf_0 rfl (lv_at hl 0 rfl) ?_
  refine lv_bipush (v := 10) hx hb dH_sectionOf_1 (by decide) ?_
  refine lv_idiv hx hb dH_sectionOf_3 (by decide) ?_
  exact W.iret (v := x / 10) hx hb hr (fun t ht hW => ⟨x / 10, rfl, by rfl, ht⟩) (fun _ h => nomatch h) dH_sectionOf_4
set_option maxHeartbeats 4000000 in
set_option maxRecDepth 100000 in
theorem xH_isOnTrack (l : Launch) (D : va_G) (cA : ClassId × ClassId) (q : Nat → Nat) (g : ht_G) (k : Nat) (hk : k ≤ 8) (hn : g 0 0 = nI k) (x : Int32) : Met l yH_isOnTrack kH_isOnTrack ({ frames := 0, cells := 0, slots := 0, locals := 0 }) (va_Pc [.ref (q 0), .int x] (ht_I D cA q g)) (vp_Si (fun r => r = ht_b (ht_on g k x))) 0 0 (fun _ => False) := by
  refine Met.ofW (cc := cH_isOnTrack) (maxL := 2) (ret := (some .boolean)) (by decide) rfl ?_
  intro p e s m args below meth c s₁ B hml hv
  obtain ⟨rfl, hP, hK, hN⟩ := hv
  have hx := B.exec
  have hb := B.bytes
  have hr := B.returns
  have hts := fun w h => atoms_spec (ws := kH_isOnTrack) B.pre w (List.mem_cons_of_mem _ h)
  have hown : s.vm.findClass RH = some m.cls := findClass_of_methodNamed B.named
  have hlocks := B.notSynchronized
  have hl := lv_entry ([.ref (q 0), .int x]) (n := 2) (Nat.le_of_ble_eq_true rfl)
  rw [lg_entry_eq]
  generalize (lg_sl ([.ref (q 0), .int x]) ++ List.replicate (2 - (lg_sl ([.ref (q 0), .int x])).length) Slot.unset).toArray = ls at hl ⊢
  have hl : lv_has ls 2 [(0, .ref (q 0)), (1, .int x)] := hl
  refine lv_iload_n hx hb dH_isOnTrack_0 rfl (lv_at hl 1 rfl) ?_
  refine lv_if_lt (tgt := 28) hx hb dH_isOnTrack_1 (by decide) (fun c1 => ?_) (fun c1 => ?_)
  · refine lv_iconst (v := 0) hx hb dH_isOnTrack_28 (by decide) ?_
    exact W.zret (v := 0) (ty := .boolean) hx hb hr rfl (fun t ht hW => ⟨0, rfl, by simp [ht_on, ht_b, c1], ht⟩) (fun _ h => nomatch h) dH_isOnTrack_29
  · refine lv_iload_n hx hb dH_isOnTrack_4 rfl (lv_at hl 1 rfl) ?_
    refine lv_aload_n hx hb dH_isOnTrack_5 rfl (lv_at hl 0 rfl) ?_
    refine va_get (D := D) (ci := 1) (C := RH) (T := TH) (N := 7) (v := .int (g 0 0)) hx hb hts inH hown hK hP 0 ht_atO rfl 1 (by decide) (hts _ w78) (fun _ h9 => h9) rfl dH_isOnTrack_6 ?_
    refine lv_icmp_ge (tgt := 28) hx hb dH_isOnTrack_9 (by decide) (fun c2 => ?_) (fun c2 => ?_)
    · rw [hn] at c2
      refine lv_iconst (v := 0) hx hb dH_isOnTrack_28 (by decide) ?_
      exact W.zret (v := 0) (ty := .boolean) hx hb hr rfl (fun t ht hW => ⟨0, rfl, by simp [ht_on, ht_b, c1, c2], ht⟩) (fun _ h => nomatch h) dH_isOnTrack_29
    · rw [hn] at c2
      obtain ⟨j, hjl, hxj, -, hxc, -⟩ := pk_mu c1 c2 (by omega)
      have hj8 : j < 8 := Nat.lt_of_lt_of_le hjl hk
      refine lv_aload_n hx hb dH_isOnTrack_12 rfl (lv_at hl 0 rfl) ?_
      refine va_get (D := D) (ci := 1) (C := RH) (T := TH) (N := 7) (v := .ref (q 1)) hx hb hts inH hown hK hP 0 ht_atO rfl 0 (by decide) (hts _ w77) (fun _ h9 => h9) rfl dH_isOnTrack_13 ?_
      refine lv_iload_n hx hb dH_isOnTrack_16 rfl (lv_at hl 1 rfl) ?_
      refine ht_ldV hx hb hK hP (j := j) hj8 hxj dH_isOnTrack_17 ?_
      refine va_getN (D := D) (ci := 0) (C := RV) (T := TV) (N := 13) (v := .int (g (5 + j) 1)) hx hb hts inV hown hK hP (j + 6) (ht_atV hj8) rfl 1 (by decide) (hN.use 2 rfl rfl) (fun _ h9 => h9) rfl dH_isOnTrack_18 ?_
      refine lv_if_eq (tgt := 28) hx hb dH_isOnTrack_21 (by decide) (fun c3 => ?_) (fun c3 => ?_)
      · refine lv_iconst (v := 0) hx hb dH_isOnTrack_28 (by decide) ?_
        exact W.zret (v := 0) (ty := .boolean) hx hb hr rfl (fun t ht hW => ⟨0, rfl, by simp [ht_on, ht_b, hxc, c1, c2, c3], ht⟩) (fun _ h => nomatch h) dH_isOnTrack_29
      · refine lv_iconst (v := 1) hx hb dH_isOnTrack_24 (by decide) ?_
        refine lv_goto (tgt := 29) hx hb dH_isOnTrack_25 (by decide) ?_
        exact W.zret (v := 1) (ty := .boolean) hx hb hr rfl (fun t ht hW => ⟨1, rfl, by simp [ht_on, ht_b, hxc, c1, c2, c3], ht⟩) (fun _ h => nomatch h) dH_isOnTrack_29
set_option maxHeartbeats 4000000 in
set_option maxRecDepth 100000 in
theorem xH_isStoodOn (l : Launch) (D : va_G) (cA : ClassId × ClassId) (q : Nat → Nat) (g : ht_G) (k : Nat) (hk : k ≤ 8) (hn : g 0 0 = nI k) (lo hi : Int32) : Met l yH_isStoodOn kH_isStoodOn ({ frames := 2, cells := 0, slots := 0, locals := 42 }) (va_Pc [.ref (q 0), .int lo, .int hi] (ht_I D cA q g)) (vp_Si (fun r => r = ht_b (ht_stood g k lo hi))) 0 0 (fun _ => False) := by
  refine Met.ofW (cc := cH_isStoodOn) (maxL := 4) (ret := (some .boolean)) (by decide) rfl ?_
  intro p e s m args below meth c s₁ B hml hv
  obtain ⟨rfl, hP, hK, hN⟩ := hv
  have hx := B.exec
  have hb := B.bytes
  have hr := B.returns
  have hts := fun w h => atoms_spec (ws := kH_isStoodOn) B.pre w (List.mem_cons_of_mem _ h)
  have hown : s.vm.findClass RH = some m.cls := findClass_of_methodNamed B.named
  have hlocks := B.notSynchronized
  have hl := lv_entry ([.ref (q 0), .int lo, .int hi]) (n := 4) (Nat.le_of_ble_eq_true rfl)
  rw [lg_entry_eq]
  generalize (lg_sl ([.ref (q 0), .int lo, .int hi]) ++ List.replicate (4 - (lg_sl ([.ref (q 0), .int lo, .int hi])).length) Slot.unset).toArray = ls at hl ⊢
  have hl : lv_has ls 4 [(0, .ref (q 0)), (1, .int lo), (2, .int hi)] := hl
  have K2 : ∀ (n9 : Nat), ∀ (j : Nat), (k + 1 ≤ j + n9) → (j ≤ k) → (ht_ex (fun i => ht_stands (g (5 + i)) lo hi) j = false) → ∀ (ls : Array Slot), lv_has ls 4 [(0, .ref (q 0)), (1, .int lo), (2, .int hi), (3, .int (nI j))] → W p l e (headSpec kH_isStoodOn ({ frames := 2, cells := 0, slots := 0, locals := 42 })).room s m [.ref (q 0), .int lo, .int hi].toArray below meth c s.heap [] 0 0 (MQ below (vp_Si (fun r => r = ht_b (ht_stood g k lo hi))) [.ref (q 0), .int lo, .int hi].toArray s 0 0 (fun _ => False)) (F0 m 2 ls []) := by
    intro n9
    induction n9 with
    | zero =>
      intro j hn9 hjk hE ls hl
      exact absurd hn9 (by omega)
    | succ n9 ih =>
      intro j hn9 hjk hE ls hl
      refine lv_iload_n hx hb dH_isStoodOn_2 rfl (lv_at hl 3 rfl) ?_
      refine lv_aload_n hx hb dH_isStoodOn_3 rfl (lv_at hl 0 rfl) ?_
      refine va_get (D := D) (ci := 1) (C := RH) (T := TH) (N := 7) (v := .int (g 0 0)) hx hb hts inH hown hK hP 0 ht_atO rfl 1 (by decide) (hts _ w78) (fun _ h9 => h9) rfl dH_isStoodOn_4 ?_
      refine lv_icmp_ge (tgt := 32) hx hb dH_isStoodOn_7 (by decide) (fun c1 => ?_) (fun c1 => ?_)
      · rw [hn] at c1
        have e9 : j = k := ht_end hk hjk c1
        refine lv_iconst (v := 0) hx hb dH_isStoodOn_32 (by decide) ?_
        exact W.zret (v := 0) (ty := .boolean) hx hb hr rfl (fun t ht hW => ⟨0, rfl, by rw [e9] at hE; simp [ht_stood, ht_b, hE], ht⟩) (fun _ h => nomatch h) dH_isStoodOn_33
      · rw [hn] at c1
        have hjl : j < k := ht_lt hk hjk c1
        have hj8 : j < 8 := Nat.lt_of_lt_of_le hjl hk
        refine lv_aload_n hx hb dH_isStoodOn_10 rfl (lv_at hl 0 rfl) ?_
        refine va_get (D := D) (ci := 1) (C := RH) (T := TH) (N := 7) (v := .ref (q 1)) hx hb hts inH hown hK hP 0 ht_atO rfl 0 (by decide) (hts _ w77) (fun _ h9 => h9) rfl dH_isStoodOn_11 ?_
        refine lv_iload_n hx hb dH_isStoodOn_14 rfl (lv_at hl 3 rfl) ?_
        refine ht_ldV hx hb hK hP (j := j) hj8 rfl dH_isStoodOn_15 ?_
        refine lv_iload_n hx hb dH_isStoodOn_16 rfl (lv_at hl 1 rfl) ?_
        refine lv_iload_n hx hb dH_isStoodOn_17 rfl (lv_at hl 2 rfl) ?_
        refine vp_callSi (va_Run.run (va_runVN (As := [.int lo, .int hi]) (rest := []) ⟨hx, hb, hml, hown, hts⟩ (xV_standsWithin l D cA q g j hj8 lo hi) ⟨va_cnB 2 hts (ht_gW w200) rfl rfl rfl (hN _ (List.mem_of_getElem? (i := 12) rfl)) (hts _ w2) (by decide +kernel) ⟨Nat.le_of_ble_eq_true rfl, Nat.le_of_ble_eq_true rfl⟩, hts _ w199, hts _ s2⟩ ⟨ht_bl, va_recv hK hP (ci := 0) (q0 := j + 6) rfl (ht_atV hj8), fun U hU hW => ⟨rfl, ht_Im hP hK hN hU hW⟩⟩ rfl rfl hl.1 rfl (lv_room (Nat.le_of_ble_eq_true rfl)) dH_isStoodOn_18 ⟨Nat.zero_le _, Nat.zero_le _⟩)) (fun r2 hr2 => ?_)
        subst hr2
        refine lv_if_eq (tgt := 26) hx hb dH_isStoodOn_21 (by decide) (fun c3 => ?_) (fun c3 => ?_)
        · replace c3 := ht_b0.mp c3
          refine lv_iinc (v := nI (j + 1)) (lv' := [(3, .int (nI (j + 1))), (0, .ref (q 0)), (1, .int lo), (2, .int hi)]) hx hb dH_isStoodOn_26 hl (k := 3) rfl (nI_1 _) (by decide) rfl (fun ls hl => ?_)
          refine lv_goto (tgt := 2) hx hb dH_isStoodOn_29 (by decide) ?_
          exact ih (j + 1) (by omega) (by omega) (ht_ex_s hE (by simp [c3])) ls (lv_sub hl [1, 2, 3, 0] rfl)
        · replace c3 := ht_b1.mp c3
          refine lv_iconst (v := 1) hx hb dH_isStoodOn_24 (by decide) ?_
          exact W.zret (v := 1) (ty := .boolean) hx hb hr rfl (fun t ht hW => ⟨1, rfl, by rw [ht_stood, ht_ex_t (i := j) hjl (by simp [c3])]; rfl, ht⟩) (fun _ h => nomatch h) dH_isStoodOn_25
  refine lv_iconst (v := 0) hx hb dH_isStoodOn_0 (by decide) ?_
  refine lv_istore_n (lv' := [(3, .int 0), (0, .ref (q 0)), (1, .int lo), (2, .int hi)]) hx hb dH_isStoodOn_1 rfl hl (by decide) rfl (fun ls hl => ?_)
  exact K2 (k + 1) 0 (by omega) (by omega) rfl ls (lv_sub hl [1, 2, 3, 0] rfl)
set_option maxHeartbeats 4000000 in
set_option maxRecDepth 100000 in
theorem xH_isAnyClaimed (l : Launch) (D : va_G) (cA : ClassId × ClassId) (q : Nat → Nat) (g : ht_G) (k : Nat) (hk : k ≤ 8) (hn : g 0 0 = nI k) (a b ex : Int32) : Met l yH_isAnyClaimed kH_isAnyClaimed ({ frames := 1, cells := 0, slots := 0, locals := 22 }) (va_Pc [.ref (q 0), .int a, .int b, .int ex] (ht_I D cA q g)) (vp_Si (fun r => r = ht_b (ht_claimed g k a b ex))) 0 0 (fun _ => False) := by
  refine Met.ofW (cc := cH_isAnyClaimed) (maxL := 5) (ret := (some .boolean)) (by decide) rfl ?_
  intro p e s m args below meth c s₁ B hml hv
  obtain ⟨rfl, hP, hK, hN⟩ := hv
  have hx := B.exec
  have hb := B.bytes
  have hr := B.returns
  have hts := fun w h => atoms_spec (ws := kH_isAnyClaimed) B.pre w (List.mem_cons_of_mem _ h)
  have hown : s.vm.findClass RH = some m.cls := findClass_of_methodNamed B.named
  have hlocks := B.notSynchronized
  have hl := lv_entry ([.ref (q 0), .int a, .int b, .int ex]) (n := 5) (Nat.le_of_ble_eq_true rfl)
  rw [lg_entry_eq]
  generalize (lg_sl ([.ref (q 0), .int a, .int b, .int ex]) ++ List.replicate (5 - (lg_sl ([.ref (q 0), .int a, .int b, .int ex])).length) Slot.unset).toArray = ls at hl ⊢
  have hl : lv_has ls 5 [(0, .ref (q 0)), (1, .int a), (2, .int b), (3, .int ex)] := hl
  have K3 : ∀ (n9 : Nat), ∀ (j : Nat), (k + 1 ≤ j + n9) → (j ≤ k) → (ht_ex (fun i => !decide (nI i = ex) && ht_claims (g (5 + i)) a b) j = false) → ∀ (ls : Array Slot), lv_has ls 5 [(0, .ref (q 0)), (1, .int a), (2, .int b), (3, .int ex), (4, .int (nI j))] → W p l e (headSpec kH_isAnyClaimed ({ frames := 1, cells := 0, slots := 0, locals := 22 })).room s m [.ref (q 0), .int a, .int b, .int ex].toArray below meth c s.heap [] 0 0 (MQ below (vp_Si (fun r => r = ht_b (ht_claimed g k a b ex))) [.ref (q 0), .int a, .int b, .int ex].toArray s 0 0 (fun _ => False)) (F0 m 3 ls []) := by
    intro n9
    induction n9 with
    | zero =>
      intro j hn9 hjk hE ls hl
      exact absurd hn9 (by omega)
    | succ n9 ih =>
      intro j hn9 hjk hE ls hl
      refine lv_iload hx hb dH_isAnyClaimed_3 (lv_at hl 4 rfl) ?_
      refine lv_aload_n hx hb dH_isAnyClaimed_5 rfl (lv_at hl 0 rfl) ?_
      refine va_get (D := D) (ci := 1) (C := RH) (T := TH) (N := 7) (v := .int (g 0 0)) hx hb hts inH hown hK hP 0 ht_atO rfl 1 (by decide) (hts _ w78) (fun _ h9 => h9) rfl dH_isAnyClaimed_6 ?_
      refine lv_icmp_ge (tgt := 41) hx hb dH_isAnyClaimed_9 (by decide) (fun c1 => ?_) (fun c1 => ?_)
      · rw [hn] at c1
        have e9 : j = k := ht_end hk hjk c1
        refine lv_iconst (v := 0) hx hb dH_isAnyClaimed_41 (by decide) ?_
        exact W.zret (v := 0) (ty := .boolean) hx hb hr rfl (fun t ht hW => ⟨0, rfl, by rw [e9] at hE; simp [ht_claimed, ht_b, hE], ht⟩) (fun _ h => nomatch h) dH_isAnyClaimed_42
      · rw [hn] at c1
        have hjl : j < k := ht_lt hk hjk c1
        have hj8 : j < 8 := Nat.lt_of_lt_of_le hjl hk
        refine lv_iload hx hb dH_isAnyClaimed_12 (lv_at hl 4 rfl) ?_
        refine lv_iload_n hx hb dH_isAnyClaimed_14 rfl (lv_at hl 3 rfl) ?_
        refine lv_icmp_eq (tgt := 35) hx hb dH_isAnyClaimed_15 (by decide) (fun c2 => ?_) (fun c2 => ?_)
        · refine lv_iinc (v := nI (j + 1)) (lv' := [(4, .int (nI (j + 1))), (0, .ref (q 0)), (1, .int a), (2, .int b), (3, .int ex)]) hx hb dH_isAnyClaimed_35 hl (k := 4) rfl (nI_1 _) (by decide) rfl (fun ls hl => ?_)
          refine lv_goto (tgt := 3) hx hb dH_isAnyClaimed_38 (by decide) ?_
          exact ih (j + 1) (by omega) (by omega) (ht_ex_s hE (by simp [c2])) ls (lv_sub hl [1, 2, 3, 4, 0] rfl)
        · refine lv_aload_n hx hb dH_isAnyClaimed_18 rfl (lv_at hl 0 rfl) ?_
          refine va_get (D := D) (ci := 1) (C := RH) (T := TH) (N := 7) (v := .ref (q 1)) hx hb hts inH hown hK hP 0 ht_atO rfl 0 (by decide) (hts _ w77) (fun _ h9 => h9) rfl dH_isAnyClaimed_19 ?_
          refine lv_iload hx hb dH_isAnyClaimed_22 (lv_at hl 4 rfl) ?_
          refine ht_ldV hx hb hK hP (j := j) hj8 rfl dH_isAnyClaimed_24 ?_
          refine lv_iload_n hx hb dH_isAnyClaimed_25 rfl (lv_at hl 1 rfl) ?_
          refine lv_iload_n hx hb dH_isAnyClaimed_26 rfl (lv_at hl 2 rfl) ?_
          refine vp_callSi (va_Run.run (va_runVN (As := [.int a, .int b]) (rest := []) ⟨hx, hb, hml, hown, hts⟩ (xV_claimsWithin l D cA q g j hj8 a b) ⟨va_cnB 2 hts (ht_gW w216) rfl rfl rfl (hN _ (List.mem_of_getElem? (i := 13) rfl)) (hts _ w2) (by decide +kernel) ⟨Nat.le_of_ble_eq_true rfl, Nat.le_of_ble_eq_true rfl⟩, hts _ w215, hts _ s5⟩ ⟨ht_bl, va_recv hK hP (ci := 0) (q0 := j + 6) rfl (ht_atV hj8), fun U hU hW => ⟨rfl, ht_Im hP hK hN hU hW⟩⟩ rfl rfl hl.1 rfl (lv_room (Nat.le_of_ble_eq_true rfl)) dH_isAnyClaimed_27 ⟨Nat.zero_le _, Nat.zero_le _⟩)) (fun r3 hr3 => ?_)
          subst hr3
          refine lv_if_eq (tgt := 35) hx hb dH_isAnyClaimed_30 (by decide) (fun c4 => ?_) (fun c4 => ?_)
          · replace c4 := ht_b0.mp c4
            refine lv_iinc (v := nI (j + 1)) (lv' := [(4, .int (nI (j + 1))), (0, .ref (q 0)), (1, .int a), (2, .int b), (3, .int ex)]) hx hb dH_isAnyClaimed_35 hl (k := 4) rfl (nI_1 _) (by decide) rfl (fun ls hl => ?_)
            refine lv_goto (tgt := 3) hx hb dH_isAnyClaimed_38 (by decide) ?_
            exact ih (j + 1) (by omega) (by omega) (ht_ex_s hE (by simp [c2, c4])) ls (lv_sub hl [1, 2, 3, 4, 0] rfl)
          · replace c4 := ht_b1.mp c4
            refine lv_iconst (v := 1) hx hb dH_isAnyClaimed_33 (by decide) ?_
            exact W.zret (v := 1) (ty := .boolean) hx hb hr rfl (fun t ht hW => ⟨1, rfl, by rw [ht_claimed, ht_ex_t (i := j) hjl (by simp [c2, c4])]; rfl, ht⟩) (fun _ h => nomatch h) dH_isAnyClaimed_34
  refine lv_iconst (v := 0) hx hb dH_isAnyClaimed_0 (by decide) ?_
  refine lv_istore (lv' := [(4, .int 0), (0, .ref (q 0)), (1, .int a), (2, .int b), (3, .int ex)]) hx hb dH_isAnyClaimed_1 hl (by decide) rfl (fun ls hl => ?_)
  exact K3 (k + 1) 0 (by omega) (by omega) rfl ls (lv_sub hl [1, 2, 3, 4, 0] rfl)
set_option maxHeartbeats 4000000 in
set_option maxRecDepth 100000 in
theorem xH_isAnyClaimedByMute (l : Launch) (D : va_G) (cA : ClassId × ClassId) (q : Nat → Nat) (g : ht_G) (k : Nat) (hk : k ≤ 8) (hn : g 0 0 = nI k) (a b : Int32) : Met l yH_isAnyClaimedByMute kH_isAnyClaimedByMute ({ frames := 1, cells := 0, slots := 0, locals := 22 }) (va_Pc [.ref (q 0), .int a, .int b] (ht_I D cA q g)) (vp_Si (fun r => r = ht_b (ht_claimM g k a b))) 0 0 (fun _ => False) := by
  refine Met.ofW (cc := cH_isAnyClaimedByMute) (maxL := 4) (ret := (some .boolean)) (by decide) rfl ?_
  intro p e s m args below meth c s₁ B hml hv
  obtain ⟨rfl, hP, hK, hN⟩ := hv
  have hx := B.exec
  have hb := B.bytes
  have hr := B.returns
  have hts := fun w h => atoms_spec (ws := kH_isAnyClaimedByMute) B.pre w (List.mem_cons_of_mem _ h)
  have hown : s.vm.findClass RH = some m.cls := findClass_of_methodNamed B.named
  have hlocks := B.notSynchronized
  have hl := lv_entry ([.ref (q 0), .int a, .int b]) (n := 4) (Nat.le_of_ble_eq_true rfl)
  rw [lg_entry_eq]
  generalize (lg_sl ([.ref (q 0), .int a, .int b]) ++ List.replicate (4 - (lg_sl ([.ref (q 0), .int a, .int b])).length) Slot.unset).toArray = ls at hl ⊢
  have hl : lv_has ls 4 [(0, .ref (q 0)), (1, .int a), (2, .int b)] := hl
  have K2 : ∀ (n9 : Nat), ∀ (j : Nat), (k + 1 ≤ j + n9) → (j ≤ k) → (ht_ex (fun i => ht_mute (g (5 + i)) && ht_claims (g (5 + i)) a b) j = false) → ∀ (ls : Array Slot), lv_has ls 4 [(0, .ref (q 0)), (1, .int a), (2, .int b), (3, .int (nI j))] → W p l e (headSpec kH_isAnyClaimedByMute ({ frames := 1, cells := 0, slots := 0, locals := 22 })).room s m [.ref (q 0), .int a, .int b].toArray below meth c s.heap [] 0 0 (MQ below (vp_Si (fun r => r = ht_b (ht_claimM g k a b))) [.ref (q 0), .int a, .int b].toArray s 0 0 (fun _ => False)) (F0 m 2 ls []) := by
    intro n9
    induction n9 with
    | zero =>
      intro j hn9 hjk hE ls hl
      exact absurd hn9 (by omega)
    | succ n9 ih =>
      intro j hn9 hjk hE ls hl
      refine lv_iload_n hx hb dH_isAnyClaimedByMute_2 rfl (lv_at hl 3 rfl) ?_
      refine lv_aload_n hx hb dH_isAnyClaimedByMute_3 rfl (lv_at hl 0 rfl) ?_
      refine va_get (D := D) (ci := 1) (C := RH) (T := TH) (N := 7) (v := .int (g 0 0)) hx hb hts inH hown hK hP 0 ht_atO rfl 1 (by decide) (hts _ w78) (fun _ h9 => h9) rfl dH_isAnyClaimedByMute_4 ?_
      refine lv_icmp_ge (tgt := 44) hx hb dH_isAnyClaimedByMute_7 (by decide) (fun c1 => ?_) (fun c1 => ?_)
      · rw [hn] at c1
        have e9 : j = k := ht_end hk hjk c1
        refine lv_iconst (v := 0) hx hb dH_isAnyClaimedByMute_44 (by decide) ?_
        exact W.zret (v := 0) (ty := .boolean) hx hb hr rfl (fun t ht hW => ⟨0, rfl, by rw [e9] at hE; simp [ht_claimM, ht_b, hE], ht⟩) (fun _ h => nomatch h) dH_isAnyClaimedByMute_45
      · rw [hn] at c1
        have hjl : j < k := ht_lt hk hjk c1
        have hj8 : j < 8 := Nat.lt_of_lt_of_le hjl hk
        refine lv_aload_n hx hb dH_isAnyClaimedByMute_10 rfl (lv_at hl 0 rfl) ?_
        refine va_get (D := D) (ci := 1) (C := RH) (T := TH) (N := 7) (v := .ref (q 1)) hx hb hts inH hown hK hP 0 ht_atO rfl 0 (by decide) (hts _ w77) (fun _ h9 => h9) rfl dH_isAnyClaimedByMute_11 ?_
        refine lv_iload_n hx hb dH_isAnyClaimedByMute_14 rfl (lv_at hl 3 rfl) ?_
        refine ht_ldV hx hb hK hP (j := j) hj8 rfl dH_isAnyClaimedByMute_15 ?_
        refine vp_callSi (va_Run.run (va_runVN (As := []) (rest := []) ⟨hx, hb, hml, hown, hts⟩ (xV_isMute l D cA q g j hj8 ) ⟨va_cnB 0 hts (ht_gW w241) rfl rfl rfl (hN _ (List.mem_of_getElem? (i := 16) rfl)) (hts _ w2) (by decide +kernel) ⟨Nat.le_of_ble_eq_true rfl, Nat.le_of_ble_eq_true rfl⟩, hts _ w240, hts _ s11⟩ ⟨ht_bl, va_recv hK hP (ci := 0) (q0 := j + 6) rfl (ht_atV hj8), fun U hU hW => ⟨rfl, ht_Im hP hK hN hU hW⟩⟩ rfl rfl hl.1 rfl (lv_room (Nat.le_of_ble_eq_true rfl)) dH_isAnyClaimedByMute_16 ⟨Nat.zero_le _, Nat.zero_le _⟩)) (fun r2 hr2 => ?_)
        subst hr2
        refine lv_if_eq (tgt := 38) hx hb dH_isAnyClaimedByMute_19 (by decide) (fun c3 => ?_) (fun c3 => ?_)
        · replace c3 := ht_b0.mp c3
          refine lv_iinc (v := nI (j + 1)) (lv' := [(3, .int (nI (j + 1))), (0, .ref (q 0)), (1, .int a), (2, .int b)]) hx hb dH_isAnyClaimedByMute_38 hl (k := 3) rfl (nI_1 _) (by decide) rfl (fun ls hl => ?_)
          refine lv_goto (tgt := 2) hx hb dH_isAnyClaimedByMute_41 (by decide) ?_
          exact ih (j + 1) (by omega) (by omega) (ht_ex_s hE (by simp [c3])) ls (lv_sub hl [1, 2, 3, 0] rfl)
        · replace c3 := ht_b1.mp c3
          refine lv_aload_n hx hb dH_isAnyClaimedByMute_22 rfl (lv_at hl 0 rfl) ?_
          refine va_get (D := D) (ci := 1) (C := RH) (T := TH) (N := 7) (v := .ref (q 1)) hx hb hts inH hown hK hP 0 ht_atO rfl 0 (by decide) (hts _ w77) (fun _ h9 => h9) rfl dH_isAnyClaimedByMute_23 ?_
          refine lv_iload_n hx hb dH_isAnyClaimedByMute_26 rfl (lv_at hl 3 rfl) ?_
          refine ht_ldV hx hb hK hP (j := j) hj8 rfl dH_isAnyClaimedByMute_27 ?_
          refine lv_iload_n hx hb dH_isAnyClaimedByMute_28 rfl (lv_at hl 1 rfl) ?_
          refine lv_iload_n hx hb dH_isAnyClaimedByMute_29 rfl (lv_at hl 2 rfl) ?_
          refine vp_callSi (va_Run.run (va_runVN (As := [.int a, .int b]) (rest := []) ⟨hx, hb, hml, hown, hts⟩ (xV_claimsWithin l D cA q g j hj8 a b) ⟨va_cnB 2 hts (ht_gW w216) rfl rfl rfl (hN _ (List.mem_of_getElem? (i := 13) rfl)) (hts _ w2) (by decide +kernel) ⟨Nat.le_of_ble_eq_true rfl, Nat.le_of_ble_eq_true rfl⟩, hts _ w215, hts _ s5⟩ ⟨ht_bl, va_recv hK hP (ci := 0) (q0 := j + 6) rfl (ht_atV hj8), fun U hU hW => ⟨rfl, ht_Im hP hK hN hU hW⟩⟩ rfl rfl hl.1 rfl (lv_room (Nat.le_of_ble_eq_true rfl)) dH_isAnyClaimedByMute_30 ⟨Nat.zero_le _, Nat.zero_le _⟩)) (fun r4 hr4 => ?_)
          subst hr4
          refine lv_if_eq (tgt := 38) hx hb dH_isAnyClaimedByMute_33 (by decide) (fun c5 => ?_) (fun c5 => ?_)
          · replace c5 := ht_b0.mp c5
            refine lv_iinc (v := nI (j + 1)) (lv' := [(3, .int (nI (j + 1))), (0, .ref (q 0)), (1, .int a), (2, .int b)]) hx hb dH_isAnyClaimedByMute_38 hl (k := 3) rfl (nI_1 _) (by decide) rfl (fun ls hl => ?_)
            refine lv_goto (tgt := 2) hx hb dH_isAnyClaimedByMute_41 (by decide) ?_
            exact ih (j + 1) (by omega) (by omega) (ht_ex_s hE (by simp [c3, c5])) ls (lv_sub hl [1, 2, 3, 0] rfl)
          · replace c5 := ht_b1.mp c5
            refine lv_iconst (v := 1) hx hb dH_isAnyClaimedByMute_36 (by decide) ?_
            exact W.zret (v := 1) (ty := .boolean) hx hb hr rfl (fun t ht hW => ⟨1, rfl, by rw [ht_claimM, ht_ex_t (i := j) hjl (by simp [c3, c5])]; rfl, ht⟩) (fun _ h => nomatch h) dH_isAnyClaimedByMute_37
  refine lv_iconst (v := 0) hx hb dH_isAnyClaimedByMute_0 (by decide) ?_
  refine lv_istore_n (lv' := [(3, .int 0), (0, .ref (q 0)), (1, .int a), (2, .int b)]) hx hb dH_isAnyClaimedByMute_1 rfl hl (by decide) rfl (fun ls hl => ?_)
  exact K2 (k + 1) 0 (by omega) (by omega) rfl ls (lv_sub hl [1, 2, 3, 0] rfl)
set_option maxHeartbeats 4000000 in
set_option maxRecDepth 100000 in
theorem xH_isDetectedOccupied (l : Launch) (D : va_G) (cA : ClassId × ClassId) (q : Nat → Nat) (g : ht_G) (k : Nat) (hk : k ≤ 8) (hn : g 0 0 = nI k) (d : Int32) : Met l yH_isDetectedOccupied kH_isDetectedOccupied ({ frames := 3, cells := 0, slots := 0, locals := 65 }) (va_Pc [.ref (q 0), .int d] (ht_I D cA q g)) (vp_Si (fun r => r = ht_b (ht_det g k d))) 0 0 (fun _ => False) := by
  refine Met.ofW (cc := cH_isDetectedOccupied) (maxL := 3) (ret := (some .boolean)) (by decide) rfl ?_
  intro p e s m args below meth c s₁ B hml hv
  obtain ⟨rfl, hP, hK, hN⟩ := hv
  have hx := B.exec
  have hb := B.bytes
  have hr := B.returns
  have hts := fun w h => atoms_spec (ws := kH_isDetectedOccupied) B.pre w (List.mem_cons_of_mem _ h)
  have hown : s.vm.findClass RH = some m.cls := findClass_of_methodNamed B.named
  have hlocks := B.notSynchronized
  have hl := lv_entry ([.ref (q 0), .int d]) (n := 3) (Nat.le_of_ble_eq_true rfl)
  rw [lg_entry_eq]
  generalize (lg_sl ([.ref (q 0), .int d]) ++ List.replicate (3 - (lg_sl ([.ref (q 0), .int d])).length) Slot.unset).toArray = ls at hl ⊢
  have hl : lv_has ls 3 [(0, .ref (q 0)), (1, .int d)] := hl
  refine lv_iload_n hx hb dH_isDetectedOccupied_0 rfl (lv_at hl 1 rfl) ?_
  refine lv_bipush (v := 30) hx hb dH_isDetectedOccupied_1 (by decide) ?_
  refine lv_imul hx hb dH_isDetectedOccupied_3 ?_
  refine lv_istore_n (lv' := [(2, .int (d * 30)), (0, .ref (q 0)), (1, .int d)]) hx hb dH_isDetectedOccupied_4 rfl hl (by decide) rfl (fun ls hl => ?_)
  refine lv_aload_n hx hb dH_isDetectedOccupied_5 rfl (lv_at hl 1 rfl) ?_
  refine lv_iload_n hx hb dH_isDetectedOccupied_6 rfl (lv_at hl 0 rfl) ?_
  refine lv_iload_n hx hb dH_isDetectedOccupied_7 rfl (lv_at hl 0 rfl) ?_
  refine lv_bipush (v := 30) hx hb dH_isDetectedOccupied_8 (by decide) ?_
  refine lv_iadd hx hb dH_isDetectedOccupied_10 ?_
  refine lv_iconst (v := 1) hx hb dH_isDetectedOccupied_11 (by decide) ?_
  refine lv_isub hx hb dH_isDetectedOccupied_12 ?_
  refine vp_callSi (va_Run.run (va_runV (As := [.int (d * 30), .int (((d * 30) + 30) - 1)]) (rest := []) ⟨hx, hb, hml, hown, hts⟩ (xH_isStoodOn l D cA q g k hk hn (d * 30) (((d * 30) + 30) - 1)) (cwV 2 hts (ht_gV w193 w195 s1 w1 w196) rfl rfl rfl (by decide +kernel) ⟨Nat.le_of_ble_eq_true rfl, Nat.le_of_ble_eq_true rfl⟩) ⟨ht_bl, va_recv hK hP (ci := 1) (q0 := 0) rfl ht_atO, fun U hU hW => ⟨rfl, ht_Im hP hK hN hU hW⟩⟩ rfl rfl hl.1 rfl (lv_room (Nat.le_of_ble_eq_true rfl)) dH_isDetectedOccupied_13 ⟨Nat.zero_le _, Nat.zero_le _⟩)) (fun r1 hr1 => ?_)
  subst hr1
  exact W.zret (v := ht_b (ht_stood g k (d * 30) (((d * 30) + 30) - 1))) (ty := .boolean) hx hb hr (ht_nb _) (fun t ht hW => ⟨ht_b (ht_stood g k (d * 30) (((d * 30) + 30) - 1)), rfl, by rfl, ht⟩) (fun _ h => nomatch h) dH_isDetectedOccupied_16
set_option maxHeartbeats 4000000 in
set_option maxRecDepth 100000 in
theorem xH_isSectionStoodOn (l : Launch) (D : va_G) (cA : ClassId × ClassId) (q : Nat → Nat) (g : ht_G) (k : Nat) (hk : k ≤ 8) (hn : g 0 0 = nI k) (x : Int32) : Met l yH_isSectionStoodOn kH_isSectionStoodOn ({ frames := 3, cells := 0, slots := 0, locals := 65 }) (va_Pc [.ref (q 0), .int x] (ht_I D cA q g)) (vp_Si (fun r => r = ht_b (ht_sec g k x))) 0 0 (fun _ => False) := by
  refine Met.ofW (cc := cH_isSectionStoodOn) (maxL := 3) (ret := (some .boolean)) (by decide) rfl ?_
  intro p e s m args below meth c s₁ B hml hv
  obtain ⟨rfl, hP, hK, hN⟩ := hv
  have hx := B.exec
  have hb := B.bytes
  have hr := B.returns
  have hts := fun w h => atoms_spec (ws := kH_isSectionStoodOn) B.pre w (List.mem_cons_of_mem _ h)
  have hown : s.vm.findClass RH = some m.cls := findClass_of_methodNamed B.named
  have hlocks := B.notSynchronized
  have hl := lv_entry ([.ref (q 0), .int x]) (n := 3) (Nat.le_of_ble_eq_true rfl)
  rw [lg_entry_eq]
  generalize (lg_sl ([.ref (q 0), .int x]) ++ List.replicate (3 - (lg_sl ([.ref (q 0), .int x])).length) Slot.unset).toArray = ls at hl ⊢
  have hl : lv_has ls 3 [(0, .ref (q 0)), (1, .int x)] := hl
  refine lv_iload_n hx hb dH_isSectionStoodOn_0 rfl (lv_at hl 1 rfl) ?_
  refine lv_bipush (v := 10) hx hb dH_isSectionStoodOn_1 (by decide) ?_
  refine lv_imul hx hb dH_isSectionStoodOn_3 ?_
  refine lv_istore_n (lv' := [(2, .int (x * 10)), (0, .ref (q 0)), (1, .int x)]) hx hb dH_isSectionStoodOn_4 rfl hl (by decide) rfl (fun ls hl => ?_)
  refine lv_aload_n hx hb dH_isSectionStoodOn_5 rfl (lv_at hl 1 rfl) ?_
  refine lv_iload_n hx hb dH_isSectionStoodOn_6 rfl (lv_at hl 0 rfl) ?_
  refine lv_iload_n hx hb dH_isSectionStoodOn_7 rfl (lv_at hl 0 rfl) ?_
  refine lv_bipush (v := 10) hx hb dH_isSectionStoodOn_8 (by decide) ?_
  refine lv_iadd hx hb dH_isSectionStoodOn_10 ?_
  refine lv_iconst (v := 1) hx hb dH_isSectionStoodOn_11 (by decide) ?_
  refine lv_isub hx hb dH_isSectionStoodOn_12 ?_
  refine vp_callSi (va_Run.run (va_runV (As := [.int (x * 10), .int (((x * 10) + 10) - 1)]) (rest := []) ⟨hx, hb, hml, hown, hts⟩ (xH_isStoodOn l D cA q g k hk hn (x * 10) (((x * 10) + 10) - 1)) (cwV 2 hts (ht_gV w193 w195 s1 w1 w196) rfl rfl rfl (by decide +kernel) ⟨Nat.le_of_ble_eq_true rfl, Nat.le_of_ble_eq_true rfl⟩) ⟨ht_bl, va_recv hK hP (ci := 1) (q0 := 0) rfl ht_atO, fun U hU hW => ⟨rfl, ht_Im hP hK hN hU hW⟩⟩ rfl rfl hl.1 rfl (lv_room (Nat.le_of_ble_eq_true rfl)) dH_isSectionStoodOn_13 ⟨Nat.zero_le _, Nat.zero_le _⟩)) (fun r1 hr1 => ?_)
  subst hr1
  exact W.zret (v := ht_b (ht_stood g k (x * 10) (((x * 10) + 10) - 1))) (ty := .boolean) hx hb hr (ht_nb _) (fun t ht hW => ⟨ht_b (ht_stood g k (x * 10) (((x * 10) + 10) - 1)), rfl, by rfl, ht⟩) (fun _ h => nomatch h) dH_isSectionStoodOn_16
