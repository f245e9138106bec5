set_option maxHeartbeats 4000000 in
set_option maxRecDepth 100000 in
theorem xH_makeTick (l : Launch) (D : va_G) (cA : ClassId × ClassId) (q : Nat → Nat) (hJ : mw_J 14 q) (sz : Nat) (g : ht_G) (k : Nat) (hk : k ≤ 8) (hn : g 0 0 = nI k) (hA : ht_al g 3) (hB : ht_bo g 7) : Met l yH_makeTick kH_makeTick ({ frames := 6, cells := 0, slots := 0, locals := 129 }) (va_Pc [.ref (q 0)] (fun U => U.heap.size = sz ∧ ht_I D cA q g U)) (va_Qv (fun _ : Unit => True) (fun _ t => ht_I D cA q (ht_tick k g) t) (mw_A 14 q sz)) 0 0 (mw_A 14 q sz) := by
  refine Met.ofW (cc := cH_makeTick) (maxL := 2) (ret := none) (by decide) rfl ?_
  intro p e s m args below meth c s₁ B hml hv
  obtain ⟨rfl, hsz, hP, hK, hN⟩ := hv
  have hx := B.exec
  have hb := B.bytes
  have hr := B.returns
  have hts := fun w h => atoms_spec (ws := kH_makeTick) B.pre w (List.mem_cons_of_mem _ h)
  have hown : s.vm.findClass RH = some m.cls := findClass_of_methodNamed B.named
  have hlocks := B.notSynchronized
  subst hsz
  have hS : va_S (mw_A 14 q s.heap.size) s.heap s.heap [] := va_S.rf
  have hl := lv_entry ([.ref (q 0)]) (n := 2) (Nat.le_of_ble_eq_true rfl)
  rw [lg_entry_eq]
  generalize (lg_sl ([.ref (q 0)]) ++ List.replicate (2 - (lg_sl ([.ref (q 0)])).length) Slot.unset).toArray = ls at hl ⊢
  have hl : lv_has ls 2 [(0, .ref (q 0))] := hl
  have K40 : ∀ (n9 : Nat), ∀ (j : Nat), (k + 1 ≤ j + n9) → (j ≤ k) → ∀ (H : Heap) (locs : List Loc), va_P D ht_cl (ht_w cA q (ht_it ht_rp j (ht_it (ht_mv k) k g))) H → va_S (mw_A 14 q s.heap.size) s.heap H locs → ∀ (ls : Array Slot), lv_has ls 2 [(0, .ref (q 0)), (1, .int (nI j))] → W p l e (headSpec kH_makeTick ({ frames := 6, cells := 0, slots := 0, locals := 129 })).room s m [.ref (q 0)].toArray below meth c H locs 0 0 (MQ below (va_Qv (fun _ : Unit => True) (fun _ t => ht_I D cA q (ht_tick k g) t) (mw_A 14 q s.heap.size)) [.ref (q 0)].toArray s 0 0 (mw_A 14 q s.heap.size)) (F0 m 40 ls []) := by
    intro n9
    induction n9 with
    | zero =>
      intro j hn9 hjk H locs hP hS ls hl
      exact absurd hn9 (by omega)
    | succ n9 ih =>
      intro j hn9 hjk H locs hP hS ls hl
      have hnj : (ht_it ht_rp j (ht_it (ht_mv k) k g)) 0 0 = nI k := (ht_it_keep (fun _ a => ht_rp_o (by decide) a) _ _).trans ((ht_it_keep (fun _ a => ht_mv_o (by decide) a) _ _).trans hn)
      refine lv_iload_n hx hb dH_makeTick_40 rfl (lv_at hl 1 rfl) ?_
      refine lv_aload_n hx hb dH_makeTick_41 rfl (lv_at hl 0 rfl) ?_
      refine va_get (D := D) (ci := 1) (C := RH) (T := TH) (N := 7) (v := .int ((ht_it ht_rp j (ht_it (ht_mv k) k g)) 0 0)) hx hb hts inH hown hK hP 0 ht_atO rfl 1 (by decide) (hts _ w78) (fun _ h9 => h9) rfl dH_makeTick_42 ?_
      refine lv_icmp_ge (tgt := 75) hx hb dH_makeTick_45 (by decide) (fun c1 => ?_) (fun c1 => ?_)
      · rw [hnj] at c1
        have e9 : j = k := ht_end hk hjk c1
        rw [e9] at hP hnj
        refine lv_aload_n hx hb dH_makeTick_75 rfl (lv_at hl 0 rfl) ?_
        refine va_callv (va_runV (As := []) (rest := []) ⟨hx, hb, hml, hown, hts⟩ (xH_findStates l D cA q hJ _ (ht_it ht_rp k (ht_it (ht_mv k) k g)) k hk hnj (ht_al_of hA (fun y _ => by rw [ht_it_keep (fun _ a => ht_rp_o (Or.inl (by decide)) a), ht_it_keep (fun _ a => ht_mv_o (Or.inl (by decide)) a)]))) (cwV 0 hts (ht_gV w226 w228 s8 w1 w229) rfl rfl rfl (by decide +kernel) ⟨Nat.le_of_ble_eq_true rfl, Nat.le_of_ble_eq_true rfl⟩) ⟨ht_bls, va_recv hK hP (ci := 1) (q0 := 0) rfl ht_atO, fun U hU hW => ⟨rfl, by rw [hU], ht_Im hP hK hN hU hW⟩⟩ rfl rfl hl.1 rfl (lv_room (Nat.le_of_ble_eq_true rfl)) dH_makeTick_76 ⟨Nat.zero_le _, Nat.zero_le _⟩) hS mw_AA (mw_AF hS.1) (fun u2 t2 H locs ht2 hvm2 hw2 hB2 hz2 hk2 hS => ?_)
        have hP := hB2.1
        rw [ht2] at hP
        obtain ⟨g3, eg3⟩ : ∃ y9 : ht_G, y9 = ht_find k (ht_it ht_rp k (ht_it (ht_mv k) k g)) := ⟨_, rfl⟩
        rw [← eg3] at hP
        refine lv_aload_n hx hb dH_makeTick_79 rfl (lv_at hl 0 rfl) ?_
        refine lv_dup hx hb dH_makeTick_80 rfl ?_
        refine va_get (D := D) (ci := 1) (C := RH) (T := TH) (N := 7) (v := .int (g3 0 1)) hx hb hts inH hown hK hP 0 ht_atO rfl 2 (by decide) (hts _ w79) (fun _ h9 => h9) rfl dH_makeTick_81 ?_
        refine lv_iconst (v := 1) hx hb dH_makeTick_84 (by decide) ?_
        refine lv_iadd hx hb dH_makeTick_85 ?_
        refine va_put (D := D) (ci := 1) (C := RH) (T := TH) (N := 7) (v := .int ((g3 0 1) + 1)) (ty := .int) hx hb hts inH tyH tyH_ok nmH hown hK hP (mw_DA hJ) hS 0 ht_atO rfl 2 (by decide) (hts _ w79) (fun _ h9 => h9) rfl rfl rfl rfl (Nat.le_of_ble_eq_true rfl) dH_makeTick_86 (fun H locs hP _ hS => ?_)
        rw [ht_stT] at hP
        obtain ⟨g4, eg4⟩ : ∃ y9 : ht_G, y9 = ht_up g3 0 1 ((g3 0 1) + 1) := ⟨_, rfl⟩
        rw [← eg4] at hP
        have hG : g4 = ht_tick k g := by rw [eg4, eg3, ht_tick_eq]
        rw [hG] at hP
        exact W.vret hx hb hr (fun t ht hW => ⟨⟨(), rfl, trivial, ht_Im hP hK hN ht hW⟩, hS.F ht⟩) hS.2.2 dH_makeTick_89
      · rw [hnj] at c1
        have hjl : j < k := ht_lt hk hjk c1
        have hj8 : j < 8 := Nat.lt_of_lt_of_le hjl hk
        refine lv_aload_n hx hb dH_makeTick_48 rfl (lv_at hl 0 rfl) ?_
        refine va_get (D := D) (ci := 1) (C := RH) (T := TH) (N := 7) (v := .ref (q 1)) hx hb hts inH hown hK hP 0 ht_atO rfl 0 (by decide) (hts _ w77) (fun _ h9 => h9) rfl dH_makeTick_49 ?_
        refine lv_iload_n hx hb dH_makeTick_52 rfl (lv_at hl 1 rfl) ?_
        refine ht_ldV hx hb hK hP (j := j) hj8 rfl dH_makeTick_53 ?_
        refine va_getN (D := D) (ci := 0) (C := RV) (T := TV) (N := 13) (v := .int ((ht_it ht_rp j (ht_it (ht_mv k) k g)) (5 + j) 0)) hx hb hts inV hown hK hP (j + 6) (ht_atV hj8) rfl 0 (by decide) (hN.use 1 rfl rfl) (fun _ h9 => h9) rfl dH_makeTick_54 ?_
        refine lv_if_eq (tgt := 69) hx hb dH_makeTick_57 (by decide) (fun c5 => ?_) (fun c5 => ?_)
        · refine lv_iinc (v := nI (j + 1)) (lv' := [(1, .int (nI (j + 1))), (0, .ref (q 0))]) hx hb dH_makeTick_69 hl (k := 1) rfl (nI_1 _) (by decide) rfl (fun ls hl => ?_)
          refine lv_goto (tgt := 40) hx hb dH_makeTick_72 (by decide) ?_
          have hG : ht_it ht_rp j (ht_it (ht_mv k) k g) = ht_it ht_rp (j + 1) (ht_it (ht_mv k) k g) := by simp [ht_it, ht_rp, ht_roa, c1, c5]
          rw [hG] at hP
          exact ih (j + 1) (by omega) (by omega) _ _ hP hS ls (lv_sub hl [1, 0] rfl)
        · refine lv_aload_n hx hb dH_makeTick_60 rfl (lv_at hl 0 rfl) ?_
          refine va_get (D := D) (ci := 1) (C := RH) (T := TH) (N := 7) (v := .ref (q 1)) hx hb hts inH hown hK hP 0 ht_atO rfl 0 (by decide) (hts _ w77) (fun _ h9 => h9) rfl dH_makeTick_61 ?_
          refine lv_iload_n hx hb dH_makeTick_64 rfl (lv_at hl 1 rfl) ?_
          refine ht_ldV hx hb hK hP (j := j) hj8 rfl dH_makeTick_65 ?_
          refine va_callv (va_runVN (As := []) (rest := []) ⟨hx, hb, hml, hown, hts⟩ (xV_reportOrAge l D cA q hJ _ (ht_it ht_rp j (ht_it (ht_mv k) k g)) j hj8 (by rw [ht_it_keep (fun _ a => ht_rp_o (Or.inr (by decide)) a), ht_it_keep (fun _ a => ht_mv_o (Or.inr (by decide)) a)]; exact hB j hj8)) ⟨va_cnB 0 hts (ht_gW w387) rfl rfl rfl (hN _ (List.mem_of_getElem? (i := 20) rfl)) (hts _ w2) (by decide +kernel) ⟨Nat.le_of_ble_eq_true rfl, Nat.le_of_ble_eq_true rfl⟩, hts _ w386, hts _ s27⟩ ⟨ht_bls, va_recv hK hP (ci := 0) (q0 := j + 6) rfl (ht_atV hj8), fun U hU hW => ⟨rfl, by rw [hU], ht_Im hP hK hN hU hW⟩⟩ rfl rfl hl.1 rfl (lv_room (Nat.le_of_ble_eq_true rfl)) dH_makeTick_66 ⟨Nat.zero_le _, Nat.zero_le _⟩) hS mw_AA (mw_AF hS.1) (fun u6 t6 H locs ht6 hvm6 hw6 hB6 hz6 hk6 hS => ?_)
          have hP := hB6.1
          rw [ht6] at hP
          obtain ⟨g7, eg7⟩ : ∃ y9 : ht_G, y9 = ht_roa j (ht_it ht_rp j (ht_it (ht_mv k) k g)) := ⟨_, rfl⟩
          rw [← eg7] at hP
          refine lv_iinc (v := nI (j + 1)) (lv' := [(1, .int (nI (j + 1))), (0, .ref (q 0))]) hx hb dH_makeTick_69 hl (k := 1) rfl (nI_1 _) (by decide) rfl (fun ls hl => ?_)
          refine lv_goto (tgt := 40) hx hb dH_makeTick_72 (by decide) ?_
          have hG : g7 = ht_it ht_rp (j + 1) (ht_it (ht_mv k) k g) := by subst eg7; simp [ht_it, ht_rp, ht_roa, c1, c5]
          rw [hG] at hP
          exact ih (j + 1) (by omega) (by omega) _ _ hP hS ls (lv_sub hl [1, 0] rfl)
  have K2 : ∀ (n9 : Nat), ∀ (j : Nat), (k + 1 ≤ j + n9) → (j ≤ k) → ∀ (H : Heap) (locs : List Loc), va_P D ht_cl (ht_w cA q (ht_it (ht_mv k) j g)) H → va_S (mw_A 14 q s.heap.size) s.heap H locs → ∀ (ls : Array Slot), lv_has ls 2 [(0, .ref (q 0)), (1, .int (nI j))] → W p l e (headSpec kH_makeTick ({ frames := 6, cells := 0, slots := 0, locals := 129 })).room s m [.ref (q 0)].toArray below meth c H locs 0 0 (MQ below (va_Qv (fun _ : Unit => True) (fun _ t => ht_I D cA q (ht_tick k g) t) (mw_A 14 q s.heap.size)) [.ref (q 0)].toArray s 0 0 (mw_A 14 q s.heap.size)) (F0 m 2 ls []) := by
    intro n9
    induction n9 with
    | zero =>
      intro j hn9 hjk H locs hP hS ls hl
      exact absurd hn9 (by omega)
    | succ n9 ih =>
      intro j hn9 hjk H locs hP hS ls hl
      have hnj : (ht_it (ht_mv k) j g) 0 0 = nI k := (ht_it_keep (fun _ a => ht_mv_o (by decide) a) _ _).trans hn
      refine lv_iload_n hx hb dH_makeTick_2 rfl (lv_at hl 1 rfl) ?_
      refine lv_aload_n hx hb dH_makeTick_3 rfl (lv_at hl 0 rfl) ?_
      refine va_get (D := D) (ci := 1) (C := RH) (T := TH) (N := 7) (v := .int ((ht_it (ht_mv k) j g) 0 0)) hx hb hts inH hown hK hP 0 ht_atO rfl 1 (by decide) (hts _ w78) (fun _ h9 => h9) rfl dH_makeTick_4 ?_
      refine lv_icmp_ge (tgt := 38) hx hb dH_makeTick_7 (by decide) (fun c8 => ?_) (fun c8 => ?_)
      · rw [hnj] at c8
        have e9 : j = k := ht_end hk hjk c8
        refine lv_iconst (v := 0) hx hb dH_makeTick_38 (by decide) ?_
        refine lv_istore_n (lv' := [(1, .int 0), (0, .ref (q 0))]) hx hb dH_makeTick_39 rfl hl (by decide) rfl (fun ls hl => ?_)
        rw [e9] at hP
        exact K40 (k + 1) 0 (by omega) (by omega) _ _ hP hS ls (lv_sub hl [1, 0] rfl)
      · rw [hnj] at c8
        have hjl : j < k := ht_lt hk hjk c8
        have hj8 : j < 8 := Nat.lt_of_lt_of_le hjl hk
        refine lv_aload_n hx hb dH_makeTick_10 rfl (lv_at hl 0 rfl) ?_
        refine va_get (D := D) (ci := 1) (C := RH) (T := TH) (N := 7) (v := .ref (q 1)) hx hb hts inH hown hK hP 0 ht_atO rfl 0 (by decide) (hts _ w77) (fun _ h9 => h9) rfl dH_makeTick_11 ?_
        refine lv_iload_n hx hb dH_makeTick_14 rfl (lv_at hl 1 rfl) ?_
        refine ht_ldV hx hb hK hP (j := j) hj8 rfl dH_makeTick_15 ?_
        refine va_getN (D := D) (ci := 0) (C := RV) (T := TV) (N := 13) (v := .int ((ht_it (ht_mv k) j g) (5 + j) 0)) hx hb hts inV hown hK hP (j + 6) (ht_atV hj8) rfl 0 (by decide) (hN.use 1 rfl rfl) (fun _ h9 => h9) rfl dH_makeTick_16 ?_
        refine lv_if_eq (tgt := 32) hx hb dH_makeTick_19 (by decide) (fun c9 => ?_) (fun c9 => ?_)
        · refine lv_iinc (v := nI (j + 1)) (lv' := [(1, .int (nI (j + 1))), (0, .ref (q 0))]) hx hb dH_makeTick_32 hl (k := 1) rfl (nI_1 _) (by decide) rfl (fun ls hl => ?_)
          refine lv_goto (tgt := 2) hx hb dH_makeTick_35 (by decide) ?_
          have hG : ht_it (ht_mv k) j g = ht_it (ht_mv k) (j + 1) g := by simp [ht_it, ht_mv, c8, c9]
          rw [hG] at hP
          exact ih (j + 1) (by omega) (by omega) _ _ hP hS ls (lv_sub hl [1, 0] rfl)
        · refine lv_aload_n hx hb dH_makeTick_22 rfl (lv_at hl 0 rfl) ?_
          refine lv_aload_n hx hb dH_makeTick_23 rfl (lv_at hl 0 rfl) ?_
          refine va_get (D := D) (ci := 1) (C := RH) (T := TH) (N := 7) (v := .ref (q 1)) hx hb hts inH hown hK hP 0 ht_atO rfl 0 (by decide) (hts _ w77) (fun _ h9 => h9) rfl dH_makeTick_24 ?_
          refine lv_iload_n hx hb dH_makeTick_27 rfl (lv_at hl 1 rfl) ?_
          refine ht_ldV hx hb hK hP (j := j) hj8 rfl dH_makeTick_28 ?_
          refine va_callv (va_runV (As := [.ref (q (j + 6))]) (rest := []) ⟨hx, hb, hml, hown, hts⟩ (xH_goForward l D cA q hJ _ (ht_it (ht_mv k) j g) k hk hnj j hj8) (cwV 1 hts (ht_gV w380 w382 s26 w1 w383) rfl rfl rfl (by decide +kernel) ⟨Nat.le_of_ble_eq_true rfl, Nat.le_of_ble_eq_true rfl⟩) ⟨ht_bls, va_recv hK hP (ci := 1) (q0 := 0) rfl ht_atO, fun U hU hW => ⟨rfl, by rw [hU], ht_Im hP hK hN hU hW⟩⟩ rfl rfl hl.1 rfl (lv_room (Nat.le_of_ble_eq_true rfl)) dH_makeTick_29 ⟨Nat.zero_le _, Nat.zero_le _⟩) hS mw_AA (mw_AF hS.1) (fun u10 t10 H locs ht10 hvm10 hw10 hB10 hz10 hk10 hS => ?_)
          have hP := hB10.1
          rw [ht10] at hP
          obtain ⟨g11, eg11⟩ : ∃ y9 : ht_G, y9 = ht_go k j ((ht_it (ht_mv k) j g) (5 + j) 4).toNatClampNeg (ht_it (ht_mv k) j g) := ⟨_, rfl⟩
          rw [← eg11] at hP
          refine lv_iinc (v := nI (j + 1)) (lv' := [(1, .int (nI (j + 1))), (0, .ref (q 0))]) hx hb dH_makeTick_32 hl (k := 1) rfl (nI_1 _) (by decide) rfl (fun ls hl => ?_)
          refine lv_goto (tgt := 2) hx hb dH_makeTick_35 (by decide) ?_
          have hG : g11 = ht_it (ht_mv k) (j + 1) g := by subst eg11; simp [ht_it, ht_mv, c8, c9]
          rw [hG] at hP
          exact ih (j + 1) (by omega) (by omega) _ _ hP hS ls (lv_sub hl [1, 0] rfl)
  refine lv_iconst (v := 0) hx hb dH_makeTick_0 (by decide) ?_
  refine lv_istore_n (lv' := [(1, .int 0), (0, .ref (q 0))]) hx hb dH_makeTick_1 rfl hl (by decide) rfl (fun ls hl => ?_)
  exact K2 (k + 1) 0 (by omega) (by omega) _ _ hP hS ls (lv_sub hl [1, 0] rfl)
