set_option maxHeartbeats 800000 in
set_option maxRecDepth 100000 in
theorem lc_state {p : Program} {l : Launch} {e : Env} {s : State} {m : MethodId} {below : List Frame} {meth : Method} {c : Code} {b L : Nat} {xs : Nat → Int32} {D : va_G} {cA cB : ClassId × ClassId} {cJ : ClassId} {q q' : Nat → Nat} {ao : Nat} (C : lx p l s m meth c b L xs D cA cB cJ q q' ao) {it k : Nat} {g r : ht_G} {f : Nat → Int64} {H : Heap} {locs : List Loc} {ls : Array Slot} (hit : 3 * it + 3 ≤ L) (hL : L ≤ 1536) (hP : lx_P D cA cB cJ q q' ao g r f H) (hS : va_S (lx_A s) s.heap H locs) (hT : tie2 k g r) (hl : lv_has ls 7 [(0, .ref b), (1, .ref (q 0)), (2, .ref (q' 0)), (3, .ref ao), (4, .int (nI (3 * it)))]) (kk : ∀ (H : Heap) (locs : List Loc) (k : Nat) (g r : ht_G) (f : Nat → Int64) (ls : Array Slot), lx_P D cA cB cJ q q' ao g r f H → va_S (lx_A s) s.heap H locs → tie2 k g r → lv_has ls 7 [(0, .ref b), (1, .ref (q 0)), (2, .ref (q' 0)), (3, .ref ao), (4, .int (nI (3 * it)))] → W p l e room_1 s m #[Value.ref b] below meth c H locs (32 + 2 * it + 2) (400 + 12 * it + 12) (lw_Z below #[Value.ref b] s) (F0 m 908 ls [])) : W p l e room_1 s m #[Value.ref b] below meth c H locs (32 + 2 * it) (400 + 12 * it) (lw_Z below #[Value.ref b] s) (F0 m 672 ls []) := by
  obtain ⟨C0, hl0, hKA, hKB, hKJ, hN, hX, hR, hC, hZ, hJ, hJ', hqA, hqB, hqo, hqq, hao, hao'⟩ := C
  obtain ⟨hx, hb, hr, hml, hown, hts0, hXs, hbl, hlocks, hgv⟩ := C0
  have hown : s.vm.findClass RW = some m.cls := hown
  have hts : ∀ w ∈ ht_tb, w.before #[Value.ref b] s = true := fun w h => hts0 w (List.mem_filter.mp h).1
  have hbA : ¬ lx_A s b := Nat.not_le.mpr hbl
  have hi1 : vp_in (nI (3 * it) + 1) L := by rw [nI_1]; exact vp_in_nI (by omega) (by omega)
  have hi2 : vp_in (nI (3 * it) + 2) L := by rw [show (2 : Int32) = nI 2 from rfl, nI_add]; exact vp_in_nI (by omega) (by omega)
  obtain ⟨hPA, hPB, hPo⟩ := hP
  have hk := hT.1.1
  have hn : g 0 0 = nI k := hT.1.2.1
  have hn2 : r 0 1 = nI k := hT.1.2.2.1
  have hA : ht_al g 3 := hT.1.al
  have hA2 : ht_al r 16 := hT.1.2.2.2.2.1
  have hB : ht_bo g 7 := hT.1.bo
  have hB2 : rf_bw r := hT.1.bw
  have hEn : ht_en g := hT.1.enH
  have hEn2 : rf_en r := hT.1.en
  refine lv_aload_n hx hb dL_law_672 rfl (lv_at hl 1 rfl) ?_
  refine lv_aload_n hx hb dL_law_673 rfl (lv_at hl 0 rfl) ?_
  refine lv_iload hx hb dL_law_674 (lv_at hl 4 rfl) ?_
  refine lv_iconst (v := 1) hx hb dL_law_676 (by decide) ?_
  refine lv_iadd hx hb dL_law_677 ?_
  refine va_sld hx hb hXs hbl hbA hS hi1 dL_law_678 ?_
  refine lv_aload_n hx hb dL_law_679 rfl (lv_at hl 3 rfl) ?_
  refine va_calli (vx_runSW (As := [.ref (q 0), .int (xs (nI (3 * it) + 1).toNatClampNeg), .ref ao]) (rest := []) ⟨hx, hb, hml, hown, hts⟩ (xL_state l hl0 D cA q hJ ao cJ f hao _ g k hk hn (xs (nI (3 * it) + 1).toNatClampNeg)) (vx_cwSW 3 hts (ht_gSW w392 w393 w0 w394) rfl rfl rfl (by decide +kernel) ⟨Nat.le_of_ble_eq_true rfl, Nat.le_of_ble_eq_true rfl⟩) ⟨lx_bl, fun U hU hW => ⟨rfl, lx_E hPA hKA hN hX hR hZ hS hqA hU hW, by rw [hU]; exact hPo, va_K.moved hW.alike hKJ, ht_C.moved hW.alike hC⟩⟩ rfl rfl hl.1 rfl (lv_room (Nat.le_of_ble_eq_true rfl)) dL_law_680 ⟨(show 32 + 2 * it + 1 ≤ 666454 by omega), (show 400 + 12 * it + 6 ≤ 7096741 by omega)⟩) hS (fun z hz h => h.elim (fun h => h.elim (fun ⟨i, hi, e9⟩ => by rw [e9]; exact hqA i hi) (fun h => absurd h (Nat.not_le.mpr hz))) (fun e9 => by rw [e9]; exact hqo)) (fun z h => h.elim (fun h => h.elim (fun ⟨i, hi, e9⟩ => by rw [e9]; exact hqA i hi) (fun h => Nat.le_trans hS.1 h)) (fun e9 => by rw [e9]; exact hqo)) (fun k1 f1 t H1 locs ht hvm hw hB9 hz hk9 hS => ?_)
  have hPB : va_P D ht_cl (rf_w cB q' r) H1 := lx_keep hPB hk9 (fun i hi hlt h => h.elim (fun h => h.elim (fun ⟨j, hj, e9⟩ => hqq j i hj hi e9.symm) (fun h => absurd h (Nat.not_le.mpr hlt))) (fun e9 => hao' i hi e9.symm))
  obtain ⟨hPA, hPo⟩ := hB9
  rw [ht] at hPA hPo
  obtain ⟨hw1, hw2⟩ := hw
  refine lv_istore (lv' := [(5, .int k1), (0, .ref b), (1, .ref (q 0)), (2, .ref (q' 0)), (3, .ref ao), (4, .int (nI (3 * it)))]) hx hb dL_law_683 hl (by decide) rfl (fun ls hl => ?_)
  refine lv_aload_n hx hb dL_law_685 rfl (lv_at hl 3 rfl) ?_
  refine lv_aload_n hx hb dL_law_686 rfl (lv_at hl 1 rfl) ?_
  refine lv_iload hx hb dL_law_687 (lv_at hl 5 rfl) ?_
  refine lv_iconst (v := 1) hx hb dL_law_689 (by decide) ?_
  refine lv_iadd hx hb dL_law_690 ?_
  refine va_sld hx hb hXs hbl hbA hS hi1 dL_law_691 ?_
  refine va_calli (va_runV (As := [.int (xs (nI (3 * it) + 1).toNatClampNeg)]) (rest := []) ⟨hx, hb, hml, hown, hts⟩ (xM_state l D cB q' hJ' _ r k hk hn2 (xs (nI (3 * it) + 1).toNatClampNeg)) (cwV 1 hts (ht_gV w614 w615 w616 w3 w617) rfl rfl rfl (by decide +kernel) ⟨Nat.le_of_ble_eq_true rfl, Nat.le_of_ble_eq_true rfl⟩) ⟨rf_bls, va_recv hKB hPB (ci := 2) (q0 := 0) rfl rf_at0, fun U hU hW => ⟨rfl, by rw [hU], rf_Im hPB hKB trivial hU hW⟩⟩ rfl rfl hl.1 rfl (lv_room (Nat.le_of_ble_eq_true rfl)) dL_law_692 ⟨(show 32 + 2 * it + 1 + 0 ≤ 666454 by omega), (show 400 + 12 * it + 6 + 0 ≤ 7096741 by omega)⟩) hS (fun z hz h => h.elim (fun ⟨i, hi, e9⟩ => by rw [e9]; exact hqB i hi) (fun h => absurd h (Nat.not_le.mpr hz))) (fun z h => h.elim (fun ⟨i, hi, e9⟩ => by rw [e9]; exact hqB i hi) (fun h => Nat.le_trans hS.1 h)) (fun b1 u2 t2 H2 locs ht2 hvm2 hw3 hB8 hz8 hk8 hS => ?_)
  have hPA := lx_keep hPA hk8 (fun i hi hlt h => h.elim (fun ⟨j, hj, e9⟩ => hqq i j hi hj e9) (fun h => absurd h (Nat.not_le.mpr hlt)))
  have hPo := lx_keep1 hPo hk8 (fun hlt h => h.elim (fun ⟨j, hj, e9⟩ => hao' j hj e9) (fun h => absurd h (Nat.not_le.mpr hlt)))
  have hPB := hB8.1
  rw [ht2] at hPB
  obtain ⟨j1, j2, k2, j3⟩ : tieO (ht_oState g (xs (nI (3 * it) + 1).toNatClampNeg)) (rf_oState (ht_up r 0 0 0) k (xs (nI (3 * it) + 1).toNatClampNeg)) := tie_state (hT.set 0) (ht_up_s _ _ _ _) (xs (nI (3 * it) + 1).toNatClampNeg)
  refine lv_istore (lv' := [(6, .int b1), (5, .int k1), (0, .ref b), (1, .ref (q 0)), (2, .ref (q' 0)), (3, .ref ao), (4, .int (nI (3 * it)))]) hx hb dL_law_695 hl (by decide) rfl (fun ls hl => ?_)
  refine lv_aload_n hx hb dL_law_697 rfl (lv_at hl 4 rfl) ?_
  refine vp_callSi (va_Run.run (va_runV (As := []) (rest := []) ⟨hx, hb, hml, hown, hts⟩ (xM_thrown l D cB q' (rf_oState (ht_up r 0 0 0) k (xs (nI (3 * it) + 1).toNatClampNeg)).2) (cwV 0 hts (ht_gV w503 w504 w505 w3 w506) rfl rfl rfl (by decide +kernel) ⟨Nat.le_of_ble_eq_true rfl, Nat.le_of_ble_eq_true rfl⟩) ⟨rf_bl, va_recv hKB hPB (ci := 2) (q0 := 0) rfl rf_at0, fun U hU hW => ⟨rfl, rf_Im hPB hKB trivial hU hW⟩⟩ rfl rfl hl.1 rfl (lv_room (Nat.le_of_ble_eq_true rfl)) dL_law_698 ⟨(show 32 + 2 * it + 1 + 0 + 0 ≤ 666454 by omega), (show 400 + 12 * it + 6 + 0 + 0 ≤ 7096741 by omega)⟩)) (fun r7 hr7 => ?_)
  have e7 : r7 = k1 := by rw [hr7, j1, hw1]
  refine lv_iload hx hb dL_law_701 (lv_at hl 1 rfl) ?_
  refine lv_icmp_eq (tgt := 708) hx hb dL_law_703 (by decide) (fun _ => ?_) (fun c9 => absurd e7 c9)
  refine lv_iload hx hb dL_law_708 (lv_at hl 1 rfl) ?_
  refine lv_if_ne (tgt := 725) hx hb dL_law_710 (by decide) (fun _ => ?_) (fun c9 => ?_)
  · refine lv_goto (tgt := 908) hx hb dL_law_725 (by decide) ?_
    refine W.widen (k := 32 + 2 * it + 2) (n := 400 + 12 * it + 12) (by omega) (by omega) ?_
    exact kk _ _ k2 _ _ f1 ls ⟨hPA, hPB, hPo⟩ hS j3 (lv_sub hl [2, 3, 4, 5, 6] rfl)
  · refine lv_aload_n hx hb dL_law_713 rfl (lv_at hl 5 rfl) ?_
    refine lv_iconst (v := 0) hx hb dL_law_714 (by decide) ?_
    refine va_lald hx hb hKJ hPo 0 0 rfl rfl (by unfold vp_in; decide) dL_law_715 ?_
    refine lv_iload hx hb dL_law_716 (lv_at hl 0 rfl) ?_
    refine lv_i2l (v := b1.toInt64) hx hb dL_law_718 rfl ?_
    refine W.lcmp hx hb dL_law_719 ?_
    have c8 : f1 (0 : Int32).toNatClampNeg = b1.toInt64 := by
      have h9 := hw2 c9
      rw [hw3, ← j2 (by rw [← hw1]; exact c9)]; exact h9
    refine lv_if_eq (tgt := 725) hx hb dL_law_720 (by decide) (fun _ => ?_) (fun c7 => absurd (lx_cmp c8) c7)
    refine lv_goto (tgt := 908) hx hb dL_law_725 (by decide) ?_
    refine W.widen (k := 32 + 2 * it + 2) (n := 400 + 12 * it + 12) (by omega) (by omega) ?_
    exact kk _ _ k2 _ _ f1 ls ⟨hPA, hPB, hPo⟩ hS j3 (lv_sub hl [2, 3, 4, 5, 6] rfl)
