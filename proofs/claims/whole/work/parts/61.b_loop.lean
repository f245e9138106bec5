set_option maxHeartbeats 800000 in
set_option maxRecDepth 100000 in
theorem lx_loop {p : Program} {l : Launch} {e : Env} {s : State} {m : MethodId} {below : List Frame} {meth : Method} {c : Code} {b L : Nat} {xs : Nat → Int32} {D : va_G} {cA cB : ClassId × ClassId} {cJ : ClassId} {q q' : Nat → Nat} {ao : Nat} (C : lx p l s m meth c b L xs D cA cB cJ q q' ao) (hL : L ≤ 1536) : ∀ (n it k : Nat) (g r : ht_G) (f : Nat → Int64) (H : Heap) (locs : List Loc) (ls : Array Slot), L + 1 ≤ 3 * it + n → 3 * it ≤ L → lx_P D cA cB cJ q q' ao g r f H → va_S (lx_A s) s.heap H locs → tie2 k g r → lv_has ls 7 [(0, .ref b), (1, .ref (q 0)), (2, .ref (q' 0)), (3, .ref ao), (4, .int (nI (3 * it)))] → W p l e room_1 s m #[Value.ref b] below meth c H locs (32 + 2 * it) (400 + 12 * it) (lw_Z below #[Value.ref b] s) (F0 m 23 ls []) := by
  have C9 := C
  obtain ⟨C0, -⟩ := C
  obtain ⟨hx, hb, hr, hml, hown, hts0, hXs, hbl, hlocks, hgv⟩ := C0
  have hbA : ¬ lx_A s b := Nat.not_le.mpr hbl
  intro n
  induction n with
  | zero => intro it k g r f H locs ls h1 h2; exact absurd h1 (by omega)
  | succ n ih =>
    intro it k g r f H locs ls hn hit hP hS hT hl
    refine lv_iload hx hb dL_law_23 (lv_at hl 4 rfl) ?_
    refine lv_aload_n hx hb dL_law_25 rfl (lv_at hl 0 rfl) ?_
    refine va_slen hx hb hXs hbl hbA hS dL_law_26 ?_
    refine lv_iconst (v := 3) hx hb dL_law_27 (by decide) ?_
    refine lv_isub hx hb dL_law_28 ?_
    have hc : (Int32.ofNat L - 3 < nI (3 * it)) ↔ L < 3 * it + 3 := by
      rw [Int32.lt_iff_toInt_lt, show Int32.ofNat L - 3 = nI L - nI 3 from rfl, pk_sub_toInt (by omega) (by omega), nI_toInt (by omega)]
      omega
    refine lv_icmp_gt (tgt := 914) hx hb dL_law_29 (by decide) (fun c1 => ?_) (fun c1 => ?_)
    · refine lv_iconst (v := 1) hx hb dL_law_914 (by decide) ?_
      refine va_forget (fun q hq => hS.2.2 q hq) ?_
      refine W.widen (k := 666454) (n := 7096741) (by omega) (by omega) ?_
      exact lw_ret hx hb hr hlocks dL_law_915
    · have hi3 : 3 * it + 3 ≤ L := by have := mt hc.mpr c1; omega
      have KX : ∀ (H : Heap) (locs : List Loc) (k : Nat) (g r : ht_G) (f : Nat → Int64) (ls : Array Slot), lx_P D cA cB cJ q q' ao g r f H → va_S (lx_A s) s.heap H locs → tie2 k g r → lv_has ls 7 [(0, .ref b), (1, .ref (q 0)), (2, .ref (q' 0)), (3, .ref ao), (4, .int (nI (3 * (it + 1))))] → W p l e room_1 s m #[Value.ref b] below meth c H locs (32 + 2 * (it + 1)) (400 + 12 * (it + 1)) (lw_Z below #[Value.ref b] s) (F0 m 23 ls []) := fun H locs k g r f ls hP hS hT hl => ih (it + 1) k g r f H locs ls (by omega) (by omega) hP hS hT hl
      have K908 : ∀ (H : Heap) (locs : List Loc) (k : Nat) (g r : ht_G) (f : Nat → Int64) (ls : Array Slot), lx_P D cA cB cJ q q' ao g r f H → va_S (lx_A s) s.heap H locs → tie2 k g r → lv_has ls 7 [(0, .ref b), (1, .ref (q 0)), (2, .ref (q' 0)), (3, .ref ao), (4, .int (nI (3 * it)))] → W p l e room_1 s m #[Value.ref b] below meth c H locs (32 + 2 * it + 2) (400 + 12 * it + 12) (lw_Z below #[Value.ref b] s) (F0 m 908 ls []) := by
        intro H locs k g r f ls hP hS hT hl
        refine lv_iinc (v := nI (3 * (it + 1))) (lv' := [(4, .int (nI (3 * (it + 1)))), (0, .ref b), (1, .ref (q 0)), (2, .ref (q' 0)), (3, .ref ao)]) hx hb dL_law_908 hl (k := 4) rfl (by rw [show 3 * (it + 1) = 3 * it + 3 by omega, ← nI_add]; rfl) (by decide) rfl (fun ls hl => ?_)
        refine lv_goto (tgt := 23) hx hb dL_law_911 (by decide) ?_
        rw [show 32 + 2 * it + 2 = 32 + 2 * (it + 1) by omega, show 400 + 12 * it + 12 = 400 + 12 * (it + 1) by omega]
        exact KX H locs k g r f ls hP hS hT (lv_sub hl [1, 2, 3, 4, 0] rfl)
      refine lv_aload_n hx hb dL_law_32 rfl (lv_at hl 0 rfl) ?_
      refine lv_iload hx hb dL_law_33 (lv_at hl 4 rfl) ?_
      refine va_sld hx hb hXs hbl hbA hS (vp_in_nI (by omega) (by omega)) dL_law_35 ?_
      refine lv_bipush (v := 15) hx hb dL_law_36 (by decide) ?_
      refine lv_iand hx hb dL_law_38 ?_
      obtain ⟨j, hj, ej⟩ := pk_andE (xs (nI (3 * it)).toNatClampNeg) (m := 15) 4 rfl
      rw [ej]
      rcases (show j = 0 ∨ j = 1 ∨ j = 2 ∨ j = 3 ∨ j = 4 ∨ j = 5 ∨ j = 6 ∨ j = 7 ∨ j = 8 ∨ j = 9 ∨ j = 10 ∨ j = 11 ∨ j = 12 ∨ j = 13 ∨ j = 14 ∨ j = 15 by omega) with rfl | rfl | rfl | rfl | rfl | rfl | rfl | rfl | rfl | rfl | rfl | rfl | rfl | rfl | rfl | rfl
      · refine lv_tableIn (off := 65) (tgt := 104) hx hb dL_law_39 (by decide) (by decide) (by decide) (by decide) ?_
        exact lc_enter C9 hi3 hL hP hS hT hl K908
      · refine lv_tableIn (off := 133) (tgt := 172) hx hb dL_law_39 (by decide) (by decide) (by decide) (by decide) ?_
        exact lc_drive C9 hi3 hL hP hS hT hl K908
      · refine lv_tableIn (off := 201) (tgt := 240) hx hb dL_law_39 (by decide) (by decide) (by decide) (by decide) ?_
        exact lc_silence C9 hi3 hL hP hS hT hl K908
      · refine lv_tableIn (off := 285) (tgt := 324) hx hb dL_law_39 (by decide) (by decide) (by decide) (by decide) ?_
        exact lc_authorise C9 hi3 hL hP hS hT hl K908
      · refine lv_tableIn (off := 341) (tgt := 380) hx hb dL_law_39 (by decide) (by decide) (by decide) (by decide) ?_
        exact lc_relent C9 hi3 hL hP hS hT hl K908
      · refine lv_tableIn (off := 397) (tgt := 436) hx hb dL_law_39 (by decide) (by decide) (by decide) (by decide) ?_
        exact lc_lose C9 hi3 hL hP hS hT hl K908
      · refine lv_tableIn (off := 465) (tgt := 504) hx hb dL_law_39 (by decide) (by decide) (by decide) (by decide) ?_
        exact lc_confirm C9 hi3 hL hP hS hT hl K908
      · refine lv_tableIn (off := 521) (tgt := 560) hx hb dL_law_39 (by decide) (by decide) (by decide) (by decide) ?_
        exact lc_clear C9 hi3 hL hP hS hT hl K908
      · refine lv_tableIn (off := 577) (tgt := 616) hx hb dL_law_39 (by decide) (by decide) (by decide) (by decide) ?_
        exact lc_tick C9 hi3 hL hP hS hT hl K908
      · refine lv_tableIn (off := 633) (tgt := 672) hx hb dL_law_39 (by decide) (by decide) (by decide) (by decide) ?_
        exact lc_state C9 hi3 hL hP hS hT hl K908
      · refine lv_tableIn (off := 689) (tgt := 728) hx hb dL_law_39 (by decide) (by decide) (by decide) (by decide) ?_
        exact lc_detected C9 hi3 hL hP hS hT hl K908
      · refine lv_tableIn (off := 745) (tgt := 784) hx hb dL_law_39 (by decide) (by decide) (by decide) (by decide) ?_
        exact lc_vehicle C9 hi3 hL hP hS hT hl K908
      · refine lv_tableIn (off := 813) (tgt := 852) hx hb dL_law_39 (by decide) (by decide) (by decide) (by decide) ?_
        exact lc_count C9 hi3 hL hP hS hT hl K908
      · refine lv_tableOut (tgt := 908) hx hb dL_law_39 (by decide) (by decide) ?_
        refine W.widen (k := 32 + 2 * it + 2) (n := 400 + 12 * it + 12) (by omega) (by omega) ?_
        exact K908 _ _ k g r f ls hP hS hT hl
      · refine lv_tableOut (tgt := 908) hx hb dL_law_39 (by decide) (by decide) ?_
        refine W.widen (k := 32 + 2 * it + 2) (n := 400 + 12 * it + 12) (by omega) (by omega) ?_
        exact K908 _ _ k g r f ls hP hS hT hl
      · refine lv_tableOut (tgt := 908) hx hb dL_law_39 (by decide) (by decide) ?_
        refine W.widen (k := 32 + 2 * it + 2) (n := 400 + 12 * it + 12) (by omega) (by omega) ?_
        exact K908 _ _ k g r f ls hP hS hT hl
