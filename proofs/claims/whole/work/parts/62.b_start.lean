set_option maxHeartbeats 800000 in
set_option maxRecDepth 100000 in
theorem whole_start {p : Program} {e : Env} {s : State} {m : MethodId} {below : List Frame} {meth : Method} {c : Code} (l : Launch) (hl0 : l.stackTraces = false) {b L : Nat} {xs : Nat → Int32} (hL : L ≤ 1536) (C0 : lw_At p s m meth c b L xs) : W p l e room_1 s m #[Value.ref b] below meth c s.heap [] 0 0 (lw_Z below #[Value.ref b] s) (entryFrame m ([Value.ref b] : List Value).toArray 7) := by
  obtain ⟨⟨D, hK⟩, hN, hX, hR, hC, hZ, hAO⟩ := lx_given C0
  obtain ⟨hx, hb, hr, hml, hown, hts0, hXs, hbl, hlocks, hgv⟩ := id C0
  have hown : s.vm.findClass RW = some m.cls := hown
  have hts : ∀ w ∈ ht_tb, w.before #[Value.ref b] s = true := fun w h => hts0 w (List.mem_filter.mp h).1
  have hA : ∀ z, s.heap.size ≤ z → lx_A s z := fun _ h => h
  have hS : va_S (lx_A s) s.heap s.heap [] := va_S.rf
  have hP : va_P D ht_cl [] s.heap := fun k q h => by simp at h
  have hD : va_D (lx_A s) [] := lx_D0
  have hl := lv_entry ([.ref b]) (n := 7) (Nat.le_of_ble_eq_true rfl)
  rw [lg_entry_eq]
  generalize (lg_sl ([.ref b]) ++ List.replicate (7 - (lg_sl ([.ref b])).length) Slot.unset).toArray = ls at hl ⊢
  have hl : lv_has ls 7 [(0, .ref b)] := hl
  refine va_new (ci := 1) (fs := [.null, .int 0, .int 0, .null, .null, .null, .null]) (C := RH) (T := TH) (N := 7) hx hb hts inH tyH tyH_ok hown (hts _ w10) (hts _ w11) (hts _ w1) hK hP hD hS hA rfl ht_dH (Nat.le_of_ble_eq_true rfl) (Nat.le_of_ble_eq_true rfl) dL_law_0 (fun h0 H hP hD hS => ?_)
  refine lv_dup hx hb dL_law_3 rfl ?_
  have hAh0 : lx_A s h0 := lx_in2 (w1 := []) hD (j := 0) rfl
  have hP : va_P D ht_cl [(h0, .inr (1, [.null, .int 0, .int 0, .null, .null, .null, .null]))] H := hP
  refine va_callv (va_runI (As := []) (rest := [.ref h0]) ⟨hx, hb, hml, hown, hts⟩ (xH_init l D h0 H.size) (cwI 0 hts (ht_gW w14) rfl rfl rfl (hts _ w1) (hts _ w12) (hts _ w13) rfl (by decide +kernel) ⟨Nat.le_of_ble_eq_true rfl, Nat.le_of_ble_eq_true rfl⟩) ⟨fun a U f mk h => ⟨h.1, h.2.1, h.2.2.1, va_K.moved (u := U) (U := U.calling f mk a) (Vm.Alike.refl U.vm) h.2.2.2.1, fun w hw => va_Nw.same (u := U) (U := U.calling f mk a) (lx_n2 w hw) rfl (h.2.2.2.2.1 w hw), va_AO.moved (u := U) (U := U.calling f mk a) (Vm.Alike.refl U.vm) h.2.2.2.2.2⟩, fun U hU hW => ⟨rfl, by rw [hU], by rw [hU]; exact hP, va_K.moved hW.alike hK, ht_N.warm hW hN, va_AO.moved hW.alike hAO⟩⟩ rfl rfl hl.1 rfl (lv_room (Nat.le_of_ble_eq_true rfl)) dL_law_4 ⟨Nat.le_of_ble_eq_true rfl, Nat.le_of_ble_eq_true rfl⟩) hS (fun z hz h => h.elim (fun e9 => by rw [e9]; exact hAh0) (fun h => absurd h (Nat.not_le.mpr hz))) (fun z h => h.elim (fun e9 => by rw [e9]; exact hAh0) (fun h => Nat.le_trans hS.1 h)) (fun uh0 th0 Hh0 locs hth0 hvmh0 _ hBh0 hzh0 hkh0 hSh0 => ?_)
  obtain ⟨q, cA⟩ := uh0
  obtain ⟨hq0, hJ, hq1, hPA, hKA⟩ := hBh0
  dsimp only at hq0 hJ hq1 hPA hKA
  rw [hth0] at hPA
  have hKA := va_K.moved hvmh0.symm hKA
  have hqA : ∀ i, i < 14 → s.heap.size ≤ q i := fun i hi => by
    by_cases e0 : i = 0
    · rw [e0, hq0]; exact hAh0
    · exact Nat.le_trans hS.1 (hq1 i (by omega) hi)
  refine lv_astore_n (lv' := [(1, .ref h0), (0, .ref b)]) hx hb dL_law_7 rfl hl (by decide) rfl (fun ls hl => ?_)
  clear hS hD hP
  have hS := hSh0
  have hP := hPA
  have hD : va_D (lx_A s) (ht_w cA q ht_gA) := mw_D hJ (fun i hi => hqA i hi)
  refine va_new (ci := 2) (fs := [.int 0, .null, .null, .null, .null, .null, .null, .null, .null, .null, .null, .null, .null, .null, .int 0, .null, .null, .null, .int 0]) (C := RM) (T := TM) (N := 19) hx hb hts inM tyM tyM_ok hown (hts _ w438) (hts _ w439) (hts _ w3) hK hP hD hS hA rfl ht_dM (Nat.le_of_ble_eq_true rfl) (Nat.le_of_ble_eq_true rfl) dL_law_8 (fun m0 H hP hD hS => ?_)
  refine lv_dup hx hb dL_law_11 rfl ?_
  have hAm0 : lx_A s m0 := lx_in2 hD (j := 0) rfl
  have hm0 : ∀ i, i < 14 → m0 ≠ q i := fun i hi => lx_ne hD (mw_at hi) (j := 0) rfl
  have hPA := lx_Pl hP
  have hPm := lx_Pr hP
  refine va_callv (va_runI (As := []) (rest := [.ref m0]) ⟨hx, hb, hml, hown, hts⟩ (xM_init l D m0 H.size) (cwI 0 hts (ht_gW w442) rfl rfl rfl (hts _ w3) (hts _ w440) (hts _ w441) rfl (by decide +kernel) ⟨Nat.le_of_ble_eq_true rfl, Nat.le_of_ble_eq_true rfl⟩) ⟨fun a U f mk h => ⟨h.1, h.2.1, h.2.2.1, va_K.moved (u := U) (U := U.calling f mk a) (Vm.Alike.refl U.vm) h.2.2.2⟩, fun U hU hW => ⟨rfl, by rw [hU], by rw [hU]; exact hPm, va_K.moved hW.alike hK⟩⟩ rfl rfl hl.1 rfl (lv_room (Nat.le_of_ble_eq_true rfl)) dL_law_12 ⟨Nat.le_of_ble_eq_true rfl, Nat.le_of_ble_eq_true rfl⟩) hS (fun z hz h => h.elim (fun e9 => by rw [e9]; exact hAm0) (fun h => absurd h (Nat.not_le.mpr hz))) (fun z h => h.elim (fun e9 => by rw [e9]; exact hAm0) (fun h => Nat.le_trans hS.1 h)) (fun um0 tm0 Hm0 locs htm0 hvmm0 _ hBm0 hzm0 hkm0 hSm0 => ?_)
  obtain ⟨q', cB⟩ := um0
  obtain ⟨hr0, hJ2, hr1, hPB, hKB⟩ := hBm0
  dsimp only at hr0 hJ2 hr1 hPB hKB
  rw [htm0] at hPB
  have hKB := va_K.moved hvmm0.symm hKB
  have hqB : ∀ j, j < 17 → s.heap.size ≤ q' j := fun i hi => by
    by_cases e0 : i = 0
    · rw [e0, hr0]; exact hAm0
    · exact Nat.le_trans hS.1 (hr1 i (by omega) hi)
  have hqq : ∀ i j, i < 14 → j < 17 → q i ≠ q' j := fun i j hi hj e9 => by
    by_cases e0 : j = 0
    · rw [e0, hr0] at e9; exact hm0 i hi e9.symm
    · have h1 := hr1 j (by omega) hj; have h2 := mw_lt hPA hi; omega
  have hPA2 := lx_keep hPA hkm0 (fun i hi hlt h => h.elim (fun e9 => hm0 i hi e9.symm) (fun h => absurd h (Nat.not_le.mpr hlt)))
  refine lv_astore_n (lv' := [(2, .ref m0), (1, .ref h0), (0, .ref b)]) hx hb dL_law_15 rfl hl (by decide) rfl (fun ls hl => ?_)
  clear hS hD hP
  have hS := hSm0
  have hP := va_P.app hPA2 hPB
  have hD : va_D (lx_A s) (ht_w cA q ht_gA ++ rf_w cB q' rf_gA) := va_D.app (mw_D hJ (fun i hi => hqA i hi)) (mw_D hJ2 (fun i hi => hqB i hi)) (fun i j x y hx1 hy1 => by obtain ⟨h1, rfl⟩ := mw_of hx1; obtain ⟨h2, rfl⟩ := mw_of hy1; exact hqq i j h1 h2)
  refine lv_iconst (v := 1) hx hb dL_law_16 (by decide) ?_
  refine va_newa (atype := .long) hx hb (hts _ w634) (ty := .long) rfl hK hP hD hS hA (a0 := (1, .inr (.inl (fun _ => 0)))) (fun _ => rfl) (by decide) (N' := 1) rfl (Nat.le_of_ble_eq_true rfl) (Nat.le_of_ble_eq_true rfl) (Nat.le_of_ble_eq_true rfl) dL_law_17 (fun ao cJ H hKJ hP hD hS => ?_)
  have hAao : lx_A s ao := lx_in2 hD (j := 0) rfl
  have hao : ∀ i, i < 14 → ao ≠ q i := fun i hi => lx_ne hD (x := (q i, ht_cell cA q ht_gA i)) (i := i) (by rw [List.getElem?_append_left (by rw [mw_len]; exact hi)]; exact mw_at hi) (j := 0) rfl
  have hao' : ∀ j, j < 17 → ao ≠ q' j := fun i hi => lx_ne hD (x := (q' i, rf_cell cB q' rf_gA i)) (lx_at2 (mw_at hi)) (j := 0) rfl
  refine lv_astore_n (lv' := [(3, .ref ao), (2, .ref m0), (1, .ref h0), (0, .ref b)]) hx hb dL_law_19 rfl hl (by decide) rfl (fun ls hl => ?_)
  refine lv_iconst (v := 0) hx hb dL_law_20 (by decide) ?_
  refine lv_istore (lv' := [(4, .int 0), (3, .ref ao), (2, .ref m0), (1, .ref h0), (0, .ref b)]) hx hb dL_law_21 hl (by decide) rfl (fun ls hl => ?_)
  rw [← hq0, ← hr0] at hl
  have C : lx p l s m meth c b L xs D cA cB cJ q q' ao := ⟨C0, hl0, hKA, hKB, hKJ, hN, hX, hR, hC, hZ, hJ, hJ2, hqA, hqB, hAao, hqq, hao, hao'⟩
  refine W.widen (k := 32 + 2 * 0) (n := 400 + 12 * 0) (Nat.le_of_ble_eq_true rfl) (Nat.le_of_ble_eq_true rfl) ?_
  exact lx_loop C hL (L + 1) 0 0 ht_gA rf_gA (fun _ => 0) _ _ ls (by omega) (by omega) ⟨lx_Pl (lx_Pl hP), lx_Pr (lx_Pl hP), lx_Pr hP⟩ hS tie_start (lv_sub hl [4, 3, 2, 1, 0] rfl)
