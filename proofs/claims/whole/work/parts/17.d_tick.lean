set_option maxHeartbeats 4000000 in
set_option maxRecDepth 100000 in
theorem xH_tick (l : Launch) (hl0 : l.stackTraces = false) (D : va_G) (cA : ClassId × ClassId) (q : Nat → Nat) (hJ : mw_J 14 q) (sz : Nat) (g : ht_G) (k : Nat) (hk : k ≤ 8) (hn : g 0 0 = nI k) (hA : ht_al g 3) (hB : ht_bo g 7) (x : Int32) : vx_Met l yH_tick kH_tick ({ frames := 7, cells := 1, slots := 6, locals := 150 }) (va_Pc [.ref (q 0), .int x] (ht_E D cA q g sz)) (va_Qi (fun r (_ : Unit) => (ht_oTick g k x).1 = 0 ∧ r = (ht_oTick g k x).2.1) (fun _ t => va_P D ht_cl (ht_w cA q (ht_oTick g k x).2.2) t.heap) (mw_A 14 q sz)) (vx_X (fun _ : Unit => True) (fun E _ t => va_P D ht_cl (ht_w cA q g) t.heap ∧ ((ht_oTick g k x).1, E) ∈ [((1 : Int32), EA)]) (mw_A 14 q sz)) 1 6 (mw_A 14 q sz) := by
  refine vx_ofW (cc := cH_tick) (maxL := 3) (ret := (some .int)) (by decide) rfl ?_
  intro p e s m args below meth c s₁ B hml htab hv
  obtain ⟨rfl, hsz, ⟨hP, hK, hN⟩, hX, hR, hZ⟩ := hv
  have hx := B.exec
  have hb := B.bytes
  have hr := B.returns
  have hts := fun w h => atoms_spec (ws := kH_tick) B.pre w (List.mem_cons_of_mem _ h)
  have hown : s.vm.findClass RH = some m.cls := findClass_of_methodNamed B.named
  have hlocks := B.notSynchronized
  subst hsz
  have hS : va_S (mw_A 14 q s.heap.size) s.heap s.heap [] := va_S.rf
  have hl := lv_entry ([.ref (q 0), .int x]) (n := 3) (Nat.le_of_ble_eq_true rfl)
  rw [lg_entry_eq]
  generalize (lg_sl ([.ref (q 0), .int x]) ++ List.replicate (3 - (lg_sl ([.ref (q 0), .int x])).length) Slot.unset).toArray = ls at hl ⊢
  have hl : lv_has ls 3 [(0, .ref (q 0)), (1, .int x)] := hl
  have K23 : ∀ (n9 : Nat), ∀ (N n : Nat) (gg : ht_G), (N + 1 ≤ n + n9) → (x = nI N) → (N ≤ 6) → (x.toNatClampNeg = N) → (¬ x < 1) → (x ≤ 6) → (n ≤ N) → (gg = ht_it (fun _ => ht_tick k) n g) → (gg 0 0 = nI k) → (ht_al gg 3) → (ht_bo gg 7) → ∀ (H : Heap) (locs : List Loc), va_P D ht_cl (ht_w cA q gg) H → va_S (mw_A 14 q s.heap.size) s.heap H locs → ∀ (ls : Array Slot), lv_has ls 3 [(0, .ref (q 0)), (1, .int x), (2, .int (nI n))] → W p l e (headSpec kH_tick ({ frames := 7, cells := 1, slots := 6, locals := 150 })).room s m [.ref (q 0), .int x].toArray below meth c H locs 0 0 (vx_MQ below (va_Qi (fun r (_ : Unit) => (ht_oTick g k x).1 = 0 ∧ r = (ht_oTick g k x).2.1) (fun _ t => va_P D ht_cl (ht_w cA q (ht_oTick g k x).2.2) t.heap) (mw_A 14 q s.heap.size)) (vx_X (fun _ : Unit => True) (fun E _ t => va_P D ht_cl (ht_w cA q g) t.heap ∧ ((ht_oTick g k x).1, E) ∈ [((1 : Int32), EA)]) (mw_A 14 q s.heap.size)) [.ref (q 0), .int x].toArray s 1 6 (mw_A 14 q s.heap.size)) (F0 m 23 ls []) := by
    intro n9
    induction n9 with
    | zero =>
      intro N n gg hn9 hxN hN6 hNc hc1 hc2 hnN hgg hng hAg hBg H locs hP hS ls hl
      exact absurd hn9 (by omega)
    | succ n9 ih =>
      intro N n gg hn9 hxN hN6 hNc hc1 hc2 hnN hgg hng hAg hBg H locs hP hS ls hl
      refine lv_iload_n hx hb dH_tick_23 rfl (lv_at hl 2 rfl) ?_
      refine lv_iload_n hx hb dH_tick_24 rfl (lv_at hl 1 rfl) ?_
      refine lv_icmp_ge (tgt := 38) hx hb dH_tick_25 (by decide) (fun c1 => ?_) (fun c1 => ?_)
      · rw [hxN] at c1
        have e9 : n = N := by have h9 := (nI_leI (by omega) (by omega)).mp c1; omega
        rw [e9] at hgg
        refine lv_aload_n hx hb dH_tick_38 rfl (lv_at hl 0 rfl) ?_
        refine lv_iconst (v := 0) hx hb dH_tick_39 (by decide) ?_
        refine vp_callSi (va_Run.run (va_runV (As := [.int 0]) (rest := []) ⟨hx, hb, hml, hown, hts⟩ (xH_sectionsInState l D cA q gg k hk hng 0) (cwV 1 hts (ht_gV w388 w390 s28 w1 w391) rfl rfl rfl (by decide +kernel) ⟨Nat.le_of_ble_eq_true rfl, Nat.le_of_ble_eq_true rfl⟩) ⟨ht_bl, va_recv hK hP (ci := 1) (q0 := 0) rfl ht_atO, fun U hU hW => ⟨rfl, ht_Im hP hK hN hU hW⟩⟩ rfl rfl hl.1 rfl (lv_room (Nat.le_of_ble_eq_true rfl)) dH_tick_40 ⟨Nat.le_of_ble_eq_true rfl, Nat.le_of_ble_eq_true rfl⟩)) (fun r2 hr2 => ?_)
        subst hr2
        have hG : gg = (ht_oTick g k x).2.2 := by rw [hgg]; simp [ht_oTick, hc1, hc2, hNc]
        have hC : (ht_oTick g k x).1 = 0 := by simp [ht_oTick, hc1, hc2]
        have hV : nI (ht_in gg 0) = (ht_oTick g k x).2.1 := by rw [hgg]; simp [ht_oTick, hc1, hc2, hNc]
        rw [hG] at hP
        exact vx_ret (W.widen (k := 1) (n := 6) (Nat.le_of_ble_eq_true rfl) (Nat.le_of_ble_eq_true rfl) (W.iret (v := nI (ht_in gg 0)) hx hb hr (fun t ht hW => ⟨⟨nI (ht_in gg 0), (), rfl, ⟨hC, hV⟩, by show va_P D ht_cl (ht_w cA q (ht_oTick g k x).2.2) t.heap; rw [ht]; exact hP⟩, hS.F ht⟩) hS.2.2 dH_tick_43))
      · rw [hxN] at c1
        have hlt : n < N := Nat.not_le.mp (fun h => c1 (nI_le h (by omega)))
        refine lv_aload_n hx hb dH_tick_28 rfl (lv_at hl 0 rfl) ?_
        refine va_callv (va_runV (As := []) (rest := []) ⟨hx, hb, hml, hown, hts⟩ (xH_makeTick l D cA q hJ _ gg k hk hng hAg hBg) (cwV 0 hts (ht_gV w376 w378 s25 w1 w379) rfl rfl rfl (by decide +kernel) ⟨Nat.le_of_ble_eq_true rfl, Nat.le_of_ble_eq_true rfl⟩) ⟨ht_bls, va_recv hK hP (ci := 1) (q0 := 0) rfl ht_atO, fun U hU hW => ⟨rfl, by rw [hU], ht_Im hP hK hN hU hW⟩⟩ rfl rfl hl.1 rfl (lv_room (Nat.le_of_ble_eq_true rfl)) dH_tick_29 ⟨Nat.le_of_ble_eq_true rfl, Nat.le_of_ble_eq_true rfl⟩) hS mw_AA (mw_AF hS.1) (fun u3 t3 H locs ht3 hvm3 hw3 hB3 hz3 hk3 hS => ?_)
        have hP := hB3.1
        rw [ht3] at hP
        obtain ⟨g4, eg4⟩ : ∃ y9 : ht_G, y9 = ht_tick k gg := ⟨_, rfl⟩
        rw [← eg4] at hP
        refine lv_iinc (v := nI (n + 1)) (lv' := [(2, .int (nI (n + 1))), (0, .ref (q 0)), (1, .int x)]) hx hb dH_tick_32 hl (k := 2) rfl (nI_1 _) (by decide) rfl (fun ls hl => ?_)
        refine lv_goto (tgt := 23) hx hb dH_tick_35 (by decide) ?_
        exact ih N (n + 1) g4 (by omega) hxN hN6 hNc hc1 hc2 (by omega) (by rw [eg4, hgg]; rfl) (by rw [eg4, ht_tick_n]; exact hng) (by rw [eg4]; exact ht_tick_al hk hAg) (by rw [eg4]; exact ht_tick_bo hBg) _ _ hP hS ls (lv_sub hl [1, 2, 0] rfl)
  refine lv_iload_n hx hb dH_tick_0 rfl (lv_at hl 1 rfl) ?_
  refine lv_iconst (v := 1) hx hb dH_tick_1 (by decide) ?_
  refine lv_icmp_lt (tgt := 11) hx hb dH_tick_2 (by decide) (fun c5 => ?_) (fun c5 => ?_)
  · obtain ⟨sa, hsa⟩ := hR _ (List.mem_of_getElem? (i := 12) rfl)
    exact vx_throwS (names := ht_nm) (A := mw_A 14 q s.heap.size) hx hb hl0 hown (by decide) (by decide) (hts _ w108) (hts _ w7) hsa (vx_hat (fun w h => hts w (xg_A w h)) xb_A (fun w h => va_Nw.use (ht_X.on h) (hX w h))) xo_A hZ.1 hZ.2 hS (by rw [hml]; exact hl.1) dH_tick_11 dH_tick_14 dH_tick_15 dH_tick_17 dH_tick_20 (fun x hx => (htab x hx).elim) (Nat.le_of_ble_eq_true rfl) (Nat.le_of_ble_eq_true rfl) (Nat.le_of_ble_eq_true rfl) (Nat.le_of_ble_eq_true rfl) hlocks (fun t ha hz9 hk9 => ⟨(), trivial, ⟨ht_Px hP hk9, by rw [show (ht_oTick g k x).1 = 1 by simp [ht_oTick, c5]]; exact List.mem_of_getElem? (i := 0) rfl⟩, ht_Fx hS hz9 hk9⟩) hS.2.2 (Nat.le_of_ble_eq_true rfl) (Nat.le_of_ble_eq_true rfl)
  · refine lv_iload_n hx hb dH_tick_5 rfl (lv_at hl 1 rfl) ?_
    refine lv_bipush (v := 6) hx hb dH_tick_6 (by decide) ?_
    refine lv_icmp_le (tgt := 21) hx hb dH_tick_8 (by decide) (fun c6 => ?_) (fun c6 => ?_)
    · obtain ⟨N, hN6, hxN, hNc⟩ := ht_t6 c5 c6
      refine lv_iconst (v := 0) hx hb dH_tick_21 (by decide) ?_
      refine lv_istore_n (lv' := [(2, .int 0), (0, .ref (q 0)), (1, .int x)]) hx hb dH_tick_22 rfl hl (by decide) rfl (fun ls hl => ?_)
      exact K23 (N + 1) N 0 g (by omega) hxN hN6 hNc c5 c6 (by omega) rfl hn hA hB _ _ hP hS ls (lv_sub hl [1, 2, 0] rfl)
    · obtain ⟨sa, hsa⟩ := hR _ (List.mem_of_getElem? (i := 12) rfl)
      exact vx_throwS (names := ht_nm) (A := mw_A 14 q s.heap.size) hx hb hl0 hown (by decide) (by decide) (hts _ w108) (hts _ w7) hsa (vx_hat (fun w h => hts w (xg_A w h)) xb_A (fun w h => va_Nw.use (ht_X.on h) (hX w h))) xo_A hZ.1 hZ.2 hS (by rw [hml]; exact hl.1) dH_tick_11 dH_tick_14 dH_tick_15 dH_tick_17 dH_tick_20 (fun x hx => (htab x hx).elim) (Nat.le_of_ble_eq_true rfl) (Nat.le_of_ble_eq_true rfl) (Nat.le_of_ble_eq_true rfl) (Nat.le_of_ble_eq_true rfl) hlocks (fun t ha hz9 hk9 => ⟨(), trivial, ⟨ht_Px hP hk9, by rw [show (ht_oTick g k x).1 = 1 by simp [ht_oTick, c5, c6]]; exact List.mem_of_getElem? (i := 0) rfl⟩, ht_Fx hS hz9 hk9⟩) hS.2.2 (Nat.le_of_ble_eq_true rfl) (Nat.le_of_ble_eq_true rfl)
