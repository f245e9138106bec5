set_option maxHeartbeats 4000000 in
set_option maxRecDepth 100000 in
theorem xH_lose (l : Launch) (hl0 : l.stackTraces = false) (D : va_G) (cA : ClassId × ClassId) (q : Nat → Nat) (hJ : mw_J 14 q) (sz : Nat) (g : ht_G) (k : Nat) (hk : k ≤ 8) (hn : g 0 0 = nI k) (x y : Int32) : vx_Met l yH_lose kH_lose ({ frames := 7, cells := 2, slots := 12, locals := 103 }) (va_Pc [.ref (q 0), .int x, .int y] (ht_E D cA q g sz)) (va_Qi (fun r (_ : Unit) => (ht_oLose g k x y).1 = 0 ∧ r = (ht_oLose g k x y).2.1) (fun _ t => va_P D ht_cl (ht_w cA q (ht_oLose g k x y).2.2) t.heap) (mw_A 14 q sz)) (vx_X (fun _ : Unit => True) (fun E _ t => va_P D ht_cl (ht_w cA q g) t.heap ∧ ((ht_oLose g k x y).1, E) ∈ [((1 : Int32), EN), ((2 : Int32), EA), ((3 : Int32), ES)]) (mw_A 14 q sz)) 2 12 (mw_A 14 q sz) := by
  refine vx_ofW (cc := cH_lose) (maxL := 4) (ret := (some .int)) (by decide) rfl ?_
  intro p e s m args below meth c s₁ B hml htab hv
  obtain ⟨rfl, hsz, ⟨hP, hK, hN⟩, hX, hR, hZ⟩ := hv
  have hx := B.exec
  have hb := B.bytes
  have hr := B.returns
  have hts := fun w h => atoms_spec (ws := kH_lose) B.pre w (List.mem_cons_of_mem _ h)
  have hown : s.vm.findClass RH = some m.cls := findClass_of_methodNamed B.named
  have hlocks := B.notSynchronized
  subst hsz
  have hS : va_S (mw_A 14 q s.heap.size) s.heap s.heap [] := va_S.rf
  have hl := lv_entry ([.ref (q 0), .int x, .int y]) (n := 4) (Nat.le_of_ble_eq_true rfl)
  rw [lg_entry_eq]
  generalize (lg_sl ([.ref (q 0), .int x, .int y]) ++ List.replicate (4 - (lg_sl ([.ref (q 0), .int x, .int y])).length) Slot.unset).toArray = ls at hl ⊢
  have hl : lv_has ls 4 [(0, .ref (q 0)), (1, .int x), (2, .int y)] := hl
  refine lv_aload_n hx hb dH_lose_0 rfl (lv_at hl 0 rfl) ?_
  refine lv_iload_n hx hb dH_lose_1 rfl (lv_at hl 1 rfl) ?_
  refine hx_callr (vx_runV (As := [.int x]) (rest := []) ⟨hx, hb, hml, hown, hts⟩ (xH_existingTrain l hl0 D cA q hJ _ g k hk hn x) (cwV 1 hts (ht_gV w287 w289 s21 w1 w290) rfl rfl rfl (by decide +kernel) ⟨Nat.le_of_ble_eq_true rfl, Nat.le_of_ble_eq_true rfl⟩) ⟨ht_ble, va_recv hK hP (ci := 1) (q0 := 0) rfl ht_atO, fun U hU hW => ⟨rfl, ht_Em hP hK hN hX hR hZ hS hU hW⟩⟩ rfl rfl hl.1 rfl (lv_room (Nat.le_of_ble_eq_true rfl)) dH_lose_2 ⟨Nat.le_of_ble_eq_true rfl, Nat.le_of_ble_eq_true rfl⟩) hS mw_AA (mw_AF hS.1) mw_AA (fun E ce q9 u t H locs ht hvm hpx hBX hz hk9 hS hce hcv hcl => ?_) (fun j b t H locs ht hvm hw hB hz hk9 hS => ?_)
  · exact vx_out (fun x hx => (htab x hx).elim) hlocks hce hcv hcl (fun t9 ht9 ha9 => ⟨(), trivial, ⟨by rw [ht9, ← ht]; exact hBX.1, by rw [hBX.2.2, show (ht_oLose g k x y).1 = 1 by simp [ht_oLose, hBX.2.1]]; exact List.mem_of_getElem? (i := 0) rfl⟩, hS.F ht9⟩) hS.2.2 (Nat.le_of_ble_eq_true rfl) (Nat.le_of_ble_eq_true rfl)
  obtain ⟨rfl, hP⟩ := hB
  rw [ht] at hP
  obtain ⟨hT, hjk, hxj, hxc⟩ := hw
  have hj8 : j < 8 := Nat.lt_of_lt_of_le hjk hk
  refine lv_astore_n (lv' := [(3, .ref (q (j + 6))), (0, .ref (q 0)), (1, .int x), (2, .int y)]) hx hb dH_lose_5 rfl hl (by decide) rfl (fun ls hl => ?_)
  refine lv_iload_n hx hb dH_lose_6 rfl (lv_at hl 3 rfl) ?_
  refine lv_iconst (v := 1) hx hb dH_lose_7 (by decide) ?_
  refine lv_icmp_lt (tgt := 19) hx hb dH_lose_8 (by decide) (fun c1 => ?_) (fun c1 => ?_)
  · obtain ⟨sa, hsa⟩ := hR _ (List.mem_of_getElem? (i := 9) rfl)
    exact vx_throwS (names := ht_nm) (A := mw_A 14 q s.heap.size) hx hb hl0 hown (by decide) (by decide) (hts _ w108) (hts _ w7) hsa (vx_hat (fun w h => hts w (xg_A w h)) xb_A (fun w h => va_Nw.use (ht_X.on h) (hX w h))) xo_A hZ.1 hZ.2 hS (by rw [hml]; exact hl.1) dH_lose_19 dH_lose_22 dH_lose_23 dH_lose_25 dH_lose_28 (fun x hx => (htab x hx).elim) (Nat.le_of_ble_eq_true rfl) (Nat.le_of_ble_eq_true rfl) (Nat.le_of_ble_eq_true rfl) (Nat.le_of_ble_eq_true rfl) hlocks (fun t ha hz9 hk9 => ⟨(), trivial, ⟨ht_Px hP hk9, by rw [show (ht_oLose g k x y).1 = 2 by simp [ht_oLose, hT, hxc, c1, ht_lose3]]; exact List.mem_of_getElem? (i := 1) rfl⟩, ht_Fx hS hz9 hk9⟩) hS.2.2 (Nat.le_of_ble_eq_true rfl) (Nat.le_of_ble_eq_true rfl)
  · refine lv_iload_n hx hb dH_lose_11 rfl (lv_at hl 3 rfl) ?_
    refine lv_aload_n hx hb dH_lose_12 rfl (lv_at hl 0 rfl) ?_
    refine va_getN (D := D) (ci := 0) (C := RV) (T := TV) (N := 13) (v := .int (g (5 + j) 3)) hx hb hts inV hown hK hP (j + 6) (ht_atV hj8) rfl 3 (by decide) (hN.use 4 rfl rfl) (fun _ h9 => h9) rfl dH_lose_13 ?_
    refine lv_icmp_lt (tgt := 29) hx hb dH_lose_16 (by decide) (fun c2 => ?_) (fun c2 => ?_)
    · refine lv_aload_n hx hb dH_lose_29 rfl (lv_at hl 1 rfl) ?_
      refine va_get (D := D) (ci := 1) (C := RH) (T := TH) (N := 7) (v := .int (g 0 0)) hx hb hts inH hown hK hP 0 ht_atO rfl 1 (by decide) (hts _ w78) (fun _ h9 => h9) rfl dH_lose_30 ?_
      refine lv_bipush (v := 8) hx hb dH_lose_33 (by decide) ?_
      refine lv_icmp_lt (tgt := 48) hx hb dH_lose_35 (by decide) (fun c3 => ?_) (fun c3 => ?_)
      · have hk8 : k < 8 := ht_lt8 hk hn c3
        refine lv_aload_n hx hb dH_lose_48 rfl (lv_at hl 1 rfl) ?_
        refine va_get (D := D) (ci := 1) (C := RH) (T := TH) (N := 7) (v := .ref (q 1)) hx hb hts inH hown hK hP 0 ht_atO rfl 0 (by decide) (hts _ w77) (fun _ h9 => h9) rfl dH_lose_49 ?_
        refine lv_aload_n hx hb dH_lose_52 rfl (lv_at hl 1 rfl) ?_
        refine va_get (D := D) (ci := 1) (C := RH) (T := TH) (N := 7) (v := .int (g 0 0)) hx hb hts inH hown hK hP 0 ht_atO rfl 1 (by decide) (hts _ w78) (fun _ h9 => h9) rfl dH_lose_53 ?_
        refine ht_ldV hx hb hK hP (j := k) hk8 hn dH_lose_56 ?_
        refine lv_aload_n hx hb dH_lose_57 rfl (lv_at hl 0 rfl) ?_
        refine vp_callSi (va_Run.run (va_runVN (As := []) (rest := [.ref (q (k + 6))]) ⟨hx, hb, hml, hown, hts⟩ (xV_lastPlace l D cA q g j hj8 ) ⟨va_cnB 0 hts (ht_gW w204) rfl rfl rfl (hN _ (List.mem_of_getElem? (i := 18) rfl)) (hts _ w2) (by decide +kernel) ⟨Nat.le_of_ble_eq_true rfl, Nat.le_of_ble_eq_true rfl⟩, hts _ w203, hts _ s3⟩ ⟨ht_bl, va_recv hK hP (ci := 0) (q0 := j + 6) rfl (ht_atV hj8), fun U hU hW => ⟨rfl, ht_Im hP hK hN hU hW⟩⟩ rfl rfl hl.1 rfl (lv_room (Nat.le_of_ble_eq_true rfl)) dH_lose_58 ⟨Nat.le_of_ble_eq_true rfl, Nat.le_of_ble_eq_true rfl⟩)) (fun r4 hr4 => ?_)
        subst hr4
        refine lv_iload_n hx hb dH_lose_61 rfl (lv_at hl 3 rfl) ?_
        refine lv_iadd hx hb dH_lose_62 ?_
        refine lv_iconst (v := 1) hx hb dH_lose_63 (by decide) ?_
        refine lv_isub hx hb dH_lose_64 ?_
        refine lv_iload_n hx hb dH_lose_65 rfl (lv_at hl 3 rfl) ?_
        refine va_callv (va_runVN (As := [.int (((ht_last (g (5 + j))) + y) - 1), .int y]) (rest := []) ⟨hx, hb, hml, hown, hts⟩ (xV_becomeWagon l D cA q hJ _ g k hk8 (((ht_last (g (5 + j))) + y) - 1) y ) ⟨va_cnB 2 hts (ht_gW w351) rfl rfl rfl (hN _ (List.mem_of_getElem? (i := 19) rfl)) (hts _ w2) (by decide +kernel) ⟨Nat.le_of_ble_eq_true rfl, Nat.le_of_ble_eq_true rfl⟩, hts _ w350, hts _ s24⟩ ⟨ht_bls, va_recv hK hP (ci := 0) (q0 := k + 6) rfl (ht_atV hk8), fun U hU hW => ⟨rfl, by rw [hU], ht_Im hP hK hN hU hW⟩⟩ rfl rfl hl.1 rfl (lv_room (Nat.le_of_ble_eq_true rfl)) dH_lose_66 ⟨Nat.le_of_ble_eq_true rfl, Nat.le_of_ble_eq_true rfl⟩) hS mw_AA (mw_AF hS.1) (fun u5 t5 H locs ht5 hvm5 hw5 hB5 hz5 hk5 hS => ?_)
        have hP := hB5.1
        rw [ht5] at hP
        obtain ⟨g6, eg6⟩ : ∃ y9 : ht_G, y9 = ht_wagon k (((ht_last (g (5 + j))) + y) - 1) y g := ⟨_, rfl⟩
        rw [← eg6] at hP
        refine lv_aload_n hx hb dH_lose_69 rfl (lv_at hl 1 rfl) ?_
        refine lv_dup hx hb dH_lose_70 rfl ?_
        refine va_get (D := D) (ci := 1) (C := RH) (T := TH) (N := 7) (v := .int (g6 0 0)) hx hb hts inH hown hK hP 0 ht_atO rfl 1 (by decide) (hts _ w78) (fun _ h9 => h9) rfl dH_lose_71 ?_
        refine lv_iconst (v := 1) hx hb dH_lose_74 (by decide) ?_
        refine lv_iadd hx hb dH_lose_75 ?_
        refine va_put (D := D) (ci := 1) (C := RH) (T := TH) (N := 7) (v := .int ((g6 0 0) + 1)) (ty := .int) hx hb hts inH tyH tyH_ok nmH hown hK hP (mw_DA hJ) hS 0 ht_atO rfl 1 (by decide) (hts _ w78) (fun _ h9 => h9) rfl rfl rfl rfl (Nat.le_of_ble_eq_true rfl) dH_lose_76 (fun H locs hP _ hS => ?_)
        rw [ht_stC] at hP
        obtain ⟨g7, eg7⟩ : ∃ y9 : ht_G, y9 = ht_up g6 0 0 ((g6 0 0) + 1) := ⟨_, rfl⟩
        rw [← eg7] at hP
        refine lv_aload_n hx hb dH_lose_79 rfl (lv_at hl 0 rfl) ?_
        refine lv_dup hx hb dH_lose_80 rfl ?_
        refine va_getN (D := D) (ci := 0) (C := RV) (T := TV) (N := 13) (v := .int (g7 (5 + j) 3)) hx hb hts inV hown hK hP (j + 6) (ht_atV hj8) rfl 3 (by decide) (hN.use 4 rfl rfl) (fun _ h9 => h9) rfl dH_lose_81 ?_
        refine lv_iload_n hx hb dH_lose_84 rfl (lv_at hl 3 rfl) ?_
        refine lv_isub hx hb dH_lose_85 ?_
        refine va_putN (D := D) (ci := 0) (C := RV) (T := TV) (N := 13) (v := .int ((g7 (5 + j) 3) - y)) (ty := .int) hx hb hts inV tyV tyV_ok nmV hown hK hP (mw_DA hJ) hS (j + 6) (ht_atV hj8) rfl 3 (by decide) (hN.use 4 rfl rfl) (fun _ h9 => h9) rfl rfl rfl rfl (Nat.le_of_ble_eq_true rfl) dH_lose_86 (fun H locs hP _ hS => ?_)
        rw [ht_stV hj8 (by decide)] at hP
        obtain ⟨g8, eg8⟩ : ∃ y9 : ht_G, y9 = ht_up g7 (5 + j) 3 ((g7 (5 + j) 3) - y) := ⟨_, rfl⟩
        rw [← eg8] at hP
        refine lv_aload_n hx hb dH_lose_89 rfl (lv_at hl 0 rfl) ?_
        refine lv_iconst (v := 0) hx hb dH_lose_90 (by decide) ?_
        refine va_putN (D := D) (ci := 0) (C := RV) (T := TV) (N := 13) (v := .int 0) (ty := .boolean) hx hb hts inV tyV tyV_ok nmV hown hK hP (mw_DA hJ) hS (j + 6) (ht_atV hj8) rfl 7 (by decide) (hN.use 8 rfl rfl) (fun _ h9 => h9) rfl rfl rfl rfl (Nat.le_of_ble_eq_true rfl) dH_lose_91 (fun H locs hP _ hS => ?_)
        rw [ht_stV hj8 (by decide)] at hP
        obtain ⟨g9, eg9⟩ : ∃ y9 : ht_G, y9 = ht_up g8 (5 + j) 7 0 := ⟨_, rfl⟩
        rw [← eg9] at hP
        refine lv_aload_n hx hb dH_lose_94 rfl (lv_at hl 1 rfl) ?_
        refine va_get (D := D) (ci := 1) (C := RH) (T := TH) (N := 7) (v := .int (g9 0 0)) hx hb hts inH hown hK hP 0 ht_atO rfl 1 (by decide) (hts _ w78) (fun _ h9 => h9) rfl dH_lose_95 ?_
        refine lv_iconst (v := 1) hx hb dH_lose_98 (by decide) ?_
        refine lv_isub hx hb dH_lose_99 ?_
        have hG : g9 = (ht_oLose g k x y).2.2 := by rw [eg9, eg8, eg7, eg6]; simp [ht_oLose, hT, hxc, c1, c2, c3, ht_lose3]
        have hC : (ht_oLose g k x y).1 = 0 := by simp [ht_oLose, hT, hxc, c1, c2, c3, ht_lose3]
        have hV : (g9 0 0) - 1 = (ht_oLose g k x y).2.1 := by rw [eg9, eg8, eg7, eg6]; simp [ht_oLose, hT, hxc, c1, c2, c3, ht_lose3]
        rw [hG] at hP
        exact vx_ret (W.widen (k := 2) (n := 12) (Nat.le_of_ble_eq_true rfl) (Nat.le_of_ble_eq_true rfl) (W.iret (v := (g9 0 0) - 1) hx hb hr (fun t ht hW => ⟨⟨(g9 0 0) - 1, (), rfl, ⟨hC, hV⟩, by show va_P D ht_cl (ht_w cA q (ht_oLose g k x y).2.2) t.heap; rw [ht]; exact hP⟩, hS.F ht⟩) hS.2.2 dH_lose_100))
      · obtain ⟨sa, hsa⟩ := hR _ (List.mem_of_getElem? (i := 2) rfl)
        exact vx_throwS (names := ht_nm) (A := mw_A 14 q s.heap.size) hx hb hl0 hown (by decide) (by decide) (hts _ w177) (hts _ w8) hsa (vx_hat (fun w h => hts w (xg_S w h)) xb_S (fun w h => va_Nw.use (ht_X.on h) (hX w h))) xo_S hZ.1 hZ.2 hS (by rw [hml]; exact hl.1) dH_lose_38 dH_lose_41 dH_lose_42 dH_lose_44 dH_lose_47 (fun x hx => (htab x hx).elim) (Nat.le_of_ble_eq_true rfl) (Nat.le_of_ble_eq_true rfl) (Nat.le_of_ble_eq_true rfl) (Nat.le_of_ble_eq_true rfl) hlocks (fun t ha hz9 hk9 => ⟨(), trivial, ⟨ht_Px hP hk9, by rw [show (ht_oLose g k x y).1 = 3 by simp [ht_oLose, hT, hxc, c1, c2, c3, ht_lose3]]; exact List.mem_of_getElem? (i := 2) rfl⟩, ht_Fx hS hz9 hk9⟩) hS.2.2 (Nat.le_of_ble_eq_true rfl) (Nat.le_of_ble_eq_true rfl)
    · obtain ⟨sa, hsa⟩ := hR _ (List.mem_of_getElem? (i := 9) rfl)
      exact vx_throwS (names := ht_nm) (A := mw_A 14 q s.heap.size) hx hb hl0 hown (by decide) (by decide) (hts _ w108) (hts _ w7) hsa (vx_hat (fun w h => hts w (xg_A w h)) xb_A (fun w h => va_Nw.use (ht_X.on h) (hX w h))) xo_A hZ.1 hZ.2 hS (by rw [hml]; exact hl.1) dH_lose_19 dH_lose_22 dH_lose_23 dH_lose_25 dH_lose_28 (fun x hx => (htab x hx).elim) (Nat.le_of_ble_eq_true rfl) (Nat.le_of_ble_eq_true rfl) (Nat.le_of_ble_eq_true rfl) (Nat.le_of_ble_eq_true rfl) hlocks (fun t ha hz9 hk9 => ⟨(), trivial, ⟨ht_Px hP hk9, by rw [show (ht_oLose g k x y).1 = 2 by simp [ht_oLose, hT, hxc, c1, c2, ht_lose3]]; exact List.mem_of_getElem? (i := 1) rfl⟩, ht_Fx hS hz9 hk9⟩) hS.2.2 (Nat.le_of_ble_eq_true rfl) (Nat.le_of_ble_eq_true rfl)
