def ht_oDrive (g : ht_G) (k : Nat) (x y : Int32) : Int32 × Int32 × ht_G := if ht_tr g k x = false then (1, 0, g) else if y < 0 ∨ ¬ y ≤ 9 then (2, 0, g) else (0, g (5 + x.toNatClampNeg) 4, ht_up g (5 + x.toNatClampNeg) 4 y)
def ht_oSilence (g : ht_G) (k : Nat) (x y : Int32) : Int32 × Int32 × ht_G := if ht_tr g k x = false then (1, 0, g) else (0, if g (5 + x.toNatClampNeg) 6 = y then 0 else 1, ht_up g (5 + x.toNatClampNeg) 6 y)
def ht_oRelent (g : ht_G) (k : Nat) (x : Int32) : Int32 × Int32 × ht_G := if ht_tr g k x = false then (1, 0, g) else if ¬ g (5 + x.toNatClampNeg) 6 = 0 then (2, 0, g) else (0, g (5 + x.toNatClampNeg) 5 - g (5 + x.toNatClampNeg) 2, ht_up g (5 + x.toNatClampNeg) 5 (g (5 + x.toNatClampNeg) 2))
def ht_oConfirm (g : ht_G) (k : Nat) (x : Int32) : Int32 × Int32 × ht_G := if ht_tr g k x = false then (1, 0, g) else if ¬ g (5 + x.toNatClampNeg) 7 = 0 ∨ ¬ g (5 + x.toNatClampNeg) 10 = 0 then (2, 0, g) else (0, g (5 + x.toNatClampNeg) 3, ht_up g (5 + x.toNatClampNeg) 7 1)
def ht_oClear (g : ht_G) (k : Nat) (x : Int32) : Int32 × Int32 × ht_G := if ht_on g k x = false ∨ ¬ g (5 + x.toNatClampNeg) 0 = 0 then (1, 0, g) else (0, g (5 + x.toNatClampNeg) 3, ht_up g (5 + x.toNatClampNeg) 1 0)
def ht_oState (g : ht_G) (x : Int32) : Int32 × Int32 × ht_G := if x < 0 ∨ ¬ x < 12 then (1, 0, g) else (0, g 1 x.toNatClampNeg, g)
def ht_oDet (g : ht_G) (k : Nat) (x : Int32) : Int32 × Int32 × ht_G := if x < 0 ∨ ¬ x < 4 then (1, 0, g) else (0, ht_b (ht_det g k x), g)
set_option maxHeartbeats 4000000 in
set_option maxRecDepth 100000 in
theorem xH_existingTrain (l : Launch) (hl0 : l.stackTraces = false) (D : va_G) (cA : ClassId × ClassId) (q : Nat → Nat) (hJ : mw_J 14 q) (sz : Nat) (g : ht_G) (k : Nat) (hk : k ≤ 8) (hn : g 0 0 = nI k) (x : Int32) : vx_Met l yH_existingTrain kH_existingTrain ({ frames := 6, cells := 1, slots := 6, locals := 82 }) (va_Pc [.ref (q 0), .int x] (ht_E D cA q g sz)) (va_Qr (fun j => ht_tr g k x = true ∧ j < k ∧ x = nI j ∧ x.toNatClampNeg = j) (fun j a t => a = q (j + 6) ∧ va_P D ht_cl (ht_w cA q g) t.heap) (mw_A 14 q sz)) (vx_X (fun _ : Unit => True) (fun E _ t => va_P D ht_cl (ht_w cA q g) t.heap ∧ ht_tr g k x = false ∧ E = EN) (mw_A 14 q sz)) 1 6 (mw_A 14 q sz) := by
  refine vx_ofW (cc := cH_existingTrain) (maxL := 2) (ret := (some (.object "HybridTrack$Vehicle"))) (by decide) rfl ?_
  intro p e s m args below meth c s₁ B hml htab hv
  obtain ⟨rfl, hsz, ⟨hP, hK, hN⟩, hX, hR, hZ⟩ := hv
  have hx := B.exec
  have hb := B.bytes
  have hr := B.returns
  have hts := fun w h => atoms_spec (ws := kH_existingTrain) B.pre w (List.mem_cons_of_mem _ h)
  have hown : s.vm.findClass RH = some m.cls := findClass_of_methodNamed B.named
  have hlocks := B.notSynchronized
  subst hsz
  have hS : va_S (mw_A 14 q s.heap.size) s.heap s.heap [] := va_S.rf
  have hl := lv_entry ([.ref (q 0), .int x]) (n := 2) (Nat.le_of_ble_eq_true rfl)
  rw [lg_entry_eq]
  generalize (lg_sl ([.ref (q 0), .int x]) ++ List.replicate (2 - (lg_sl ([.ref (q 0), .int x])).length) Slot.unset).toArray = ls at hl ⊢
  have hl : lv_has ls 2 [(0, .ref (q 0)), (1, .int x)] := hl
  refine lv_aload_n hx hb dH_existingTrain_0 rfl (lv_at hl 0 rfl) ?_
  refine lv_iload_n hx hb dH_existingTrain_1 rfl (lv_at hl 1 rfl) ?_
  refine vp_callSi (va_Run.run (va_runV (As := [.int x]) (rest := []) ⟨hx, hb, hml, hown, hts⟩ (xH_isOnTrack l D cA q g k hk hn x) (cwV 1 hts (ht_gV w291 w293 s22 w1 w294) rfl rfl rfl (by decide +kernel) ⟨Nat.le_of_ble_eq_true rfl, Nat.le_of_ble_eq_true rfl⟩) ⟨ht_bl, va_recv hK hP (ci := 1) (q0 := 0) rfl ht_atO, fun U hU hW => ⟨rfl, ht_Im hP hK hN hU hW⟩⟩ rfl rfl hl.1 rfl (lv_room (Nat.le_of_ble_eq_true rfl)) dH_existingTrain_2 ⟨Nat.le_of_ble_eq_true rfl, Nat.le_of_ble_eq_true rfl⟩)) (fun r1 hr1 => ?_)
  subst hr1
  refine lv_if_eq (tgt := 20) hx hb dH_existingTrain_5 (by decide) (fun c2 => ?_) (fun c2 => ?_)
  · replace c2 := ht_b0.mp c2
    obtain ⟨sa, hsa⟩ := hR _ (List.mem_of_getElem? (i := 5) rfl)
    exact hx_throwS (Y := "java/lang/RuntimeException") (r := ["java/lang/Exception"]) (A := mw_A 14 q s.heap.size) hx hb hl0 hown (by decide) (by decide) (by decide) (hts _ w295) (hts _ w9) hsa (vx_hat (fun w h => hts w (xg_N w h)) xb_N (fun w h => va_Nw.use (ht_X.on h) (hX w h))) xo_N hZ.1 hZ.2 hS (by rw [hml]; exact hl.1) dH_existingTrain_20 dH_existingTrain_23 dH_existingTrain_24 dH_existingTrain_26 dH_existingTrain_29 (fun x hx => (htab x hx).elim) (Nat.le_of_ble_eq_true rfl) (Nat.le_of_ble_eq_true rfl) (Nat.le_of_ble_eq_true rfl) (Nat.le_of_ble_eq_true rfl) hlocks (fun t ha hz9 hk9 => ⟨(), trivial, ⟨ht_Px hP hk9, ⟨by simp [ht_tr, ht_tr, c2], rfl⟩⟩, ht_Fx hS hz9 hk9⟩) hS.2.2 (Nat.le_of_ble_eq_true rfl) (Nat.le_of_ble_eq_true rfl)
  · replace c2 := ht_b1.mp c2
    obtain ⟨hjk, hxj, -, -⟩ := ht_on_is hk c2
    obtain ⟨j, hxc⟩ : ∃ j, x.toNatClampNeg = j := ⟨_, rfl⟩
    rw [hxc] at hjk hxj
    have hj8 : j < 8 := Nat.lt_of_lt_of_le hjk hk
    refine lv_aload_n hx hb dH_existingTrain_8 rfl (lv_at hl 0 rfl) ?_
    refine va_get (D := D) (ci := 1) (C := RH) (T := TH) (N := 7) (v := .ref (q 1)) hx hb hts inH hown hK hP 0 ht_atO rfl 0 (by decide) (hts _ w77) (fun _ h9 => h9) rfl dH_existingTrain_9 ?_
    refine lv_iload_n hx hb dH_existingTrain_12 rfl (lv_at hl 1 rfl) ?_
    refine ht_ldV hx hb hK hP (j := j) hj8 hxj dH_existingTrain_13 ?_
    refine va_getN (D := D) (ci := 0) (C := RV) (T := TV) (N := 13) (v := .int (g (5 + j) 0)) hx hb hts inV hown hK hP (j + 6) (ht_atV hj8) rfl 0 (by decide) (hN.use 1 rfl rfl) (fun _ h9 => h9) rfl dH_existingTrain_14 ?_
    refine lv_if_ne (tgt := 30) hx hb dH_existingTrain_17 (by decide) (fun c3 => ?_) (fun c3 => ?_)
    · refine lv_aload_n hx hb dH_existingTrain_30 rfl (lv_at hl 0 rfl) ?_
      refine va_get (D := D) (ci := 1) (C := RH) (T := TH) (N := 7) (v := .ref (q 1)) hx hb hts inH hown hK hP 0 ht_atO rfl 0 (by decide) (hts _ w77) (fun _ h9 => h9) rfl dH_existingTrain_31 ?_
      refine lv_iload_n hx hb dH_existingTrain_34 rfl (lv_at hl 1 rfl) ?_
      refine ht_ldV hx hb hK hP (j := j) hj8 hxj dH_existingTrain_35 ?_
      exact vx_ret (W.widen (k := 1) (n := 6) (Nat.le_of_ble_eq_true rfl) (Nat.le_of_ble_eq_true rfl) (W.aret (v := .ref (q (j + 6))) hx hb hr (Or.inl ⟨_, rfl⟩) (Or.inr ⟨_, rfl⟩) (fun t ht hW => ⟨⟨j, q (j + 6), rfl, ⟨by simp [ht_tr, c2, hxc, c3], hjk, hxj, hxc⟩, rfl, by rw [ht]; exact hP⟩, hS.F ht⟩) hS.2.2 dH_existingTrain_36))
    · obtain ⟨sa, hsa⟩ := hR _ (List.mem_of_getElem? (i := 5) rfl)
      exact hx_throwS (Y := "java/lang/RuntimeException") (r := ["java/lang/Exception"]) (A := mw_A 14 q s.heap.size) hx hb hl0 hown (by decide) (by decide) (by decide) (hts _ w295) (hts _ w9) hsa (vx_hat (fun w h => hts w (xg_N w h)) xb_N (fun w h => va_Nw.use (ht_X.on h) (hX w h))) xo_N hZ.1 hZ.2 hS (by rw [hml]; exact hl.1) dH_existingTrain_20 dH_existingTrain_23 dH_existingTrain_24 dH_existingTrain_26 dH_existingTrain_29 (fun x hx => (htab x hx).elim) (Nat.le_of_ble_eq_true rfl) (Nat.le_of_ble_eq_true rfl) (Nat.le_of_ble_eq_true rfl) (Nat.le_of_ble_eq_true rfl) hlocks (fun t ha hz9 hk9 => ⟨(), trivial, ⟨ht_Px hP hk9, ⟨by simp [ht_tr, ht_tr, c2, hxc, c3], rfl⟩⟩, ht_Fx hS hz9 hk9⟩) hS.2.2 (Nat.le_of_ble_eq_true rfl) (Nat.le_of_ble_eq_true rfl)
set_option maxHeartbeats 4000000 in
set_option maxRecDepth 100000 in
theorem xH_drive (l : Launch) (hl0 : l.stackTraces = false) (D : va_G) (cA : ClassId × ClassId) (q : Nat → Nat) (hJ : mw_J 14 q) (sz : Nat) (g : ht_G) (k : Nat) (hk : k ≤ 8) (hn : g 0 0 = nI k) (x y : Int32) : vx_Met l yH_drive kH_drive ({ frames := 7, cells := 2, slots := 12, locals := 103 }) (va_Pc [.ref (q 0), .int x, .int y] (ht_E D cA q g sz)) (va_Qi (fun r (_ : Unit) => (ht_oDrive g k x y).1 = 0 ∧ r = (ht_oDrive g k x y).2.1) (fun _ t => va_P D ht_cl (ht_w cA q (ht_oDrive g k x y).2.2) t.heap) (mw_A 14 q sz)) (vx_X (fun _ : Unit => True) (fun E _ t => va_P D ht_cl (ht_w cA q g) t.heap ∧ ((ht_oDrive g k x y).1, E) ∈ [((1 : Int32), EN), ((2 : Int32), EA)]) (mw_A 14 q sz)) 2 12 (mw_A 14 q sz) := by
  refine vx_ofW (cc := cH_drive) (maxL := 5) (ret := (some .int)) (by decide) rfl ?_
  intro p e s m args below meth c s₁ B hml htab hv
  obtain ⟨rfl, hsz, ⟨hP, hK, hN⟩, hX, hR, hZ⟩ := hv
  have hx := B.exec
  have hb := B.bytes
  have hr := B.returns
  have hts := fun w h => atoms_spec (ws := kH_drive) B.pre w (List.mem_cons_of_mem _ h)
  have hown : s.vm.findClass RH = some m.cls := findClass_of_methodNamed B.named
  have hlocks := B.notSynchronized
  subst hsz
  have hS : va_S (mw_A 14 q s.heap.size) s.heap s.heap [] := va_S.rf
  have hl := lv_entry ([.ref (q 0), .int x, .int y]) (n := 5) (Nat.le_of_ble_eq_true rfl)
  rw [lg_entry_eq]
  generalize (lg_sl ([.ref (q 0), .int x, .int y]) ++ List.replicate (5 - (lg_sl ([.ref (q 0), .int x, .int y])).length) Slot.unset).toArray = ls at hl ⊢
  have hl : lv_has ls 5 [(0, .ref (q 0)), (1, .int x), (2, .int y)] := hl
  refine lv_aload_n hx hb dH_drive_0 rfl (lv_at hl 0 rfl) ?_
  refine lv_iload_n hx hb dH_drive_1 rfl (lv_at hl 1 rfl) ?_
  refine hx_callr (vx_runV (As := [.int x]) (rest := []) ⟨hx, hb, hml, hown, hts⟩ (xH_existingTrain l hl0 D cA q hJ _ g k hk hn x) (cwV 1 hts (ht_gV w287 w289 s21 w1 w290) rfl rfl rfl (by decide +kernel) ⟨Nat.le_of_ble_eq_true rfl, Nat.le_of_ble_eq_true rfl⟩) ⟨ht_ble, va_recv hK hP (ci := 1) (q0 := 0) rfl ht_atO, fun U hU hW => ⟨rfl, ht_Em hP hK hN hX hR hZ hS hU hW⟩⟩ rfl rfl hl.1 rfl (lv_room (Nat.le_of_ble_eq_true rfl)) dH_drive_2 ⟨Nat.le_of_ble_eq_true rfl, Nat.le_of_ble_eq_true rfl⟩) hS mw_AA (mw_AF hS.1) mw_AA (fun E ce q9 u t H locs ht hvm hpx hBX hz hk9 hS hce hcv hcl => ?_) (fun j b t H locs ht hvm hw hB hz hk9 hS => ?_)
  · exact vx_out (fun x hx => (htab x hx).elim) hlocks hce hcv hcl (fun t9 ht9 ha9 => ⟨(), trivial, ⟨by rw [ht9, ← ht]; exact hBX.1, by rw [hBX.2.2, show (ht_oDrive g k x y).1 = 1 by simp [ht_oDrive, hBX.2.1]]; exact List.mem_of_getElem? (i := 0) rfl⟩, hS.F ht9⟩) hS.2.2 (Nat.le_of_ble_eq_true rfl) (Nat.le_of_ble_eq_true rfl)
  obtain ⟨rfl, hP⟩ := hB
  rw [ht] at hP
  obtain ⟨hT, hjk, hxj, hxc⟩ := hw
  have hj8 : j < 8 := Nat.lt_of_lt_of_le hjk hk
  refine lv_astore_n (lv' := [(3, .ref (q (j + 6))), (0, .ref (q 0)), (1, .int x), (2, .int y)]) hx hb dH_drive_5 rfl hl (by decide) rfl (fun ls hl => ?_)
  refine lv_iload_n hx hb dH_drive_6 rfl (lv_at hl 3 rfl) ?_
  refine lv_if_lt (tgt := 16) hx hb dH_drive_7 (by decide) (fun c1 => ?_) (fun c1 => ?_)
  · obtain ⟨sa, hsa⟩ := hR _ (List.mem_of_getElem? (i := 6) rfl)
    exact vx_throwS (names := ht_nm) (A := mw_A 14 q s.heap.size) hx hb hl0 hown (by decide) (by decide) (hts _ w108) (hts _ w7) hsa (vx_hat (fun w h => hts w (xg_A w h)) xb_A (fun w h => va_Nw.use (ht_X.on h) (hX w h))) xo_A hZ.1 hZ.2 hS (by rw [hml]; exact hl.1) dH_drive_16 dH_drive_19 dH_drive_20 dH_drive_22 dH_drive_25 (fun x hx => (htab x hx).elim) (Nat.le_of_ble_eq_true rfl) (Nat.le_of_ble_eq_true rfl) (Nat.le_of_ble_eq_true rfl) (Nat.le_of_ble_eq_true rfl) hlocks (fun t ha hz9 hk9 => ⟨(), trivial, ⟨ht_Px hP hk9, by rw [show (ht_oDrive g k x y).1 = 2 by simp [ht_oDrive, hT, hxc, c1]]; exact List.mem_of_getElem? (i := 1) rfl⟩, ht_Fx hS hz9 hk9⟩) hS.2.2 (Nat.le_of_ble_eq_true rfl) (Nat.le_of_ble_eq_true rfl)
  · refine lv_iload_n hx hb dH_drive_10 rfl (lv_at hl 3 rfl) ?_
    refine lv_bipush (v := 9) hx hb dH_drive_11 (by decide) ?_
    refine lv_icmp_le (tgt := 26) hx hb dH_drive_13 (by decide) (fun c2 => ?_) (fun c2 => ?_)
    · refine lv_aload_n hx hb dH_drive_26 rfl (lv_at hl 0 rfl) ?_
      refine va_getN (D := D) (ci := 0) (C := RV) (T := TV) (N := 13) (v := .int (g (5 + j) 4)) hx hb hts inV hown hK hP (j + 6) (ht_atV hj8) rfl 4 (by decide) (hN.use 5 rfl rfl) (fun _ h9 => h9) rfl dH_drive_27 ?_
      refine lv_istore (lv' := [(4, .int (g (5 + j) 4)), (3, .ref (q (j + 6))), (0, .ref (q 0)), (1, .int x), (2, .int y)]) hx hb dH_drive_30 hl (by decide) rfl (fun ls hl => ?_)
      refine lv_aload_n hx hb dH_drive_32 rfl (lv_at hl 1 rfl) ?_
      refine lv_iload_n hx hb dH_drive_33 rfl (lv_at hl 4 rfl) ?_
      refine va_putN (D := D) (ci := 0) (C := RV) (T := TV) (N := 13) (v := .int y) (ty := .int) hx hb hts inV tyV tyV_ok nmV hown hK hP (mw_DA hJ) hS (j + 6) (ht_atV hj8) rfl 4 (by decide) (hN.use 5 rfl rfl) (fun _ h9 => h9) rfl rfl rfl rfl (Nat.le_of_ble_eq_true rfl) dH_drive_34 (fun H locs hP _ hS => ?_)
      rw [ht_stV hj8 (by decide)] at hP
      obtain ⟨g3, eg3⟩ : ∃ y9 : ht_G, y9 = ht_up g (5 + j) 4 y := ⟨_, rfl⟩
      rw [← eg3] at hP
      refine lv_iload hx hb dH_drive_37 (lv_at hl 0 rfl) ?_
      have hG : g3 = (ht_oDrive g k x y).2.2 := by subst eg3; simp [ht_oDrive, hT, hxc, c1, c2]
      have hC : (ht_oDrive g k x y).1 = 0 := by simp [ht_oDrive, hT, hxc, c1, c2]
      have hV : g (5 + j) 4 = (ht_oDrive g k x y).2.1 := by subst eg3; simp [ht_oDrive, hT, hxc, c1, c2, ht_up]
      rw [hG] at hP
      exact vx_ret (W.widen (k := 2) (n := 12) (Nat.le_of_ble_eq_true rfl) (Nat.le_of_ble_eq_true rfl) (W.iret (v := g (5 + j) 4) hx hb hr (fun t ht hW => ⟨⟨g (5 + j) 4, (), rfl, ⟨hC, hV⟩, by show va_P D ht_cl (ht_w cA q (ht_oDrive g k x y).2.2) t.heap; rw [ht]; exact hP⟩, hS.F ht⟩) hS.2.2 dH_drive_39))
    · obtain ⟨sa, hsa⟩ := hR _ (List.mem_of_getElem? (i := 6) rfl)
      exact vx_throwS (names := ht_nm) (A := mw_A 14 q s.heap.size) hx hb hl0 hown (by decide) (by decide) (hts _ w108) (hts _ w7) hsa (vx_hat (fun w h => hts w (xg_A w h)) xb_A (fun w h => va_Nw.use (ht_X.on h) (hX w h))) xo_A hZ.1 hZ.2 hS (by rw [hml]; exact hl.1) dH_drive_16 dH_drive_19 dH_drive_20 dH_drive_22 dH_drive_25 (fun x hx => (htab x hx).elim) (Nat.le_of_ble_eq_true rfl) (Nat.le_of_ble_eq_true rfl) (Nat.le_of_ble_eq_true rfl) (Nat.le_of_ble_eq_true rfl) hlocks (fun t ha hz9 hk9 => ⟨(), trivial, ⟨ht_Px hP hk9, by rw [show (ht_oDrive g k x y).1 = 2 by simp [ht_oDrive, hT, hxc, c1, c2]]; exact List.mem_of_getElem? (i := 1) rfl⟩, ht_Fx hS hz9 hk9⟩) hS.2.2 (Nat.le_of_ble_eq_true rfl) (Nat.le_of_ble_eq_true rfl)
set_option maxHeartbeats 4000000 in
set_option maxRecDepth 100000 in
theorem xH_silence (l : Launch) (hl0 : l.stackTraces = false) (D : va_G) (cA : ClassId × ClassId) (q : Nat → Nat) (hJ : mw_J 14 q) (sz : Nat) (g : ht_G) (k : Nat) (hk : k ≤ 8) (hn : g 0 0 = nI k) (x y : Int32) (hy : y = 0 ∨ y = 1) : vx_Met l yH_silence kH_silence ({ frames := 7, cells := 2, slots := 12, locals := 103 }) (va_Pc [.ref (q 0), .int x, .int y] (ht_E D cA q g sz)) (va_Qi (fun r (_ : Unit) => (ht_oSilence g k x y).1 = 0 ∧ r = (ht_oSilence g k x y).2.1) (fun _ t => va_P D ht_cl (ht_w cA q (ht_oSilence g k x y).2.2) t.heap) (mw_A 14 q sz)) (vx_X (fun _ : Unit => True) (fun E _ t => va_P D ht_cl (ht_w cA q g) t.heap ∧ ((ht_oSilence g k x y).1, E) ∈ [((1 : Int32), EN)]) (mw_A 14 q sz)) 2 12 (mw_A 14 q sz) := by
  refine vx_ofW (cc := cH_silence) (maxL := 5) (ret := (some .int)) (by decide) rfl ?_
  intro p e s m args below meth c s₁ B hml htab hv
  obtain ⟨rfl, hsz, ⟨hP, hK, hN⟩, hX, hR, hZ⟩ := hv
  have hx := B.exec
  have hb := B.bytes
  have hr := B.returns
  have hts := fun w h => atoms_spec (ws := kH_silence) B.pre w (List.mem_cons_of_mem _ h)
  have hown : s.vm.findClass RH = some m.cls := findClass_of_methodNamed B.named
  have hlocks := B.notSynchronized
  subst hsz
  have hS : va_S (mw_A 14 q s.heap.size) s.heap s.heap [] := va_S.rf
  have hl := lv_entry ([.ref (q 0), .int x, .int y]) (n := 5) (Nat.le_of_ble_eq_true rfl)
  rw [lg_entry_eq]
  generalize (lg_sl ([.ref (q 0), .int x, .int y]) ++ List.replicate (5 - (lg_sl ([.ref (q 0), .int x, .int y])).length) Slot.unset).toArray = ls at hl ⊢
  have hl : lv_has ls 5 [(0, .ref (q 0)), (1, .int x), (2, .int y)] := hl
  refine lv_aload_n hx hb dH_silence_0 rfl (lv_at hl 0 rfl) ?_
  refine lv_iload_n hx hb dH_silence_1 rfl (lv_at hl 1 rfl) ?_
  refine hx_callr (vx_runV (As := [.int x]) (rest := []) ⟨hx, hb, hml, hown, hts⟩ (xH_existingTrain l hl0 D cA q hJ _ g k hk hn x) (cwV 1 hts (ht_gV w287 w289 s21 w1 w290) rfl rfl rfl (by decide +kernel) ⟨Nat.le_of_ble_eq_true rfl, Nat.le_of_ble_eq_true rfl⟩) ⟨ht_ble, va_recv hK hP (ci := 1) (q0 := 0) rfl ht_atO, fun U hU hW => ⟨rfl, ht_Em hP hK hN hX hR hZ hS hU hW⟩⟩ rfl rfl hl.1 rfl (lv_room (Nat.le_of_ble_eq_true rfl)) dH_silence_2 ⟨Nat.le_of_ble_eq_true rfl, Nat.le_of_ble_eq_true rfl⟩) hS mw_AA (mw_AF hS.1) mw_AA (fun E ce q9 u t H locs ht hvm hpx hBX hz hk9 hS hce hcv hcl => ?_) (fun j b t H locs ht hvm hw hB hz hk9 hS => ?_)
  · exact vx_out (fun x hx => (htab x hx).elim) hlocks hce hcv hcl (fun t9 ht9 ha9 => ⟨(), trivial, ⟨by rw [ht9, ← ht]; exact hBX.1, by rw [hBX.2.2, show (ht_oSilence g k x y).1 = 1 by simp [ht_oSilence, hBX.2.1]]; exact List.mem_of_getElem? (i := 0) rfl⟩, hS.F ht9⟩) hS.2.2 (Nat.le_of_ble_eq_true rfl) (Nat.le_of_ble_eq_true rfl)
  obtain ⟨rfl, hP⟩ := hB
  rw [ht] at hP
  obtain ⟨hT, hjk, hxj, hxc⟩ := hw
  have hj8 : j < 8 := Nat.lt_of_lt_of_le hjk hk
  refine lv_astore_n (lv' := [(3, .ref (q (j + 6))), (0, .ref (q 0)), (1, .int x), (2, .int y)]) hx hb dH_silence_5 rfl hl (by decide) rfl (fun ls hl => ?_)
  refine lv_aload_n hx hb dH_silence_6 rfl (lv_at hl 0 rfl) ?_
  refine va_getN (D := D) (ci := 0) (C := RV) (T := TV) (N := 13) (v := .int (g (5 + j) 6)) hx hb hts inV hown hK hP (j + 6) (ht_atV hj8) rfl 6 (by decide) (hN.use 7 rfl rfl) (fun _ h9 => h9) rfl dH_silence_7 ?_
  refine lv_iload_n hx hb dH_silence_10 rfl (lv_at hl 3 rfl) ?_
  refine lv_icmp_eq (tgt := 18) hx hb dH_silence_11 (by decide) (fun c1 => ?_) (fun c1 => ?_)
  · refine lv_iconst (v := 0) hx hb dH_silence_18 (by decide) ?_
    refine lv_istore (lv' := [(4, .int 0), (3, .ref (q (j + 6))), (0, .ref (q 0)), (1, .int x), (2, .int y)]) hx hb dH_silence_19 hl (by decide) rfl (fun ls hl => ?_)
    refine lv_aload_n hx hb dH_silence_21 rfl (lv_at hl 1 rfl) ?_
    refine lv_iload_n hx hb dH_silence_22 rfl (lv_at hl 4 rfl) ?_
    refine va_putN (D := D) (ci := 0) (C := RV) (T := TV) (N := 13) (v := .int y) (ty := .boolean) hx hb hts inV tyV tyV_ok nmV hown hK hP (mw_DA hJ) hS (j + 6) (ht_atV hj8) rfl 6 (by decide) (hN.use 7 rfl rfl) (fun _ h9 => h9) rfl rfl (ht_n01 hy) (ht_f01 hy) (Nat.le_of_ble_eq_true rfl) dH_silence_23 (fun H locs hP _ hS => ?_)
    rw [ht_stV hj8 (by decide)] at hP
    obtain ⟨g2, eg2⟩ : ∃ y9 : ht_G, y9 = ht_up g (5 + j) 6 y := ⟨_, rfl⟩
    rw [← eg2] at hP
    refine lv_iload hx hb dH_silence_26 (lv_at hl 0 rfl) ?_
    refine lv_if_eq (tgt := 35) hx hb dH_silence_28 (by decide) (fun c3 => ?_) (fun c3 => ?_)
    · refine lv_iconst (v := 0) hx hb dH_silence_35 (by decide) ?_
      have hG : g2 = (ht_oSilence g k x y).2.2 := by subst eg2; simp [ht_oSilence, hT, hxc, c1]
      have hC : (ht_oSilence g k x y).1 = 0 := by simp [ht_oSilence, hT, hxc, c1]
      have hV : 0 = (ht_oSilence g k x y).2.1 := by subst eg2; simp [ht_oSilence, hT, hxc, c1, ht_up]
      rw [hG] at hP
      exact vx_ret (W.widen (k := 2) (n := 12) (Nat.le_of_ble_eq_true rfl) (Nat.le_of_ble_eq_true rfl) (W.iret (v := 0) hx hb hr (fun t ht hW => ⟨⟨0, (), rfl, ⟨hC, hV⟩, by show va_P D ht_cl (ht_w cA q (ht_oSilence g k x y).2.2) t.heap; rw [ht]; exact hP⟩, hS.F ht⟩) hS.2.2 dH_silence_36))
    · exact absurd c3 (by decide)
  · refine lv_iconst (v := 1) hx hb dH_silence_14 (by decide) ?_
    refine lv_goto (tgt := 19) hx hb dH_silence_15 (by decide) ?_
    refine lv_istore (lv' := [(4, .int 1), (3, .ref (q (j + 6))), (0, .ref (q 0)), (1, .int x), (2, .int y)]) hx hb dH_silence_19 hl (by decide) rfl (fun ls hl => ?_)
    refine lv_aload_n hx hb dH_silence_21 rfl (lv_at hl 1 rfl) ?_
    refine lv_iload_n hx hb dH_silence_22 rfl (lv_at hl 4 rfl) ?_
    refine va_putN (D := D) (ci := 0) (C := RV) (T := TV) (N := 13) (v := .int y) (ty := .boolean) hx hb hts inV tyV tyV_ok nmV hown hK hP (mw_DA hJ) hS (j + 6) (ht_atV hj8) rfl 6 (by decide) (hN.use 7 rfl rfl) (fun _ h9 => h9) rfl rfl (ht_n01 hy) (ht_f01 hy) (Nat.le_of_ble_eq_true rfl) dH_silence_23 (fun H locs hP _ hS => ?_)
    rw [ht_stV hj8 (by decide)] at hP
    obtain ⟨g4, eg4⟩ : ∃ y9 : ht_G, y9 = ht_up g (5 + j) 6 y := ⟨_, rfl⟩
    rw [← eg4] at hP
    refine lv_iload hx hb dH_silence_26 (lv_at hl 0 rfl) ?_
    refine lv_if_eq (tgt := 35) hx hb dH_silence_28 (by decide) (fun c5 => ?_) (fun c5 => ?_)
    · exact absurd c5 (by decide)
    · refine lv_iconst (v := 1) hx hb dH_silence_31 (by decide) ?_
      refine lv_goto (tgt := 36) hx hb dH_silence_32 (by decide) ?_
      have hG : g4 = (ht_oSilence g k x y).2.2 := by subst eg4; simp [ht_oSilence, hT, hxc, c1]
      have hC : (ht_oSilence g k x y).1 = 0 := by simp [ht_oSilence, hT, hxc, c1]
      have hV : 1 = (ht_oSilence g k x y).2.1 := by subst eg4; simp [ht_oSilence, hT, hxc, c1, ht_up]
      rw [hG] at hP
      exact vx_ret (W.widen (k := 2) (n := 12) (Nat.le_of_ble_eq_true rfl) (Nat.le_of_ble_eq_true rfl) (W.iret (v := 1) hx hb hr (fun t ht hW => ⟨⟨1, (), rfl, ⟨hC, hV⟩, by show va_P D ht_cl (ht_w cA q (ht_oSilence g k x y).2.2) t.heap; rw [ht]; exact hP⟩, hS.F ht⟩) hS.2.2 dH_silence_36))
set_option maxHeartbeats 4000000 in
set_option maxRecDepth 100000 in
theorem xH_relent (l : Launch) (hl0 : l.stackTraces = false) (D : va_G) (cA : ClassId × ClassId) (q : Nat → Nat) (hJ : mw_J 14 q) (sz : Nat) (g : ht_G) (k : Nat) (hk : k ≤ 8) (hn : g 0 0 = nI k) (x : Int32) : vx_Met l yH_relent kH_relent ({ frames := 7, cells := 2, slots := 12, locals := 103 }) (va_Pc [.ref (q 0), .int x] (ht_E D cA q g sz)) (va_Qi (fun r (_ : Unit) => (ht_oRelent g k x).1 = 0 ∧ r = (ht_oRelent g k x).2.1) (fun _ t => va_P D ht_cl (ht_w cA q (ht_oRelent g k x).2.2) t.heap) (mw_A 14 q sz)) (vx_X (fun _ : Unit => True) (fun E _ t => va_P D ht_cl (ht_w cA q g) t.heap ∧ ((ht_oRelent g k x).1, E) ∈ [((1 : Int32), EN), ((2 : Int32), ES)]) (mw_A 14 q sz)) 2 12 (mw_A 14 q sz) := by
  refine vx_ofW (cc := cH_relent) (maxL := 4) (ret := (some .int)) (by decide) rfl ?_
  intro p e s m args below meth c s₁ B hml htab hv
  obtain ⟨rfl, hsz, ⟨hP, hK, hN⟩, hX, hR, hZ⟩ := hv
  have hx := B.exec
  have hb := B.bytes
  have hr := B.returns
  have hts := fun w h => atoms_spec (ws := kH_relent) B.pre w (List.mem_cons_of_mem _ h)
  have hown : s.vm.findClass RH = some m.cls := findClass_of_methodNamed B.named
  have hlocks := B.notSynchronized
  subst hsz
  have hS : va_S (mw_A 14 q s.heap.size) s.heap s.heap [] := va_S.rf
  have hl := lv_entry ([.ref (q 0), .int x]) (n := 4) (Nat.le_of_ble_eq_true rfl)
  rw [lg_entry_eq]
  generalize (lg_sl ([.ref (q 0), .int x]) ++ List.replicate (4 - (lg_sl ([.ref (q 0), .int x])).length) Slot.unset).toArray = ls at hl ⊢
  have hl : lv_has ls 4 [(0, .ref (q 0)), (1, .int x)] := hl
  refine lv_aload_n hx hb dH_relent_0 rfl (lv_at hl 0 rfl) ?_
  refine lv_iload_n hx hb dH_relent_1 rfl (lv_at hl 1 rfl) ?_
  refine hx_callr (vx_runV (As := [.int x]) (rest := []) ⟨hx, hb, hml, hown, hts⟩ (xH_existingTrain l hl0 D cA q hJ _ g k hk hn x) (cwV 1 hts (ht_gV w287 w289 s21 w1 w290) rfl rfl rfl (by decide +kernel) ⟨Nat.le_of_ble_eq_true rfl, Nat.le_of_ble_eq_true rfl⟩) ⟨ht_ble, va_recv hK hP (ci := 1) (q0 := 0) rfl ht_atO, fun U hU hW => ⟨rfl, ht_Em hP hK hN hX hR hZ hS hU hW⟩⟩ rfl rfl hl.1 rfl (lv_room (Nat.le_of_ble_eq_true rfl)) dH_relent_2 ⟨Nat.le_of_ble_eq_true rfl, Nat.le_of_ble_eq_true rfl⟩) hS mw_AA (mw_AF hS.1) mw_AA (fun E ce q9 u t H locs ht hvm hpx hBX hz hk9 hS hce hcv hcl => ?_) (fun j b t H locs ht hvm hw hB hz hk9 hS => ?_)
  · exact vx_out (fun x hx => (htab x hx).elim) hlocks hce hcv hcl (fun t9 ht9 ha9 => ⟨(), trivial, ⟨by rw [ht9, ← ht]; exact hBX.1, by rw [hBX.2.2, show (ht_oRelent g k x).1 = 1 by simp [ht_oRelent, hBX.2.1]]; exact List.mem_of_getElem? (i := 0) rfl⟩, hS.F ht9⟩) hS.2.2 (Nat.le_of_ble_eq_true rfl) (Nat.le_of_ble_eq_true rfl)
  obtain ⟨rfl, hP⟩ := hB
  rw [ht] at hP
  obtain ⟨hT, hjk, hxj, hxc⟩ := hw
  have hj8 : j < 8 := Nat.lt_of_lt_of_le hjk hk
  refine lv_astore_n (lv' := [(2, .ref (q (j + 6))), (0, .ref (q 0)), (1, .int x)]) hx hb dH_relent_5 rfl hl (by decide) rfl (fun ls hl => ?_)
  refine lv_aload_n hx hb dH_relent_6 rfl (lv_at hl 0 rfl) ?_
  refine va_getN (D := D) (ci := 0) (C := RV) (T := TV) (N := 13) (v := .int (g (5 + j) 6)) hx hb hts inV hown hK hP (j + 6) (ht_atV hj8) rfl 6 (by decide) (hN.use 7 rfl rfl) (fun _ h9 => h9) rfl dH_relent_7 ?_
  refine lv_if_eq (tgt := 23) hx hb dH_relent_10 (by decide) (fun c1 => ?_) (fun c1 => ?_)
  · refine lv_aload_n hx hb dH_relent_23 rfl (lv_at hl 0 rfl) ?_
    refine va_getN (D := D) (ci := 0) (C := RV) (T := TV) (N := 13) (v := .int (g (5 + j) 5)) hx hb hts inV hown hK hP (j + 6) (ht_atV hj8) rfl 5 (by decide) (hN.use 6 rfl rfl) (fun _ h9 => h9) rfl dH_relent_24 ?_
    refine lv_aload_n hx hb dH_relent_27 rfl (lv_at hl 0 rfl) ?_
    refine va_getN (D := D) (ci := 0) (C := RV) (T := TV) (N := 13) (v := .int (g (5 + j) 2)) hx hb hts inV hown hK hP (j + 6) (ht_atV hj8) rfl 2 (by decide) (hN.use 3 rfl rfl) (fun _ h9 => h9) rfl dH_relent_28 ?_
    refine lv_isub hx hb dH_relent_31 ?_
    refine lv_istore_n (lv' := [(3, .int ((g (5 + j) 5) - (g (5 + j) 2))), (2, .ref (q (j + 6))), (0, .ref (q 0)), (1, .int x)]) hx hb dH_relent_32 rfl hl (by decide) rfl (fun ls hl => ?_)
    refine lv_aload_n hx hb dH_relent_33 rfl (lv_at hl 1 rfl) ?_
    refine lv_aload_n hx hb dH_relent_34 rfl (lv_at hl 1 rfl) ?_
    refine va_getN (D := D) (ci := 0) (C := RV) (T := TV) (N := 13) (v := .int (g (5 + j) 2)) hx hb hts inV hown hK hP (j + 6) (ht_atV hj8) rfl 2 (by decide) (hN.use 3 rfl rfl) (fun _ h9 => h9) rfl dH_relent_35 ?_
    refine va_putN (D := D) (ci := 0) (C := RV) (T := TV) (N := 13) (v := .int (g (5 + j) 2)) (ty := .int) hx hb hts inV tyV tyV_ok nmV hown hK hP (mw_DA hJ) hS (j + 6) (ht_atV hj8) rfl 5 (by decide) (hN.use 6 rfl rfl) (fun _ h9 => h9) rfl rfl rfl rfl (Nat.le_of_ble_eq_true rfl) dH_relent_38 (fun H locs hP _ hS => ?_)
    rw [ht_stV hj8 (by decide)] at hP
    obtain ⟨g2, eg2⟩ : ∃ y9 : ht_G, y9 = ht_up g (5 + j) 5 (g (5 + j) 2) := ⟨_, rfl⟩
    rw [← eg2] at hP
    refine lv_iload_n hx hb dH_relent_41 rfl (lv_at hl 0 rfl) ?_
    have hG : g2 = (ht_oRelent g k x).2.2 := by subst eg2; simp [ht_oRelent, hT, hxc, c1]
    have hC : (ht_oRelent g k x).1 = 0 := by simp [ht_oRelent, hT, hxc, c1]
    have hV : (g (5 + j) 5) - (g (5 + j) 2) = (ht_oRelent g k x).2.1 := by subst eg2; simp [ht_oRelent, hT, hxc, c1, ht_up]
    rw [hG] at hP
    exact vx_ret (W.widen (k := 2) (n := 12) (Nat.le_of_ble_eq_true rfl) (Nat.le_of_ble_eq_true rfl) (W.iret (v := (g (5 + j) 5) - (g (5 + j) 2)) hx hb hr (fun t ht hW => ⟨⟨(g (5 + j) 5) - (g (5 + j) 2), (), rfl, ⟨hC, hV⟩, by show va_P D ht_cl (ht_w cA q (ht_oRelent g k x).2.2) t.heap; rw [ht]; exact hP⟩, hS.F ht⟩) hS.2.2 dH_relent_42))
  · obtain ⟨sa, hsa⟩ := hR _ (List.mem_of_getElem? (i := 8) rfl)
    exact vx_throwS (names := ht_nm) (A := mw_A 14 q s.heap.size) hx hb hl0 hown (by decide) (by decide) (hts _ w177) (hts _ w8) hsa (vx_hat (fun w h => hts w (xg_S w h)) xb_S (fun w h => va_Nw.use (ht_X.on h) (hX w h))) xo_S hZ.1 hZ.2 hS (by rw [hml]; exact hl.1) dH_relent_13 dH_relent_16 dH_relent_17 dH_relent_19 dH_relent_22 (fun x hx => (htab x hx).elim) (Nat.le_of_ble_eq_true rfl) (Nat.le_of_ble_eq_true rfl) (Nat.le_of_ble_eq_true rfl) (Nat.le_of_ble_eq_true rfl) hlocks (fun t ha hz9 hk9 => ⟨(), trivial, ⟨ht_Px hP hk9, by rw [show (ht_oRelent g k x).1 = 2 by simp [ht_oRelent, hT, hxc, c1]]; exact List.mem_of_getElem? (i := 1) rfl⟩, ht_Fx hS hz9 hk9⟩) hS.2.2 (Nat.le_of_ble_eq_true rfl) (Nat.le_of_ble_eq_true rfl)
set_option maxHeartbeats 4000000 in
set_option maxRecDepth 100000 in
theorem xH_confirm (l : Launch) (hl0 : l.stackTraces = false) (D : va_G) (cA : ClassId × ClassId) (q : Nat → Nat) (hJ : mw_J 14 q) (sz : Nat) (g : ht_G) (k : Nat) (hk : k ≤ 8) (hn : g 0 0 = nI k) (x : Int32) : vx_Met l yH_confirm kH_confirm ({ frames := 7, cells := 2, slots := 12, locals := 103 }) (va_Pc [.ref (q 0), .int x] (ht_E D cA q g sz)) (va_Qi (fun r (_ : Unit) => (ht_oConfirm g k x).1 = 0 ∧ r = (ht_oConfirm g k x).2.1) (fun _ t => va_P D ht_cl (ht_w cA q (ht_oConfirm g k x).2.2) t.heap) (mw_A 14 q sz)) (vx_X (fun _ : Unit => True) (fun E _ t => va_P D ht_cl (ht_w cA q g) t.heap ∧ ((ht_oConfirm g k x).1, E) ∈ [((1 : Int32), EN), ((2 : Int32), ES)]) (mw_A 14 q sz)) 2 12 (mw_A 14 q sz) := by
  refine vx_ofW (cc := cH_confirm) (maxL := 3) (ret := (some .int)) (by decide) rfl ?_
  intro p e s m args below meth c s₁ B hml htab hv
  obtain ⟨rfl, hsz, ⟨hP, hK, hN⟩, hX, hR, hZ⟩ := hv
  have hx := B.exec
  have hb := B.bytes
  have hr := B.returns
  have hts := fun w h => atoms_spec (ws := kH_confirm) B.pre w (List.mem_cons_of_mem _ h)
  have hown : s.vm.findClass RH = some m.cls := findClass_of_methodNamed B.named
  have hlocks := B.notSynchronized
  subst hsz
  have hS : va_S (mw_A 14 q s.heap.size) s.heap s.heap [] := va_S.rf
  have hl := lv_entry ([.ref (q 0), .int x]) (n := 3) (Nat.le_of_ble_eq_true rfl)
  rw [lg_entry_eq]
  generalize (lg_sl ([.ref (q 0), .int x]) ++ List.replicate (3 - (lg_sl ([.ref (q 0), .int x])).length) Slot.unset).toArray = ls at hl ⊢
  have hl : lv_has ls 3 [(0, .ref (q 0)), (1, .int x)] := hl
  refine lv_aload_n hx hb dH_confirm_0 rfl (lv_at hl 0 rfl) ?_
  refine lv_iload_n hx hb dH_confirm_1 rfl (lv_at hl 1 rfl) ?_
  refine hx_callr (vx_runV (As := [.int x]) (rest := []) ⟨hx, hb, hml, hown, hts⟩ (xH_existingTrain l hl0 D cA q hJ _ g k hk hn x) (cwV 1 hts (ht_gV w287 w289 s21 w1 w290) rfl rfl rfl (by decide +kernel) ⟨Nat.le_of_ble_eq_true rfl, Nat.le_of_ble_eq_true rfl⟩) ⟨ht_ble, va_recv hK hP (ci := 1) (q0 := 0) rfl ht_atO, fun U hU hW => ⟨rfl, ht_Em hP hK hN hX hR hZ hS hU hW⟩⟩ rfl rfl hl.1 rfl (lv_room (Nat.le_of_ble_eq_true rfl)) dH_confirm_2 ⟨Nat.le_of_ble_eq_true rfl, Nat.le_of_ble_eq_true rfl⟩) hS mw_AA (mw_AF hS.1) mw_AA (fun E ce q9 u t H locs ht hvm hpx hBX hz hk9 hS hce hcv hcl => ?_) (fun j b t H locs ht hvm hw hB hz hk9 hS => ?_)
  · exact vx_out (fun x hx => (htab x hx).elim) hlocks hce hcv hcl (fun t9 ht9 ha9 => ⟨(), trivial, ⟨by rw [ht9, ← ht]; exact hBX.1, by rw [hBX.2.2, show (ht_oConfirm g k x).1 = 1 by simp [ht_oConfirm, hBX.2.1]]; exact List.mem_of_getElem? (i := 0) rfl⟩, hS.F ht9⟩) hS.2.2 (Nat.le_of_ble_eq_true rfl) (Nat.le_of_ble_eq_true rfl)
  obtain ⟨rfl, hP⟩ := hB
  rw [ht] at hP
  obtain ⟨hT, hjk, hxj, hxc⟩ := hw
  have hj8 : j < 8 := Nat.lt_of_lt_of_le hjk hk
  refine lv_astore_n (lv' := [(2, .ref (q (j + 6))), (0, .ref (q 0)), (1, .int x)]) hx hb dH_confirm_5 rfl hl (by decide) rfl (fun ls hl => ?_)
  refine lv_aload_n hx hb dH_confirm_6 rfl (lv_at hl 0 rfl) ?_
  refine va_getN (D := D) (ci := 0) (C := RV) (T := TV) (N := 13) (v := .int (g (5 + j) 7)) hx hb hts inV hown hK hP (j + 6) (ht_atV hj8) rfl 7 (by decide) (hN.use 8 rfl rfl) (fun _ h9 => h9) rfl dH_confirm_7 ?_
  refine lv_if_ne (tgt := 20) hx hb dH_confirm_10 (by decide) (fun c1 => ?_) (fun c1 => ?_)
  · obtain ⟨sa, hsa⟩ := hR _ (List.mem_of_getElem? (i := 10) rfl)
    exact vx_throwS (names := ht_nm) (A := mw_A 14 q s.heap.size) hx hb hl0 hown (by decide) (by decide) (hts _ w177) (hts _ w8) hsa (vx_hat (fun w h => hts w (xg_S w h)) xb_S (fun w h => va_Nw.use (ht_X.on h) (hX w h))) xo_S hZ.1 hZ.2 hS (by rw [hml]; exact hl.1) dH_confirm_20 dH_confirm_23 dH_confirm_24 dH_confirm_26 dH_confirm_29 (fun x hx => (htab x hx).elim) (Nat.le_of_ble_eq_true rfl) (Nat.le_of_ble_eq_true rfl) (Nat.le_of_ble_eq_true rfl) (Nat.le_of_ble_eq_true rfl) hlocks (fun t ha hz9 hk9 => ⟨(), trivial, ⟨ht_Px hP hk9, by rw [show (ht_oConfirm g k x).1 = 2 by simp [ht_oConfirm, hT, hxc, c1]]; exact List.mem_of_getElem? (i := 1) rfl⟩, ht_Fx hS hz9 hk9⟩) hS.2.2 (Nat.le_of_ble_eq_true rfl) (Nat.le_of_ble_eq_true rfl)
  · refine lv_aload_n hx hb dH_confirm_13 rfl (lv_at hl 0 rfl) ?_
    refine va_getN (D := D) (ci := 0) (C := RV) (T := TV) (N := 13) (v := .int (g (5 + j) 10)) hx hb hts inV hown hK hP (j + 6) (ht_atV hj8) rfl 10 (by decide) (hN.use 11 rfl rfl) (fun _ h9 => h9) rfl dH_confirm_14 ?_
    refine lv_if_eq (tgt := 30) hx hb dH_confirm_17 (by decide) (fun c2 => ?_) (fun c2 => ?_)
    · refine lv_aload_n hx hb dH_confirm_30 rfl (lv_at hl 0 rfl) ?_
      refine lv_iconst (v := 1) hx hb dH_confirm_31 (by decide) ?_
      refine va_putN (D := D) (ci := 0) (C := RV) (T := TV) (N := 13) (v := .int 1) (ty := .boolean) hx hb hts inV tyV tyV_ok nmV hown hK hP (mw_DA hJ) hS (j + 6) (ht_atV hj8) rfl 7 (by decide) (hN.use 8 rfl rfl) (fun _ h9 => h9) rfl rfl rfl rfl (Nat.le_of_ble_eq_true rfl) dH_confirm_32 (fun H locs hP _ hS => ?_)
      rw [ht_stV hj8 (by decide)] at hP
      obtain ⟨g3, eg3⟩ : ∃ y9 : ht_G, y9 = ht_up g (5 + j) 7 1 := ⟨_, rfl⟩
      rw [← eg3] at hP
      refine lv_aload_n hx hb dH_confirm_35 rfl (lv_at hl 0 rfl) ?_
      refine va_getN (D := D) (ci := 0) (C := RV) (T := TV) (N := 13) (v := .int (g3 (5 + j) 3)) hx hb hts inV hown hK hP (j + 6) (ht_atV hj8) rfl 3 (by decide) (hN.use 4 rfl rfl) (fun _ h9 => h9) rfl dH_confirm_36 ?_
      have hG : g3 = (ht_oConfirm g k x).2.2 := by subst eg3; simp [ht_oConfirm, hT, hxc, c1, c2]
      have hC : (ht_oConfirm g k x).1 = 0 := by simp [ht_oConfirm, hT, hxc, c1, c2]
      have hV : g3 (5 + j) 3 = (ht_oConfirm g k x).2.1 := by subst eg3; simp [ht_oConfirm, hT, hxc, c1, c2, ht_up]
      rw [hG] at hP
      exact vx_ret (W.widen (k := 2) (n := 12) (Nat.le_of_ble_eq_true rfl) (Nat.le_of_ble_eq_true rfl) (W.iret (v := g3 (5 + j) 3) hx hb hr (fun t ht hW => ⟨⟨g3 (5 + j) 3, (), rfl, ⟨hC, hV⟩, by show va_P D ht_cl (ht_w cA q (ht_oConfirm g k x).2.2) t.heap; rw [ht]; exact hP⟩, hS.F ht⟩) hS.2.2 dH_confirm_39))
    · obtain ⟨sa, hsa⟩ := hR _ (List.mem_of_getElem? (i := 10) rfl)
      exact vx_throwS (names := ht_nm) (A := mw_A 14 q s.heap.size) hx hb hl0 hown (by decide) (by decide) (hts _ w177) (hts _ w8) hsa (vx_hat (fun w h => hts w (xg_S w h)) xb_S (fun w h => va_Nw.use (ht_X.on h) (hX w h))) xo_S hZ.1 hZ.2 hS (by rw [hml]; exact hl.1) dH_confirm_20 dH_confirm_23 dH_confirm_24 dH_confirm_26 dH_confirm_29 (fun x hx => (htab x hx).elim) (Nat.le_of_ble_eq_true rfl) (Nat.le_of_ble_eq_true rfl) (Nat.le_of_ble_eq_true rfl) (Nat.le_of_ble_eq_true rfl) hlocks (fun t ha hz9 hk9 => ⟨(), trivial, ⟨ht_Px hP hk9, by rw [show (ht_oConfirm g k x).1 = 2 by simp [ht_oConfirm, hT, hxc, c1, c2]]; exact List.mem_of_getElem? (i := 1) rfl⟩, ht_Fx hS hz9 hk9⟩) hS.2.2 (Nat.le_of_ble_eq_true rfl) (Nat.le_of_ble_eq_true rfl)
set_option maxHeartbeats 4000000 in
set_option maxRecDepth 100000 in
theorem xH_clear (l : Launch) (hl0 : l.stackTraces = false) (D : va_G) (cA : ClassId × ClassId) (q : Nat → Nat) (hJ : mw_J 14 q) (sz : Nat) (g : ht_G) (k : Nat) (hk : k ≤ 8) (hn : g 0 0 = nI k) (x : Int32) : vx_Met l yH_clear kH_clear ({ frames := 6, cells := 1, slots := 6, locals := 82 }) (va_Pc [.ref (q 0), .int x] (ht_E D cA q g sz)) (va_Qi (fun r (_ : Unit) => (ht_oClear g k x).1 = 0 ∧ r = (ht_oClear g k x).2.1) (fun _ t => va_P D ht_cl (ht_w cA q (ht_oClear g k x).2.2) t.heap) (mw_A 14 q sz)) (vx_X (fun _ : Unit => True) (fun E _ t => va_P D ht_cl (ht_w cA q g) t.heap ∧ ((ht_oClear g k x).1, E) ∈ [((1 : Int32), EN)]) (mw_A 14 q sz)) 1 6 (mw_A 14 q sz) := by
  refine vx_ofW (cc := cH_clear) (maxL := 2) (ret := (some .int)) (by decide) rfl ?_
  intro p e s m args below meth c s₁ B hml htab hv
  obtain ⟨rfl, hsz, ⟨hP, hK, hN⟩, hX, hR, hZ⟩ := hv
  have hx := B.exec
  have hb := B.bytes
  have hr := B.returns
  have hts := fun w h => atoms_spec (ws := kH_clear) B.pre w (List.mem_cons_of_mem _ h)
  have hown : s.vm.findClass RH = some m.cls := findClass_of_methodNamed B.named
  have hlocks := B.notSynchronized
  subst hsz
  have hS : va_S (mw_A 14 q s.heap.size) s.heap s.heap [] := va_S.rf
  have hl := lv_entry ([.ref (q 0), .int x]) (n := 2) (Nat.le_of_ble_eq_true rfl)
  rw [lg_entry_eq]
  generalize (lg_sl ([.ref (q 0), .int x]) ++ List.replicate (2 - (lg_sl ([.ref (q 0), .int x])).length) Slot.unset).toArray = ls at hl ⊢
  have hl : lv_has ls 2 [(0, .ref (q 0)), (1, .int x)] := hl
  refine lv_aload_n hx hb dH_clear_0 rfl (lv_at hl 0 rfl) ?_
  refine lv_iload_n hx hb dH_clear_1 rfl (lv_at hl 1 rfl) ?_
  refine vp_callSi (va_Run.run (va_runV (As := [.int x]) (rest := []) ⟨hx, hb, hml, hown, hts⟩ (xH_isOnTrack l D cA q g k hk hn x) (cwV 1 hts (ht_gV w291 w293 s22 w1 w294) rfl rfl rfl (by decide +kernel) ⟨Nat.le_of_ble_eq_true rfl, Nat.le_of_ble_eq_true rfl⟩) ⟨ht_bl, va_recv hK hP (ci := 1) (q0 := 0) rfl ht_atO, fun U hU hW => ⟨rfl, ht_Im hP hK hN hU hW⟩⟩ rfl rfl hl.1 rfl (lv_room (Nat.le_of_ble_eq_true rfl)) dH_clear_2 ⟨Nat.le_of_ble_eq_true rfl, Nat.le_of_ble_eq_true rfl⟩)) (fun r1 hr1 => ?_)
  subst hr1
  refine lv_if_eq (tgt := 20) hx hb dH_clear_5 (by decide) (fun c2 => ?_) (fun c2 => ?_)
  · replace c2 := ht_b0.mp c2
    obtain ⟨sa, hsa⟩ := hR _ (List.mem_of_getElem? (i := 11) rfl)
    exact hx_throwS (Y := "java/lang/RuntimeException") (r := ["java/lang/Exception"]) (A := mw_A 14 q s.heap.size) hx hb hl0 hown (by decide) (by decide) (by decide) (hts _ w295) (hts _ w9) hsa (vx_hat (fun w h => hts w (xg_N w h)) xb_N (fun w h => va_Nw.use (ht_X.on h) (hX w h))) xo_N hZ.1 hZ.2 hS (by rw [hml]; exact hl.1) dH_clear_20 dH_clear_23 dH_clear_24 dH_clear_26 dH_clear_29 (fun x hx => (htab x hx).elim) (Nat.le_of_ble_eq_true rfl) (Nat.le_of_ble_eq_true rfl) (Nat.le_of_ble_eq_true rfl) (Nat.le_of_ble_eq_true rfl) hlocks (fun t ha hz9 hk9 => ⟨(), trivial, ⟨ht_Px hP hk9, by rw [show (ht_oClear g k x).1 = 1 by simp [ht_oClear, c2]]; exact List.mem_of_getElem? (i := 0) rfl⟩, ht_Fx hS hz9 hk9⟩) hS.2.2 (Nat.le_of_ble_eq_true rfl) (Nat.le_of_ble_eq_true rfl)
  · replace c2 := ht_b1.mp c2
    obtain ⟨hjk, hxj, -, -⟩ := ht_on_is hk c2
    obtain ⟨j, hxc⟩ : ∃ j, x.toNatClampNeg = j := ⟨_, rfl⟩
    rw [hxc] at hjk hxj
    have hj8 : j < 8 := Nat.lt_of_lt_of_le hjk hk
    refine lv_aload_n hx hb dH_clear_8 rfl (lv_at hl 0 rfl) ?_
    refine va_get (D := D) (ci := 1) (C := RH) (T := TH) (N := 7) (v := .ref (q 1)) hx hb hts inH hown hK hP 0 ht_atO rfl 0 (by decide) (hts _ w77) (fun _ h9 => h9) rfl dH_clear_9 ?_
    refine lv_iload_n hx hb dH_clear_12 rfl (lv_at hl 1 rfl) ?_
    refine ht_ldV hx hb hK hP (j := j) hj8 hxj dH_clear_13 ?_
    refine va_getN (D := D) (ci := 0) (C := RV) (T := TV) (N := 13) (v := .int (g (5 + j) 0)) hx hb hts inV hown hK hP (j + 6) (ht_atV hj8) rfl 0 (by decide) (hN.use 1 rfl rfl) (fun _ h9 => h9) rfl dH_clear_14 ?_
    refine lv_if_eq (tgt := 30) hx hb dH_clear_17 (by decide) (fun c3 => ?_) (fun c3 => ?_)
    · refine lv_aload_n hx hb dH_clear_30 rfl (lv_at hl 0 rfl) ?_
      refine va_get (D := D) (ci := 1) (C := RH) (T := TH) (N := 7) (v := .ref (q 1)) hx hb hts inH hown hK hP 0 ht_atO rfl 0 (by decide) (hts _ w77) (fun _ h9 => h9) rfl dH_clear_31 ?_
      refine lv_iload_n hx hb dH_clear_34 rfl (lv_at hl 1 rfl) ?_
      refine ht_ldV hx hb hK hP (j := j) hj8 hxj dH_clear_35 ?_
      refine lv_iconst (v := 0) hx hb dH_clear_36 (by decide) ?_
      refine va_putN (D := D) (ci := 0) (C := RV) (T := TV) (N := 13) (v := .int 0) (ty := .boolean) hx hb hts inV tyV tyV_ok nmV hown hK hP (mw_DA hJ) hS (j + 6) (ht_atV hj8) rfl 1 (by decide) (hN.use 2 rfl rfl) (fun _ h9 => h9) rfl rfl rfl rfl (Nat.le_of_ble_eq_true rfl) dH_clear_37 (fun H locs hP _ hS => ?_)
      rw [ht_stV hj8 (by decide)] at hP
      obtain ⟨g4, eg4⟩ : ∃ y9 : ht_G, y9 = ht_up g (5 + j) 1 0 := ⟨_, rfl⟩
      rw [← eg4] at hP
      refine lv_aload_n hx hb dH_clear_40 rfl (lv_at hl 0 rfl) ?_
      refine va_get (D := D) (ci := 1) (C := RH) (T := TH) (N := 7) (v := .ref (q 1)) hx hb hts inH hown hK hP 0 ht_atO rfl 0 (by decide) (hts _ w77) (fun _ h9 => h9) rfl dH_clear_41 ?_
      refine lv_iload_n hx hb dH_clear_44 rfl (lv_at hl 1 rfl) ?_
      refine ht_ldV hx hb hK hP (j := j) hj8 hxj dH_clear_45 ?_
      refine va_getN (D := D) (ci := 0) (C := RV) (T := TV) (N := 13) (v := .int (g4 (5 + j) 3)) hx hb hts inV hown hK hP (j + 6) (ht_atV hj8) rfl 3 (by decide) (hN.use 4 rfl rfl) (fun _ h9 => h9) rfl dH_clear_46 ?_
      have hG : g4 = (ht_oClear g k x).2.2 := by subst eg4; simp [ht_oClear, c2, hxc, c3]
      have hC : (ht_oClear g k x).1 = 0 := by simp [ht_oClear, c2, hxc, c3]
      have hV : g4 (5 + j) 3 = (ht_oClear g k x).2.1 := by subst eg4; simp [ht_oClear, c2, hxc, c3, ht_up]
      rw [hG] at hP
      exact vx_ret (W.widen (k := 1) (n := 6) (Nat.le_of_ble_eq_true rfl) (Nat.le_of_ble_eq_true rfl) (W.iret (v := g4 (5 + j) 3) hx hb hr (fun t ht hW => ⟨⟨g4 (5 + j) 3, (), rfl, ⟨hC, hV⟩, by show va_P D ht_cl (ht_w cA q (ht_oClear g k x).2.2) t.heap; rw [ht]; exact hP⟩, hS.F ht⟩) hS.2.2 dH_clear_49))
    · obtain ⟨sa, hsa⟩ := hR _ (List.mem_of_getElem? (i := 11) rfl)
      exact hx_throwS (Y := "java/lang/RuntimeException") (r := ["java/lang/Exception"]) (A := mw_A 14 q s.heap.size) hx hb hl0 hown (by decide) (by decide) (by decide) (hts _ w295) (hts _ w9) hsa (vx_hat (fun w h => hts w (xg_N w h)) xb_N (fun w h => va_Nw.use (ht_X.on h) (hX w h))) xo_N hZ.1 hZ.2 hS (by rw [hml]; exact hl.1) dH_clear_20 dH_clear_23 dH_clear_24 dH_clear_26 dH_clear_29 (fun x hx => (htab x hx).elim) (Nat.le_of_ble_eq_true rfl) (Nat.le_of_ble_eq_true rfl) (Nat.le_of_ble_eq_true rfl) (Nat.le_of_ble_eq_true rfl) hlocks (fun t ha hz9 hk9 => ⟨(), trivial, ⟨ht_Px hP hk9, by rw [show (ht_oClear g k x).1 = 1 by simp [ht_oClear, c2, hxc, c3]]; exact List.mem_of_getElem? (i := 0) rfl⟩, ht_Fx hS hz9 hk9⟩) hS.2.2 (Nat.le_of_ble_eq_true rfl) (Nat.le_of_ble_eq_true rfl)
set_option maxHeartbeats 4000000 in
set_option maxRecDepth 100000 in
theorem xH_state (l : Launch) (hl0 : l.stackTraces = false) (D : va_G) (cA : ClassId × ClassId) (q : Nat → Nat) (hJ : mw_J 14 q) (sz : Nat) (g : ht_G) (k : Nat) (hk : k ≤ 8) (hn : g 0 0 = nI k) (x : Int32) : vx_Met l yH_state kH_state ({ frames := 6, cells := 1, slots := 6, locals := 82 }) (va_Pc [.ref (q 0), .int x] (ht_E D cA q g sz)) (va_Qi (fun r (_ : Unit) => (ht_oState g x).1 = 0 ∧ r = (ht_oState g x).2.1) (fun _ t => va_P D ht_cl (ht_w cA q (ht_oState g x).2.2) t.heap) (mw_A 14 q sz)) (vx_X (fun _ : Unit => True) (fun E _ t => va_P D ht_cl (ht_w cA q g) t.heap ∧ ((ht_oState g x).1, E) ∈ [((1 : Int32), EA)]) (mw_A 14 q sz)) 1 6 (mw_A 14 q sz) := by
  refine vx_ofW (cc := cH_state) (maxL := 2) (ret := (some .int)) (by decide) rfl ?_
  intro p e s m args below meth c s₁ B hml htab hv
  obtain ⟨rfl, hsz, ⟨hP, hK, hN⟩, hX, hR, hZ⟩ := hv
  have hx := B.exec
  have hb := B.bytes
  have hr := B.returns
  have hts := fun w h => atoms_spec (ws := kH_state) B.pre w (List.mem_cons_of_mem _ h)
  have hown : s.vm.findClass RH = some m.cls := findClass_of_methodNamed B.named
  have hlocks := B.notSynchronized
  subst hsz
  have hS : va_S (mw_A 14 q s.heap.size) s.heap s.heap [] := va_S.rf
  have hl := lv_entry ([.ref (q 0), .int x]) (n := 2) (Nat.le_of_ble_eq_true rfl)
  rw [lg_entry_eq]
  generalize (lg_sl ([.ref (q 0), .int x]) ++ List.replicate (2 - (lg_sl ([.ref (q 0), .int x])).length) Slot.unset).toArray = ls at hl ⊢
  have hl : lv_has ls 2 [(0, .ref (q 0)), (1, .int x)] := hl
  refine lv_iload_n hx hb dH_state_0 rfl (lv_at hl 1 rfl) ?_
  refine lv_if_lt (tgt := 10) hx hb dH_state_1 (by decide) (fun c1 => ?_) (fun c1 => ?_)
  · obtain ⟨sa, hsa⟩ := hR _ (List.mem_of_getElem? (i := 13) rfl)
    exact vx_throwS (names := ht_nm) (A := mw_A 14 q s.heap.size) hx hb hl0 hown (by decide) (by decide) (hts _ w108) (hts _ w7) hsa (vx_hat (fun w h => hts w (xg_A w h)) xb_A (fun w h => va_Nw.use (ht_X.on h) (hX w h))) xo_A hZ.1 hZ.2 hS (by rw [hml]; exact hl.1) dH_state_10 dH_state_13 dH_state_14 dH_state_16 dH_state_19 (fun x hx => (htab x hx).elim) (Nat.le_of_ble_eq_true rfl) (Nat.le_of_ble_eq_true rfl) (Nat.le_of_ble_eq_true rfl) (Nat.le_of_ble_eq_true rfl) hlocks (fun t ha hz9 hk9 => ⟨(), trivial, ⟨ht_Px hP hk9, by rw [show (ht_oState g x).1 = 1 by simp [ht_oState, c1]]; exact List.mem_of_getElem? (i := 0) rfl⟩, ht_Fx hS hz9 hk9⟩) hS.2.2 (Nat.le_of_ble_eq_true rfl) (Nat.le_of_ble_eq_true rfl)
  · refine lv_iload_n hx hb dH_state_4 rfl (lv_at hl 1 rfl) ?_
    refine lv_bipush (v := 12) hx hb dH_state_5 (by decide) ?_
    refine lv_icmp_lt (tgt := 20) hx hb dH_state_7 (by decide) (fun c2 => ?_) (fun c2 => ?_)
    · obtain ⟨j, hj12, hxj, -, hxc, -⟩ := pk_mu (L := 12) c1 (Int32.not_le.mpr c2) (by omega)
      refine lv_aload_n hx hb dH_state_20 rfl (lv_at hl 0 rfl) ?_
      refine va_get (D := D) (ci := 1) (C := RH) (T := TH) (N := 7) (v := .ref (q 2)) hx hb hts inH hown hK hP 0 ht_atO rfl 3 (by decide) (hts _ w80) (fun _ h9 => h9) rfl dH_state_21 ?_
      refine lv_iload_n hx hb dH_state_24 rfl (lv_at hl 1 rfl) ?_
      refine ht_ldI hx hb hK hP 1 (j := j) (by decide) (by decide) hj12 hxj dH_state_25 ?_
      have hG : g = (ht_oState g x).2.2 := by simp [ht_oState, c1, c2, hxc]
      have hC : (ht_oState g x).1 = 0 := by simp [ht_oState, c1, c2, hxc]
      have hV : g 1 j = (ht_oState g x).2.1 := by simp [ht_oState, c1, c2, hxc, ht_up]
      rw [hG] at hP
      exact vx_ret (W.widen (k := 1) (n := 6) (Nat.le_of_ble_eq_true rfl) (Nat.le_of_ble_eq_true rfl) (W.iret (v := g 1 j) hx hb hr (fun t ht hW => ⟨⟨g 1 j, (), rfl, ⟨hC, hV⟩, by show va_P D ht_cl (ht_w cA q (ht_oState g x).2.2) t.heap; rw [ht]; exact hP⟩, hS.F ht⟩) hS.2.2 dH_state_26))
    · obtain ⟨sa, hsa⟩ := hR _ (List.mem_of_getElem? (i := 13) rfl)
      exact vx_throwS (names := ht_nm) (A := mw_A 14 q s.heap.size) hx hb hl0 hown (by decide) (by decide) (hts _ w108) (hts _ w7) hsa (vx_hat (fun w h => hts w (xg_A w h)) xb_A (fun w h => va_Nw.use (ht_X.on h) (hX w h))) xo_A hZ.1 hZ.2 hS (by rw [hml]; exact hl.1) dH_state_10 dH_state_13 dH_state_14 dH_state_16 dH_state_19 (fun x hx => (htab x hx).elim) (Nat.le_of_ble_eq_true rfl) (Nat.le_of_ble_eq_true rfl) (Nat.le_of_ble_eq_true rfl) (Nat.le_of_ble_eq_true rfl) hlocks (fun t ha hz9 hk9 => ⟨(), trivial, ⟨ht_Px hP hk9, by rw [show (ht_oState g x).1 = 1 by simp [ht_oState, c1, c2]]; exact List.mem_of_getElem? (i := 0) rfl⟩, ht_Fx hS hz9 hk9⟩) hS.2.2 (Nat.le_of_ble_eq_true rfl) (Nat.le_of_ble_eq_true rfl)
set_option maxHeartbeats 4000000 in
set_option maxRecDepth 100000 in
theorem xH_detected (l : Launch) (hl0 : l.stackTraces = false) (D : va_G) (cA : ClassId × ClassId) (q : Nat → Nat) (hJ : mw_J 14 q) (sz : Nat) (g : ht_G) (k : Nat) (hk : k ≤ 8) (hn : g 0 0 = nI k) (x : Int32) : vx_Met l yH_detected kH_detected ({ frames := 6, cells := 1, slots := 6, locals := 87 }) (va_Pc [.ref (q 0), .int x] (ht_E D cA q g sz)) (va_Qi (fun r (_ : Unit) => (ht_oDet g k x).1 = 0 ∧ r = (ht_oDet g k x).2.1) (fun _ t => va_P D ht_cl (ht_w cA q (ht_oDet g k x).2.2) t.heap) (mw_A 14 q sz)) (vx_X (fun _ : Unit => True) (fun E _ t => va_P D ht_cl (ht_w cA q g) t.heap ∧ ((ht_oDet g k x).1, E) ∈ [((1 : Int32), EA)]) (mw_A 14 q sz)) 1 6 (mw_A 14 q sz) := by
  refine vx_ofW (cc := cH_detected) (maxL := 2) (ret := (some .int)) (by decide) rfl ?_
  intro p e s m args below meth c s₁ B hml htab hv
  obtain ⟨rfl, hsz, ⟨hP, hK, hN⟩, hX, hR, hZ⟩ := hv
  have hx := B.exec
  have hb := B.bytes
  have hr := B.returns
  have hts := fun w h => atoms_spec (ws := kH_detected) B.pre w (List.mem_cons_of_mem _ h)
  have hown : s.vm.findClass RH = some m.cls := findClass_of_methodNamed B.named
  have hlocks := B.notSynchronized
  subst hsz
  have hS : va_S (mw_A 14 q s.heap.size) s.heap s.heap [] := va_S.rf
  have hl := lv_entry ([.ref (q 0), .int x]) (n := 2) (Nat.le_of_ble_eq_true rfl)
  rw [lg_entry_eq]
  generalize (lg_sl ([.ref (q 0), .int x]) ++ List.replicate (2 - (lg_sl ([.ref (q 0), .int x])).length) Slot.unset).toArray = ls at hl ⊢
  have hl : lv_has ls 2 [(0, .ref (q 0)), (1, .int x)] := hl
  refine lv_iload_n hx hb dH_detected_0 rfl (lv_at hl 1 rfl) ?_
  refine lv_if_lt (tgt := 9) hx hb dH_detected_1 (by decide) (fun c1 => ?_) (fun c1 => ?_)
  · obtain ⟨sa, hsa⟩ := hR _ (List.mem_of_getElem? (i := 14) rfl)
    exact vx_throwS (names := ht_nm) (A := mw_A 14 q s.heap.size) hx hb hl0 hown (by decide) (by decide) (hts _ w108) (hts _ w7) hsa (vx_hat (fun w h => hts w (xg_A w h)) xb_A (fun w h => va_Nw.use (ht_X.on h) (hX w h))) xo_A hZ.1 hZ.2 hS (by rw [hml]; exact hl.1) dH_detected_9 dH_detected_12 dH_detected_13 dH_detected_15 dH_detected_18 (fun x hx => (htab x hx).elim) (Nat.le_of_ble_eq_true rfl) (Nat.le_of_ble_eq_true rfl) (Nat.le_of_ble_eq_true rfl) (Nat.le_of_ble_eq_true rfl) hlocks (fun t ha hz9 hk9 => ⟨(), trivial, ⟨ht_Px hP hk9, by rw [show (ht_oDet g k x).1 = 1 by simp [ht_oDet, c1, ht_b]]; exact List.mem_of_getElem? (i := 0) rfl⟩, ht_Fx hS hz9 hk9⟩) hS.2.2 (Nat.le_of_ble_eq_true rfl) (Nat.le_of_ble_eq_true rfl)
  · refine lv_iload_n hx hb dH_detected_4 rfl (lv_at hl 1 rfl) ?_
    refine lv_iconst (v := 4) hx hb dH_detected_5 (by decide) ?_
    refine lv_icmp_lt (tgt := 19) hx hb dH_detected_6 (by decide) (fun c2 => ?_) (fun c2 => ?_)
    · refine lv_aload_n hx hb dH_detected_19 rfl (lv_at hl 0 rfl) ?_
      refine lv_iload_n hx hb dH_detected_20 rfl (lv_at hl 1 rfl) ?_
      refine vp_callSi (va_Run.run (va_runV (As := [.int x]) (rest := []) ⟨hx, hb, hml, hown, hts⟩ (xH_isDetectedOccupied l D cA q g k hk hn x) (cwV 1 hts (ht_gV w246 w248 s13 w1 w249) rfl rfl rfl (by decide +kernel) ⟨Nat.le_of_ble_eq_true rfl, Nat.le_of_ble_eq_true rfl⟩) ⟨ht_bl, va_recv hK hP (ci := 1) (q0 := 0) rfl ht_atO, fun U hU hW => ⟨rfl, ht_Im hP hK hN hU hW⟩⟩ rfl rfl hl.1 rfl (lv_room (Nat.le_of_ble_eq_true rfl)) dH_detected_21 ⟨Nat.le_of_ble_eq_true rfl, Nat.le_of_ble_eq_true rfl⟩)) (fun r3 hr3 => ?_)
      subst hr3
      refine lv_if_eq (tgt := 31) hx hb dH_detected_24 (by decide) (fun c4 => ?_) (fun c4 => ?_)
      · replace c4 := ht_b0.mp c4
        refine lv_iconst (v := 0) hx hb dH_detected_31 (by decide) ?_
        have hG : g = (ht_oDet g k x).2.2 := by simp [ht_oDet, c1, c2, c4, ht_b]
        have hC : (ht_oDet g k x).1 = 0 := by simp [ht_oDet, c1, c2, c4, ht_b]
        have hV : 0 = (ht_oDet g k x).2.1 := by simp [ht_oDet, c1, c2, c4, ht_b, ht_up]
        rw [hG] at hP
        exact vx_ret (W.widen (k := 1) (n := 6) (Nat.le_of_ble_eq_true rfl) (Nat.le_of_ble_eq_true rfl) (W.iret (v := 0) hx hb hr (fun t ht hW => ⟨⟨0, (), rfl, ⟨hC, hV⟩, by show va_P D ht_cl (ht_w cA q (ht_oDet g k x).2.2) t.heap; rw [ht]; exact hP⟩, hS.F ht⟩) hS.2.2 dH_detected_32))
      · replace c4 := ht_b1.mp c4
        refine lv_iconst (v := 1) hx hb dH_detected_27 (by decide) ?_
        refine lv_goto (tgt := 32) hx hb dH_detected_28 (by decide) ?_
        have hG : g = (ht_oDet g k x).2.2 := by simp [ht_oDet, c1, c2, c4, ht_b]
        have hC : (ht_oDet g k x).1 = 0 := by simp [ht_oDet, c1, c2, c4, ht_b]
        have hV : 1 = (ht_oDet g k x).2.1 := by simp [ht_oDet, c1, c2, c4, ht_b, ht_up]
        rw [hG] at hP
        exact vx_ret (W.widen (k := 1) (n := 6) (Nat.le_of_ble_eq_true rfl) (Nat.le_of_ble_eq_true rfl) (W.iret (v := 1) hx hb hr (fun t ht hW => ⟨⟨1, (), rfl, ⟨hC, hV⟩, by show va_P D ht_cl (ht_w cA q (ht_oDet g k x).2.2) t.heap; rw [ht]; exact hP⟩, hS.F ht⟩) hS.2.2 dH_detected_32))
    · obtain ⟨sa, hsa⟩ := hR _ (List.mem_of_getElem? (i := 14) rfl)
      exact vx_throwS (names := ht_nm) (A := mw_A 14 q s.heap.size) hx hb hl0 hown (by decide) (by decide) (hts _ w108) (hts _ w7) hsa (vx_hat (fun w h => hts w (xg_A w h)) xb_A (fun w h => va_Nw.use (ht_X.on h) (hX w h))) xo_A hZ.1 hZ.2 hS (by rw [hml]; exact hl.1) dH_detected_9 dH_detected_12 dH_detected_13 dH_detected_15 dH_detected_18 (fun x hx => (htab x hx).elim) (Nat.le_of_ble_eq_true rfl) (Nat.le_of_ble_eq_true rfl) (Nat.le_of_ble_eq_true rfl) (Nat.le_of_ble_eq_true rfl) hlocks (fun t ha hz9 hk9 => ⟨(), trivial, ⟨ht_Px hP hk9, by rw [show (ht_oDet g k x).1 = 1 by simp [ht_oDet, c1, c2, ht_b]]; exact List.mem_of_getElem? (i := 0) rfl⟩, ht_Fx hS hz9 hk9⟩) hS.2.2 (Nat.le_of_ble_eq_true rfl) (Nat.le_of_ble_eq_true rfl)
