set_option maxHeartbeats 4000000 in
set_option maxRecDepth 100000 in
theorem xH_authorise (l : Launch) (hl0 : l.stackTraces = false) (D : va_G) (cA : ClassId × ClassId) (q : Nat → Nat) (hJ : mw_J 14 q) (sz : Nat) (g : ht_G) (k : Nat) (hk : k ≤ 8) (hn : g 0 0 = nI k) (hEn : ht_en g) (x : Int32) : vx_Met l yH_authorise kH_authorise ({ frames := 7, cells := 2, slots := 12, locals := 103 }) (va_Pc [.ref (q 0), .int x] (ht_E D cA q g sz)) (va_Qi (fun r (_ : Unit) => (ht_oAuth g k x).1 = 0 ∧ r = (ht_oAuth g k x).2.1) (fun _ t => va_P D ht_cl (ht_w cA q (ht_oAuth g k x).2.2) t.heap) (mw_A 14 q sz)) (vx_X (fun _ : Unit => True) (fun E _ t => va_P D ht_cl (ht_w cA q g) t.heap ∧ ((ht_oAuth g k x).1, E) ∈ [((1 : Int32), EN), ((2 : Int32), ES)]) (mw_A 14 q sz)) 2 12 (mw_A 14 q sz) := by
  refine vx_ofW (cc := cH_authorise) (maxL := 6) (ret := (some .int)) (by decide) rfl ?_
  intro p e s m args below meth c s₁ B hml htab hv
  obtain ⟨rfl, hsz, ⟨hP, hK, hN⟩, hX, hR, hZ⟩ := hv
  have hx := B.exec
  have hb := B.bytes
  have hr := B.returns
  have hts := fun w h => atoms_spec (ws := kH_authorise) B.pre w (List.mem_cons_of_mem _ h)
  have hown : s.vm.findClass RH = some m.cls := findClass_of_methodNamed B.named
  have hlocks := B.notSynchronized
  subst hsz
  have hS : va_S (mw_A 14 q s.heap.size) s.heap s.heap [] := va_S.rf
  have hl := lv_entry ([.ref (q 0), .int x]) (n := 6) (Nat.le_of_ble_eq_true rfl)
  rw [lg_entry_eq]
  generalize (lg_sl ([.ref (q 0), .int x]) ++ List.replicate (6 - (lg_sl ([.ref (q 0), .int x])).length) Slot.unset).toArray = ls at hl ⊢
  have hl : lv_has ls 6 [(0, .ref (q 0)), (1, .int x)] := hl
  refine lv_aload_n hx hb dH_authorise_0 rfl (lv_at hl 0 rfl) ?_
  refine lv_iload_n hx hb dH_authorise_1 rfl (lv_at hl 1 rfl) ?_
  refine hx_callr (vx_runV (As := [.int x]) (rest := []) ⟨hx, hb, hml, hown, hts⟩ (xH_existingTrain l hl0 D cA q hJ _ g k hk hn x) (cwV 1 hts (ht_gV w287 w289 s21 w1 w290) rfl rfl rfl (by decide +kernel) ⟨Nat.le_of_ble_eq_true rfl, Nat.le_of_ble_eq_true rfl⟩) ⟨ht_ble, va_recv hK hP (ci := 1) (q0 := 0) rfl ht_atO, fun U hU hW => ⟨rfl, ht_Em hP hK hN hX hR hZ hS hU hW⟩⟩ rfl rfl hl.1 rfl (lv_room (Nat.le_of_ble_eq_true rfl)) dH_authorise_2 ⟨Nat.le_of_ble_eq_true rfl, Nat.le_of_ble_eq_true rfl⟩) hS mw_AA (mw_AF hS.1) mw_AA (fun E ce q9 u t H locs ht hvm hpx hBX hz hk9 hS hce hcv hcl => ?_) (fun j b t H locs ht hvm hw hB hz hk9 hS => ?_)
  · exact vx_out (fun x hx => (htab x hx).elim) hlocks hce hcv hcl (fun t9 ht9 ha9 => ⟨(), trivial, ⟨by rw [ht9, ← ht]; exact hBX.1, by rw [hBX.2.2, show (ht_oAuth g k x).1 = 1 by simp [ht_oAuth, hBX.2.1]]; exact List.mem_of_getElem? (i := 0) rfl⟩, hS.F ht9⟩) hS.2.2 (Nat.le_of_ble_eq_true rfl) (Nat.le_of_ble_eq_true rfl)
  obtain ⟨rfl, hP⟩ := hB
  rw [ht] at hP
  obtain ⟨hT, hjk, hxj, hxc⟩ := hw
  have hj8 : j < 8 := Nat.lt_of_lt_of_le hjk hk
  refine lv_astore_n (lv' := [(2, .ref (q (j + 6))), (0, .ref (q 0)), (1, .int x)]) hx hb dH_authorise_5 rfl hl (by decide) rfl (fun ls hl => ?_)
  refine lv_aload_n hx hb dH_authorise_6 rfl (lv_at hl 0 rfl) ?_
  refine vp_callSi (va_Run.run (va_runVN (As := []) (rest := []) ⟨hx, hb, hml, hown, hts⟩ (xV_isMute l D cA q g j hj8 ) ⟨va_cnB 0 hts (ht_gW w241) rfl rfl rfl (hN _ (List.mem_of_getElem? (i := 16) rfl)) (hts _ w2) (by decide +kernel) ⟨Nat.le_of_ble_eq_true rfl, Nat.le_of_ble_eq_true rfl⟩, hts _ w240, hts _ s11⟩ ⟨ht_bl, va_recv hK hP (ci := 0) (q0 := j + 6) rfl (ht_atV hj8), fun U hU hW => ⟨rfl, ht_Im hP hK hN hU hW⟩⟩ rfl rfl hl.1 rfl (lv_room (Nat.le_of_ble_eq_true rfl)) dH_authorise_7 ⟨Nat.le_of_ble_eq_true rfl, Nat.le_of_ble_eq_true rfl⟩)) (fun r1 hr1 => ?_)
  subst hr1
  refine lv_if_ne (tgt := 20) hx hb dH_authorise_10 (by decide) (fun c2 => ?_) (fun c2 => ?_)
  · replace c2 := ht_b1.mp c2
    obtain ⟨sa, hsa⟩ := hR _ (List.mem_of_getElem? (i := 7) rfl)
    exact vx_throwS (names := ht_nm) (A := mw_A 14 q s.heap.size) hx hb hl0 hown (by decide) (by decide) (hts _ w177) (hts _ w8) hsa (vx_hat (fun w h => hts w (xg_S w h)) xb_S (fun w h => va_Nw.use (ht_X.on h) (hX w h))) xo_S hZ.1 hZ.2 hS (by rw [hml]; exact hl.1) dH_authorise_20 dH_authorise_23 dH_authorise_24 dH_authorise_26 dH_authorise_29 (fun x hx => (htab x hx).elim) (Nat.le_of_ble_eq_true rfl) (Nat.le_of_ble_eq_true rfl) (Nat.le_of_ble_eq_true rfl) (Nat.le_of_ble_eq_true rfl) hlocks (fun t ha hz9 hk9 => ⟨(), trivial, ⟨ht_Px hP hk9, by rw [show (ht_oAuth g k x).1 = 2 by simp [ht_oAuth, hT, hxc, c2]]; exact List.mem_of_getElem? (i := 1) rfl⟩, ht_Fx hS hz9 hk9⟩) hS.2.2 (Nat.le_of_ble_eq_true rfl) (Nat.le_of_ble_eq_true rfl)
  · replace c2 := ht_b0.mp c2
    refine lv_aload_n hx hb dH_authorise_13 rfl (lv_at hl 0 rfl) ?_
    refine va_getN (D := D) (ci := 0) (C := RV) (T := TV) (N := 13) (v := .int (g (5 + j) 6)) hx hb hts inV hown hK hP (j + 6) (ht_atV hj8) rfl 6 (by decide) (hN.use 7 rfl rfl) (fun _ h9 => h9) rfl dH_authorise_14 ?_
    refine lv_if_eq (tgt := 30) hx hb dH_authorise_17 (by decide) (fun c3 => ?_) (fun c3 => ?_)
    · refine lv_aload_n hx hb dH_authorise_30 rfl (lv_at hl 0 rfl) ?_
      refine va_getN (D := D) (ci := 0) (C := RV) (T := TV) (N := 13) (v := .int (g (5 + j) 5)) hx hb hts inV hown hK hP (j + 6) (ht_atV hj8) rfl 5 (by decide) (hN.use 6 rfl rfl) (fun _ h9 => h9) rfl dH_authorise_31 ?_
      refine vp_callSi (va_Run.run (va_runS (As := [.int (g (5 + j) 5)]) (rest := []) ⟨hx, hb, hml, hown, hts⟩ (xH_sectionOf l D cA q g (g (5 + j) 5)) (cwS 1 hts (ht_gS w206 w207 w1 w208) rfl rfl rfl (by decide +kernel) ⟨Nat.le_of_ble_eq_true rfl, Nat.le_of_ble_eq_true rfl⟩) ⟨ht_bl, fun U hU hW => ⟨rfl, ht_Im hP hK hN hU hW⟩⟩ rfl rfl hl.1 rfl (lv_room (Nat.le_of_ble_eq_true rfl)) dH_authorise_34 ⟨Nat.le_of_ble_eq_true rfl, Nat.le_of_ble_eq_true rfl⟩)) (fun r4 hr4 => ?_)
      subst hr4
      obtain ⟨a, ha12, hae⟩ := hEn j hj8
      have hac : (nI a).toNatClampNeg = a := nI_clamp (by omega)
      rw [hae]
      refine lv_istore_n (lv' := [(3, .int (nI a)), (2, .ref (q (j + 6))), (0, .ref (q 0)), (1, .int x)]) hx hb dH_authorise_37 rfl hl (by decide) rfl (fun ls hl => ?_)
      refine lv_aload_n hx hb dH_authorise_38 rfl (lv_at hl 2 rfl) ?_
      refine va_get (D := D) (ci := 1) (C := RH) (T := TH) (N := 7) (v := .ref (q 2)) hx hb hts inH hown hK hP 0 ht_atO rfl 3 (by decide) (hts _ w80) (fun _ h9 => h9) rfl dH_authorise_39 ?_
      refine lv_iload_n hx hb dH_authorise_42 rfl (lv_at hl 0 rfl) ?_
      refine ht_ldI hx hb hK hP 1 (j := a) (by decide) (by decide) ha12 rfl dH_authorise_43 ?_
      refine lv_if_eq (tgt := 58) hx hb dH_authorise_44 (by decide) (fun c5 => ?_) (fun c5 => ?_)
      · refine lv_iconst (v := 1) hx hb dH_authorise_58 (by decide) ?_
        refine lv_goto (tgt := 63) hx hb dH_authorise_59 (by decide) ?_
        refine lv_istore (lv' := [(4, .int 1), (3, .int (nI a)), (2, .ref (q (j + 6))), (0, .ref (q 0)), (1, .int x)]) hx hb dH_authorise_63 hl (by decide) rfl (fun ls hl => ?_)
        refine lv_iload hx hb dH_authorise_65 (lv_at hl 0 rfl) ?_
        refine lv_if_eq (tgt := 102) hx hb dH_authorise_67 (by decide) (fun c6 => ?_) (fun c6 => ?_)
        · exact absurd c6 (by decide)
        · refine lv_aload_n hx hb dH_authorise_70 rfl (lv_at hl 3 rfl) ?_
          refine lv_iload_n hx hb dH_authorise_71 rfl (lv_at hl 1 rfl) ?_
          refine lv_iload_n hx hb dH_authorise_72 rfl (lv_at hl 1 rfl) ?_
          refine lv_iload_n hx hb dH_authorise_73 rfl (lv_at hl 4 rfl) ?_
          refine vp_callSi (va_Run.run (va_runV (As := [.int (nI a), .int (nI a), .int x]) (rest := []) ⟨hx, hb, hml, hown, hts⟩ (xH_isAnyClaimed l D cA q g k hk hn (nI a) (nI a) x) (cwV 3 hts (ht_gV w209 w211 s4 w1 w212) rfl rfl rfl (by decide +kernel) ⟨Nat.le_of_ble_eq_true rfl, Nat.le_of_ble_eq_true rfl⟩) ⟨ht_bl, va_recv hK hP (ci := 1) (q0 := 0) rfl ht_atO, fun U hU hW => ⟨rfl, ht_Im hP hK hN hU hW⟩⟩ rfl rfl hl.1 rfl (lv_room (Nat.le_of_ble_eq_true rfl)) dH_authorise_74 ⟨Nat.le_of_ble_eq_true rfl, Nat.le_of_ble_eq_true rfl⟩)) (fun r7 hr7 => ?_)
          subst hr7
          refine lv_if_ne (tgt := 102) hx hb dH_authorise_77 (by decide) (fun c8 => ?_) (fun c8 => ?_)
          · replace c8 := ht_b1.mp c8
            refine lv_aload_n hx hb dH_authorise_102 rfl (lv_at hl 2 rfl) ?_
            refine va_getN (D := D) (ci := 0) (C := RV) (T := TV) (N := 13) (v := .int (g (5 + j) 5)) hx hb hts inV hown hK hP (j + 6) (ht_atV hj8) rfl 5 (by decide) (hN.use 6 rfl rfl) (fun _ h9 => h9) rfl dH_authorise_103 ?_
            have hG : g = (ht_oAuth g k x).2.2 := by simp [ht_oAuth, hT, hxc, c2, c3, hae, hac, c5, c8]
            have hC : (ht_oAuth g k x).1 = 0 := by simp [ht_oAuth, hT, hxc, c2, c3, hae, hac, c5, c8]
            have hV : g (5 + j) 5 = (ht_oAuth g k x).2.1 := by simp [ht_oAuth, hT, hxc, c2, c3, hae, hac, c5, c8, ht_up]
            rw [hG] at hP
            exact vx_ret (W.widen (k := 2) (n := 12) (Nat.le_of_ble_eq_true rfl) (Nat.le_of_ble_eq_true rfl) (W.iret (v := g (5 + j) 5) hx hb hr (fun t ht hW => ⟨⟨g (5 + j) 5, (), rfl, ⟨hC, hV⟩, by show va_P D ht_cl (ht_w cA q (ht_oAuth g k x).2.2) t.heap; rw [ht]; exact hP⟩, hS.F ht⟩) hS.2.2 dH_authorise_106))
          · replace c8 := ht_b0.mp c8
            refine lv_aload_n hx hb dH_authorise_80 rfl (lv_at hl 3 rfl) ?_
            refine lv_iload_n hx hb dH_authorise_81 rfl (lv_at hl 1 rfl) ?_
            refine lv_iload_n hx hb dH_authorise_82 rfl (lv_at hl 4 rfl) ?_
            refine vp_callSi (va_Run.run (va_runV (As := [.int (nI a), .int x]) (rest := []) ⟨hx, hb, hml, hown, hts⟩ (xH_farthestFreeFrom l D cA q g k hk hn a ha12 x) (cwV 2 hts (ht_gV w327 w329 s23 w1 w330) rfl rfl rfl (by decide +kernel) ⟨Nat.le_of_ble_eq_true rfl, Nat.le_of_ble_eq_true rfl⟩) ⟨ht_bl, va_recv hK hP (ci := 1) (q0 := 0) rfl ht_atO, fun U hU hW => ⟨rfl, ht_Im hP hK hN hU hW⟩⟩ rfl rfl hl.1 rfl (lv_room (Nat.le_of_ble_eq_true rfl)) dH_authorise_83 ⟨Nat.le_of_ble_eq_true rfl, Nat.le_of_ble_eq_true rfl⟩)) (fun r9 hr9 => ?_)
            subst hr9
            refine lv_istore (lv' := [(5, .int (nI (ht_far g k x (11 - a) a))), (4, .int 1), (3, .int (nI a)), (2, .ref (q (j + 6))), (0, .ref (q 0)), (1, .int x)]) hx hb dH_authorise_86 hl (by decide) rfl (fun ls hl => ?_)
            refine lv_aload_n hx hb dH_authorise_88 rfl (lv_at hl 3 rfl) ?_
            refine lv_iload hx hb dH_authorise_89 (lv_at hl 0 rfl) ?_
            refine lv_bipush (v := 10) hx hb dH_authorise_91 (by decide) ?_
            refine lv_imul hx hb dH_authorise_93 ?_
            refine lv_bipush (v := 10) hx hb dH_authorise_94 (by decide) ?_
            refine lv_iadd hx hb dH_authorise_96 ?_
            refine lv_iconst (v := 1) hx hb dH_authorise_97 (by decide) ?_
            refine lv_isub hx hb dH_authorise_98 ?_
            refine va_putN (D := D) (ci := 0) (C := RV) (T := TV) (N := 13) (v := .int ((((nI (ht_far g k x (11 - a) a)) * 10) + 10) - 1)) (ty := .int) hx hb hts inV tyV tyV_ok nmV hown hK hP (mw_DA hJ) hS (j + 6) (ht_atV hj8) rfl 5 (by decide) (hN.use 6 rfl rfl) (fun _ h9 => h9) rfl rfl rfl rfl (Nat.le_of_ble_eq_true rfl) dH_authorise_99 (fun H locs hP _ hS => ?_)
            rw [ht_stV hj8 (by decide)] at hP
            obtain ⟨g10, eg10⟩ : ∃ y9 : ht_G, y9 = ht_up g (5 + j) 5 ((((nI (ht_far g k x (11 - a) a)) * 10) + 10) - 1) := ⟨_, rfl⟩
            rw [← eg10] at hP
            refine lv_aload_n hx hb dH_authorise_102 rfl (lv_at hl 3 rfl) ?_
            refine va_getN (D := D) (ci := 0) (C := RV) (T := TV) (N := 13) (v := .int (g10 (5 + j) 5)) hx hb hts inV hown hK hP (j + 6) (ht_atV hj8) rfl 5 (by decide) (hN.use 6 rfl rfl) (fun _ h9 => h9) rfl dH_authorise_103 ?_
            have hG : g10 = (ht_oAuth g k x).2.2 := by subst eg10; simp [ht_oAuth, hT, hxc, c2, c3, hae, hac, c5, c8]
            have hC : (ht_oAuth g k x).1 = 0 := by simp [ht_oAuth, hT, hxc, c2, c3, hae, hac, c5, c8]
            have hV : g10 (5 + j) 5 = (ht_oAuth g k x).2.1 := by subst eg10; simp [ht_oAuth, hT, hxc, c2, c3, hae, hac, c5, c8, ht_up]
            rw [hG] at hP
            exact vx_ret (W.widen (k := 2) (n := 12) (Nat.le_of_ble_eq_true rfl) (Nat.le_of_ble_eq_true rfl) (W.iret (v := g10 (5 + j) 5) hx hb hr (fun t ht hW => ⟨⟨g10 (5 + j) 5, (), rfl, ⟨hC, hV⟩, by show va_P D ht_cl (ht_w cA q (ht_oAuth g k x).2.2) t.heap; rw [ht]; exact hP⟩, hS.F ht⟩) hS.2.2 dH_authorise_106))
      · refine lv_aload_n hx hb dH_authorise_47 rfl (lv_at hl 1 rfl) ?_
        refine va_getN (D := D) (ci := 0) (C := RV) (T := TV) (N := 13) (v := .int (g (5 + j) 9)) hx hb hts inV hown hK hP (j + 6) (ht_atV hj8) rfl 9 (by decide) (hN.use 10 rfl rfl) (fun _ h9 => h9) rfl dH_authorise_48 ?_
        refine vp_callSi (va_Run.run (va_runS (As := [.int (g (5 + j) 9)]) (rest := []) ⟨hx, hb, hml, hown, hts⟩ (xH_sectionOf l D cA q g (g (5 + j) 9)) (cwS 1 hts (ht_gS w206 w207 w1 w208) rfl rfl rfl (by decide +kernel) ⟨Nat.le_of_ble_eq_true rfl, Nat.le_of_ble_eq_true rfl⟩) ⟨ht_bl, fun U hU hW => ⟨rfl, ht_Im hP hK hN hU hW⟩⟩ rfl rfl hl.1 rfl (lv_room (Nat.le_of_ble_eq_true rfl)) dH_authorise_51 ⟨Nat.le_of_ble_eq_true rfl, Nat.le_of_ble_eq_true rfl⟩)) (fun r11 hr11 => ?_)
        subst hr11
        refine lv_iload_n hx hb dH_authorise_54 rfl (lv_at hl 0 rfl) ?_
        refine lv_icmp_ne (tgt := 62) hx hb dH_authorise_55 (by decide) (fun c12 => ?_) (fun c12 => ?_)
        · refine lv_iconst (v := 0) hx hb dH_authorise_62 (by decide) ?_
          refine lv_istore (lv' := [(4, .int 0), (3, .int (nI a)), (2, .ref (q (j + 6))), (0, .ref (q 0)), (1, .int x)]) hx hb dH_authorise_63 hl (by decide) rfl (fun ls hl => ?_)
          refine lv_iload hx hb dH_authorise_65 (lv_at hl 0 rfl) ?_
          refine lv_if_eq (tgt := 102) hx hb dH_authorise_67 (by decide) (fun c13 => ?_) (fun c13 => ?_)
          · refine lv_aload_n hx hb dH_authorise_102 rfl (lv_at hl 2 rfl) ?_
            refine va_getN (D := D) (ci := 0) (C := RV) (T := TV) (N := 13) (v := .int (g (5 + j) 5)) hx hb hts inV hown hK hP (j + 6) (ht_atV hj8) rfl 5 (by decide) (hN.use 6 rfl rfl) (fun _ h9 => h9) rfl dH_authorise_103 ?_
            have hG : g = (ht_oAuth g k x).2.2 := by simp [ht_oAuth, hT, hxc, c2, c3, hae, hac, c5, c12]
            have hC : (ht_oAuth g k x).1 = 0 := by simp [ht_oAuth, hT, hxc, c2, c3, hae, hac, c5, c12]
            have hV : g (5 + j) 5 = (ht_oAuth g k x).2.1 := by simp [ht_oAuth, hT, hxc, c2, c3, hae, hac, c5, c12, ht_up]
            rw [hG] at hP
            exact vx_ret (W.widen (k := 2) (n := 12) (Nat.le_of_ble_eq_true rfl) (Nat.le_of_ble_eq_true rfl) (W.iret (v := g (5 + j) 5) hx hb hr (fun t ht hW => ⟨⟨g (5 + j) 5, (), rfl, ⟨hC, hV⟩, by show va_P D ht_cl (ht_w cA q (ht_oAuth g k x).2.2) t.heap; rw [ht]; exact hP⟩, hS.F ht⟩) hS.2.2 dH_authorise_106))
          · exact absurd c13 (by decide)
        · refine lv_iconst (v := 1) hx hb dH_authorise_58 (by decide) ?_
          refine lv_goto (tgt := 63) hx hb dH_authorise_59 (by decide) ?_
          refine lv_istore (lv' := [(4, .int 1), (3, .int (nI a)), (2, .ref (q (j + 6))), (0, .ref (q 0)), (1, .int x)]) hx hb dH_authorise_63 hl (by decide) rfl (fun ls hl => ?_)
          refine lv_iload hx hb dH_authorise_65 (lv_at hl 0 rfl) ?_
          refine lv_if_eq (tgt := 102) hx hb dH_authorise_67 (by decide) (fun c14 => ?_) (fun c14 => ?_)
          · exact absurd c14 (by decide)
          · refine lv_aload_n hx hb dH_authorise_70 rfl (lv_at hl 3 rfl) ?_
            refine lv_iload_n hx hb dH_authorise_71 rfl (lv_at hl 1 rfl) ?_
            refine lv_iload_n hx hb dH_authorise_72 rfl (lv_at hl 1 rfl) ?_
            refine lv_iload_n hx hb dH_authorise_73 rfl (lv_at hl 4 rfl) ?_
            refine vp_callSi (va_Run.run (va_runV (As := [.int (nI a), .int (nI a), .int x]) (rest := []) ⟨hx, hb, hml, hown, hts⟩ (xH_isAnyClaimed l D cA q g k hk hn (nI a) (nI a) x) (cwV 3 hts (ht_gV w209 w211 s4 w1 w212) rfl rfl rfl (by decide +kernel) ⟨Nat.le_of_ble_eq_true rfl, Nat.le_of_ble_eq_true rfl⟩) ⟨ht_bl, va_recv hK hP (ci := 1) (q0 := 0) rfl ht_atO, fun U hU hW => ⟨rfl, ht_Im hP hK hN hU hW⟩⟩ rfl rfl hl.1 rfl (lv_room (Nat.le_of_ble_eq_true rfl)) dH_authorise_74 ⟨Nat.le_of_ble_eq_true rfl, Nat.le_of_ble_eq_true rfl⟩)) (fun r15 hr15 => ?_)
            subst hr15
            refine lv_if_ne (tgt := 102) hx hb dH_authorise_77 (by decide) (fun c16 => ?_) (fun c16 => ?_)
            · replace c16 := ht_b1.mp c16
              refine lv_aload_n hx hb dH_authorise_102 rfl (lv_at hl 2 rfl) ?_
              refine va_getN (D := D) (ci := 0) (C := RV) (T := TV) (N := 13) (v := .int (g (5 + j) 5)) hx hb hts inV hown hK hP (j + 6) (ht_atV hj8) rfl 5 (by decide) (hN.use 6 rfl rfl) (fun _ h9 => h9) rfl dH_authorise_103 ?_
              have hG : g = (ht_oAuth g k x).2.2 := by simp [ht_oAuth, hT, hxc, c2, c3, hae, hac, c5, c12, c16]
              have hC : (ht_oAuth g k x).1 = 0 := by simp [ht_oAuth, hT, hxc, c2, c3, hae, hac, c5, c12, c16]
              have hV : g (5 + j) 5 = (ht_oAuth g k x).2.1 := by simp [ht_oAuth, hT, hxc, c2, c3, hae, hac, c5, c12, c16, ht_up]
              rw [hG] at hP
              exact vx_ret (W.widen (k := 2) (n := 12) (Nat.le_of_ble_eq_true rfl) (Nat.le_of_ble_eq_true rfl) (W.iret (v := g (5 + j) 5) hx hb hr (fun t ht hW => ⟨⟨g (5 + j) 5, (), rfl, ⟨hC, hV⟩, by show va_P D ht_cl (ht_w cA q (ht_oAuth g k x).2.2) t.heap; rw [ht]; exact hP⟩, hS.F ht⟩) hS.2.2 dH_authorise_106))
            · replace c16 := ht_b0.mp c16
              refine lv_aload_n hx hb dH_authorise_80 rfl (lv_at hl 3 rfl) ?_
              refine lv_iload_n hx hb dH_authorise_81 rfl (lv_at hl 1 rfl) ?_
              refine lv_iload_n hx hb dH_authorise_82 rfl (lv_at hl 4 rfl) ?_
              refine vp_callSi (va_Run.run (va_runV (As := [.int (nI a), .int x]) (rest := []) ⟨hx, hb, hml, hown, hts⟩ (xH_farthestFreeFrom l D cA q g k hk hn a ha12 x) (cwV 2 hts (ht_gV w327 w329 s23 w1 w330) rfl rfl rfl (by decide +kernel) ⟨Nat.le_of_ble_eq_true rfl, Nat.le_of_ble_eq_true rfl⟩) ⟨ht_bl, va_recv hK hP (ci := 1) (q0 := 0) rfl ht_atO, fun U hU hW => ⟨rfl, ht_Im hP hK hN hU hW⟩⟩ rfl rfl hl.1 rfl (lv_room (Nat.le_of_ble_eq_true rfl)) dH_authorise_83 ⟨Nat.le_of_ble_eq_true rfl, Nat.le_of_ble_eq_true rfl⟩)) (fun r17 hr17 => ?_)
              subst hr17
              refine lv_istore (lv' := [(5, .int (nI (ht_far g k x (11 - a) a))), (4, .int 1), (3, .int (nI a)), (2, .ref (q (j + 6))), (0, .ref (q 0)), (1, .int x)]) hx hb dH_authorise_86 hl (by decide) rfl (fun ls hl => ?_)
              refine lv_aload_n hx hb dH_authorise_88 rfl (lv_at hl 3 rfl) ?_
              refine lv_iload hx hb dH_authorise_89 (lv_at hl 0 rfl) ?_
              refine lv_bipush (v := 10) hx hb dH_authorise_91 (by decide) ?_
              refine lv_imul hx hb dH_authorise_93 ?_
              refine lv_bipush (v := 10) hx hb dH_authorise_94 (by decide) ?_
              refine lv_iadd hx hb dH_authorise_96 ?_
              refine lv_iconst (v := 1) hx hb dH_authorise_97 (by decide) ?_
              refine lv_isub hx hb dH_authorise_98 ?_
              refine va_putN (D := D) (ci := 0) (C := RV) (T := TV) (N := 13) (v := .int ((((nI (ht_far g k x (11 - a) a)) * 10) + 10) - 1)) (ty := .int) hx hb hts inV tyV tyV_ok nmV hown hK hP (mw_DA hJ) hS (j + 6) (ht_atV hj8) rfl 5 (by decide) (hN.use 6 rfl rfl) (fun _ h9 => h9) rfl rfl rfl rfl (Nat.le_of_ble_eq_true rfl) dH_authorise_99 (fun H locs hP _ hS => ?_)
              rw [ht_stV hj8 (by decide)] at hP
              obtain ⟨g18, eg18⟩ : ∃ y9 : ht_G, y9 = ht_up g (5 + j) 5 ((((nI (ht_far g k x (11 - a) a)) * 10) + 10) - 1) := ⟨_, rfl⟩
              rw [← eg18] at hP
              refine lv_aload_n hx hb dH_authorise_102 rfl (lv_at hl 3 rfl) ?_
              refine va_getN (D := D) (ci := 0) (C := RV) (T := TV) (N := 13) (v := .int (g18 (5 + j) 5)) hx hb hts inV hown hK hP (j + 6) (ht_atV hj8) rfl 5 (by decide) (hN.use 6 rfl rfl) (fun _ h9 => h9) rfl dH_authorise_103 ?_
              have hG : g18 = (ht_oAuth g k x).2.2 := by subst eg18; simp [ht_oAuth, hT, hxc, c2, c3, hae, hac, c5, c12, c16]
              have hC : (ht_oAuth g k x).1 = 0 := by simp [ht_oAuth, hT, hxc, c2, c3, hae, hac, c5, c12, c16]
              have hV : g18 (5 + j) 5 = (ht_oAuth g k x).2.1 := by subst eg18; simp [ht_oAuth, hT, hxc, c2, c3, hae, hac, c5, c12, c16, ht_up]
              rw [hG] at hP
              exact vx_ret (W.widen (k := 2) (n := 12) (Nat.le_of_ble_eq_true rfl) (Nat.le_of_ble_eq_true rfl) (W.iret (v := g18 (5 + j) 5) hx hb hr (fun t ht hW => ⟨⟨g18 (5 + j) 5, (), rfl, ⟨hC, hV⟩, by show va_P D ht_cl (ht_w cA q (ht_oAuth g k x).2.2) t.heap; rw [ht]; exact hP⟩, hS.F ht⟩) hS.2.2 dH_authorise_106))
    · obtain ⟨sa, hsa⟩ := hR _ (List.mem_of_getElem? (i := 7) rfl)
      exact vx_throwS (names := ht_nm) (A := mw_A 14 q s.heap.size) hx hb hl0 hown (by decide) (by decide) (hts _ w177) (hts _ w8) hsa (vx_hat (fun w h => hts w (xg_S w h)) xb_S (fun w h => va_Nw.use (ht_X.on h) (hX w h))) xo_S hZ.1 hZ.2 hS (by rw [hml]; exact hl.1) dH_authorise_20 dH_authorise_23 dH_authorise_24 dH_authorise_26 dH_authorise_29 (fun x hx => (htab x hx).elim) (Nat.le_of_ble_eq_true rfl) (Nat.le_of_ble_eq_true rfl) (Nat.le_of_ble_eq_true rfl) (Nat.le_of_ble_eq_true rfl) hlocks (fun t ha hz9 hk9 => ⟨(), trivial, ⟨ht_Px hP hk9, by rw [show (ht_oAuth g k x).1 = 2 by simp [ht_oAuth, hT, hxc, c2, c3]]; exact List.mem_of_getElem? (i := 1) rfl⟩, ht_Fx hS hz9 hk9⟩) hS.2.2 (Nat.le_of_ble_eq_true rfl) (Nat.le_of_ble_eq_true rfl)
