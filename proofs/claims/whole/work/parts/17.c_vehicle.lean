set_option maxHeartbeats 4000000 in
set_option maxRecDepth 100000 in
theorem xH_vehicle (l : Launch) (hl0 : l.stackTraces = false) (D : va_G) (cA : ClassId × ClassId) (q : Nat → Nat) (hJ : mw_J 14 q) (sz : Nat) (g : ht_G) (k : Nat) (hk : k ≤ 8) (hn : g 0 0 = nI k) (x y : Int32) : vx_Met l yH_vehicle kH_vehicle ({ frames := 6, cells := 1, slots := 6, locals := 82 }) (va_Pc [.ref (q 0), .int x, .int y] (ht_E D cA q g sz)) (va_Qi (fun r (_ : Unit) => (ht_oVehicle g k x y).1 = 0 ∧ r = (ht_oVehicle g k x y).2.1) (fun _ t => va_P D ht_cl (ht_w cA q (ht_oVehicle g k x y).2.2) t.heap) (mw_A 14 q sz)) (vx_X (fun _ : Unit => True) (fun E _ t => va_P D ht_cl (ht_w cA q g) t.heap ∧ ((ht_oVehicle g k x y).1, E) ∈ [((1 : Int32), EN), ((2 : Int32), EA)]) (mw_A 14 q sz)) 1 6 (mw_A 14 q sz) := by
  refine vx_ofW (cc := cH_vehicle) (maxL := 4) (ret := (some .int)) (by decide) rfl ?_
  intro p e s m args below meth c s₁ B hml htab hv
  obtain ⟨rfl, hsz, ⟨hP, hK, hN⟩, hX, hR, hZ⟩ := hv
  have hx := B.exec
  have hb := B.bytes
  have hr := B.returns
  have hts := fun w h => atoms_spec (ws := kH_vehicle) B.pre w (List.mem_cons_of_mem _ h)
  have hown : s.vm.findClass RH = some m.cls := findClass_of_methodNamed B.named
  have hlocks := B.notSynchronized
  subst hsz
  have hS : va_S (mw_A 14 q s.heap.size) s.heap s.heap [] := va_S.rf
  have hl := lv_entry ([.ref (q 0), .int x, .int y]) (n := 4) (Nat.le_of_ble_eq_true rfl)
  rw [lg_entry_eq]
  generalize (lg_sl ([.ref (q 0), .int x, .int y]) ++ List.replicate (4 - (lg_sl ([.ref (q 0), .int x, .int y])).length) Slot.unset).toArray = ls at hl ⊢
  have hl : lv_has ls 4 [(0, .ref (q 0)), (1, .int x), (2, .int y)] := hl
  refine lv_aload_n hx hb dH_vehicle_0 rfl (lv_at hl 0 rfl) ?_
  refine lv_iload_n hx hb dH_vehicle_1 rfl (lv_at hl 1 rfl) ?_
  refine vp_callSi (va_Run.run (va_runV (As := [.int x]) (rest := []) ⟨hx, hb, hml, hown, hts⟩ (xH_isOnTrack l D cA q g k hk hn x) (cwV 1 hts (ht_gV w291 w293 s22 w1 w294) rfl rfl rfl (by decide +kernel) ⟨Nat.le_of_ble_eq_true rfl, Nat.le_of_ble_eq_true rfl⟩) ⟨ht_bl, va_recv hK hP (ci := 1) (q0 := 0) rfl ht_atO, fun U hU hW => ⟨rfl, ht_Im hP hK hN hU hW⟩⟩ rfl rfl hl.1 rfl (lv_room (Nat.le_of_ble_eq_true rfl)) dH_vehicle_2 ⟨Nat.le_of_ble_eq_true rfl, Nat.le_of_ble_eq_true rfl⟩)) (fun r1 hr1 => ?_)
  subst hr1
  refine lv_if_ne (tgt := 18) hx hb dH_vehicle_5 (by decide) (fun c2 => ?_) (fun c2 => ?_)
  · replace c2 := ht_b1.mp c2
    obtain ⟨hjk, hxj, -, -⟩ := ht_on_is hk c2
    obtain ⟨j, hxc⟩ : ∃ j, x.toNatClampNeg = j := ⟨_, rfl⟩
    rw [hxc] at hjk hxj
    have hj8 : j < 8 := Nat.lt_of_lt_of_le hjk hk
    refine lv_iload_n hx hb dH_vehicle_18 rfl (lv_at hl 2 rfl) ?_
    refine lv_if_lt (tgt := 27) hx hb dH_vehicle_19 (by decide) (fun c3 => ?_) (fun c3 => ?_)
    · obtain ⟨sa, hsa⟩ := hR _ (List.mem_of_getElem? (i := 16) rfl)
      exact vx_throwS (names := ht_nm) (A := mw_A 14 q s.heap.size) hx hb hl0 hown (by decide) (by decide) (hts _ w108) (hts _ w7) hsa (vx_hat (fun w h => hts w (xg_A w h)) xb_A (fun w h => va_Nw.use (ht_X.on h) (hX w h))) xo_A hZ.1 hZ.2 hS (by rw [hml]; exact hl.1) dH_vehicle_27 dH_vehicle_30 dH_vehicle_31 dH_vehicle_33 dH_vehicle_36 (fun x hx => (htab x hx).elim) (Nat.le_of_ble_eq_true rfl) (Nat.le_of_ble_eq_true rfl) (Nat.le_of_ble_eq_true rfl) (Nat.le_of_ble_eq_true rfl) hlocks (fun t ha hz9 hk9 => ⟨(), trivial, ⟨ht_Px hP hk9, by rw [show (ht_oVehicle g k x y).1 = 2 by simp [ht_oVehicle, c2, hxc, c3]]; exact List.mem_of_getElem? (i := 1) rfl⟩, ht_Fx hS hz9 hk9⟩) hS.2.2 (Nat.le_of_ble_eq_true rfl) (Nat.le_of_ble_eq_true rfl)
    · refine lv_iload_n hx hb dH_vehicle_22 rfl (lv_at hl 2 rfl) ?_
      refine lv_iconst (v := 5) hx hb dH_vehicle_23 (by decide) ?_
      refine lv_icmp_le (tgt := 37) hx hb dH_vehicle_24 (by decide) (fun c4 => ?_) (fun c4 => ?_)
      · refine lv_aload_n hx hb dH_vehicle_37 rfl (lv_at hl 0 rfl) ?_
        refine va_get (D := D) (ci := 1) (C := RH) (T := TH) (N := 7) (v := .ref (q 1)) hx hb hts inH hown hK hP 0 ht_atO rfl 0 (by decide) (hts _ w77) (fun _ h9 => h9) rfl dH_vehicle_38 ?_
        refine lv_iload_n hx hb dH_vehicle_41 rfl (lv_at hl 1 rfl) ?_
        refine ht_ldV hx hb hK hP (j := j) hj8 hxj dH_vehicle_42 ?_
        refine lv_astore_n (lv' := [(3, .ref (q (j + 6))), (0, .ref (q 0)), (1, .int x), (2, .int y)]) hx hb dH_vehicle_43 rfl hl (by decide) rfl (fun ls hl => ?_)
        refine lv_iload_n hx hb dH_vehicle_44 rfl (lv_at hl 3 rfl) ?_
        refine lv_iconst (v := 2) hx hb dH_vehicle_45 (by decide) ?_
        refine lv_icmp_lt (tgt := 66) hx hb dH_vehicle_46 (by decide) (fun c5 => ?_) (fun c5 => ?_)
        · refine lv_iload_n hx hb dH_vehicle_66 rfl (lv_at hl 3 rfl) ?_
          by_cases c6 : y = 0
          · refine lv_tableIn (tgt := 100) (off := 33) hx hb dH_vehicle_67 (by rw [c6]; decide) (by rw [c6]; decide) (by rw [c6]; rfl) (by decide) ?_
            refine lv_aload_n hx hb dH_vehicle_100 rfl (lv_at hl 0 rfl) ?_
            refine va_getN (D := D) (ci := 0) (C := RV) (T := TV) (N := 13) (v := .int (g (5 + j) 2)) hx hb hts inV hown hK hP (j + 6) (ht_atV hj8) rfl 2 (by decide) (hN.use 3 rfl rfl) (fun _ h9 => h9) rfl dH_vehicle_101 ?_
            have hG : g = (ht_oVehicle g k x y).2.2 := by simp [ht_oVehicle, c2, hxc, c3, c4, c5, c6]
            have hC : (ht_oVehicle g k x y).1 = 0 := by simp [ht_oVehicle, c2, hxc, c3, c4, c5, c6]
            have hV : g (5 + j) 2 = (ht_oVehicle g k x y).2.1 := by simp [ht_oVehicle, c2, hxc, c3, c4, c5, c6, ht_up]
            rw [hG] at hP
            exact vx_ret (W.widen (k := 1) (n := 6) (Nat.le_of_ble_eq_true rfl) (Nat.le_of_ble_eq_true rfl) (W.iret (v := g (5 + j) 2) hx hb hr (fun t ht hW => ⟨⟨g (5 + j) 2, (), rfl, ⟨hC, hV⟩, by show va_P D ht_cl (ht_w cA q (ht_oVehicle g k x y).2.2) t.heap; rw [ht]; exact hP⟩, hS.F ht⟩) hS.2.2 dH_vehicle_104))
          ·
            by_cases c7 : y = 1
            · refine lv_tableIn (tgt := 105) (off := 38) hx hb dH_vehicle_67 (by rw [c7]; decide) (by rw [c7]; decide) (by rw [c7]; rfl) (by decide) ?_
              refine lv_aload_n hx hb dH_vehicle_105 rfl (lv_at hl 0 rfl) ?_
              refine va_getN (D := D) (ci := 0) (C := RV) (T := TV) (N := 13) (v := .int (g (5 + j) 3)) hx hb hts inV hown hK hP (j + 6) (ht_atV hj8) rfl 3 (by decide) (hN.use 4 rfl rfl) (fun _ h9 => h9) rfl dH_vehicle_106 ?_
              have hG : g = (ht_oVehicle g k x y).2.2 := by simp [ht_oVehicle, c2, hxc, c3, c4, c5, c6, c7]
              have hC : (ht_oVehicle g k x y).1 = 0 := by simp [ht_oVehicle, c2, hxc, c3, c4, c5, c6, c7]
              have hV : g (5 + j) 3 = (ht_oVehicle g k x y).2.1 := by simp [ht_oVehicle, c2, hxc, c3, c4, c5, c6, c7, ht_up]
              rw [hG] at hP
              exact vx_ret (W.widen (k := 1) (n := 6) (Nat.le_of_ble_eq_true rfl) (Nat.le_of_ble_eq_true rfl) (W.iret (v := g (5 + j) 3) hx hb hr (fun t ht hW => ⟨⟨g (5 + j) 3, (), rfl, ⟨hC, hV⟩, by show va_P D ht_cl (ht_w cA q (ht_oVehicle g k x y).2.2) t.heap; rw [ht]; exact hP⟩, hS.F ht⟩) hS.2.2 dH_vehicle_109))
            ·
              by_cases c8 : y = 2
              · exact absurd c5 (by rw [c8]; decide)
              ·
                by_cases c9 : y = 3
                · exact absurd c5 (by rw [c9]; decide)
                ·
                  by_cases c10 : y = 4
                  · exact absurd c5 (by rw [c10]; decide)
                  ·
                    exact (ht_01 c3 c5 c6 c7).elim
        · refine lv_aload_n hx hb dH_vehicle_49 rfl (lv_at hl 0 rfl) ?_
          refine va_getN (D := D) (ci := 0) (C := RV) (T := TV) (N := 13) (v := .int (g (5 + j) 0)) hx hb hts inV hown hK hP (j + 6) (ht_atV hj8) rfl 0 (by decide) (hN.use 1 rfl rfl) (fun _ h9 => h9) rfl dH_vehicle_50 ?_
          refine lv_if_ne (tgt := 66) hx hb dH_vehicle_53 (by decide) (fun c11 => ?_) (fun c11 => ?_)
          · refine lv_iload_n hx hb dH_vehicle_66 rfl (lv_at hl 3 rfl) ?_
            by_cases c12 : y = 0
            · exact absurd (show y < 2 by rw [c12]; decide) c5
            ·
              by_cases c13 : y = 1
              · exact absurd (show y < 2 by rw [c13]; decide) c5
              ·
                by_cases c14 : y = 2
                · refine lv_tableIn (tgt := 110) (off := 43) hx hb dH_vehicle_67 (by rw [c14]; decide) (by rw [c14]; decide) (by rw [c14]; rfl) (by decide) ?_
                  refine lv_aload_n hx hb dH_vehicle_110 rfl (lv_at hl 0 rfl) ?_
                  refine va_getN (D := D) (ci := 0) (C := RV) (T := TV) (N := 13) (v := .int (g (5 + j) 5)) hx hb hts inV hown hK hP (j + 6) (ht_atV hj8) rfl 5 (by decide) (hN.use 6 rfl rfl) (fun _ h9 => h9) rfl dH_vehicle_111 ?_
                  have hG : g = (ht_oVehicle g k x y).2.2 := by simp [ht_oVehicle, c2, hxc, c3, c4, c5, c11, c12, c13, c14]
                  have hC : (ht_oVehicle g k x y).1 = 0 := by simp [ht_oVehicle, c2, hxc, c3, c4, c5, c11, c12, c13, c14]
                  have hV : g (5 + j) 5 = (ht_oVehicle g k x y).2.1 := by simp [ht_oVehicle, c2, hxc, c3, c4, c5, c11, c12, c13, c14, ht_up]
                  rw [hG] at hP
                  exact vx_ret (W.widen (k := 1) (n := 6) (Nat.le_of_ble_eq_true rfl) (Nat.le_of_ble_eq_true rfl) (W.iret (v := g (5 + j) 5) hx hb hr (fun t ht hW => ⟨⟨g (5 + j) 5, (), rfl, ⟨hC, hV⟩, by show va_P D ht_cl (ht_w cA q (ht_oVehicle g k x y).2.2) t.heap; rw [ht]; exact hP⟩, hS.F ht⟩) hS.2.2 dH_vehicle_114))
                ·
                  by_cases c15 : y = 3
                  · refine lv_tableIn (tgt := 115) (off := 48) hx hb dH_vehicle_67 (by rw [c15]; decide) (by rw [c15]; decide) (by rw [c15]; rfl) (by decide) ?_
                    refine lv_aload_n hx hb dH_vehicle_115 rfl (lv_at hl 0 rfl) ?_
                    refine va_getN (D := D) (ci := 0) (C := RV) (T := TV) (N := 13) (v := .int (g (5 + j) 8)) hx hb hts inV hown hK hP (j + 6) (ht_atV hj8) rfl 8 (by decide) (hN.use 9 rfl rfl) (fun _ h9 => h9) rfl dH_vehicle_116 ?_
                    have hG : g = (ht_oVehicle g k x y).2.2 := by simp [ht_oVehicle, c2, hxc, c3, c4, c5, c11, c12, c13, c14, c15]
                    have hC : (ht_oVehicle g k x y).1 = 0 := by simp [ht_oVehicle, c2, hxc, c3, c4, c5, c11, c12, c13, c14, c15]
                    have hV : g (5 + j) 8 = (ht_oVehicle g k x y).2.1 := by simp [ht_oVehicle, c2, hxc, c3, c4, c5, c11, c12, c13, c14, c15, ht_up]
                    rw [hG] at hP
                    exact vx_ret (W.widen (k := 1) (n := 6) (Nat.le_of_ble_eq_true rfl) (Nat.le_of_ble_eq_true rfl) (W.iret (v := g (5 + j) 8) hx hb hr (fun t ht hW => ⟨⟨g (5 + j) 8, (), rfl, ⟨hC, hV⟩, by show va_P D ht_cl (ht_w cA q (ht_oVehicle g k x y).2.2) t.heap; rw [ht]; exact hP⟩, hS.F ht⟩) hS.2.2 dH_vehicle_119))
                  ·
                    by_cases c16 : y = 4
                    · refine lv_tableIn (tgt := 120) (off := 53) hx hb dH_vehicle_67 (by rw [c16]; decide) (by rw [c16]; decide) (by rw [c16]; rfl) (by decide) ?_
                      refine lv_aload_n hx hb dH_vehicle_120 rfl (lv_at hl 0 rfl) ?_
                      refine va_getN (D := D) (ci := 0) (C := RV) (T := TV) (N := 13) (v := .int (g (5 + j) 9)) hx hb hts inV hown hK hP (j + 6) (ht_atV hj8) rfl 9 (by decide) (hN.use 10 rfl rfl) (fun _ h9 => h9) rfl dH_vehicle_121 ?_
                      have hG : g = (ht_oVehicle g k x y).2.2 := by simp [ht_oVehicle, c2, hxc, c3, c4, c5, c11, c12, c13, c14, c15, c16]
                      have hC : (ht_oVehicle g k x y).1 = 0 := by simp [ht_oVehicle, c2, hxc, c3, c4, c5, c11, c12, c13, c14, c15, c16]
                      have hV : g (5 + j) 9 = (ht_oVehicle g k x y).2.1 := by simp [ht_oVehicle, c2, hxc, c3, c4, c5, c11, c12, c13, c14, c15, c16, ht_up]
                      rw [hG] at hP
                      exact vx_ret (W.widen (k := 1) (n := 6) (Nat.le_of_ble_eq_true rfl) (Nat.le_of_ble_eq_true rfl) (W.iret (v := g (5 + j) 9) hx hb hr (fun t ht hW => ⟨⟨g (5 + j) 9, (), rfl, ⟨hC, hV⟩, by show va_P D ht_cl (ht_w cA q (ht_oVehicle g k x y).2.2) t.heap; rw [ht]; exact hP⟩, hS.F ht⟩) hS.2.2 dH_vehicle_124))
                    ·
                      have nc12 := lv_neT c12 (a := 0) rfl
                      have nc13 := lv_neT c13 (a := 1) rfl
                      have nc14 := lv_neT c14 (a := 2) rfl
                      have nc15 := lv_neT c15 (a := 3) rfl
                      have nc16 := lv_neT c16 (a := 4) rfl
                      refine lv_tableOut (tgt := 125) hx hb dH_vehicle_67 (by omega) (by decide) ?_
                      refine lv_aload_n hx hb dH_vehicle_125 rfl (lv_at hl 0 rfl) ?_
                      refine va_getN (D := D) (ci := 0) (C := RV) (T := TV) (N := 13) (v := .int (g (5 + j) 7)) hx hb hts inV hown hK hP (j + 6) (ht_atV hj8) rfl 7 (by decide) (hN.use 8 rfl rfl) (fun _ h9 => h9) rfl dH_vehicle_126 ?_
                      refine lv_if_eq (tgt := 136) hx hb dH_vehicle_129 (by decide) (fun c17 => ?_) (fun c17 => ?_)
                      · refine lv_iconst (v := 0) hx hb dH_vehicle_136 (by decide) ?_
                        have hG : g = (ht_oVehicle g k x y).2.2 := by simp [ht_oVehicle, c2, hxc, c3, c4, c5, c11, c12, c13, c14, c15, c16, c17]
                        have hC : (ht_oVehicle g k x y).1 = 0 := by simp [ht_oVehicle, c2, hxc, c3, c4, c5, c11, c12, c13, c14, c15, c16, c17]
                        have hV : 0 = (ht_oVehicle g k x y).2.1 := by simp [ht_oVehicle, c2, hxc, c3, c4, c5, c11, c12, c13, c14, c15, c16, c17, ht_up]
                        rw [hG] at hP
                        exact vx_ret (W.widen (k := 1) (n := 6) (Nat.le_of_ble_eq_true rfl) (Nat.le_of_ble_eq_true rfl) (W.iret (v := 0) hx hb hr (fun t ht hW => ⟨⟨0, (), rfl, ⟨hC, hV⟩, by show va_P D ht_cl (ht_w cA q (ht_oVehicle g k x y).2.2) t.heap; rw [ht]; exact hP⟩, hS.F ht⟩) hS.2.2 dH_vehicle_137))
                      · refine lv_iconst (v := 1) hx hb dH_vehicle_132 (by decide) ?_
                        refine lv_goto (tgt := 137) hx hb dH_vehicle_133 (by decide) ?_
                        have hG : g = (ht_oVehicle g k x y).2.2 := by simp [ht_oVehicle, c2, hxc, c3, c4, c5, c11, c12, c13, c14, c15, c16, c17]
                        have hC : (ht_oVehicle g k x y).1 = 0 := by simp [ht_oVehicle, c2, hxc, c3, c4, c5, c11, c12, c13, c14, c15, c16, c17]
                        have hV : 1 = (ht_oVehicle g k x y).2.1 := by simp [ht_oVehicle, c2, hxc, c3, c4, c5, c11, c12, c13, c14, c15, c16, c17, ht_up]
                        rw [hG] at hP
                        exact vx_ret (W.widen (k := 1) (n := 6) (Nat.le_of_ble_eq_true rfl) (Nat.le_of_ble_eq_true rfl) (W.iret (v := 1) hx hb hr (fun t ht hW => ⟨⟨1, (), rfl, ⟨hC, hV⟩, by show va_P D ht_cl (ht_w cA q (ht_oVehicle g k x y).2.2) t.heap; rw [ht]; exact hP⟩, hS.F ht⟩) hS.2.2 dH_vehicle_137))
          · obtain ⟨sa, hsa⟩ := hR _ (List.mem_of_getElem? (i := 17) rfl)
            exact hx_throwS (Y := "java/lang/RuntimeException") (r := ["java/lang/Exception"]) (A := mw_A 14 q s.heap.size) hx hb hl0 hown (by decide) (by decide) (by decide) (hts _ w295) (hts _ w9) hsa (vx_hat (fun w h => hts w (xg_N w h)) xb_N (fun w h => va_Nw.use (ht_X.on h) (hX w h))) xo_N hZ.1 hZ.2 hS (by rw [hml]; exact hl.1) dH_vehicle_56 dH_vehicle_59 dH_vehicle_60 dH_vehicle_62 dH_vehicle_65 (fun x hx => (htab x hx).elim) (Nat.le_of_ble_eq_true rfl) (Nat.le_of_ble_eq_true rfl) (Nat.le_of_ble_eq_true rfl) (Nat.le_of_ble_eq_true rfl) hlocks (fun t ha hz9 hk9 => ⟨(), trivial, ⟨ht_Px hP hk9, by rw [show (ht_oVehicle g k x y).1 = 1 by simp [ht_oVehicle, c2, hxc, c3, c4, c5, c11]]; exact List.mem_of_getElem? (i := 0) rfl⟩, ht_Fx hS hz9 hk9⟩) hS.2.2 (Nat.le_of_ble_eq_true rfl) (Nat.le_of_ble_eq_true rfl)
      · obtain ⟨sa, hsa⟩ := hR _ (List.mem_of_getElem? (i := 16) rfl)
        exact vx_throwS (names := ht_nm) (A := mw_A 14 q s.heap.size) hx hb hl0 hown (by decide) (by decide) (hts _ w108) (hts _ w7) hsa (vx_hat (fun w h => hts w (xg_A w h)) xb_A (fun w h => va_Nw.use (ht_X.on h) (hX w h))) xo_A hZ.1 hZ.2 hS (by rw [hml]; exact hl.1) dH_vehicle_27 dH_vehicle_30 dH_vehicle_31 dH_vehicle_33 dH_vehicle_36 (fun x hx => (htab x hx).elim) (Nat.le_of_ble_eq_true rfl) (Nat.le_of_ble_eq_true rfl) (Nat.le_of_ble_eq_true rfl) (Nat.le_of_ble_eq_true rfl) hlocks (fun t ha hz9 hk9 => ⟨(), trivial, ⟨ht_Px hP hk9, by rw [show (ht_oVehicle g k x y).1 = 2 by simp [ht_oVehicle, c2, hxc, c3, c4]]; exact List.mem_of_getElem? (i := 1) rfl⟩, ht_Fx hS hz9 hk9⟩) hS.2.2 (Nat.le_of_ble_eq_true rfl) (Nat.le_of_ble_eq_true rfl)
  · replace c2 := ht_b0.mp c2
    obtain ⟨sa, hsa⟩ := hR _ (List.mem_of_getElem? (i := 15) rfl)
    exact hx_throwS (Y := "java/lang/RuntimeException") (r := ["java/lang/Exception"]) (A := mw_A 14 q s.heap.size) hx hb hl0 hown (by decide) (by decide) (by decide) (hts _ w295) (hts _ w9) hsa (vx_hat (fun w h => hts w (xg_N w h)) xb_N (fun w h => va_Nw.use (ht_X.on h) (hX w h))) xo_N hZ.1 hZ.2 hS (by rw [hml]; exact hl.1) dH_vehicle_8 dH_vehicle_11 dH_vehicle_12 dH_vehicle_14 dH_vehicle_17 (fun x hx => (htab x hx).elim) (Nat.le_of_ble_eq_true rfl) (Nat.le_of_ble_eq_true rfl) (Nat.le_of_ble_eq_true rfl) (Nat.le_of_ble_eq_true rfl) hlocks (fun t ha hz9 hk9 => ⟨(), trivial, ⟨ht_Px hP hk9, by rw [show (ht_oVehicle g k x y).1 = 1 by simp [ht_oVehicle, c2]]; exact List.mem_of_getElem? (i := 0) rfl⟩, ht_Fx hS hz9 hk9⟩) hS.2.2 (Nat.le_of_ble_eq_true rfl) (Nat.le_of_ble_eq_true rfl)
