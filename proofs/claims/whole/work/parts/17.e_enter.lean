set_option maxHeartbeats 4000000 in
set_option maxRecDepth 100000 in
theorem xH_enter (l : Launch) (hl0 : l.stackTraces = false) (D : va_G) (cA : ClassId × ClassId) (q : Nat → Nat) (hJ : mw_J 14 q) (sz : Nat) (g : ht_G) (k : Nat) (hk : k ≤ 8) (hn : g 0 0 = nI k) (hA : ht_al g 3) (x y : Int32) : vx_Met l yH_enter kH_enter ({ frames := 6, cells := 1, slots := 6, locals := 129 }) (va_Pc [.ref (q 0), .int x, .int y] (ht_E D cA q g sz)) (va_Qi (fun r (_ : Unit) => (ht_oEnter g k x y).1 = 0 ∧ r = (ht_oEnter g k x y).2.1) (fun _ t => va_P D ht_cl (ht_w cA q (ht_oEnter g k x y).2.2) t.heap) (mw_A 14 q sz)) (vx_X (fun _ : Unit => True) (fun E _ t => va_P D ht_cl (ht_w cA q g) t.heap ∧ ((ht_oEnter g k x y).1, E) ∈ [((1 : Int32), EA), ((2 : Int32), ES)]) (mw_A 14 q sz)) 1 6 (mw_A 14 q sz) := by
  refine vx_ofW (cc := cH_enter) (maxL := 4) (ret := (some .int)) (by decide) rfl ?_
  intro p e s m args below meth c s₁ B hml htab hv
  obtain ⟨rfl, hsz, ⟨hP, hK, hN⟩, hX, hR, hZ⟩ := hv
  have hx := B.exec
  have hb := B.bytes
  have hr := B.returns
  have hts := fun w h => atoms_spec (ws := kH_enter) B.pre w (List.mem_cons_of_mem _ h)
  have hown : s.vm.findClass RH = some m.cls := findClass_of_methodNamed B.named
  have hlocks := B.notSynchronized
  subst hsz
  have hS : va_S (mw_A 14 q s.heap.size) s.heap s.heap [] := va_S.rf
  have hl := lv_entry ([.ref (q 0), .int x, .int y]) (n := 4) (Nat.le_of_ble_eq_true rfl)
  rw [lg_entry_eq]
  generalize (lg_sl ([.ref (q 0), .int x, .int y]) ++ List.replicate (4 - (lg_sl ([.ref (q 0), .int x, .int y])).length) Slot.unset).toArray = ls at hl ⊢
  have hl : lv_has ls 4 [(0, .ref (q 0)), (1, .int x), (2, .int y)] := hl
  refine lv_iload_n hx hb dH_enter_0 rfl (lv_at hl 2 rfl) ?_
  refine lv_iconst (v := 1) hx hb dH_enter_1 (by decide) ?_
  refine lv_icmp_lt (tgt := 11) hx hb dH_enter_2 (by decide) (fun c1 => ?_) (fun c1 => ?_)
  · obtain ⟨sa, hsa⟩ := hR _ (List.mem_of_getElem? (i := 0) rfl)
    exact vx_throwS (names := ht_nm) (A := mw_A 14 q s.heap.size) hx hb hl0 hown (by decide) (by decide) (hts _ w108) (hts _ w7) hsa (vx_hat (fun w h => hts w (xg_A w h)) xb_A (fun w h => va_Nw.use (ht_X.on h) (hX w h))) xo_A hZ.1 hZ.2 hS (by rw [hml]; exact hl.1) dH_enter_11 dH_enter_14 dH_enter_15 dH_enter_17 dH_enter_20 (fun x hx => (htab x hx).elim) (Nat.le_of_ble_eq_true rfl) (Nat.le_of_ble_eq_true rfl) (Nat.le_of_ble_eq_true rfl) (Nat.le_of_ble_eq_true rfl) hlocks (fun t ha hz9 hk9 => ⟨(), trivial, ⟨ht_Px hP hk9, by rw [show (ht_oEnter g k x y).1 = 1 by simp [ht_oEnter, c1]]; exact List.mem_of_getElem? (i := 0) rfl⟩, ht_Fx hS hz9 hk9⟩) hS.2.2 (Nat.le_of_ble_eq_true rfl) (Nat.le_of_ble_eq_true rfl)
  · refine lv_iload_n hx hb dH_enter_5 rfl (lv_at hl 2 rfl) ?_
    refine lv_bipush (v := 40) hx hb dH_enter_6 (by decide) ?_
    refine lv_icmp_le (tgt := 21) hx hb dH_enter_8 (by decide) (fun c2 => ?_) (fun c2 => ?_)
    · refine lv_iload_n hx hb dH_enter_21 rfl (lv_at hl 1 rfl) ?_
      refine lv_if_lt (tgt := 39) hx hb dH_enter_22 (by decide) (fun c3 => ?_) (fun c3 => ?_)
      · obtain ⟨sa, hsa⟩ := hR _ (List.mem_of_getElem? (i := 1) rfl)
        exact vx_throwS (names := ht_nm) (A := mw_A 14 q s.heap.size) hx hb hl0 hown (by decide) (by decide) (hts _ w108) (hts _ w7) hsa (vx_hat (fun w h => hts w (xg_A w h)) xb_A (fun w h => va_Nw.use (ht_X.on h) (hX w h))) xo_A hZ.1 hZ.2 hS (by rw [hml]; exact hl.1) dH_enter_39 dH_enter_42 dH_enter_43 dH_enter_45 dH_enter_48 (fun x hx => (htab x hx).elim) (Nat.le_of_ble_eq_true rfl) (Nat.le_of_ble_eq_true rfl) (Nat.le_of_ble_eq_true rfl) (Nat.le_of_ble_eq_true rfl) hlocks (fun t ha hz9 hk9 => ⟨(), trivial, ⟨ht_Px hP hk9, by rw [show (ht_oEnter g k x y).1 = 1 by simp [ht_oEnter, c1, c2, c3]]; exact List.mem_of_getElem? (i := 0) rfl⟩, ht_Fx hS hz9 hk9⟩) hS.2.2 (Nat.le_of_ble_eq_true rfl) (Nat.le_of_ble_eq_true rfl)
      · refine lv_iload_n hx hb dH_enter_25 rfl (lv_at hl 1 rfl) ?_
        refine lv_bipush (v := 120) hx hb dH_enter_26 (by decide) ?_
        refine lv_icmp_ge (tgt := 39) hx hb dH_enter_28 (by decide) (fun c4 => ?_) (fun c4 => ?_)
        · obtain ⟨sa, hsa⟩ := hR _ (List.mem_of_getElem? (i := 1) rfl)
          exact vx_throwS (names := ht_nm) (A := mw_A 14 q s.heap.size) hx hb hl0 hown (by decide) (by decide) (hts _ w108) (hts _ w7) hsa (vx_hat (fun w h => hts w (xg_A w h)) xb_A (fun w h => va_Nw.use (ht_X.on h) (hX w h))) xo_A hZ.1 hZ.2 hS (by rw [hml]; exact hl.1) dH_enter_39 dH_enter_42 dH_enter_43 dH_enter_45 dH_enter_48 (fun x hx => (htab x hx).elim) (Nat.le_of_ble_eq_true rfl) (Nat.le_of_ble_eq_true rfl) (Nat.le_of_ble_eq_true rfl) (Nat.le_of_ble_eq_true rfl) hlocks (fun t ha hz9 hk9 => ⟨(), trivial, ⟨ht_Px hP hk9, by rw [show (ht_oEnter g k x y).1 = 1 by simp [ht_oEnter, c1, c2, c3, c4]]; exact List.mem_of_getElem? (i := 0) rfl⟩, ht_Fx hS hz9 hk9⟩) hS.2.2 (Nat.le_of_ble_eq_true rfl) (Nat.le_of_ble_eq_true rfl)
        · refine lv_iload_n hx hb dH_enter_31 rfl (lv_at hl 1 rfl) ?_
          refine lv_iload_n hx hb dH_enter_32 rfl (lv_at hl 2 rfl) ?_
          refine lv_isub hx hb dH_enter_33 ?_
          refine lv_iconst (v := 1) hx hb dH_enter_34 (by decide) ?_
          refine lv_iadd hx hb dH_enter_35 ?_
          refine lv_if_ge (tgt := 49) hx hb dH_enter_36 (by decide) (fun c5 => ?_) (fun c5 => ?_)
          · refine lv_aload_n hx hb dH_enter_49 rfl (lv_at hl 0 rfl) ?_
            refine va_get (D := D) (ci := 1) (C := RH) (T := TH) (N := 7) (v := .int (g 0 0)) hx hb hts inH hown hK hP 0 ht_atO rfl 1 (by decide) (hts _ w78) (fun _ h9 => h9) rfl dH_enter_50 ?_
            refine lv_bipush (v := 8) hx hb dH_enter_53 (by decide) ?_
            refine lv_icmp_lt (tgt := 68) hx hb dH_enter_55 (by decide) (fun c6 => ?_) (fun c6 => ?_)
            · have hk8 : k < 8 := ht_lt8 hk hn c6
              refine lv_iload_n hx hb dH_enter_68 rfl (lv_at hl 1 rfl) ?_
              refine lv_iload_n hx hb dH_enter_69 rfl (lv_at hl 2 rfl) ?_
              refine lv_isub hx hb dH_enter_70 ?_
              refine lv_iconst (v := 1) hx hb dH_enter_71 (by decide) ?_
              refine lv_iadd hx hb dH_enter_72 ?_
              refine lv_istore_n (lv' := [(3, .int ((x - y) + 1)), (0, .ref (q 0)), (1, .int x), (2, .int y)]) hx hb dH_enter_73 rfl hl (by decide) rfl (fun ls hl => ?_)
              refine lv_aload_n hx hb dH_enter_74 rfl (lv_at hl 1 rfl) ?_
              refine lv_iload_n hx hb dH_enter_75 rfl (lv_at hl 0 rfl) ?_
              refine lv_iload_n hx hb dH_enter_76 rfl (lv_at hl 2 rfl) ?_
              refine vp_callSi (va_Run.run (va_runV (As := [.int ((x - y) + 1), .int x]) (rest := []) ⟨hx, hb, hml, hown, hts⟩ (xH_isStoodOn l D cA q g k hk hn ((x - y) + 1) x) (cwV 2 hts (ht_gV w193 w195 s1 w1 w196) rfl rfl rfl (by decide +kernel) ⟨Nat.le_of_ble_eq_true rfl, Nat.le_of_ble_eq_true rfl⟩) ⟨ht_bl, va_recv hK hP (ci := 1) (q0 := 0) rfl ht_atO, fun U hU hW => ⟨rfl, ht_Im hP hK hN hU hW⟩⟩ rfl rfl hl.1 rfl (lv_room (Nat.le_of_ble_eq_true rfl)) dH_enter_77 ⟨Nat.le_of_ble_eq_true rfl, Nat.le_of_ble_eq_true rfl⟩)) (fun r7 hr7 => ?_)
              subst hr7
              refine lv_if_eq (tgt := 93) hx hb dH_enter_80 (by decide) (fun c8 => ?_) (fun c8 => ?_)
              · replace c8 := ht_b0.mp c8
                refine lv_aload_n hx hb dH_enter_93 rfl (lv_at hl 1 rfl) ?_
                refine lv_iload_n hx hb dH_enter_94 rfl (lv_at hl 0 rfl) ?_
                refine vp_callSi (va_Run.run (va_runS (As := [.int ((x - y) + 1)]) (rest := [.ref (q 0)]) ⟨hx, hb, hml, hown, hts⟩ (xH_sectionOf l D cA q g ((x - y) + 1)) (cwS 1 hts (ht_gS w206 w207 w1 w208) rfl rfl rfl (by decide +kernel) ⟨Nat.le_of_ble_eq_true rfl, Nat.le_of_ble_eq_true rfl⟩) ⟨ht_bl, fun U hU hW => ⟨rfl, ht_Im hP hK hN hU hW⟩⟩ rfl rfl hl.1 rfl (lv_room (Nat.le_of_ble_eq_true rfl)) dH_enter_95 ⟨Nat.le_of_ble_eq_true rfl, Nat.le_of_ble_eq_true rfl⟩)) (fun r9 hr9 => ?_)
                subst hr9
                refine lv_iload_n hx hb dH_enter_98 rfl (lv_at hl 2 rfl) ?_
                refine vp_callSi (va_Run.run (va_runS (As := [.int x]) (rest := [.int (((x - y) + 1) / 10), .ref (q 0)]) ⟨hx, hb, hml, hown, hts⟩ (xH_sectionOf l D cA q g x) (cwS 1 hts (ht_gS w206 w207 w1 w208) rfl rfl rfl (by decide +kernel) ⟨Nat.le_of_ble_eq_true rfl, Nat.le_of_ble_eq_true rfl⟩) ⟨ht_bl, fun U hU hW => ⟨rfl, ht_Im hP hK hN hU hW⟩⟩ rfl rfl hl.1 rfl (lv_room (Nat.le_of_ble_eq_true rfl)) dH_enter_99 ⟨Nat.le_of_ble_eq_true rfl, Nat.le_of_ble_eq_true rfl⟩)) (fun r10 hr10 => ?_)
                subst hr10
                refine lv_iconst (v := (-1)) hx hb dH_enter_102 (by decide) ?_
                refine vp_callSi (va_Run.run (va_runV (As := [.int (((x - y) + 1) / 10), .int (x / 10), .int (-1 : Int32)]) (rest := []) ⟨hx, hb, hml, hown, hts⟩ (xH_isAnyClaimed l D cA q g k hk hn (((x - y) + 1) / 10) (x / 10) (-1 : Int32)) (cwV 3 hts (ht_gV w209 w211 s4 w1 w212) rfl rfl rfl (by decide +kernel) ⟨Nat.le_of_ble_eq_true rfl, Nat.le_of_ble_eq_true rfl⟩) ⟨ht_bl, va_recv hK hP (ci := 1) (q0 := 0) rfl ht_atO, fun U hU hW => ⟨rfl, ht_Im hP hK hN hU hW⟩⟩ rfl rfl hl.1 rfl (lv_room (Nat.le_of_ble_eq_true rfl)) dH_enter_103 ⟨Nat.le_of_ble_eq_true rfl, Nat.le_of_ble_eq_true rfl⟩)) (fun r11 hr11 => ?_)
                subst hr11
                refine lv_if_eq (tgt := 119) hx hb dH_enter_106 (by decide) (fun c12 => ?_) (fun c12 => ?_)
                · replace c12 := ht_b0.mp c12
                  refine lv_aload_n hx hb dH_enter_119 rfl (lv_at hl 1 rfl) ?_
                  refine va_get (D := D) (ci := 1) (C := RH) (T := TH) (N := 7) (v := .ref (q 1)) hx hb hts inH hown hK hP 0 ht_atO rfl 0 (by decide) (hts _ w77) (fun _ h9 => h9) rfl dH_enter_120 ?_
                  refine lv_aload_n hx hb dH_enter_123 rfl (lv_at hl 1 rfl) ?_
                  refine va_get (D := D) (ci := 1) (C := RH) (T := TH) (N := 7) (v := .int (g 0 0)) hx hb hts inH hown hK hP 0 ht_atO rfl 1 (by decide) (hts _ w78) (fun _ h9 => h9) rfl dH_enter_124 ?_
                  refine ht_ldV hx hb hK hP (j := k) hk8 hn dH_enter_127 ?_
                  refine lv_iload_n hx hb dH_enter_128 rfl (lv_at hl 2 rfl) ?_
                  refine lv_iload_n hx hb dH_enter_129 rfl (lv_at hl 3 rfl) ?_
                  refine va_callv (va_runVN (As := [.int x, .int y]) (rest := []) ⟨hx, hb, hml, hown, hts⟩ (xV_becomeTrain l D cA q hJ _ g k hk8 x y ) ⟨va_cnB 2 hts (ht_gW w221) rfl rfl rfl (hN _ (List.mem_of_getElem? (i := 14) rfl)) (hts _ w2) (by decide +kernel) ⟨Nat.le_of_ble_eq_true rfl, Nat.le_of_ble_eq_true rfl⟩, hts _ w220, hts _ s6⟩ ⟨ht_bls, va_recv hK hP (ci := 0) (q0 := k + 6) rfl (ht_atV hk8), fun U hU hW => ⟨rfl, by rw [hU], ht_Im hP hK hN hU hW⟩⟩ rfl rfl hl.1 rfl (lv_room (Nat.le_of_ble_eq_true rfl)) dH_enter_130 ⟨Nat.le_of_ble_eq_true rfl, Nat.le_of_ble_eq_true rfl⟩) hS mw_AA (mw_AF hS.1) (fun u13 t13 H locs ht13 hvm13 hw13 hB13 hz13 hk13 hS => ?_)
                  have hP := hB13.1
                  rw [ht13] at hP
                  obtain ⟨g14, eg14⟩ : ∃ y9 : ht_G, y9 = ht_become k x y g := ⟨_, rfl⟩
                  rw [← eg14] at hP
                  refine lv_aload_n hx hb dH_enter_133 rfl (lv_at hl 1 rfl) ?_
                  refine lv_dup hx hb dH_enter_134 rfl ?_
                  refine va_get (D := D) (ci := 1) (C := RH) (T := TH) (N := 7) (v := .int (g14 0 0)) hx hb hts inH hown hK hP 0 ht_atO rfl 1 (by decide) (hts _ w78) (fun _ h9 => h9) rfl dH_enter_135 ?_
                  refine lv_iconst (v := 1) hx hb dH_enter_138 (by decide) ?_
                  refine lv_iadd hx hb dH_enter_139 ?_
                  refine va_put (D := D) (ci := 1) (C := RH) (T := TH) (N := 7) (v := .int ((g14 0 0) + 1)) (ty := .int) hx hb hts inH tyH tyH_ok nmH hown hK hP (mw_DA hJ) hS 0 ht_atO rfl 1 (by decide) (hts _ w78) (fun _ h9 => h9) rfl rfl rfl rfl (Nat.le_of_ble_eq_true rfl) dH_enter_140 (fun H locs hP _ hS => ?_)
                  rw [ht_stC] at hP
                  obtain ⟨g15, eg15⟩ : ∃ y9 : ht_G, y9 = ht_up g14 0 0 ((g14 0 0) + 1) := ⟨_, rfl⟩
                  rw [← eg15] at hP
                  refine lv_aload_n hx hb dH_enter_143 rfl (lv_at hl 1 rfl) ?_
                  refine va_callv (va_runV (As := []) (rest := []) ⟨hx, hb, hml, hown, hts⟩ (xH_findStates l D cA q hJ _ g15 (k + 1) (by omega) (by rw [eg15, ht_up_s, eg14, ht_become_o (by decide), hn]; exact nI_1 k) (ht_al_of hA (fun z _ => by rw [eg15, ht_up_r (by decide), eg14, ht_become_o (by decide)]))) (cwV 0 hts (ht_gV w226 w228 s8 w1 w229) rfl rfl rfl (by decide +kernel) ⟨Nat.le_of_ble_eq_true rfl, Nat.le_of_ble_eq_true rfl⟩) ⟨ht_bls, va_recv hK hP (ci := 1) (q0 := 0) rfl ht_atO, fun U hU hW => ⟨rfl, by rw [hU], ht_Im hP hK hN hU hW⟩⟩ rfl rfl hl.1 rfl (lv_room (Nat.le_of_ble_eq_true rfl)) dH_enter_144 ⟨Nat.le_of_ble_eq_true rfl, Nat.le_of_ble_eq_true rfl⟩) hS mw_AA (mw_AF hS.1) (fun u16 t16 H locs ht16 hvm16 hw16 hB16 hz16 hk16 hS => ?_)
                  have hP := hB16.1
                  rw [ht16] at hP
                  obtain ⟨g17, eg17⟩ : ∃ y9 : ht_G, y9 = ht_find (k + 1) g15 := ⟨_, rfl⟩
                  rw [← eg17] at hP
                  refine lv_aload_n hx hb dH_enter_147 rfl (lv_at hl 1 rfl) ?_
                  refine va_get (D := D) (ci := 1) (C := RH) (T := TH) (N := 7) (v := .int (g17 0 0)) hx hb hts inH hown hK hP 0 ht_atO rfl 1 (by decide) (hts _ w78) (fun _ h9 => h9) rfl dH_enter_148 ?_
                  refine lv_iconst (v := 1) hx hb dH_enter_151 (by decide) ?_
                  refine lv_isub hx hb dH_enter_152 ?_
                  have hG : g17 = (ht_oEnter g k x y).2.2 := by rw [eg17, eg15, eg14]; simp [ht_oEnter, c1, c2, c3, c4, c5, c6, c8, c12]
                  have hC : (ht_oEnter g k x y).1 = 0 := by simp [ht_oEnter, c1, c2, c3, c4, c5, c6, c8, c12]
                  have hV : (g17 0 0) - 1 = (ht_oEnter g k x y).2.1 := by rw [eg17, eg15, eg14]; simp [ht_oEnter, c1, c2, c3, c4, c5, c6, c8, c12]
                  rw [hG] at hP
                  exact vx_ret (W.widen (k := 1) (n := 6) (Nat.le_of_ble_eq_true rfl) (Nat.le_of_ble_eq_true rfl) (W.iret (v := (g17 0 0) - 1) hx hb hr (fun t ht hW => ⟨⟨(g17 0 0) - 1, (), rfl, ⟨hC, hV⟩, by show va_P D ht_cl (ht_w cA q (ht_oEnter g k x y).2.2) t.heap; rw [ht]; exact hP⟩, hS.F ht⟩) hS.2.2 dH_enter_153))
                · replace c12 := ht_b1.mp c12
                  obtain ⟨sa, hsa⟩ := hR _ (List.mem_of_getElem? (i := 4) rfl)
                  exact vx_throwS (names := ht_nm) (A := mw_A 14 q s.heap.size) hx hb hl0 hown (by decide) (by decide) (hts _ w177) (hts _ w8) hsa (vx_hat (fun w h => hts w (xg_S w h)) xb_S (fun w h => va_Nw.use (ht_X.on h) (hX w h))) xo_S hZ.1 hZ.2 hS (by rw [hml]; exact hl.1) dH_enter_109 dH_enter_112 dH_enter_113 dH_enter_115 dH_enter_118 (fun x hx => (htab x hx).elim) (Nat.le_of_ble_eq_true rfl) (Nat.le_of_ble_eq_true rfl) (Nat.le_of_ble_eq_true rfl) (Nat.le_of_ble_eq_true rfl) hlocks (fun t ha hz9 hk9 => ⟨(), trivial, ⟨ht_Px hP hk9, by rw [show (ht_oEnter g k x y).1 = 2 by simp [ht_oEnter, c1, c2, c3, c4, c5, c6, c8, c12]]; exact List.mem_of_getElem? (i := 1) rfl⟩, ht_Fx hS hz9 hk9⟩) hS.2.2 (Nat.le_of_ble_eq_true rfl) (Nat.le_of_ble_eq_true rfl)
              · replace c8 := ht_b1.mp c8
                obtain ⟨sa, hsa⟩ := hR _ (List.mem_of_getElem? (i := 3) rfl)
                exact vx_throwS (names := ht_nm) (A := mw_A 14 q s.heap.size) hx hb hl0 hown (by decide) (by decide) (hts _ w177) (hts _ w8) hsa (vx_hat (fun w h => hts w (xg_S w h)) xb_S (fun w h => va_Nw.use (ht_X.on h) (hX w h))) xo_S hZ.1 hZ.2 hS (by rw [hml]; exact hl.1) dH_enter_83 dH_enter_86 dH_enter_87 dH_enter_89 dH_enter_92 (fun x hx => (htab x hx).elim) (Nat.le_of_ble_eq_true rfl) (Nat.le_of_ble_eq_true rfl) (Nat.le_of_ble_eq_true rfl) (Nat.le_of_ble_eq_true rfl) hlocks (fun t ha hz9 hk9 => ⟨(), trivial, ⟨ht_Px hP hk9, by rw [show (ht_oEnter g k x y).1 = 2 by simp [ht_oEnter, c1, c2, c3, c4, c5, c6, c8]]; exact List.mem_of_getElem? (i := 1) rfl⟩, ht_Fx hS hz9 hk9⟩) hS.2.2 (Nat.le_of_ble_eq_true rfl) (Nat.le_of_ble_eq_true rfl)
            · obtain ⟨sa, hsa⟩ := hR _ (List.mem_of_getElem? (i := 2) rfl)
              exact vx_throwS (names := ht_nm) (A := mw_A 14 q s.heap.size) hx hb hl0 hown (by decide) (by decide) (hts _ w177) (hts _ w8) hsa (vx_hat (fun w h => hts w (xg_S w h)) xb_S (fun w h => va_Nw.use (ht_X.on h) (hX w h))) xo_S hZ.1 hZ.2 hS (by rw [hml]; exact hl.1) dH_enter_58 dH_enter_61 dH_enter_62 dH_enter_64 dH_enter_67 (fun x hx => (htab x hx).elim) (Nat.le_of_ble_eq_true rfl) (Nat.le_of_ble_eq_true rfl) (Nat.le_of_ble_eq_true rfl) (Nat.le_of_ble_eq_true rfl) hlocks (fun t ha hz9 hk9 => ⟨(), trivial, ⟨ht_Px hP hk9, by rw [show (ht_oEnter g k x y).1 = 2 by simp [ht_oEnter, c1, c2, c3, c4, c5, c6]]; exact List.mem_of_getElem? (i := 1) rfl⟩, ht_Fx hS hz9 hk9⟩) hS.2.2 (Nat.le_of_ble_eq_true rfl) (Nat.le_of_ble_eq_true rfl)
          · obtain ⟨sa, hsa⟩ := hR _ (List.mem_of_getElem? (i := 1) rfl)
            exact vx_throwS (names := ht_nm) (A := mw_A 14 q s.heap.size) hx hb hl0 hown (by decide) (by decide) (hts _ w108) (hts _ w7) hsa (vx_hat (fun w h => hts w (xg_A w h)) xb_A (fun w h => va_Nw.use (ht_X.on h) (hX w h))) xo_A hZ.1 hZ.2 hS (by rw [hml]; exact hl.1) dH_enter_39 dH_enter_42 dH_enter_43 dH_enter_45 dH_enter_48 (fun x hx => (htab x hx).elim) (Nat.le_of_ble_eq_true rfl) (Nat.le_of_ble_eq_true rfl) (Nat.le_of_ble_eq_true rfl) (Nat.le_of_ble_eq_true rfl) hlocks (fun t ha hz9 hk9 => ⟨(), trivial, ⟨ht_Px hP hk9, by rw [show (ht_oEnter g k x y).1 = 1 by simp [ht_oEnter, c1, c2, c3, c4, c5]]; exact List.mem_of_getElem? (i := 0) rfl⟩, ht_Fx hS hz9 hk9⟩) hS.2.2 (Nat.le_of_ble_eq_true rfl) (Nat.le_of_ble_eq_true rfl)
    · obtain ⟨sa, hsa⟩ := hR _ (List.mem_of_getElem? (i := 0) rfl)
      exact vx_throwS (names := ht_nm) (A := mw_A 14 q s.heap.size) hx hb hl0 hown (by decide) (by decide) (hts _ w108) (hts _ w7) hsa (vx_hat (fun w h => hts w (xg_A w h)) xb_A (fun w h => va_Nw.use (ht_X.on h) (hX w h))) xo_A hZ.1 hZ.2 hS (by rw [hml]; exact hl.1) dH_enter_11 dH_enter_14 dH_enter_15 dH_enter_17 dH_enter_20 (fun x hx => (htab x hx).elim) (Nat.le_of_ble_eq_true rfl) (Nat.le_of_ble_eq_true rfl) (Nat.le_of_ble_eq_true rfl) (Nat.le_of_ble_eq_true rfl) hlocks (fun t ha hz9 hk9 => ⟨(), trivial, ⟨ht_Px hP hk9, by rw [show (ht_oEnter g k x y).1 = 1 by simp [ht_oEnter, c1, c2]]; exact List.mem_of_getElem? (i := 0) rfl⟩, ht_Fx hS hz9 hk9⟩) hS.2.2 (Nat.le_of_ble_eq_true rfl) (Nat.le_of_ble_eq_true rfl)
