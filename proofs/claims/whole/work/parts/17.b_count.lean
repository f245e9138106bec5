set_option maxHeartbeats 4000000 in
set_option maxRecDepth 100000 in
theorem xH_count (l : Launch) (hl0 : l.stackTraces = false) (D : va_G) (cA : ClassId × ClassId) (q : Nat → Nat) (hJ : mw_J 14 q) (sz : Nat) (g : ht_G) (k : Nat) (hk : k ≤ 8) (hn : g 0 0 = nI k) (y : Int32) : vx_Met l yH_count kH_count ({ frames := 6, cells := 1, slots := 6, locals := 109 }) (va_Pc [.ref (q 0), .int y] (ht_E D cA q g sz)) (va_Qi (fun r (_ : Unit) => (ht_oCount g k y).1 = 0 ∧ r = (ht_oCount g k y).2.1) (fun _ t => va_P D ht_cl (ht_w cA q (ht_oCount g k y).2.2) t.heap) (mw_A 14 q sz)) (vx_X (fun _ : Unit => True) (fun E _ t => va_P D ht_cl (ht_w cA q g) t.heap ∧ ((ht_oCount g k y).1, E) ∈ [((1 : Int32), EA)]) (mw_A 14 q sz)) 1 6 (mw_A 14 q sz) := by
  refine vx_ofW (cc := cH_count) (maxL := 2) (ret := (some .int)) (by decide) rfl ?_
  intro p e s m args below meth c s₁ B hml htab hv
  obtain ⟨rfl, hsz, ⟨hP, hK, hN⟩, hX, hR, hZ⟩ := hv
  have hx := B.exec
  have hb := B.bytes
  have hr := B.returns
  have hts := fun w h => atoms_spec (ws := kH_count) B.pre w (List.mem_cons_of_mem _ h)
  have hown : s.vm.findClass RH = some m.cls := findClass_of_methodNamed B.named
  have hlocks := B.notSynchronized
  subst hsz
  have hS : va_S (mw_A 14 q s.heap.size) s.heap s.heap [] := va_S.rf
  have hl := lv_entry ([.ref (q 0), .int y]) (n := 2) (Nat.le_of_ble_eq_true rfl)
  rw [lg_entry_eq]
  generalize (lg_sl ([.ref (q 0), .int y]) ++ List.replicate (2 - (lg_sl ([.ref (q 0), .int y])).length) Slot.unset).toArray = ls at hl ⊢
  have hl : lv_has ls 2 [(0, .ref (q 0)), (1, .int y)] := hl
  refine lv_iload_n hx hb dH_count_0 rfl (lv_at hl 1 rfl) ?_
  by_cases c1 : y = 0
  · refine lv_tableIn (tgt := 48) (off := 47) hx hb dH_count_1 (by rw [c1]; decide) (by rw [c1]; decide) (by rw [c1]; rfl) (by decide) ?_
    refine lv_aload_n hx hb dH_count_48 rfl (lv_at hl 0 rfl) ?_
    refine va_get (D := D) (ci := 1) (C := RH) (T := TH) (N := 7) (v := .int (g 0 0)) hx hb hts inH hown hK hP 0 ht_atO rfl 1 (by decide) (hts _ w78) (fun _ h9 => h9) rfl dH_count_49 ?_
    have hG : g = (ht_oCount g k y).2.2 := by simp [ht_oCount, c1]
    have hC : (ht_oCount g k y).1 = 0 := by simp [ht_oCount, c1]
    have hV : g 0 0 = (ht_oCount g k y).2.1 := by simp [ht_oCount, c1, ht_up]
    rw [hG] at hP
    exact vx_ret (W.widen (k := 1) (n := 6) (Nat.le_of_ble_eq_true rfl) (Nat.le_of_ble_eq_true rfl) (W.iret (v := g 0 0) hx hb hr (fun t ht hW => ⟨⟨g 0 0, (), rfl, ⟨hC, hV⟩, by show va_P D ht_cl (ht_w cA q (ht_oCount g k y).2.2) t.heap; rw [ht]; exact hP⟩, hS.F ht⟩) hS.2.2 dH_count_52))
  ·
    by_cases c2 : y = 1
    · refine lv_tableIn (tgt := 53) (off := 52) hx hb dH_count_1 (by rw [c2]; decide) (by rw [c2]; decide) (by rw [c2]; rfl) (by decide) ?_
      refine lv_aload_n hx hb dH_count_53 rfl (lv_at hl 0 rfl) ?_
      refine vp_callSi (va_Run.run (va_runV (As := []) (rest := []) ⟨hx, hb, hml, hown, hts⟩ (xH_trainsThatCame l D cA q g k hk hn ) (cwV 0 hts (ht_gV w425 w427 s29 w1 w428) rfl rfl rfl (by decide +kernel) ⟨Nat.le_of_ble_eq_true rfl, Nat.le_of_ble_eq_true rfl⟩) ⟨ht_bl, va_recv hK hP (ci := 1) (q0 := 0) rfl ht_atO, fun U hU hW => ⟨rfl, ht_Im hP hK hN hU hW⟩⟩ rfl rfl hl.1 rfl (lv_room (Nat.le_of_ble_eq_true rfl)) dH_count_54 ⟨Nat.le_of_ble_eq_true rfl, Nat.le_of_ble_eq_true rfl⟩)) (fun r3 hr3 => ?_)
      subst hr3
      have hG : g = (ht_oCount g k y).2.2 := by simp [ht_oCount, c1, c2]
      have hC : (ht_oCount g k y).1 = 0 := by simp [ht_oCount, c1, c2]
      have hV : nI (ht_trains g k) = (ht_oCount g k y).2.1 := by simp [ht_oCount, c1, c2, ht_up]
      rw [hG] at hP
      exact vx_ret (W.widen (k := 1) (n := 6) (Nat.le_of_ble_eq_true rfl) (Nat.le_of_ble_eq_true rfl) (W.iret (v := nI (ht_trains g k)) hx hb hr (fun t ht hW => ⟨⟨nI (ht_trains g k), (), rfl, ⟨hC, hV⟩, by show va_P D ht_cl (ht_w cA q (ht_oCount g k y).2.2) t.heap; rw [ht]; exact hP⟩, hS.F ht⟩) hS.2.2 dH_count_57))
    ·
      by_cases c4 : y = 2
      · refine lv_tableIn (tgt := 58) (off := 57) hx hb dH_count_1 (by rw [c4]; decide) (by rw [c4]; decide) (by rw [c4]; rfl) (by decide) ?_
        refine lv_aload_n hx hb dH_count_58 rfl (lv_at hl 0 rfl) ?_
        refine lv_iconst (v := 0) hx hb dH_count_59 (by decide) ?_
        refine vp_callSi (va_Run.run (va_runV (As := [.int 0]) (rest := []) ⟨hx, hb, hml, hown, hts⟩ (xH_sectionsInState l D cA q g k hk hn 0) (cwV 1 hts (ht_gV w388 w390 s28 w1 w391) rfl rfl rfl (by decide +kernel) ⟨Nat.le_of_ble_eq_true rfl, Nat.le_of_ble_eq_true rfl⟩) ⟨ht_bl, va_recv hK hP (ci := 1) (q0 := 0) rfl ht_atO, fun U hU hW => ⟨rfl, ht_Im hP hK hN hU hW⟩⟩ rfl rfl hl.1 rfl (lv_room (Nat.le_of_ble_eq_true rfl)) dH_count_60 ⟨Nat.le_of_ble_eq_true rfl, Nat.le_of_ble_eq_true rfl⟩)) (fun r5 hr5 => ?_)
        subst hr5
        have hG : g = (ht_oCount g k y).2.2 := by simp [ht_oCount, c1, c2, c4]
        have hC : (ht_oCount g k y).1 = 0 := by simp [ht_oCount, c1, c2, c4]
        have hV : nI (ht_in g 0) = (ht_oCount g k y).2.1 := by simp [ht_oCount, c1, c2, c4, ht_up]
        rw [hG] at hP
        exact vx_ret (W.widen (k := 1) (n := 6) (Nat.le_of_ble_eq_true rfl) (Nat.le_of_ble_eq_true rfl) (W.iret (v := nI (ht_in g 0)) hx hb hr (fun t ht hW => ⟨⟨nI (ht_in g 0), (), rfl, ⟨hC, hV⟩, by show va_P D ht_cl (ht_w cA q (ht_oCount g k y).2.2) t.heap; rw [ht]; exact hP⟩, hS.F ht⟩) hS.2.2 dH_count_63))
      ·
        by_cases c6 : y = 3
        · refine lv_tableIn (tgt := 64) (off := 63) hx hb dH_count_1 (by rw [c6]; decide) (by rw [c6]; decide) (by rw [c6]; rfl) (by decide) ?_
          refine lv_aload_n hx hb dH_count_64 rfl (lv_at hl 0 rfl) ?_
          refine lv_iconst (v := 1) hx hb dH_count_65 (by decide) ?_
          refine vp_callSi (va_Run.run (va_runV (As := [.int 1]) (rest := []) ⟨hx, hb, hml, hown, hts⟩ (xH_sectionsInState l D cA q g k hk hn 1) (cwV 1 hts (ht_gV w388 w390 s28 w1 w391) rfl rfl rfl (by decide +kernel) ⟨Nat.le_of_ble_eq_true rfl, Nat.le_of_ble_eq_true rfl⟩) ⟨ht_bl, va_recv hK hP (ci := 1) (q0 := 0) rfl ht_atO, fun U hU hW => ⟨rfl, ht_Im hP hK hN hU hW⟩⟩ rfl rfl hl.1 rfl (lv_room (Nat.le_of_ble_eq_true rfl)) dH_count_66 ⟨Nat.le_of_ble_eq_true rfl, Nat.le_of_ble_eq_true rfl⟩)) (fun r7 hr7 => ?_)
          subst hr7
          have hG : g = (ht_oCount g k y).2.2 := by simp [ht_oCount, c1, c2, c4, c6]
          have hC : (ht_oCount g k y).1 = 0 := by simp [ht_oCount, c1, c2, c4, c6]
          have hV : nI (ht_in g 1) = (ht_oCount g k y).2.1 := by simp [ht_oCount, c1, c2, c4, c6, ht_up]
          rw [hG] at hP
          exact vx_ret (W.widen (k := 1) (n := 6) (Nat.le_of_ble_eq_true rfl) (Nat.le_of_ble_eq_true rfl) (W.iret (v := nI (ht_in g 1)) hx hb hr (fun t ht hW => ⟨⟨nI (ht_in g 1), (), rfl, ⟨hC, hV⟩, by show va_P D ht_cl (ht_w cA q (ht_oCount g k y).2.2) t.heap; rw [ht]; exact hP⟩, hS.F ht⟩) hS.2.2 dH_count_69))
        ·
          by_cases c8 : y = 4
          · refine lv_tableIn (tgt := 70) (off := 69) hx hb dH_count_1 (by rw [c8]; decide) (by rw [c8]; decide) (by rw [c8]; rfl) (by decide) ?_
            refine lv_aload_n hx hb dH_count_70 rfl (lv_at hl 0 rfl) ?_
            refine lv_iconst (v := 2) hx hb dH_count_71 (by decide) ?_
            refine vp_callSi (va_Run.run (va_runV (As := [.int 2]) (rest := []) ⟨hx, hb, hml, hown, hts⟩ (xH_sectionsInState l D cA q g k hk hn 2) (cwV 1 hts (ht_gV w388 w390 s28 w1 w391) rfl rfl rfl (by decide +kernel) ⟨Nat.le_of_ble_eq_true rfl, Nat.le_of_ble_eq_true rfl⟩) ⟨ht_bl, va_recv hK hP (ci := 1) (q0 := 0) rfl ht_atO, fun U hU hW => ⟨rfl, ht_Im hP hK hN hU hW⟩⟩ rfl rfl hl.1 rfl (lv_room (Nat.le_of_ble_eq_true rfl)) dH_count_72 ⟨Nat.le_of_ble_eq_true rfl, Nat.le_of_ble_eq_true rfl⟩)) (fun r9 hr9 => ?_)
            subst hr9
            have hG : g = (ht_oCount g k y).2.2 := by simp [ht_oCount, c1, c2, c4, c6, c8]
            have hC : (ht_oCount g k y).1 = 0 := by simp [ht_oCount, c1, c2, c4, c6, c8]
            have hV : nI (ht_in g 2) = (ht_oCount g k y).2.1 := by simp [ht_oCount, c1, c2, c4, c6, c8, ht_up]
            rw [hG] at hP
            exact vx_ret (W.widen (k := 1) (n := 6) (Nat.le_of_ble_eq_true rfl) (Nat.le_of_ble_eq_true rfl) (W.iret (v := nI (ht_in g 2)) hx hb hr (fun t ht hW => ⟨⟨nI (ht_in g 2), (), rfl, ⟨hC, hV⟩, by show va_P D ht_cl (ht_w cA q (ht_oCount g k y).2.2) t.heap; rw [ht]; exact hP⟩, hS.F ht⟩) hS.2.2 dH_count_75))
          ·
            by_cases c10 : y = 5
            · refine lv_tableIn (tgt := 76) (off := 75) hx hb dH_count_1 (by rw [c10]; decide) (by rw [c10]; decide) (by rw [c10]; rfl) (by decide) ?_
              refine lv_aload_n hx hb dH_count_76 rfl (lv_at hl 0 rfl) ?_
              refine lv_iconst (v := 3) hx hb dH_count_77 (by decide) ?_
              refine vp_callSi (va_Run.run (va_runV (As := [.int 3]) (rest := []) ⟨hx, hb, hml, hown, hts⟩ (xH_sectionsInState l D cA q g k hk hn 3) (cwV 1 hts (ht_gV w388 w390 s28 w1 w391) rfl rfl rfl (by decide +kernel) ⟨Nat.le_of_ble_eq_true rfl, Nat.le_of_ble_eq_true rfl⟩) ⟨ht_bl, va_recv hK hP (ci := 1) (q0 := 0) rfl ht_atO, fun U hU hW => ⟨rfl, ht_Im hP hK hN hU hW⟩⟩ rfl rfl hl.1 rfl (lv_room (Nat.le_of_ble_eq_true rfl)) dH_count_78 ⟨Nat.le_of_ble_eq_true rfl, Nat.le_of_ble_eq_true rfl⟩)) (fun r11 hr11 => ?_)
              subst hr11
              have hG : g = (ht_oCount g k y).2.2 := by simp [ht_oCount, c1, c2, c4, c6, c8, c10]
              have hC : (ht_oCount g k y).1 = 0 := by simp [ht_oCount, c1, c2, c4, c6, c8, c10]
              have hV : nI (ht_in g 3) = (ht_oCount g k y).2.1 := by simp [ht_oCount, c1, c2, c4, c6, c8, c10, ht_up]
              rw [hG] at hP
              exact vx_ret (W.widen (k := 1) (n := 6) (Nat.le_of_ble_eq_true rfl) (Nat.le_of_ble_eq_true rfl) (W.iret (v := nI (ht_in g 3)) hx hb hr (fun t ht hW => ⟨⟨nI (ht_in g 3), (), rfl, ⟨hC, hV⟩, by show va_P D ht_cl (ht_w cA q (ht_oCount g k y).2.2) t.heap; rw [ht]; exact hP⟩, hS.F ht⟩) hS.2.2 dH_count_81))
            ·
              by_cases c12 : y = 6
              · refine lv_tableIn (tgt := 82) (off := 81) hx hb dH_count_1 (by rw [c12]; decide) (by rw [c12]; decide) (by rw [c12]; rfl) (by decide) ?_
                refine lv_aload_n hx hb dH_count_82 rfl (lv_at hl 0 rfl) ?_
                refine vp_callSi (va_Run.run (va_runV (As := []) (rest := []) ⟨hx, hb, hml, hown, hts⟩ (xH_sectionsWronglyFree l D cA q g k hk hn ) (cwV 0 hts (ht_gV w429 w431 s30 w1 w432) rfl rfl rfl (by decide +kernel) ⟨Nat.le_of_ble_eq_true rfl, Nat.le_of_ble_eq_true rfl⟩) ⟨ht_bl, va_recv hK hP (ci := 1) (q0 := 0) rfl ht_atO, fun U hU hW => ⟨rfl, ht_Im hP hK hN hU hW⟩⟩ rfl rfl hl.1 rfl (lv_room (Nat.le_of_ble_eq_true rfl)) dH_count_83 ⟨Nat.le_of_ble_eq_true rfl, Nat.le_of_ble_eq_true rfl⟩)) (fun r13 hr13 => ?_)
                subst hr13
                have hG : g = (ht_oCount g k y).2.2 := by simp [ht_oCount, c1, c2, c4, c6, c8, c10, c12]
                have hC : (ht_oCount g k y).1 = 0 := by simp [ht_oCount, c1, c2, c4, c6, c8, c10, c12]
                have hV : nI (ht_wrong g k) = (ht_oCount g k y).2.1 := by simp [ht_oCount, c1, c2, c4, c6, c8, c10, c12, ht_up]
                rw [hG] at hP
                exact vx_ret (W.widen (k := 1) (n := 6) (Nat.le_of_ble_eq_true rfl) (Nat.le_of_ble_eq_true rfl) (W.iret (v := nI (ht_wrong g k)) hx hb hr (fun t ht hW => ⟨⟨nI (ht_wrong g k), (), rfl, ⟨hC, hV⟩, by show va_P D ht_cl (ht_w cA q (ht_oCount g k y).2.2) t.heap; rw [ht]; exact hP⟩, hS.F ht⟩) hS.2.2 dH_count_86))
              ·
                by_cases c14 : y = 7
                · refine lv_tableIn (tgt := 87) (off := 86) hx hb dH_count_1 (by rw [c14]; decide) (by rw [c14]; decide) (by rw [c14]; rfl) (by decide) ?_
                  refine lv_aload_n hx hb dH_count_87 rfl (lv_at hl 0 rfl) ?_
                  refine va_get (D := D) (ci := 1) (C := RH) (T := TH) (N := 7) (v := .int (g 0 1)) hx hb hts inH hown hK hP 0 ht_atO rfl 2 (by decide) (hts _ w79) (fun _ h9 => h9) rfl dH_count_88 ?_
                  have hG : g = (ht_oCount g k y).2.2 := by simp [ht_oCount, c1, c2, c4, c6, c8, c10, c12, c14]
                  have hC : (ht_oCount g k y).1 = 0 := by simp [ht_oCount, c1, c2, c4, c6, c8, c10, c12, c14]
                  have hV : g 0 1 = (ht_oCount g k y).2.1 := by simp [ht_oCount, c1, c2, c4, c6, c8, c10, c12, c14, ht_up]
                  rw [hG] at hP
                  exact vx_ret (W.widen (k := 1) (n := 6) (Nat.le_of_ble_eq_true rfl) (Nat.le_of_ble_eq_true rfl) (W.iret (v := g 0 1) hx hb hr (fun t ht hW => ⟨⟨g 0 1, (), rfl, ⟨hC, hV⟩, by show va_P D ht_cl (ht_w cA q (ht_oCount g k y).2.2) t.heap; rw [ht]; exact hP⟩, hS.F ht⟩) hS.2.2 dH_count_91))
                ·
                  have nc1 := lv_neT c1 (a := 0) rfl
                  have nc2 := lv_neT c2 (a := 1) rfl
                  have nc4 := lv_neT c4 (a := 2) rfl
                  have nc6 := lv_neT c6 (a := 3) rfl
                  have nc8 := lv_neT c8 (a := 4) rfl
                  have nc10 := lv_neT c10 (a := 5) rfl
                  have nc12 := lv_neT c12 (a := 6) rfl
                  have nc14 := lv_neT c14 (a := 7) rfl
                  refine lv_tableOut (tgt := 92) hx hb dH_count_1 (by omega) (by decide) ?_
                  obtain ⟨sa, hsa⟩ := hR _ (List.mem_of_getElem? (i := 18) rfl)
                  exact vx_throwS (names := ht_nm) (A := mw_A 14 q s.heap.size) hx hb hl0 hown (by decide) (by decide) (hts _ w108) (hts _ w7) hsa (vx_hat (fun w h => hts w (xg_A w h)) xb_A (fun w h => va_Nw.use (ht_X.on h) (hX w h))) xo_A hZ.1 hZ.2 hS (by rw [hml]; exact hl.1) dH_count_92 dH_count_95 dH_count_96 dH_count_98 dH_count_101 (fun x hx => (htab x hx).elim) (Nat.le_of_ble_eq_true rfl) (Nat.le_of_ble_eq_true rfl) (Nat.le_of_ble_eq_true rfl) (Nat.le_of_ble_eq_true rfl) hlocks (fun t ha hz9 hk9 => ⟨(), trivial, ⟨ht_Px hP hk9, by rw [show (ht_oCount g k y).1 = 1 by simp [ht_oCount, c1, c2, c4, c6, c8, c10, c12, c14]]; exact List.mem_of_getElem? (i := 0) rfl⟩, ht_Fx hS hz9 hk9⟩) hS.2.2 (Nat.le_of_ble_eq_true rfl) (Nat.le_of_ble_eq_true rfl)
