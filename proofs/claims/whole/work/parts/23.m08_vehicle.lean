set_option maxHeartbeats 4000000 in
set_option maxRecDepth 100000 in
theorem xM_vehicle (l : Launch) (D : va_G) (cB : ClassId × ClassId) (q : Nat → Nat) (hJ : mw_J 17 q) (sz : Nat) (g : ht_G) (k : Nat) (hk : k ≤ 8) (hn : g 0 1 = nI k) (x y : Int32) : Met l yM_vehicle kM_vehicle ({ frames := 1, cells := 0, slots := 0, locals := 22 }) (va_Pc [.ref (q 0), .int x, .int y] (fun U => U.heap.size = sz ∧ rf_I D cB q g U)) (va_Qi (fun r (_ : Unit) => r = (rf_oVehicle (ht_up g 0 0 0) k x y).1) (fun _ t => rf_I D cB q ((rf_oVehicle (ht_up g 0 0 0) k x y).2) t) (mw_A 17 q sz)) 0 0 (mw_A 17 q sz) := by
  refine Met.ofW (cc := cM_vehicle) (maxL := 3) (ret := (some .int)) (by decide) rfl ?_
  intro p e s m args below meth c s₁ B hml hv
  obtain ⟨rfl, hsz, hP, hK, hN⟩ := hv
  have hx := B.exec
  have hb := B.bytes
  have hr := B.returns
  have hts := fun w h => atoms_spec (ws := kM_vehicle) B.pre w (List.mem_cons_of_mem _ h)
  have hown : s.vm.findClass RM = some m.cls := findClass_of_methodNamed B.named
  have hlocks := B.notSynchronized
  subst hsz
  have hS : va_S (mw_A 17 q s.heap.size) s.heap s.heap [] := va_S.rf
  have hl := lv_entry ([.ref (q 0), .int x, .int y]) (n := 3) (Nat.le_of_ble_eq_true rfl)
  rw [lg_entry_eq]
  generalize (lg_sl ([.ref (q 0), .int x, .int y]) ++ List.replicate (3 - (lg_sl ([.ref (q 0), .int x, .int y])).length) Slot.unset).toArray = ls at hl ⊢
  have hl : lv_has ls 3 [(0, .ref (q 0)), (1, .int x), (2, .int y)] := hl
  refine lv_aload_n hx hb dM_vehicle_0 rfl (lv_at hl 0 rfl) ?_
  refine lv_iconst (v := 0) hx hb dM_vehicle_1 (by decide) ?_
  refine va_put (D := D) (ci := 2) (C := RM) (T := TM) (N := 19) (v := .int 0) (ty := .int) hx hb hts inM tyM tyM_ok nmM hown hK hP (mw_DA hJ) hS 0 rf_at0 rfl 0 (by decide) (hts _ w444) (fun _ h9 => h9) rfl rfl rfl rfl (Nat.le_of_ble_eq_true rfl) dM_vehicle_2 (fun H locs hP _ hS => ?_)
  rw [rf_st0] at hP
  obtain ⟨g1, eg1⟩ : ∃ y9 : ht_G, y9 = ht_up g 0 0 0 := ⟨_, rfl⟩
  rw [← eg1] at hP
  have hn1 : g1 0 1 = nI k := by rw [eg1, ht_up_k (by decide)]; exact hn
  refine lv_iload_n hx hb dM_vehicle_5 rfl (lv_at hl 1 rfl) ?_
  refine lv_iconst (v := 0) hx hb dM_vehicle_6 (by decide) ?_
  refine lv_aload_n hx hb dM_vehicle_7 rfl (lv_at hl 0 rfl) ?_
  refine va_get (D := D) (ci := 2) (C := RM) (T := TM) (N := 19) (v := .int (g1 0 1)) hx hb hts inM hown hK hP 0 rf_at0 rfl 14 (by decide) (hts _ w458) (fun _ h9 => h9) rfl dM_vehicle_8 ?_
  refine lv_iconst (v := 1) hx hb dM_vehicle_11 (by decide) ?_
  refine lv_isub hx hb dM_vehicle_12 ?_
  refine vp_callSi (va_Run.run (va_runS (As := [.int x, .int 0, .int ((g1 0 1) - 1)]) (rest := []) ⟨hx, hb, hml, hown, hts⟩ (xM_in l D cB q g1 x 0 ((g1 0 1) - 1)) (cwS 3 hts (ht_gS w511 w512 w3 w513) rfl rfl rfl (by decide +kernel) ⟨Nat.le_of_ble_eq_true rfl, Nat.le_of_ble_eq_true rfl⟩) ⟨rf_bl, fun U hU hW => ⟨rfl, rf_Im hP hK hN hU hW⟩⟩ rfl rfl hl.1 rfl (lv_room (Nat.le_of_ble_eq_true rfl)) dM_vehicle_13 ⟨Nat.zero_le _, Nat.zero_le _⟩)) (fun r2 hr2 => ?_)
  subst hr2
  refine lv_if_eq (tgt := 28) hx hb dM_vehicle_16 (by decide) (fun c3 => ?_) (fun c3 => ?_)
  · replace c3 := ht_b0.mp c3
    rw [hn1] at c3
    refine lv_aload_n hx hb dM_vehicle_28 rfl (lv_at hl 0 rfl) ?_
    refine lv_iconst (v := 1) hx hb dM_vehicle_29 (by decide) ?_
    refine va_calli (va_runV (As := [.int 1]) (rest := []) ⟨hx, hb, hml, hown, hts⟩ (xM_raise l D cB q hJ _ g1 1) (cwV 1 hts (ht_gV w514 w516 s32 w3 w517) rfl rfl rfl (by decide +kernel) ⟨Nat.le_of_ble_eq_true rfl, Nat.le_of_ble_eq_true rfl⟩) ⟨rf_bls, va_recv hK hP (ci := 2) (q0 := 0) rfl rf_at0, fun U hU hW => ⟨rfl, by rw [hU], rf_Im hP hK hN hU hW⟩⟩ rfl rfl hl.1 rfl (lv_room (Nat.le_of_ble_eq_true rfl)) dM_vehicle_30 ⟨Nat.zero_le _, Nat.zero_le _⟩) hS mw_AA (mw_AF hS.1) (fun r4 u4 t4 H locs ht4 hvm4 hw4 hB4 hz4 hk4 hS => ?_)
    have hP := hB4.1
    rw [ht4] at hP
    subst hw4
    obtain ⟨g5, eg5⟩ : ∃ y9 : ht_G, y9 = ht_up g1 0 0 1 := ⟨_, rfl⟩
    rw [← eg5] at hP
    have hG : g5 = (rf_oVehicle (ht_up g 0 0 0) k x y).2 := by rw [← eg1]; subst eg5; simp [rf_oVehicle, c3, show rf_in 0 0 5 = true from rfl, show rf_in 1 0 5 = true from rfl, show rf_in 2 0 5 = true from rfl, show rf_in 3 0 5 = true from rfl, show rf_in 4 0 5 = true from rfl]
    rw [hG] at hP
    exact W.iret (v := 0) hx hb hr (fun t ht hW => ⟨⟨0, (), rfl, by rw [← eg1]; subst eg5; simp [rf_oVehicle, c3, show rf_in 0 0 5 = true from rfl, show rf_in 1 0 5 = true from rfl, show rf_in 2 0 5 = true from rfl, show rf_in 3 0 5 = true from rfl, show rf_in 4 0 5 = true from rfl, ht_up], rf_Im hP hK hN ht hW⟩, hS.F ht⟩) hS.2.2 dM_vehicle_33
  · replace c3 := ht_b1.mp c3
    rw [hn1] at c3
    obtain ⟨j, hjl, hxj, hxc⟩ := rf_ix hk c3
    have hj8 : j < 8 := Nat.lt_of_lt_of_le hjl hk
    refine lv_aload_n hx hb dM_vehicle_19 rfl (lv_at hl 0 rfl) ?_
    refine va_get (D := D) (ci := 2) (C := RM) (T := TM) (N := 19) (v := .ref (q 2)) hx hb hts inM hown hK hP 0 rf_at0 rfl 2 (by decide) (hts _ w446) (fun _ h9 => h9) rfl dM_vehicle_20 ?_
    refine lv_iload_n hx hb dM_vehicle_23 rfl (lv_at hl 1 rfl) ?_
    refine rf_ldZ hx hb hK hP 2 (j := j) (by decide) (by decide) rfl hj8 hxj dM_vehicle_24 ?_
    refine lv_if_ne (tgt := 34) hx hb dM_vehicle_25 (by decide) (fun c6 => ?_) (fun c6 => ?_)
    · refine lv_iload_n hx hb dM_vehicle_34 rfl (lv_at hl 2 rfl) ?_
      refine lv_iconst (v := 0) hx hb dM_vehicle_35 (by decide) ?_
      refine lv_iconst (v := 5) hx hb dM_vehicle_36 (by decide) ?_
      refine vp_callSi (va_Run.run (va_runS (As := [.int y, .int 0, .int 5]) (rest := []) ⟨hx, hb, hml, hown, hts⟩ (xM_in l D cB q g1 y 0 5) (cwS 3 hts (ht_gS w511 w512 w3 w513) rfl rfl rfl (by decide +kernel) ⟨Nat.le_of_ble_eq_true rfl, Nat.le_of_ble_eq_true rfl⟩) ⟨rf_bl, fun U hU hW => ⟨rfl, rf_Im hP hK hN hU hW⟩⟩ rfl rfl hl.1 rfl (lv_room (Nat.le_of_ble_eq_true rfl)) dM_vehicle_37 ⟨Nat.zero_le _, Nat.zero_le _⟩)) (fun r7 hr7 => ?_)
      subst hr7
      refine lv_if_ne (tgt := 49) hx hb dM_vehicle_40 (by decide) (fun c8 => ?_) (fun c8 => ?_)
      · replace c8 := ht_b1.mp c8
        refine lv_iload_n hx hb dM_vehicle_49 rfl (lv_at hl 2 rfl) ?_
        refine lv_iconst (v := 1) hx hb dM_vehicle_50 (by decide) ?_
        refine lv_icmp_le (tgt := 69) hx hb dM_vehicle_51 (by decide) (fun c9 => ?_) (fun c9 => ?_)
        · refine lv_iload_n hx hb dM_vehicle_69 rfl (lv_at hl 2 rfl) ?_
          by_cases c10 : y = 0
          · refine lv_tableIn (tgt := 104) (off := 34) hx hb dM_vehicle_70 (by rw [c10]; decide) (by rw [c10]; decide) (by rw [c10]; rfl) (by decide) ?_
            refine lv_aload_n hx hb dM_vehicle_104 rfl (lv_at hl 0 rfl) ?_
            refine va_get (D := D) (ci := 2) (C := RM) (T := TM) (N := 19) (v := .ref (q 3)) hx hb hts inM hown hK hP 0 rf_at0 rfl 3 (by decide) (hts _ w447) (fun _ h9 => h9) rfl dM_vehicle_105 ?_
            refine lv_iload_n hx hb dM_vehicle_108 rfl (lv_at hl 1 rfl) ?_
            refine rf_ldI hx hb hK hP 3 (j := j) (by decide) (by decide) rfl hj8 hxj dM_vehicle_109 ?_
            have hG : g1 = (rf_oVehicle (ht_up g 0 0 0) k x y).2 := by rw [← eg1]; simp [rf_oVehicle, c3, hxc, c6, c8, c9, c10, show rf_in 0 0 5 = true from rfl, show rf_in 1 0 5 = true from rfl, show rf_in 2 0 5 = true from rfl, show rf_in 3 0 5 = true from rfl, show rf_in 4 0 5 = true from rfl]
            rw [hG] at hP
            exact W.iret (v := g1 3 j) hx hb hr (fun t ht hW => ⟨⟨g1 3 j, (), rfl, by rw [← eg1]; simp [rf_oVehicle, c3, hxc, c6, c8, c9, c10, show rf_in 0 0 5 = true from rfl, show rf_in 1 0 5 = true from rfl, show rf_in 2 0 5 = true from rfl, show rf_in 3 0 5 = true from rfl, show rf_in 4 0 5 = true from rfl, ht_up], rf_Im hP hK hN ht hW⟩, hS.F ht⟩) hS.2.2 dM_vehicle_110
          ·
            by_cases c11 : y = 1
            · refine lv_tableIn (tgt := 111) (off := 41) hx hb dM_vehicle_70 (by rw [c11]; decide) (by rw [c11]; decide) (by rw [c11]; rfl) (by decide) ?_
              refine lv_aload_n hx hb dM_vehicle_111 rfl (lv_at hl 0 rfl) ?_
              refine va_get (D := D) (ci := 2) (C := RM) (T := TM) (N := 19) (v := .ref (q 4)) hx hb hts inM hown hK hP 0 rf_at0 rfl 4 (by decide) (hts _ w448) (fun _ h9 => h9) rfl dM_vehicle_112 ?_
              refine lv_iload_n hx hb dM_vehicle_115 rfl (lv_at hl 1 rfl) ?_
              refine rf_ldI hx hb hK hP 4 (j := j) (by decide) (by decide) rfl hj8 hxj dM_vehicle_116 ?_
              have hG : g1 = (rf_oVehicle (ht_up g 0 0 0) k x y).2 := by rw [← eg1]; simp [rf_oVehicle, c3, hxc, c6, c8, c9, c10, c11, show rf_in 0 0 5 = true from rfl, show rf_in 1 0 5 = true from rfl, show rf_in 2 0 5 = true from rfl, show rf_in 3 0 5 = true from rfl, show rf_in 4 0 5 = true from rfl]
              rw [hG] at hP
              exact W.iret (v := g1 4 j) hx hb hr (fun t ht hW => ⟨⟨g1 4 j, (), rfl, by rw [← eg1]; simp [rf_oVehicle, c3, hxc, c6, c8, c9, c10, c11, show rf_in 0 0 5 = true from rfl, show rf_in 1 0 5 = true from rfl, show rf_in 2 0 5 = true from rfl, show rf_in 3 0 5 = true from rfl, show rf_in 4 0 5 = true from rfl, ht_up], rf_Im hP hK hN ht hW⟩, hS.F ht⟩) hS.2.2 dM_vehicle_117
            ·
              by_cases c12 : y = 2
              · exact absurd c9 (by rw [c12]; decide)
              ·
                by_cases c13 : y = 3
                · exact absurd c9 (by rw [c13]; decide)
                ·
                  by_cases c14 : y = 4
                  · exact absurd c9 (by rw [c14]; decide)
                  ·
                    exact (ht_01 (rf_in_0 c8) (ht_le1 c9) c10 c11).elim
        · refine lv_aload_n hx hb dM_vehicle_54 rfl (lv_at hl 0 rfl) ?_
          refine va_get (D := D) (ci := 2) (C := RM) (T := TM) (N := 19) (v := .ref (q 1)) hx hb hts inM hown hK hP 0 rf_at0 rfl 1 (by decide) (hts _ w445) (fun _ h9 => h9) rfl dM_vehicle_55 ?_
          refine lv_iload_n hx hb dM_vehicle_58 rfl (lv_at hl 1 rfl) ?_
          refine rf_ldZ hx hb hK hP 1 (j := j) (by decide) (by decide) rfl hj8 hxj dM_vehicle_59 ?_
          refine lv_if_ne (tgt := 69) hx hb dM_vehicle_60 (by decide) (fun c15 => ?_) (fun c15 => ?_)
          · refine lv_iload_n hx hb dM_vehicle_69 rfl (lv_at hl 2 rfl) ?_
            by_cases c16 : y = 0
            · exact absurd (show y ≤ 1 by rw [c16]; decide) c9
            ·
              by_cases c17 : y = 1
              · exact absurd (show y ≤ 1 by rw [c17]; decide) c9
              ·
                by_cases c18 : y = 2
                · refine lv_tableIn (tgt := 118) (off := 48) hx hb dM_vehicle_70 (by rw [c18]; decide) (by rw [c18]; decide) (by rw [c18]; rfl) (by decide) ?_
                  refine lv_aload_n hx hb dM_vehicle_118 rfl (lv_at hl 0 rfl) ?_
                  refine va_get (D := D) (ci := 2) (C := RM) (T := TM) (N := 19) (v := .ref (q 6)) hx hb hts inM hown hK hP 0 rf_at0 rfl 6 (by decide) (hts _ w450) (fun _ h9 => h9) rfl dM_vehicle_119 ?_
                  refine lv_iload_n hx hb dM_vehicle_122 rfl (lv_at hl 1 rfl) ?_
                  refine rf_ldI hx hb hK hP 6 (j := j) (by decide) (by decide) rfl hj8 hxj dM_vehicle_123 ?_
                  have hG : g1 = (rf_oVehicle (ht_up g 0 0 0) k x y).2 := by rw [← eg1]; simp [rf_oVehicle, c3, hxc, c6, c8, c9, c15, c16, c17, c18, show rf_in 0 0 5 = true from rfl, show rf_in 1 0 5 = true from rfl, show rf_in 2 0 5 = true from rfl, show rf_in 3 0 5 = true from rfl, show rf_in 4 0 5 = true from rfl]
                  rw [hG] at hP
                  exact W.iret (v := g1 6 j) hx hb hr (fun t ht hW => ⟨⟨g1 6 j, (), rfl, by rw [← eg1]; simp [rf_oVehicle, c3, hxc, c6, c8, c9, c15, c16, c17, c18, show rf_in 0 0 5 = true from rfl, show rf_in 1 0 5 = true from rfl, show rf_in 2 0 5 = true from rfl, show rf_in 3 0 5 = true from rfl, show rf_in 4 0 5 = true from rfl, ht_up], rf_Im hP hK hN ht hW⟩, hS.F ht⟩) hS.2.2 dM_vehicle_124
                ·
                  by_cases c19 : y = 3
                  · refine lv_tableIn (tgt := 125) (off := 55) hx hb dM_vehicle_70 (by rw [c19]; decide) (by rw [c19]; decide) (by rw [c19]; rfl) (by decide) ?_
                    refine lv_aload_n hx hb dM_vehicle_125 rfl (lv_at hl 0 rfl) ?_
                    refine va_get (D := D) (ci := 2) (C := RM) (T := TM) (N := 19) (v := .ref (q 12)) hx hb hts inM hown hK hP 0 rf_at0 rfl 12 (by decide) (hts _ w456) (fun _ h9 => h9) rfl dM_vehicle_126 ?_
                    refine lv_iload_n hx hb dM_vehicle_129 rfl (lv_at hl 1 rfl) ?_
                    refine rf_ldI hx hb hK hP 12 (j := j) (by decide) (by decide) rfl hj8 hxj dM_vehicle_130 ?_
                    have hG : g1 = (rf_oVehicle (ht_up g 0 0 0) k x y).2 := by rw [← eg1]; simp [rf_oVehicle, c3, hxc, c6, c8, c9, c15, c16, c17, c18, c19, show rf_in 0 0 5 = true from rfl, show rf_in 1 0 5 = true from rfl, show rf_in 2 0 5 = true from rfl, show rf_in 3 0 5 = true from rfl, show rf_in 4 0 5 = true from rfl]
                    rw [hG] at hP
                    exact W.iret (v := g1 12 j) hx hb hr (fun t ht hW => ⟨⟨g1 12 j, (), rfl, by rw [← eg1]; simp [rf_oVehicle, c3, hxc, c6, c8, c9, c15, c16, c17, c18, c19, show rf_in 0 0 5 = true from rfl, show rf_in 1 0 5 = true from rfl, show rf_in 2 0 5 = true from rfl, show rf_in 3 0 5 = true from rfl, show rf_in 4 0 5 = true from rfl, ht_up], rf_Im hP hK hN ht hW⟩, hS.F ht⟩) hS.2.2 dM_vehicle_131
                  ·
                    by_cases c20 : y = 4
                    · refine lv_tableIn (tgt := 132) (off := 62) hx hb dM_vehicle_70 (by rw [c20]; decide) (by rw [c20]; decide) (by rw [c20]; rfl) (by decide) ?_
                      refine lv_aload_n hx hb dM_vehicle_132 rfl (lv_at hl 0 rfl) ?_
                      refine va_get (D := D) (ci := 2) (C := RM) (T := TM) (N := 19) (v := .ref (q 9)) hx hb hts inM hown hK hP 0 rf_at0 rfl 9 (by decide) (hts _ w453) (fun _ h9 => h9) rfl dM_vehicle_133 ?_
                      refine lv_iload_n hx hb dM_vehicle_136 rfl (lv_at hl 1 rfl) ?_
                      refine rf_ldI hx hb hK hP 9 (j := j) (by decide) (by decide) rfl hj8 hxj dM_vehicle_137 ?_
                      have hG : g1 = (rf_oVehicle (ht_up g 0 0 0) k x y).2 := by rw [← eg1]; simp [rf_oVehicle, c3, hxc, c6, c8, c9, c15, c16, c17, c18, c19, c20, show rf_in 0 0 5 = true from rfl, show rf_in 1 0 5 = true from rfl, show rf_in 2 0 5 = true from rfl, show rf_in 3 0 5 = true from rfl, show rf_in 4 0 5 = true from rfl]
                      rw [hG] at hP
                      exact W.iret (v := g1 9 j) hx hb hr (fun t ht hW => ⟨⟨g1 9 j, (), rfl, by rw [← eg1]; simp [rf_oVehicle, c3, hxc, c6, c8, c9, c15, c16, c17, c18, c19, c20, show rf_in 0 0 5 = true from rfl, show rf_in 1 0 5 = true from rfl, show rf_in 2 0 5 = true from rfl, show rf_in 3 0 5 = true from rfl, show rf_in 4 0 5 = true from rfl, ht_up], rf_Im hP hK hN ht hW⟩, hS.F ht⟩) hS.2.2 dM_vehicle_138
                    ·
                      have nc16 := lv_neT c16 (a := 0) rfl
                      have nc17 := lv_neT c17 (a := 1) rfl
                      have nc18 := lv_neT c18 (a := 2) rfl
                      have nc19 := lv_neT c19 (a := 3) rfl
                      have nc20 := lv_neT c20 (a := 4) rfl
                      refine lv_tableOut (tgt := 139) hx hb dM_vehicle_70 (by omega) (by decide) ?_
                      refine lv_aload_n hx hb dM_vehicle_139 rfl (lv_at hl 0 rfl) ?_
                      refine va_get (D := D) (ci := 2) (C := RM) (T := TM) (N := 19) (v := .ref (q 8)) hx hb hts inM hown hK hP 0 rf_at0 rfl 8 (by decide) (hts _ w452) (fun _ h9 => h9) rfl dM_vehicle_140 ?_
                      refine lv_iload_n hx hb dM_vehicle_143 rfl (lv_at hl 1 rfl) ?_
                      refine rf_ldZ hx hb hK hP 8 (j := j) (by decide) (by decide) rfl hj8 hxj dM_vehicle_144 ?_
                      refine lv_if_eq (tgt := 152) hx hb dM_vehicle_145 (by decide) (fun c21 => ?_) (fun c21 => ?_)
                      · refine lv_iconst (v := 0) hx hb dM_vehicle_152 (by decide) ?_
                        have hG : g1 = (rf_oVehicle (ht_up g 0 0 0) k x y).2 := by rw [← eg1]; simp [rf_oVehicle, c3, hxc, c6, c8, c9, c15, c16, c17, c18, c19, c20, c21, show rf_in 0 0 5 = true from rfl, show rf_in 1 0 5 = true from rfl, show rf_in 2 0 5 = true from rfl, show rf_in 3 0 5 = true from rfl, show rf_in 4 0 5 = true from rfl]
                        rw [hG] at hP
                        exact W.iret (v := 0) hx hb hr (fun t ht hW => ⟨⟨0, (), rfl, by rw [← eg1]; simp [rf_oVehicle, c3, hxc, c6, c8, c9, c15, c16, c17, c18, c19, c20, c21, show rf_in 0 0 5 = true from rfl, show rf_in 1 0 5 = true from rfl, show rf_in 2 0 5 = true from rfl, show rf_in 3 0 5 = true from rfl, show rf_in 4 0 5 = true from rfl, ht_up], rf_Im hP hK hN ht hW⟩, hS.F ht⟩) hS.2.2 dM_vehicle_153
                      · refine lv_iconst (v := 1) hx hb dM_vehicle_148 (by decide) ?_
                        refine lv_goto (tgt := 153) hx hb dM_vehicle_149 (by decide) ?_
                        have hG : g1 = (rf_oVehicle (ht_up g 0 0 0) k x y).2 := by rw [← eg1]; simp [rf_oVehicle, c3, hxc, c6, c8, c9, c15, c16, c17, c18, c19, c20, c21, show rf_in 0 0 5 = true from rfl, show rf_in 1 0 5 = true from rfl, show rf_in 2 0 5 = true from rfl, show rf_in 3 0 5 = true from rfl, show rf_in 4 0 5 = true from rfl]
                        rw [hG] at hP
                        exact W.iret (v := 1) hx hb hr (fun t ht hW => ⟨⟨1, (), rfl, by rw [← eg1]; simp [rf_oVehicle, c3, hxc, c6, c8, c9, c15, c16, c17, c18, c19, c20, c21, show rf_in 0 0 5 = true from rfl, show rf_in 1 0 5 = true from rfl, show rf_in 2 0 5 = true from rfl, show rf_in 3 0 5 = true from rfl, show rf_in 4 0 5 = true from rfl, ht_up], rf_Im hP hK hN ht hW⟩, hS.F ht⟩) hS.2.2 dM_vehicle_153
          · refine lv_aload_n hx hb dM_vehicle_63 rfl (lv_at hl 0 rfl) ?_
            refine lv_iconst (v := 1) hx hb dM_vehicle_64 (by decide) ?_
            refine va_calli (va_runV (As := [.int 1]) (rest := []) ⟨hx, hb, hml, hown, hts⟩ (xM_raise l D cB q hJ _ g1 1) (cwV 1 hts (ht_gV w514 w516 s32 w3 w517) rfl rfl rfl (by decide +kernel) ⟨Nat.le_of_ble_eq_true rfl, Nat.le_of_ble_eq_true rfl⟩) ⟨rf_bls, va_recv hK hP (ci := 2) (q0 := 0) rfl rf_at0, fun U hU hW => ⟨rfl, by rw [hU], rf_Im hP hK hN hU hW⟩⟩ rfl rfl hl.1 rfl (lv_room (Nat.le_of_ble_eq_true rfl)) dM_vehicle_65 ⟨Nat.zero_le _, Nat.zero_le _⟩) hS mw_AA (mw_AF hS.1) (fun r22 u22 t22 H locs ht22 hvm22 hw22 hB22 hz22 hk22 hS => ?_)
            have hP := hB22.1
            rw [ht22] at hP
            subst hw22
            obtain ⟨g23, eg23⟩ : ∃ y9 : ht_G, y9 = ht_up g1 0 0 1 := ⟨_, rfl⟩
            rw [← eg23] at hP
            have hG : g23 = (rf_oVehicle (ht_up g 0 0 0) k x y).2 := by rw [← eg1]; subst eg23; simp [rf_oVehicle, c3, hxc, c6, c8, c9, c15, show rf_in 0 0 5 = true from rfl, show rf_in 1 0 5 = true from rfl, show rf_in 2 0 5 = true from rfl, show rf_in 3 0 5 = true from rfl, show rf_in 4 0 5 = true from rfl]
            rw [hG] at hP
            exact W.iret (v := 0) hx hb hr (fun t ht hW => ⟨⟨0, (), rfl, by rw [← eg1]; subst eg23; simp [rf_oVehicle, c3, hxc, c6, c8, c9, c15, show rf_in 0 0 5 = true from rfl, show rf_in 1 0 5 = true from rfl, show rf_in 2 0 5 = true from rfl, show rf_in 3 0 5 = true from rfl, show rf_in 4 0 5 = true from rfl, ht_up], rf_Im hP hK hN ht hW⟩, hS.F ht⟩) hS.2.2 dM_vehicle_68
      · replace c8 := ht_b0.mp c8
        refine lv_aload_n hx hb dM_vehicle_43 rfl (lv_at hl 0 rfl) ?_
        refine lv_iconst (v := 2) hx hb dM_vehicle_44 (by decide) ?_
        refine va_calli (va_runV (As := [.int 2]) (rest := []) ⟨hx, hb, hml, hown, hts⟩ (xM_raise l D cB q hJ _ g1 2) (cwV 1 hts (ht_gV w514 w516 s32 w3 w517) rfl rfl rfl (by decide +kernel) ⟨Nat.le_of_ble_eq_true rfl, Nat.le_of_ble_eq_true rfl⟩) ⟨rf_bls, va_recv hK hP (ci := 2) (q0 := 0) rfl rf_at0, fun U hU hW => ⟨rfl, by rw [hU], rf_Im hP hK hN hU hW⟩⟩ rfl rfl hl.1 rfl (lv_room (Nat.le_of_ble_eq_true rfl)) dM_vehicle_45 ⟨Nat.zero_le _, Nat.zero_le _⟩) hS mw_AA (mw_AF hS.1) (fun r24 u24 t24 H locs ht24 hvm24 hw24 hB24 hz24 hk24 hS => ?_)
        have hP := hB24.1
        rw [ht24] at hP
        subst hw24
        obtain ⟨g25, eg25⟩ : ∃ y9 : ht_G, y9 = ht_up g1 0 0 2 := ⟨_, rfl⟩
        rw [← eg25] at hP
        have hG : g25 = (rf_oVehicle (ht_up g 0 0 0) k x y).2 := by rw [← eg1]; subst eg25; simp [rf_oVehicle, c3, hxc, c6, c8, show rf_in 0 0 5 = true from rfl, show rf_in 1 0 5 = true from rfl, show rf_in 2 0 5 = true from rfl, show rf_in 3 0 5 = true from rfl, show rf_in 4 0 5 = true from rfl]
        rw [hG] at hP
        exact W.iret (v := 0) hx hb hr (fun t ht hW => ⟨⟨0, (), rfl, by rw [← eg1]; subst eg25; simp [rf_oVehicle, c3, hxc, c6, c8, show rf_in 0 0 5 = true from rfl, show rf_in 1 0 5 = true from rfl, show rf_in 2 0 5 = true from rfl, show rf_in 3 0 5 = true from rfl, show rf_in 4 0 5 = true from rfl, ht_up], rf_Im hP hK hN ht hW⟩, hS.F ht⟩) hS.2.2 dM_vehicle_48
    · refine lv_aload_n hx hb dM_vehicle_28 rfl (lv_at hl 0 rfl) ?_
      refine lv_iconst (v := 1) hx hb dM_vehicle_29 (by decide) ?_
      refine va_calli (va_runV (As := [.int 1]) (rest := []) ⟨hx, hb, hml, hown, hts⟩ (xM_raise l D cB q hJ _ g1 1) (cwV 1 hts (ht_gV w514 w516 s32 w3 w517) rfl rfl rfl (by decide +kernel) ⟨Nat.le_of_ble_eq_true rfl, Nat.le_of_ble_eq_true rfl⟩) ⟨rf_bls, va_recv hK hP (ci := 2) (q0 := 0) rfl rf_at0, fun U hU hW => ⟨rfl, by rw [hU], rf_Im hP hK hN hU hW⟩⟩ rfl rfl hl.1 rfl (lv_room (Nat.le_of_ble_eq_true rfl)) dM_vehicle_30 ⟨Nat.zero_le _, Nat.zero_le _⟩) hS mw_AA (mw_AF hS.1) (fun r26 u26 t26 H locs ht26 hvm26 hw26 hB26 hz26 hk26 hS => ?_)
      have hP := hB26.1
      rw [ht26] at hP
      subst hw26
      obtain ⟨g27, eg27⟩ : ∃ y9 : ht_G, y9 = ht_up g1 0 0 1 := ⟨_, rfl⟩
      rw [← eg27] at hP
      have hG : g27 = (rf_oVehicle (ht_up g 0 0 0) k x y).2 := by rw [← eg1]; subst eg27; simp [rf_oVehicle, c3, hxc, c6, show rf_in 0 0 5 = true from rfl, show rf_in 1 0 5 = true from rfl, show rf_in 2 0 5 = true from rfl, show rf_in 3 0 5 = true from rfl, show rf_in 4 0 5 = true from rfl]
      rw [hG] at hP
      exact W.iret (v := 0) hx hb hr (fun t ht hW => ⟨⟨0, (), rfl, by rw [← eg1]; subst eg27; simp [rf_oVehicle, c3, hxc, c6, show rf_in 0 0 5 = true from rfl, show rf_in 1 0 5 = true from rfl, show rf_in 2 0 5 = true from rfl, show rf_in 3 0 5 = true from rfl, show rf_in 4 0 5 = true from rfl, ht_up], rf_Im hP hK hN ht hW⟩, hS.F ht⟩) hS.2.2 dM_vehicle_33
