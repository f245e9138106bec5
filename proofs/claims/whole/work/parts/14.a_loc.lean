set_option maxHeartbeats 4000000 in
set_option maxRecDepth 100000 in
theorem xH_locateTrains (l : Launch) (D : va_G) (cA : ClassId × ClassId) (q : Nat → Nat) (hJ : mw_J 14 q) (sz : Nat) (g : ht_G) (k : Nat) (hk : k ≤ 8) (hn : g 0 0 = nI k) : Met l yH_locateTrains kH_locateTrains ({ frames := 2, cells := 0, slots := 0, locals := 41 }) (va_Pc [.ref (q 0)] (fun U => U.heap.size = sz ∧ ht_I D cA q g U)) (va_Qv (fun _ : Unit => True) (fun _ t => ht_I D cA q (ht_it (ht_ls k) 12 g) t) (mw_A 14 q sz)) 0 0 (mw_A 14 q sz) := by
  refine Met.ofW (cc := cH_locateTrains) (maxL := 3) (ret := none) (by decide) rfl ?_
  intro p e s m args below meth c s₁ B hml hv
  obtain ⟨rfl, hsz, hP, hK, hN⟩ := hv
  have hx := B.exec
  have hb := B.bytes
  have hr := B.returns
  have hts := fun w h => atoms_spec (ws := kH_locateTrains) B.pre w (List.mem_cons_of_mem _ h)
  have hown : s.vm.findClass RH = some m.cls := findClass_of_methodNamed B.named
  have hlocks := B.notSynchronized
  subst hsz
  have hS : va_S (mw_A 14 q s.heap.size) s.heap s.heap [] := va_S.rf
  have hl := lv_entry ([.ref (q 0)]) (n := 3) (Nat.le_of_ble_eq_true rfl)
  rw [lg_entry_eq]
  generalize (lg_sl ([.ref (q 0)]) ++ List.replicate (3 - (lg_sl ([.ref (q 0)])).length) Slot.unset).toArray = ls at hl ⊢
  have hl : lv_has ls 3 [(0, .ref (q 0))] := hl
  have K36 : ∀ (n9 : Nat), ∀ (z : Nat) (g0 : ht_G) (j : Nat), (k + 1 ≤ j + n9) → (z < 12) → (g0 0 0 = nI k) → (∀ (H : Heap) (locs : List Loc), va_P D ht_cl (ht_w cA q (ht_it (ht_lc z) k g0)) H → va_S (mw_A 14 q s.heap.size) s.heap H locs → ∀ (ls : Array Slot), lv_has ls 3 [(0, .ref (q 0)), (1, .int (nI z))] → W p l e (headSpec kH_locateTrains ({ frames := 2, cells := 0, slots := 0, locals := 41 })).room s m [.ref (q 0)].toArray below meth c H locs 0 0 (MQ below (va_Qv (fun _ : Unit => True) (fun _ t => ht_I D cA q (ht_it (ht_ls k) 12 g) t) (mw_A 14 q s.heap.size)) [.ref (q 0)].toArray s 0 0 (mw_A 14 q s.heap.size)) (F0 m 94 ls [])) → (j ≤ k) → ∀ (H : Heap) (locs : List Loc), va_P D ht_cl (ht_w cA q (ht_it (ht_lc z) j g0)) H → va_S (mw_A 14 q s.heap.size) s.heap H locs → ∀ (ls : Array Slot), lv_has ls 3 [(0, .ref (q 0)), (1, .int (nI z)), (2, .int (nI j))] → W p l e (headSpec kH_locateTrains ({ frames := 2, cells := 0, slots := 0, locals := 41 })).room s m [.ref (q 0)].toArray below meth c H locs 0 0 (MQ below (va_Qv (fun _ : Unit => True) (fun _ t => ht_I D cA q (ht_it (ht_ls k) 12 g) t) (mw_A 14 q s.heap.size)) [.ref (q 0)].toArray s 0 0 (mw_A 14 q s.heap.size)) (F0 m 36 ls []) := by
    intro n9
    induction n9 with
    | zero =>
      intro z g0 j hn9 hz hn0 hc hjk H locs hP hS ls hl
      exact absurd hn9 (by omega)
    | succ n9 ih =>
      intro z g0 j hn9 hz hn0 hc hjk H locs hP hS ls hl
      have hnj : (ht_it (ht_lc z) j g0) 0 0 = nI k := (ht_lcs_o (by decide) (by decide) j g0).trans hn0
      refine lv_iload_n hx hb dH_locateTrains_36 rfl (lv_at hl 2 rfl) ?_
      refine lv_aload_n hx hb dH_locateTrains_37 rfl (lv_at hl 0 rfl) ?_
      refine va_get (D := D) (ci := 1) (C := RH) (T := TH) (N := 7) (v := .int ((ht_it (ht_lc z) j g0) 0 0)) hx hb hts inH hown hK hP 0 ht_atO rfl 1 (by decide) (hts _ w78) (fun _ h9 => h9) rfl dH_locateTrains_38 ?_
      refine lv_icmp_ge (tgt := 94) hx hb dH_locateTrains_41 (by decide) (fun c1 => ?_) (fun c1 => ?_)
      · rw [hnj] at c1
        have e9 : j = k := ht_end hk hjk c1
        rw [e9] at hP
        exact hc _ _ hP hS ls (lv_sub hl [0, 1] rfl)
      · rw [hnj] at c1
        have hjl : j < k := ht_lt hk hjk c1
        have hj8 : j < 8 := Nat.lt_of_lt_of_le hjl hk
        refine lv_aload_n hx hb dH_locateTrains_44 rfl (lv_at hl 0 rfl) ?_
        refine va_get (D := D) (ci := 1) (C := RH) (T := TH) (N := 7) (v := .ref (q 1)) hx hb hts inH hown hK hP 0 ht_atO rfl 0 (by decide) (hts _ w77) (fun _ h9 => h9) rfl dH_locateTrains_45 ?_
        refine lv_iload_n hx hb dH_locateTrains_48 rfl (lv_at hl 2 rfl) ?_
        refine ht_ldV hx hb hK hP (j := j) hj8 rfl dH_locateTrains_49 ?_
        refine lv_iload_n hx hb dH_locateTrains_50 rfl (lv_at hl 1 rfl) ?_
        refine vp_callSi (va_Run.run (va_runVN (As := [.int (nI z)]) (rest := []) ⟨hx, hb, hml, hown, hts⟩ (xV_isLocatedOn l D cA q (ht_it (ht_lc z) j g0) j hj8 (nI z)) ⟨va_cnB 1 hts (ht_gW w237) rfl rfl rfl (hN _ (List.mem_of_getElem? (i := 15) rfl)) (hts _ w2) (by decide +kernel) ⟨Nat.le_of_ble_eq_true rfl, Nat.le_of_ble_eq_true rfl⟩, hts _ w236, hts _ s10⟩ ⟨ht_bl, va_recv hK hP (ci := 0) (q0 := j + 6) rfl (ht_atV hj8), fun U hU hW => ⟨rfl, ht_Im hP hK hN hU hW⟩⟩ rfl rfl hl.1 rfl (lv_room (Nat.le_of_ble_eq_true rfl)) dH_locateTrains_51 ⟨Nat.zero_le _, Nat.zero_le _⟩)) (fun r2 hr2 => ?_)
        subst hr2
        refine lv_if_eq (tgt := 88) hx hb dH_locateTrains_54 (by decide) (fun c3 => ?_) (fun c3 => ?_)
        · replace c3 := ht_b0.mp c3
          refine lv_iinc (v := nI (j + 1)) (lv' := [(2, .int (nI (j + 1))), (0, .ref (q 0)), (1, .int (nI z))]) hx hb dH_locateTrains_88 hl (k := 2) rfl (nI_1 _) (by decide) rfl (fun ls hl => ?_)
          refine lv_goto (tgt := 36) hx hb dH_locateTrains_91 (by decide) ?_
          have hG : ht_it (ht_lc z) j g0 = ht_it (ht_lc z) (j + 1) g0 := by simp [ht_it, ht_lc, c1, c3]
          rw [hG] at hP
          exact ih z g0 (j + 1) (by omega) hz hn0 hc (by omega) _ _ hP hS ls (lv_sub hl [1, 2, 0] rfl)
        · replace c3 := ht_b1.mp c3
          refine lv_aload_n hx hb dH_locateTrains_57 rfl (lv_at hl 0 rfl) ?_
          refine va_get (D := D) (ci := 1) (C := RH) (T := TH) (N := 7) (v := .ref (q 3)) hx hb hts inH hown hK hP 0 ht_atO rfl 4 (by decide) (hts _ w81) (fun _ h9 => h9) rfl dH_locateTrains_58 ?_
          refine lv_iload_n hx hb dH_locateTrains_61 rfl (lv_at hl 1 rfl) ?_
          refine lv_dup2_11 hx hb dH_locateTrains_62 rfl rfl ?_
          refine ht_ldI hx hb hK hP 2 (j := z) (by decide) (by decide) hz rfl dH_locateTrains_63 ?_
          refine lv_iconst (v := 1) hx hb dH_locateTrains_64 (by decide) ?_
          refine lv_iadd hx hb dH_locateTrains_65 ?_
          refine ht_stI hx hb hK hP (mw_DA hJ) hS 2 (j := z) (by decide) (by decide) hz rfl dH_locateTrains_66 (fun H locs hP hS => ?_)
          obtain ⟨g4, eg4⟩ : ∃ y9 : ht_G, y9 = ht_up (ht_it (ht_lc z) j g0) 2 z (((ht_it (ht_lc z) j g0) 2 z) + 1) := ⟨_, rfl⟩
          rw [← eg4] at hP
          refine lv_aload_n hx hb dH_locateTrains_67 rfl (lv_at hl 0 rfl) ?_
          refine va_get (D := D) (ci := 1) (C := RH) (T := TH) (N := 7) (v := .ref (q 4)) hx hb hts inH hown hK hP 0 ht_atO rfl 5 (by decide) (hts _ w82) (fun _ h9 => h9) rfl dH_locateTrains_68 ?_
          refine lv_iload_n hx hb dH_locateTrains_71 rfl (lv_at hl 1 rfl) ?_
          refine lv_aload_n hx hb dH_locateTrains_72 rfl (lv_at hl 0 rfl) ?_
          refine va_get (D := D) (ci := 1) (C := RH) (T := TH) (N := 7) (v := .ref (q 3)) hx hb hts inH hown hK hP 0 ht_atO rfl 4 (by decide) (hts _ w81) (fun _ h9 => h9) rfl dH_locateTrains_73 ?_
          refine lv_iload_n hx hb dH_locateTrains_76 rfl (lv_at hl 1 rfl) ?_
          refine ht_ldI hx hb hK hP 2 (j := z) (by decide) (by decide) hz rfl dH_locateTrains_77 ?_
          refine lv_iconst (v := 1) hx hb dH_locateTrains_78 (by decide) ?_
          refine lv_icmp_ne (tgt := 86) hx hb dH_locateTrains_79 (by decide) (fun c5 => ?_) (fun c5 => ?_)
          · refine lv_iconst (v := (-1)) hx hb dH_locateTrains_86 (by decide) ?_
            refine ht_stI hx hb hK hP (mw_DA hJ) hS 3 (j := z) (by decide) (by decide) hz rfl dH_locateTrains_87 (fun H locs hP hS => ?_)
            obtain ⟨g6, eg6⟩ : ∃ y9 : ht_G, y9 = ht_up g4 3 z (-1 : Int32) := ⟨_, rfl⟩
            rw [← eg6] at hP
            refine lv_iinc (v := nI (j + 1)) (lv' := [(2, .int (nI (j + 1))), (0, .ref (q 0)), (1, .int (nI z))]) hx hb dH_locateTrains_88 hl (k := 2) rfl (nI_1 _) (by decide) rfl (fun ls hl => ?_)
            refine lv_goto (tgt := 36) hx hb dH_locateTrains_91 (by decide) ?_
            have hG : g6 = ht_it (ht_lc z) (j + 1) g0 := by subst eg6 eg4; simp [ht_it, ht_lc, c1, c3, c5]
            rw [hG] at hP
            exact ih z g0 (j + 1) (by omega) hz hn0 hc (by omega) _ _ hP hS ls (lv_sub hl [1, 2, 0] rfl)
          · refine lv_iload_n hx hb dH_locateTrains_82 rfl (lv_at hl 2 rfl) ?_
            refine lv_goto (tgt := 87) hx hb dH_locateTrains_83 (by decide) ?_
            refine ht_stI hx hb hK hP (mw_DA hJ) hS 3 (j := z) (by decide) (by decide) hz rfl dH_locateTrains_87 (fun H locs hP hS => ?_)
            obtain ⟨g7, eg7⟩ : ∃ y9 : ht_G, y9 = ht_up g4 3 z (nI j) := ⟨_, rfl⟩
            rw [← eg7] at hP
            refine lv_iinc (v := nI (j + 1)) (lv' := [(2, .int (nI (j + 1))), (0, .ref (q 0)), (1, .int (nI z))]) hx hb dH_locateTrains_88 hl (k := 2) rfl (nI_1 _) (by decide) rfl (fun ls hl => ?_)
            refine lv_goto (tgt := 36) hx hb dH_locateTrains_91 (by decide) ?_
            have hG : g7 = ht_it (ht_lc z) (j + 1) g0 := by subst eg7 eg4; simp [ht_it, ht_lc, c1, c3, c5]
            rw [hG] at hP
            exact ih z g0 (j + 1) (by omega) hz hn0 hc (by omega) _ _ hP hS ls (lv_sub hl [1, 2, 0] rfl)
  have K2 : ∀ (n9 : Nat), ∀ (z : Nat), (13 ≤ z + n9) → (z ≤ 12) → ∀ (H : Heap) (locs : List Loc), va_P D ht_cl (ht_w cA q (ht_it (ht_ls k) z g)) H → va_S (mw_A 14 q s.heap.size) s.heap H locs → ∀ (ls : Array Slot), lv_has ls 3 [(0, .ref (q 0)), (1, .int (nI z))] → W p l e (headSpec kH_locateTrains ({ frames := 2, cells := 0, slots := 0, locals := 41 })).room s m [.ref (q 0)].toArray below meth c H locs 0 0 (MQ below (va_Qv (fun _ : Unit => True) (fun _ t => ht_I D cA q (ht_it (ht_ls k) 12 g) t) (mw_A 14 q s.heap.size)) [.ref (q 0)].toArray s 0 0 (mw_A 14 q s.heap.size)) (F0 m 2 ls []) := by
    intro n9
    induction n9 with
    | zero =>
      intro z hn9 hjk H locs hP hS ls hl
      exact absurd hn9 (by omega)
    | succ n9 ih =>
      intro z hn9 hjk H locs hP hS ls hl
      have hnz : (ht_it (ht_ls k) z g) 0 0 = nI k := (ht_it_keep (fun _ a => ht_ls_o (by decide) (by decide) (by decide) a) z g).trans hn
      refine lv_iload_n hx hb dH_locateTrains_2 rfl (lv_at hl 1 rfl) ?_
      refine lv_bipush (v := 12) hx hb dH_locateTrains_3 (by decide) ?_
      refine lv_icmp_ge (tgt := 100) hx hb dH_locateTrains_5 (by decide) (fun c8 => ?_) (fun c8 => ?_)
      · have e9 : z = 12 := ht_end12 hjk c8
        have hG : ht_it (ht_ls k) z g = ht_it (ht_ls k) 12 g := by rw [e9]
        rw [hG] at hP
        exact W.vret hx hb hr (fun t ht hW => ⟨⟨(), rfl, trivial, ht_Im hP hK hN ht hW⟩, hS.F ht⟩) hS.2.2 dH_locateTrains_100
      · have hjl : z < 12 := ht_lt12 hjk c8
        refine lv_aload_n hx hb dH_locateTrains_8 rfl (lv_at hl 0 rfl) ?_
        refine va_get (D := D) (ci := 1) (C := RH) (T := TH) (N := 7) (v := .ref (q 5)) hx hb hts inH hown hK hP 0 ht_atO rfl 6 (by decide) (hts _ w83) (fun _ h9 => h9) rfl dH_locateTrains_9 ?_
        refine lv_iload_n hx hb dH_locateTrains_12 rfl (lv_at hl 1 rfl) ?_
        refine lv_aload_n hx hb dH_locateTrains_13 rfl (lv_at hl 0 rfl) ?_
        refine va_get (D := D) (ci := 1) (C := RH) (T := TH) (N := 7) (v := .ref (q 4)) hx hb hts inH hown hK hP 0 ht_atO rfl 5 (by decide) (hts _ w82) (fun _ h9 => h9) rfl dH_locateTrains_14 ?_
        refine lv_iload_n hx hb dH_locateTrains_17 rfl (lv_at hl 1 rfl) ?_
        refine ht_ldI hx hb hK hP 3 (j := z) (by decide) (by decide) hjl rfl dH_locateTrains_18 ?_
        refine ht_stI hx hb hK hP (mw_DA hJ) hS 4 (j := z) (by decide) (by decide) hjl rfl dH_locateTrains_19 (fun H locs hP hS => ?_)
        obtain ⟨g9, eg9⟩ : ∃ y9 : ht_G, y9 = ht_up (ht_it (ht_ls k) z g) 4 z ((ht_it (ht_ls k) z g) 3 z) := ⟨_, rfl⟩
        rw [← eg9] at hP
        refine lv_aload_n hx hb dH_locateTrains_20 rfl (lv_at hl 0 rfl) ?_
        refine va_get (D := D) (ci := 1) (C := RH) (T := TH) (N := 7) (v := .ref (q 4)) hx hb hts inH hown hK hP 0 ht_atO rfl 5 (by decide) (hts _ w82) (fun _ h9 => h9) rfl dH_locateTrains_21 ?_
        refine lv_iload_n hx hb dH_locateTrains_24 rfl (lv_at hl 1 rfl) ?_
        refine lv_iconst (v := (-1)) hx hb dH_locateTrains_25 (by decide) ?_
        refine ht_stI hx hb hK hP (mw_DA hJ) hS 3 (j := z) (by decide) (by decide) hjl rfl dH_locateTrains_26 (fun H locs hP hS => ?_)
        obtain ⟨g10, eg10⟩ : ∃ y9 : ht_G, y9 = ht_up g9 3 z (-1 : Int32) := ⟨_, rfl⟩
        rw [← eg10] at hP
        refine lv_aload_n hx hb dH_locateTrains_27 rfl (lv_at hl 0 rfl) ?_
        refine va_get (D := D) (ci := 1) (C := RH) (T := TH) (N := 7) (v := .ref (q 3)) hx hb hts inH hown hK hP 0 ht_atO rfl 4 (by decide) (hts _ w81) (fun _ h9 => h9) rfl dH_locateTrains_28 ?_
        refine lv_iload_n hx hb dH_locateTrains_31 rfl (lv_at hl 1 rfl) ?_
        refine lv_iconst (v := 0) hx hb dH_locateTrains_32 (by decide) ?_
        refine ht_stI hx hb hK hP (mw_DA hJ) hS 2 (j := z) (by decide) (by decide) hjl rfl dH_locateTrains_33 (fun H locs hP hS => ?_)
        obtain ⟨g11, eg11⟩ : ∃ y9 : ht_G, y9 = ht_up g10 2 z 0 := ⟨_, rfl⟩
        rw [← eg11] at hP
        refine lv_iconst (v := 0) hx hb dH_locateTrains_34 (by decide) ?_
        refine lv_istore_n (lv' := [(2, .int 0), (0, .ref (q 0)), (1, .int (nI z))]) hx hb dH_locateTrains_35 rfl hl (by decide) rfl (fun ls hl => ?_)
        refine K36 (k + 1) z g11 0 (by omega) hjl (by subst eg11 eg10 eg9; simp [ht_up, hnz]) (fun H locs hP hS ls hl => ?_) (by omega) _ _ hP hS ls (lv_sub hl [1, 2, 0] rfl)
        refine lv_iinc (v := nI (z + 1)) (lv' := [(1, .int (nI (z + 1))), (0, .ref (q 0))]) hx hb dH_locateTrains_94 hl (k := 1) rfl (nI_1 _) (by decide) rfl (fun ls hl => ?_)
        refine lv_goto (tgt := 2) hx hb dH_locateTrains_97 (by decide) ?_
        have hG : ht_it (ht_lc z) k g11 = ht_it (ht_ls k) (z + 1) g := by subst eg11 eg10 eg9; rfl
        rw [hG] at hP
        exact ih (z + 1) (by omega) (by omega) _ _ hP hS ls (lv_sub hl [1, 0] rfl)
  refine lv_iconst (v := 0) hx hb dH_locateTrains_0 (by decide) ?_
  refine lv_istore_n (lv' := [(1, .int 0), (0, .ref (q 0))]) hx hb dH_locateTrains_1 rfl hl (by decide) rfl (fun ls hl => ?_)
  exact K2 13 0 (by omega) (by omega) _ _ hP hS ls (lv_sub hl [1, 0] rfl)
