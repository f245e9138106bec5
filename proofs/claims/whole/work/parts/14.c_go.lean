set_option maxHeartbeats 4000000 in
set_option maxRecDepth 100000 in
theorem xH_goForward (l : Launch) (D : va_G) (cA : ClassId × ClassId) (q : Nat → Nat) (hJ : mw_J 14 q) (sz : Nat) (g : ht_G) (k : Nat) (hk : k ≤ 8) (hn : g 0 0 = nI k) (j : Nat) (hj : j < 8) : Met l yH_goForward kH_goForward ({ frames := 3, cells := 0, slots := 0, locals := 65 }) (va_Pc [.ref (q 0), .ref (q (j + 6))] (fun U => U.heap.size = sz ∧ ht_I D cA q g U)) (va_Qv (fun _ : Unit => True) (fun _ t => ht_I D cA q (ht_go k j (g (5 + j) 4).toNatClampNeg g) t) (mw_A 14 q sz)) 0 0 (mw_A 14 q sz) := by
  refine Met.ofW (cc := cH_goForward) (maxL := 4) (ret := none) (by decide) rfl ?_
  intro p e s m args below meth c s₁ B hml hv
  obtain ⟨rfl, hsz, hP, hK, hN⟩ := hv
  have hx := B.exec
  have hb := B.bytes
  have hr := B.returns
  have hts := fun w h => atoms_spec (ws := kH_goForward) B.pre w (List.mem_cons_of_mem _ h)
  have hown : s.vm.findClass RH = some m.cls := findClass_of_methodNamed B.named
  have hlocks := B.notSynchronized
  subst hsz
  have hS : va_S (mw_A 14 q s.heap.size) s.heap s.heap [] := va_S.rf
  have hl := lv_entry ([.ref (q 0), .ref (q (j + 6))]) (n := 4) (Nat.le_of_ble_eq_true rfl)
  rw [lg_entry_eq]
  generalize (lg_sl ([.ref (q 0), .ref (q (j + 6))]) ++ List.replicate (4 - (lg_sl ([.ref (q 0), .ref (q (j + 6))])).length) Slot.unset).toArray = ls at hl ⊢
  have hl : lv_has ls 4 [(0, .ref (q 0)), (1, .ref (q (j + 6)))] := hl
  have K2 : ∀ (n9 : Nat), ∀ (n : Nat) (gg : ht_G), ((g (5 + j) 4).toNatClampNeg + 1 ≤ n + n9) → (n ≤ (g (5 + j) 4).toNatClampNeg) → (ht_go k j ((g (5 + j) 4).toNatClampNeg - n) gg = ht_go k j (g (5 + j) 4).toNatClampNeg g) → (gg (5 + j) 4 = g (5 + j) 4) → (gg 0 0 = nI k) → ∀ (H : Heap) (locs : List Loc), va_P D ht_cl (ht_w cA q gg) H → va_S (mw_A 14 q s.heap.size) s.heap H locs → ∀ (ls : Array Slot), lv_has ls 4 [(0, .ref (q 0)), (1, .ref (q (j + 6))), (2, .int (nI n))] → W p l e (headSpec kH_goForward ({ frames := 3, cells := 0, slots := 0, locals := 65 })).room s m [.ref (q 0), .ref (q (j + 6))].toArray below meth c H locs 0 0 (MQ below (va_Qv (fun _ : Unit => True) (fun _ t => ht_I D cA q (ht_go k j (g (5 + j) 4).toNatClampNeg g) t) (mw_A 14 q s.heap.size)) [.ref (q 0), .ref (q (j + 6))].toArray s 0 0 (mw_A 14 q s.heap.size)) (F0 m 2 ls []) := by
    intro n9
    induction n9 with
    | zero =>
      intro n gg hn9 hnN hR h4 hng H locs hP hS ls hl
      exact absurd hn9 (by omega)
    | succ n9 ih =>
      intro n gg hn9 hnN hR h4 hng H locs hP hS ls hl
      have h31 := ht_sp31 (g (5 + j) 4)
      refine lv_iload_n hx hb dH_goForward_2 rfl (lv_at hl 2 rfl) ?_
      refine lv_aload_n hx hb dH_goForward_3 rfl (lv_at hl 1 rfl) ?_
      refine va_getN (D := D) (ci := 0) (C := RV) (T := TV) (N := 13) (v := .int (gg (5 + j) 4)) hx hb hts inV hown hK hP (j + 6) (ht_atV hj) rfl 4 (by decide) (hN.use 5 rfl rfl) (fun _ h9 => h9) rfl dH_goForward_4 ?_
      refine lv_icmp_ge (tgt := 46) hx hb dH_goForward_7 (by decide) (fun c1 => ?_) (fun c1 => ?_)
      · rw [h4, ht_sp (by omega)] at c1
        have hG : gg = ht_go k j (g (5 + j) 4).toNatClampNeg g := by rw [← hR, show (g (5 + j) 4).toNatClampNeg - n = 0 by omega]; rfl
        rw [hG] at hP
        exact W.vret hx hb hr (fun t ht hW => ⟨⟨(), rfl, trivial, ht_Im hP hK hN ht hW⟩, hS.F ht⟩) hS.2.2 dH_goForward_46
      · rw [h4, ht_sp (by omega)] at c1
        refine lv_aload_n hx hb dH_goForward_10 rfl (lv_at hl 1 rfl) ?_
        refine va_getN (D := D) (ci := 0) (C := RV) (T := TV) (N := 13) (v := .int (gg (5 + j) 2)) hx hb hts inV hown hK hP (j + 6) (ht_atV hj) rfl 2 (by decide) (hN.use 3 rfl rfl) (fun _ h9 => h9) rfl dH_goForward_11 ?_
        refine lv_iconst (v := 1) hx hb dH_goForward_14 (by decide) ?_
        refine lv_iadd hx hb dH_goForward_15 ?_
        refine lv_istore_n (lv' := [(3, .int ((gg (5 + j) 2) + 1)), (0, .ref (q 0)), (1, .ref (q (j + 6))), (2, .int (nI n))]) hx hb dH_goForward_16 rfl hl (by decide) rfl (fun ls hl => ?_)
        refine lv_iload_n hx hb dH_goForward_17 rfl (lv_at hl 0 rfl) ?_
        refine lv_aload_n hx hb dH_goForward_18 rfl (lv_at hl 2 rfl) ?_
        refine va_getN (D := D) (ci := 0) (C := RV) (T := TV) (N := 13) (v := .int (gg (5 + j) 5)) hx hb hts inV hown hK hP (j + 6) (ht_atV hj) rfl 5 (by decide) (hN.use 6 rfl rfl) (fun _ h9 => h9) rfl dH_goForward_19 ?_
        refine lv_icmp_gt (tgt := 34) hx hb dH_goForward_22 (by decide) (fun c2 => ?_) (fun c2 => ?_)
        · have hG : gg = ht_go k j (g (5 + j) 4).toNatClampNeg g := by rw [← hR, show (g (5 + j) 4).toNatClampNeg - n = ((g (5 + j) 4).toNatClampNeg - (n + 1)) + 1 by omega, ht_go, if_pos c2]
          rw [hG] at hP
          exact W.vret hx hb hr (fun t ht hW => ⟨⟨(), rfl, trivial, ht_Im hP hK hN ht hW⟩, hS.F ht⟩) hS.2.2 dH_goForward_34
        · refine lv_aload_n hx hb dH_goForward_25 rfl (lv_at hl 1 rfl) ?_
          refine lv_iload_n hx hb dH_goForward_26 rfl (lv_at hl 0 rfl) ?_
          refine lv_iload_n hx hb dH_goForward_27 rfl (lv_at hl 0 rfl) ?_
          refine vp_callSi (va_Run.run (va_runV (As := [.int ((gg (5 + j) 2) + 1), .int ((gg (5 + j) 2) + 1)]) (rest := []) ⟨hx, hb, hml, hown, hts⟩ (xH_isStoodOn l D cA q gg k hk hng ((gg (5 + j) 2) + 1) ((gg (5 + j) 2) + 1)) (cwV 2 hts (ht_gV w193 w195 s1 w1 w196) rfl rfl rfl (by decide +kernel) ⟨Nat.le_of_ble_eq_true rfl, Nat.le_of_ble_eq_true rfl⟩) ⟨ht_bl, va_recv hK hP (ci := 1) (q0 := 0) rfl ht_atO, fun U hU hW => ⟨rfl, ht_Im hP hK hN hU hW⟩⟩ rfl rfl hl.1 rfl (lv_room (Nat.le_of_ble_eq_true rfl)) dH_goForward_28 ⟨Nat.zero_le _, Nat.zero_le _⟩)) (fun r3 hr3 => ?_)
          subst hr3
          refine lv_if_eq (tgt := 35) hx hb dH_goForward_31 (by decide) (fun c4 => ?_) (fun c4 => ?_)
          · replace c4 := ht_b0.mp c4
            refine lv_aload_n hx hb dH_goForward_35 rfl (lv_at hl 2 rfl) ?_
            refine lv_iload_n hx hb dH_goForward_36 rfl (lv_at hl 0 rfl) ?_
            refine va_putN (D := D) (ci := 0) (C := RV) (T := TV) (N := 13) (v := .int ((gg (5 + j) 2) + 1)) (ty := .int) hx hb hts inV tyV tyV_ok nmV hown hK hP (mw_DA hJ) hS (j + 6) (ht_atV hj) rfl 2 (by decide) (hN.use 3 rfl rfl) (fun _ h9 => h9) rfl rfl rfl rfl (Nat.le_of_ble_eq_true rfl) dH_goForward_37 (fun H locs hP _ hS => ?_)
            rw [ht_stV hj (by decide)] at hP
            obtain ⟨g5, eg5⟩ : ∃ y9 : ht_G, y9 = ht_up gg (5 + j) 2 ((gg (5 + j) 2) + 1) := ⟨_, rfl⟩
            rw [← eg5] at hP
            refine lv_iinc (v := nI (n + 1)) (lv' := [(2, .int (nI (n + 1))), (3, .int ((gg (5 + j) 2) + 1)), (0, .ref (q 0)), (1, .ref (q (j + 6)))]) hx hb dH_goForward_40 hl (k := 3) rfl (nI_1 _) (by decide) rfl (fun ls hl => ?_)
            refine lv_goto (tgt := 2) hx hb dH_goForward_43 (by decide) ?_
            exact ih (n + 1) g5 (by omega) (by omega) (by rw [← hR, show (g (5 + j) 4).toNatClampNeg - n = ((g (5 + j) 4).toNatClampNeg - (n + 1)) + 1 by omega, ht_go, if_neg c2, if_neg (by simp [c4]), eg5]) (by rw [eg5, ht_up_k (by decide), h4]) (by rw [eg5, ht_up_r (by omega), hng]) _ _ hP hS ls (lv_sub hl [2, 3, 0] rfl)
          · replace c4 := ht_b1.mp c4
            have hG : gg = ht_go k j (g (5 + j) 4).toNatClampNeg g := by rw [← hR, show (g (5 + j) 4).toNatClampNeg - n = ((g (5 + j) 4).toNatClampNeg - (n + 1)) + 1 by omega, ht_go, if_neg c2, if_pos c4]
            rw [hG] at hP
            exact W.vret hx hb hr (fun t ht hW => ⟨⟨(), rfl, trivial, ht_Im hP hK hN ht hW⟩, hS.F ht⟩) hS.2.2 dH_goForward_34
  refine lv_iconst (v := 0) hx hb dH_goForward_0 (by decide) ?_
  refine lv_istore_n (lv' := [(2, .int 0), (0, .ref (q 0)), (1, .ref (q (j + 6)))]) hx hb dH_goForward_1 rfl hl (by decide) rfl (fun ls hl => ?_)
  exact K2 ((g (5 + j) 4).toNatClampNeg + 1) 0 g (by omega) (by omega) rfl rfl hn _ _ hP hS ls (lv_sub hl [1, 2, 0] rfl)
