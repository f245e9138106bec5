set_option maxHeartbeats 800000 in
set_option maxRecDepth 100000 in
theorem xM_tickOnce (l : Launch) (D : va_G) (cB : ClassId × ClassId) (q : Nat → Nat) (hJ : mw_J 17 q) (sz : Nat) (g : ht_G) (k : Nat) (hk : k ≤ 8) (hn : g 0 1 = nI k) (hA : ht_al g 16) (hB : rf_bw g) : Met l yM_tickOnce kM_tickOnce ({ frames := 5, cells := 0, slots := 0, locals := 112 }) (va_Pc [.ref (q 0)] (fun U => U.heap.size = sz ∧ rf_I D cB q g U)) (va_Qv (fun _ : Unit => True) (fun _ t => rf_I D cB q (rf_tick k g) t) (mw_A 17 q sz)) 0 0 (mw_A 17 q sz) := by
  refine Met.ofW (cc := cM_tickOnce) (maxL := 3) (ret := none) (by decide) rfl ?_
  intro p e s m args below meth c s₁ B hml hv
  obtain ⟨rfl, hsz, hP, hK, hN⟩ := hv
  have hx := B.exec
  have hb := B.bytes
  have hr := B.returns
  have hts := fun w h => atoms_spec (ws := kM_tickOnce) B.pre w (List.mem_cons_of_mem _ h)
  have hown : s.vm.findClass RM = some m.cls := findClass_of_methodNamed B.named
  have hlocks := B.notSynchronized
  subst hsz
  have hS : va_S (mw_A 17 q s.heap.size) s.heap s.heap [] := va_S.rf
  have hl := lv_entry ([.ref (q 0)]) (n := 3) (Nat.le_of_ble_eq_true rfl)
  rw [lg_entry_eq]
  generalize (lg_sl ([.ref (q 0)]) ++ List.replicate (3 - (lg_sl ([.ref (q 0)])).length) Slot.unset).toArray = ls at hl ⊢
  have hl : lv_has ls 3 [(0, .ref (q 0))] := hl
  have K87 : ∀ (n9 : Nat), ∀ (gb : ht_G) (j : Nat), (k + 1 ≤ j + n9) → (gb = ht_it (rf_mv k) k (ht_up g 0 2 (g 0 2 + 1))) → (gb 0 1 = nI k) → (rf_bw gb) → (ht_al gb 16) → (j ≤ k) → ∀ (H : Heap) (locs : List Loc), va_P D ht_cl (rf_w cB q (ht_it rf_rp j gb)) H → va_S (mw_A 17 q s.heap.size) s.heap H locs → ∀ (ls : Array Slot), lv_has ls 3 [(0, .ref (q 0)), (1, .int (nI j))] → W p l e (headSpec kM_tickOnce ({ frames := 5, cells := 0, slots := 0, locals := 112 })).room s m [.ref (q 0)].toArray below meth c H locs 0 0 (MQ below (va_Qv (fun _ : Unit => True) (fun _ t => rf_I D cB q (rf_tick k g) t) (mw_A 17 q s.heap.size)) [.ref (q 0)].toArray s 0 0 (mw_A 17 q s.heap.size)) (F0 m 87 ls []) := by
    intro n9
    induction n9 with
    | zero =>
      intro gb j hn9 hgb hnb hbb hab hjk H locs hP hS ls hl
      exact absurd hn9 (by omega)
    | succ n9 ih =>
      intro gb j hn9 hgb hnb hbb hab hjk H locs hP hS ls hl
      have hnj : (ht_it rf_rp j gb) 0 1 = nI k := (ht_it_keep (fun _ a => rf_rp_o (Or.inl (by decide)) a) _ _).trans hnb
      refine lv_iload_n hx hb dM_tickOnce_87 rfl (lv_at hl 1 rfl) ?_
      refine lv_aload_n hx hb dM_tickOnce_88 rfl (lv_at hl 0 rfl) ?_
      refine va_get (D := D) (ci := 2) (C := RM) (T := TM) (N := 19) (v := .int ((ht_it rf_rp j gb) 0 1)) hx hb hts inM hown hK hP 0 rf_at0 rfl 14 (by decide) (hts _ w458) (fun _ h9 => h9) rfl dM_tickOnce_89 ?_
      refine lv_icmp_ge (tgt := 152) hx hb dM_tickOnce_92 (by decide) (fun c1 => ?_) (fun c1 => ?_)
      · rw [hnj] at c1
        have e9 : j = k := ht_end hk hjk c1
        rw [e9] at hP hnj
        refine lv_aload_n hx hb dM_tickOnce_152 rfl (lv_at hl 0 rfl) ?_
        refine va_callv (va_runV (As := []) (rest := []) ⟨hx, hb, hml, hown, hts⟩ (xM_findStates l D cB q hJ _ (ht_it rf_rp k gb) k hk hnj (ht_al_of hab (fun y _ => by rw [ht_it_keep (fun _ a => rf_rp_o (Or.inr (by decide)) a)]))) (cwV 0 hts (ht_gV w538 w540 s38 w3 w541) rfl rfl rfl (by decide +kernel) ⟨Nat.le_of_ble_eq_true rfl, Nat.le_of_ble_eq_true rfl⟩) ⟨rf_bls, va_recv hK hP (ci := 2) (q0 := 0) rfl rf_at0, fun U hU hW => ⟨rfl, by rw [hU], rf_Im hP hK hN hU hW⟩⟩ rfl rfl hl.1 rfl (lv_room (Nat.le_of_ble_eq_true rfl)) dM_tickOnce_153 ⟨Nat.zero_le _, Nat.zero_le _⟩) hS mw_AA (mw_AF hS.1) (fun u2 t2 H locs ht2 hvm2 hw2 hB2 hz2 hk2 hS => ?_)
        have hP := hB2.1
        rw [ht2] at hP
        obtain ⟨g3, eg3⟩ : ∃ y9 : ht_G, y9 = rf_find k (ht_it rf_rp k gb) := ⟨_, rfl⟩
        rw [← eg3] at hP
        have hG : g3 = rf_tick k g := by rw [eg3, rf_tick_eq, hgb]
        rw [hG] at hP
        exact W.vret hx hb hr (fun t ht hW => ⟨⟨(), rfl, trivial, rf_Im hP hK hN ht hW⟩, hS.F ht⟩) hS.2.2 dM_tickOnce_156
      · rw [hnj] at c1
        have hjl : j < k := ht_lt hk hjk c1
        have hj8 : j < 8 := Nat.lt_of_lt_of_le hjl hk
        refine lv_aload_n hx hb dM_tickOnce_95 rfl (lv_at hl 0 rfl) ?_
        refine va_get (D := D) (ci := 2) (C := RM) (T := TM) (N := 19) (v := .ref (q 1)) hx hb hts inM hown hK hP 0 rf_at0 rfl 1 (by decide) (hts _ w445) (fun _ h9 => h9) rfl dM_tickOnce_96 ?_
        refine lv_iload_n hx hb dM_tickOnce_99 rfl (lv_at hl 1 rfl) ?_
        refine rf_ldZ hx hb hK hP 1 (j := j) (by decide) (by decide) rfl hj8 rfl dM_tickOnce_100 ?_
        refine lv_if_ne (tgt := 107) hx hb dM_tickOnce_101 (by decide) (fun c4 => ?_) (fun c4 => ?_)
        · refine lv_aload_n hx hb dM_tickOnce_107 rfl (lv_at hl 0 rfl) ?_
          refine va_get (D := D) (ci := 2) (C := RM) (T := TM) (N := 19) (v := .ref (q 7)) hx hb hts inM hown hK hP 0 rf_at0 rfl 7 (by decide) (hts _ w451) (fun _ h9 => h9) rfl dM_tickOnce_108 ?_
          refine lv_iload_n hx hb dM_tickOnce_111 rfl (lv_at hl 1 rfl) ?_
          refine rf_ldZ hx hb hK hP 7 (j := j) (by decide) (by decide) rfl hj8 rfl dM_tickOnce_112 ?_
          refine lv_if_eq (tgt := 129) hx hb dM_tickOnce_113 (by decide) (fun c5 => ?_) (fun c5 => ?_)
          · refine lv_aload_n hx hb dM_tickOnce_129 rfl (lv_at hl 0 rfl) ?_
            refine va_get (D := D) (ci := 2) (C := RM) (T := TM) (N := 19) (v := .ref (q 13)) hx hb hts inM hown hK hP 0 rf_at0 rfl 13 (by decide) (hts _ w457) (fun _ h9 => h9) rfl dM_tickOnce_130 ?_
            refine lv_iload_n hx hb dM_tickOnce_133 rfl (lv_at hl 1 rfl) ?_
            refine lv_aload_n hx hb dM_tickOnce_134 rfl (lv_at hl 0 rfl) ?_
            refine va_get (D := D) (ci := 2) (C := RM) (T := TM) (N := 19) (v := .ref (q 10)) hx hb hts inM hown hK hP 0 rf_at0 rfl 10 (by decide) (hts _ w454) (fun _ h9 => h9) rfl dM_tickOnce_135 ?_
            refine lv_iload_n hx hb dM_tickOnce_138 rfl (lv_at hl 1 rfl) ?_
            refine rf_ldI hx hb hK hP 10 (j := j) (by decide) (by decide) rfl hj8 rfl dM_tickOnce_139 ?_
            refine rf_stI hx hb hK hP (mw_DA hJ) hS 13 (j := j) (by decide) (by decide) rfl hj8 rfl dM_tickOnce_140 (fun H locs hP hS => ?_)
            obtain ⟨g6, eg6⟩ : ∃ y9 : ht_G, y9 = ht_up (ht_it rf_rp j gb) 13 j ((ht_it rf_rp j gb) 10 j) := ⟨_, rfl⟩
            rw [← eg6] at hP
            refine lv_aload_n hx hb dM_tickOnce_141 rfl (lv_at hl 0 rfl) ?_
            refine lv_iload_n hx hb dM_tickOnce_142 rfl (lv_at hl 1 rfl) ?_
            refine va_callv (va_runV (As := [.int (nI j)]) (rest := []) ⟨hx, hb, hml, hown, hts⟩ (xM_report l D cB q hJ _ g6 j hj8 (by subst eg6; rw [ht_up_r (by decide), ht_it_keep (fun _ a => rf_rp_o (Or.inl (by decide)) a)]; exact hbb j hj8)) (cwV 1 hts (ht_gV w534 w536 s37 w3 w537) rfl rfl rfl (by decide +kernel) ⟨Nat.le_of_ble_eq_true rfl, Nat.le_of_ble_eq_true rfl⟩) ⟨rf_bls, va_recv hK hP (ci := 2) (q0 := 0) rfl rf_at0, fun U hU hW => ⟨rfl, by rw [hU], rf_Im hP hK hN hU hW⟩⟩ rfl rfl hl.1 rfl (lv_room (Nat.le_of_ble_eq_true rfl)) dM_tickOnce_143 ⟨Nat.zero_le _, Nat.zero_le _⟩) hS mw_AA (mw_AF hS.1) (fun u7 t7 H locs ht7 hvm7 hw7 hB7 hz7 hk7 hS => ?_)
            have hP := hB7.1
            rw [ht7] at hP
            obtain ⟨g8, eg8⟩ : ∃ y9 : ht_G, y9 = rf_rep j g6 := ⟨_, rfl⟩
            rw [← eg8] at hP
            refine lv_iinc (v := nI (j + 1)) (lv' := [(1, .int (nI (j + 1))), (0, .ref (q 0))]) hx hb dM_tickOnce_146 hl (k := 1) rfl (nI_1 _) (by decide) rfl (fun ls hl => ?_)
            refine lv_goto (tgt := 87) hx hb dM_tickOnce_149 (by decide) ?_
            have hG : g8 = ht_it rf_rp (j + 1) gb := by subst eg8 eg6; simp [ht_it, rf_rp, c1, c4, c5]
            rw [hG] at hP
            exact ih gb (j + 1) (by omega) hgb hnb hbb hab (by omega) _ _ hP hS ls (lv_sub hl [1, 0] rfl)
          · refine lv_aload_n hx hb dM_tickOnce_116 rfl (lv_at hl 0 rfl) ?_
            refine va_get (D := D) (ci := 2) (C := RM) (T := TM) (N := 19) (v := .ref (q 12)) hx hb hts inM hown hK hP 0 rf_at0 rfl 12 (by decide) (hts _ w456) (fun _ h9 => h9) rfl dM_tickOnce_117 ?_
            refine lv_iload_n hx hb dM_tickOnce_120 rfl (lv_at hl 1 rfl) ?_
            refine lv_dup2_11 hx hb dM_tickOnce_121 rfl rfl ?_
            refine rf_ldI hx hb hK hP 12 (j := j) (by decide) (by decide) rfl hj8 rfl dM_tickOnce_122 ?_
            refine lv_iconst (v := 1) hx hb dM_tickOnce_123 (by decide) ?_
            refine lv_iadd hx hb dM_tickOnce_124 ?_
            refine rf_stI hx hb hK hP (mw_DA hJ) hS 12 (j := j) (by decide) (by decide) rfl hj8 rfl dM_tickOnce_125 (fun H locs hP hS => ?_)
            obtain ⟨g9, eg9⟩ : ∃ y9 : ht_G, y9 = ht_up (ht_it rf_rp j gb) 12 j (((ht_it rf_rp j gb) 12 j) + 1) := ⟨_, rfl⟩
            rw [← eg9] at hP
            refine lv_goto (tgt := 146) hx hb dM_tickOnce_126 (by decide) ?_
            refine lv_iinc (v := nI (j + 1)) (lv' := [(1, .int (nI (j + 1))), (0, .ref (q 0))]) hx hb dM_tickOnce_146 hl (k := 1) rfl (nI_1 _) (by decide) rfl (fun ls hl => ?_)
            refine lv_goto (tgt := 87) hx hb dM_tickOnce_149 (by decide) ?_
            have hG : g9 = ht_it rf_rp (j + 1) gb := by subst eg9; simp [ht_it, rf_rp, c1, c4, c5]
            rw [hG] at hP
            exact ih gb (j + 1) (by omega) hgb hnb hbb hab (by omega) _ _ hP hS ls (lv_sub hl [1, 0] rfl)
        · refine lv_goto (tgt := 146) hx hb dM_tickOnce_104 (by decide) ?_
          refine lv_iinc (v := nI (j + 1)) (lv' := [(1, .int (nI (j + 1))), (0, .ref (q 0))]) hx hb dM_tickOnce_146 hl (k := 1) rfl (nI_1 _) (by decide) rfl (fun ls hl => ?_)
          refine lv_goto (tgt := 87) hx hb dM_tickOnce_149 (by decide) ?_
          have hG : ht_it rf_rp j gb = ht_it rf_rp (j + 1) gb := by simp [ht_it, rf_rp, c1, c4]
          rw [hG] at hP
          exact ih gb (j + 1) (by omega) hgb hnb hbb hab (by omega) _ _ hP hS ls (lv_sub hl [1, 0] rfl)
  have K22 : ∀ (n9 : Nat), ∀ (j : Nat) (g0 : ht_G) (n : Nat) (gg : ht_G), ((g0 5 j).toNatClampNeg + 1 ≤ n + n9) → (j < k) → (∀ (H : Heap) (locs : List Loc), va_P D ht_cl (rf_w cB q (rf_go k j (g0 5 j).toNatClampNeg g0)) H → va_S (mw_A 17 q s.heap.size) s.heap H locs → ∀ (ls : Array Slot), lv_has ls 3 [(0, .ref (q 0)), (1, .int (nI j))] → W p l e (headSpec kM_tickOnce ({ frames := 5, cells := 0, slots := 0, locals := 112 })).room s m [.ref (q 0)].toArray below meth c H locs 0 0 (MQ below (va_Qv (fun _ : Unit => True) (fun _ t => rf_I D cB q (rf_tick k g) t) (mw_A 17 q s.heap.size)) [.ref (q 0)].toArray s 0 0 (mw_A 17 q s.heap.size)) (F0 m 79 ls [])) → (n ≤ (g0 5 j).toNatClampNeg) → (rf_go k j ((g0 5 j).toNatClampNeg - n) gg = rf_go k j (g0 5 j).toNatClampNeg g0) → (gg 5 j = g0 5 j) → (gg 0 1 = nI k) → ∀ (H : Heap) (locs : List Loc), va_P D ht_cl (rf_w cB q gg) H → va_S (mw_A 17 q s.heap.size) s.heap H locs → ∀ (ls : Array Slot), lv_has ls 3 [(0, .ref (q 0)), (1, .int (nI j)), (2, .int (nI n))] → W p l e (headSpec kM_tickOnce ({ frames := 5, cells := 0, slots := 0, locals := 112 })).room s m [.ref (q 0)].toArray below meth c H locs 0 0 (MQ below (va_Qv (fun _ : Unit => True) (fun _ t => rf_I D cB q (rf_tick k g) t) (mw_A 17 q s.heap.size)) [.ref (q 0)].toArray s 0 0 (mw_A 17 q s.heap.size)) (F0 m 22 ls []) := by
    intro n9
    induction n9 with
    | zero =>
      intro j g0 n gg hn9 hjl hc hnN hR h5 hng H locs hP hS ls hl
      exact absurd hn9 (by omega)
    | succ n9 ih =>
      intro j g0 n gg hn9 hjl hc hnN hR h5 hng H locs hP hS ls hl
      have h31 := ht_sp31 (g0 5 j)
      have hj8 : j < 8 := Nat.lt_of_lt_of_le hjl hk
      refine lv_iload_n hx hb dM_tickOnce_22 rfl (lv_at hl 2 rfl) ?_
      refine lv_aload_n hx hb dM_tickOnce_23 rfl (lv_at hl 0 rfl) ?_
      refine va_get (D := D) (ci := 2) (C := RM) (T := TM) (N := 19) (v := .ref (q 5)) hx hb hts inM hown hK hP 0 rf_at0 rfl 5 (by decide) (hts _ w449) (fun _ h9 => h9) rfl dM_tickOnce_24 ?_
      refine lv_iload_n hx hb dM_tickOnce_27 rfl (lv_at hl 1 rfl) ?_
      refine rf_ldI hx hb hK hP 5 (j := j) (by decide) (by decide) rfl hj8 rfl dM_tickOnce_28 ?_
      refine lv_icmp_ge (tgt := 79) hx hb dM_tickOnce_29 (by decide) (fun c10 => ?_) (fun c10 => ?_)
      · rw [h5, ht_sp (by omega)] at c10
        have hG : gg = rf_go k j (g0 5 j).toNatClampNeg g0 := by rw [← hR, show (g0 5 j).toNatClampNeg - n = 0 by omega]; rfl
        rw [hG] at hP
        exact hc _ _ hP hS ls (lv_sub hl [0, 1] rfl)
      · rw [h5, ht_sp (by omega)] at c10
        refine lv_aload_n hx hb dM_tickOnce_32 rfl (lv_at hl 0 rfl) ?_
        refine va_get (D := D) (ci := 2) (C := RM) (T := TM) (N := 19) (v := .ref (q 3)) hx hb hts inM hown hK hP 0 rf_at0 rfl 3 (by decide) (hts _ w447) (fun _ h9 => h9) rfl dM_tickOnce_33 ?_
        refine lv_iload_n hx hb dM_tickOnce_36 rfl (lv_at hl 1 rfl) ?_
        refine rf_ldI hx hb hK hP 3 (j := j) (by decide) (by decide) rfl hj8 rfl dM_tickOnce_37 ?_
        refine lv_aload_n hx hb dM_tickOnce_38 rfl (lv_at hl 0 rfl) ?_
        refine va_get (D := D) (ci := 2) (C := RM) (T := TM) (N := 19) (v := .ref (q 6)) hx hb hts inM hown hK hP 0 rf_at0 rfl 6 (by decide) (hts _ w450) (fun _ h9 => h9) rfl dM_tickOnce_39 ?_
        refine lv_iload_n hx hb dM_tickOnce_42 rfl (lv_at hl 1 rfl) ?_
        refine rf_ldI hx hb hK hP 6 (j := j) (by decide) (by decide) rfl hj8 rfl dM_tickOnce_43 ?_
        refine lv_icmp_ge (tgt := 79) hx hb dM_tickOnce_44 (by decide) (fun c11 => ?_) (fun c11 => ?_)
        · have hG : gg = rf_go k j (g0 5 j).toNatClampNeg g0 := by rw [← hR, show (g0 5 j).toNatClampNeg - n = ((g0 5 j).toNatClampNeg - (n + 1)) + 1 by omega, rf_go, if_pos c11]
          rw [hG] at hP
          exact hc _ _ hP hS ls (lv_sub hl [0, 1] rfl)
        · refine lv_aload_n hx hb dM_tickOnce_47 rfl (lv_at hl 0 rfl) ?_
          refine lv_aload_n hx hb dM_tickOnce_48 rfl (lv_at hl 0 rfl) ?_
          refine va_get (D := D) (ci := 2) (C := RM) (T := TM) (N := 19) (v := .ref (q 3)) hx hb hts inM hown hK hP 0 rf_at0 rfl 3 (by decide) (hts _ w447) (fun _ h9 => h9) rfl dM_tickOnce_49 ?_
          refine lv_iload_n hx hb dM_tickOnce_52 rfl (lv_at hl 1 rfl) ?_
          refine rf_ldI hx hb hK hP 3 (j := j) (by decide) (by decide) rfl hj8 rfl dM_tickOnce_53 ?_
          refine lv_iconst (v := 1) hx hb dM_tickOnce_54 (by decide) ?_
          refine lv_iadd hx hb dM_tickOnce_55 ?_
          refine lv_iload_n hx hb dM_tickOnce_56 rfl (lv_at hl 1 rfl) ?_
          refine vp_callSi (va_Run.run (va_runV (As := [.int ((gg 3 j) + 1), .int (nI j)]) (rest := []) ⟨hx, hb, hml, hown, hts⟩ (xM_standsOn l D cB q gg k hk hng ((gg 3 j) + 1) (nI j)) (cwV 2 hts (ht_gV w518 w520 s33 w3 w521) rfl rfl rfl (by decide +kernel) ⟨Nat.le_of_ble_eq_true rfl, Nat.le_of_ble_eq_true rfl⟩) ⟨rf_bl, va_recv hK hP (ci := 2) (q0 := 0) rfl rf_at0, fun U hU hW => ⟨rfl, rf_Im hP hK hN hU hW⟩⟩ rfl rfl hl.1 rfl (lv_room (Nat.le_of_ble_eq_true rfl)) dM_tickOnce_57 ⟨Nat.zero_le _, Nat.zero_le _⟩)) (fun r12 hr12 => ?_)
          subst hr12
          refine lv_if_ge (tgt := 79) hx hb dM_tickOnce_60 (by decide) (fun c13 => ?_) (fun c13 => ?_)
          · have hG : gg = rf_go k j (g0 5 j).toNatClampNeg g0 := by rw [← hR, show (g0 5 j).toNatClampNeg - n = ((g0 5 j).toNatClampNeg - (n + 1)) + 1 by omega, rf_go, if_neg c11, if_pos c13]
            rw [hG] at hP
            exact hc _ _ hP hS ls (lv_sub hl [0, 1] rfl)
          · refine lv_aload_n hx hb dM_tickOnce_63 rfl (lv_at hl 0 rfl) ?_
            refine va_get (D := D) (ci := 2) (C := RM) (T := TM) (N := 19) (v := .ref (q 3)) hx hb hts inM hown hK hP 0 rf_at0 rfl 3 (by decide) (hts _ w447) (fun _ h9 => h9) rfl dM_tickOnce_64 ?_
            refine lv_iload_n hx hb dM_tickOnce_67 rfl (lv_at hl 1 rfl) ?_
            refine lv_dup2_11 hx hb dM_tickOnce_68 rfl rfl ?_
            refine rf_ldI hx hb hK hP 3 (j := j) (by decide) (by decide) rfl hj8 rfl dM_tickOnce_69 ?_
            refine lv_iconst (v := 1) hx hb dM_tickOnce_70 (by decide) ?_
            refine lv_iadd hx hb dM_tickOnce_71 ?_
            refine rf_stI hx hb hK hP (mw_DA hJ) hS 3 (j := j) (by decide) (by decide) rfl hj8 rfl dM_tickOnce_72 (fun H locs hP hS => ?_)
            obtain ⟨g14, eg14⟩ : ∃ y9 : ht_G, y9 = ht_up gg 3 j ((gg 3 j) + 1) := ⟨_, rfl⟩
            rw [← eg14] at hP
            refine lv_iinc (v := nI (n + 1)) (lv' := [(2, .int (nI (n + 1))), (0, .ref (q 0)), (1, .int (nI j))]) hx hb dM_tickOnce_73 hl (k := 2) rfl (nI_1 _) (by decide) rfl (fun ls hl => ?_)
            refine lv_goto (tgt := 22) hx hb dM_tickOnce_76 (by decide) ?_
            exact ih j g0 (n + 1) g14 (by omega) hjl hc (by omega) (by rw [← hR, show (g0 5 j).toNatClampNeg - n = ((g0 5 j).toNatClampNeg - (n + 1)) + 1 by omega, rf_go, if_neg c11, if_neg c13, eg14]) (by rw [eg14, ht_up_r (by decide), h5]) (by rw [eg14, ht_up_r (by decide), hng]) _ _ hP hS ls (lv_sub hl [1, 2, 0] rfl)
  have K12 : ∀ (n9 : Nat), ∀ (ga : ht_G) (j : Nat), (k + 1 ≤ j + n9) → (ga = ht_up g 0 2 (g 0 2 + 1)) → (ga 0 1 = nI k) → (j ≤ k) → ∀ (H : Heap) (locs : List Loc), va_P D ht_cl (rf_w cB q (ht_it (rf_mv k) j ga)) H → va_S (mw_A 17 q s.heap.size) s.heap H locs → ∀ (ls : Array Slot), lv_has ls 3 [(0, .ref (q 0)), (1, .int (nI j))] → W p l e (headSpec kM_tickOnce ({ frames := 5, cells := 0, slots := 0, locals := 112 })).room s m [.ref (q 0)].toArray below meth c H locs 0 0 (MQ below (va_Qv (fun _ : Unit => True) (fun _ t => rf_I D cB q (rf_tick k g) t) (mw_A 17 q s.heap.size)) [.ref (q 0)].toArray s 0 0 (mw_A 17 q s.heap.size)) (F0 m 12 ls []) := by
    intro n9
    induction n9 with
    | zero =>
      intro ga j hn9 hga hna hjk H locs hP hS ls hl
      exact absurd hn9 (by omega)
    | succ n9 ih =>
      intro ga j hn9 hga hna hjk H locs hP hS ls hl
      have hnj : (ht_it (rf_mv k) j ga) 0 1 = nI k := (ht_it_keep (fun _ a => rf_mv_o (Or.inl (by decide)) a) _ _).trans hna
      refine lv_iload_n hx hb dM_tickOnce_12 rfl (lv_at hl 1 rfl) ?_
      refine lv_aload_n hx hb dM_tickOnce_13 rfl (lv_at hl 0 rfl) ?_
      refine va_get (D := D) (ci := 2) (C := RM) (T := TM) (N := 19) (v := .int ((ht_it (rf_mv k) j ga) 0 1)) hx hb hts inM hown hK hP 0 rf_at0 rfl 14 (by decide) (hts _ w458) (fun _ h9 => h9) rfl dM_tickOnce_14 ?_
      refine lv_icmp_ge (tgt := 85) hx hb dM_tickOnce_17 (by decide) (fun c15 => ?_) (fun c15 => ?_)
      · rw [hnj] at c15
        have e9 : j = k := ht_end hk hjk c15
        refine lv_iconst (v := 0) hx hb dM_tickOnce_85 (by decide) ?_
        refine lv_istore_n (lv' := [(1, .int 0), (0, .ref (q 0))]) hx hb dM_tickOnce_86 rfl hl (by decide) rfl (fun ls hl => ?_)
        rw [e9, hga] at hP
        rw [e9] at hnj
        exact K87 (k + 1) (ht_it (rf_mv k) k (ht_up g 0 2 (g 0 2 + 1))) 0 (by omega) rfl (by rw [← hga]; exact hnj) (rf_bw_of hB (fun i hi => by rw [ht_it_keep (fun _ a => rf_mv_o (Or.inr (by decide)) a), ht_up_r (by decide)])) (ht_al_of hA (fun y _ => by rw [ht_it_keep (fun _ a => rf_mv_o (Or.inr (by decide)) a), ht_up_r (by decide)])) (by omega) _ _ hP hS ls (lv_sub hl [1, 0] rfl)
      · rw [hnj] at c15
        have hjl : j < k := ht_lt hk hjk c15
        have hj8 : j < 8 := Nat.lt_of_lt_of_le hjl hk
        refine lv_iconst (v := 0) hx hb dM_tickOnce_20 (by decide) ?_
        refine lv_istore_n (lv' := [(2, .int 0), (0, .ref (q 0)), (1, .int (nI j))]) hx hb dM_tickOnce_21 rfl hl (by decide) rfl (fun ls hl => ?_)
        refine K22 (((ht_it (rf_mv k) j ga) 5 j).toNatClampNeg + 1) j (ht_it (rf_mv k) j ga) 0 (ht_it (rf_mv k) j ga) (by omega) hjl (fun H locs hP hS ls hl => ?_) (by omega) rfl rfl hnj _ _ hP hS ls (lv_sub hl [1, 2, 0] rfl)
        refine lv_iinc (v := nI (j + 1)) (lv' := [(1, .int (nI (j + 1))), (0, .ref (q 0))]) hx hb dM_tickOnce_79 hl (k := 1) rfl (nI_1 _) (by decide) rfl (fun ls hl => ?_)
        refine lv_goto (tgt := 12) hx hb dM_tickOnce_82 (by decide) ?_
        have hG : rf_go k j ((ht_it (rf_mv k) j ga) 5 j).toNatClampNeg (ht_it (rf_mv k) j ga) = ht_it (rf_mv k) (j + 1) ga := by rfl
        rw [hG] at hP
        exact ih ga (j + 1) (by omega) hga hna (by omega) _ _ hP hS ls (lv_sub hl [1, 0] rfl)
  refine lv_aload_n hx hb dM_tickOnce_0 rfl (lv_at hl 0 rfl) ?_
  refine lv_dup hx hb dM_tickOnce_1 rfl ?_
  refine va_get (D := D) (ci := 2) (C := RM) (T := TM) (N := 19) (v := .int (g 0 2)) hx hb hts inM hown hK hP 0 rf_at0 rfl 18 (by decide) (hts _ w462) (fun _ h9 => h9) rfl dM_tickOnce_2 ?_
  refine lv_iconst (v := 1) hx hb dM_tickOnce_5 (by decide) ?_
  refine lv_iadd hx hb dM_tickOnce_6 ?_
  refine va_put (D := D) (ci := 2) (C := RM) (T := TM) (N := 19) (v := .int ((g 0 2) + 1)) (ty := .int) hx hb hts inM tyM tyM_ok nmM hown hK hP (mw_DA hJ) hS 0 rf_at0 rfl 18 (by decide) (hts _ w462) (fun _ h9 => h9) rfl rfl rfl rfl (Nat.le_of_ble_eq_true rfl) dM_tickOnce_7 (fun H locs hP _ hS => ?_)
  rw [rf_st2] at hP
  obtain ⟨g16, eg16⟩ : ∃ y9 : ht_G, y9 = ht_up g 0 2 ((g 0 2) + 1) := ⟨_, rfl⟩
  rw [← eg16] at hP
  refine lv_iconst (v := 0) hx hb dM_tickOnce_10 (by decide) ?_
  refine lv_istore_n (lv' := [(1, .int 0), (0, .ref (q 0))]) hx hb dM_tickOnce_11 rfl hl (by decide) rfl (fun ls hl => ?_)
  exact K12 (k + 1) g16 0 (by omega) eg16 (by rw [eg16, ht_up_k (by decide)]; exact hn) (by omega) _ _ hP hS ls (lv_sub hl [1, 0] rfl)
