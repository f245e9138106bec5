set_option maxHeartbeats 800000 in
set_option maxRecDepth 100000 in
theorem xM_count (l : Launch) (D : va_G) (cB : ClassId × ClassId) (q : Nat → Nat) (hJ : mw_J 17 q) (sz : Nat) (g : ht_G) (k : Nat) (hk : k ≤ 8) (hn : g 0 1 = nI k) (y : Int32) : Met l yM_count kM_count ({ frames := 3, cells := 0, slots := 0, locals := 66 }) (va_Pc [.ref (q 0), .int y] (fun U => U.heap.size = sz ∧ rf_I D cB q g U)) (va_Qi (fun r (_ : Unit) => r = (rf_oCount (ht_up g 0 0 0) k y).1) (fun _ t => rf_I D cB q ((rf_oCount (ht_up g 0 0 0) k y).2) t) (mw_A 17 q sz)) 0 0 (mw_A 17 q sz) := by
  refine Met.ofW (cc := cM_count) (maxL := 4) (ret := (some .int)) (by decide) rfl ?_
  intro p e s m args below meth c s₁ B hml hv
  obtain ⟨rfl, hsz, hP, hK, hN⟩ := hv
  have hx := B.exec
  have hb := B.bytes
  have hr := B.returns
  have hts := fun w h => atoms_spec (ws := kM_count) B.pre w (List.mem_cons_of_mem _ h)
  have hown : s.vm.findClass RM = some m.cls := findClass_of_methodNamed B.named
  have hlocks := B.notSynchronized
  subst hsz
  have hS : va_S (mw_A 17 q s.heap.size) s.heap s.heap [] := va_S.rf
  have hl := lv_entry ([.ref (q 0), .int y]) (n := 4) (Nat.le_of_ble_eq_true rfl)
  rw [lg_entry_eq]
  generalize (lg_sl ([.ref (q 0), .int y]) ++ List.replicate (4 - (lg_sl ([.ref (q 0), .int y])).length) Slot.unset).toArray = ls at hl ⊢
  have hl : lv_has ls 4 [(0, .ref (q 0)), (1, .int y)] := hl
  have K101 : ∀ (n9 : Nat), ∀ (g1 : ht_G) (j : Nat), (13 ≤ j + n9) → (g1 = ht_up g 0 0 0) → (g1 0 1 = nI k) → (y = 6) → (j ≤ 12) → ∀ (H : Heap) (locs : List Loc), va_P D ht_cl (rf_w cB q g1) H → va_S (mw_A 17 q s.heap.size) s.heap H locs → ∀ (ls : Array Slot), lv_has ls 4 [(0, .ref (q 0)), (1, .int y), (2, .int (nI (ht_num (fun s => decide (g1 14 s = 0) && (!rf_claimed g1 k (nI s) (-1) && rf_stood g1 k s)) j))), (3, .int (nI j))] → W p l e (headSpec kM_count ({ frames := 3, cells := 0, slots := 0, locals := 66 })).room s m [.ref (q 0), .int y].toArray below meth c H locs 0 0 (MQ below (va_Qi (fun r (_ : Unit) => r = (rf_oCount (ht_up g 0 0 0) k y).1) (fun _ t => rf_I D cB q ((rf_oCount (ht_up g 0 0 0) k y).2) t) (mw_A 17 q s.heap.size)) [.ref (q 0), .int y].toArray s 0 0 (mw_A 17 q s.heap.size)) (F0 m 101 ls []) := by
    intro n9
    induction n9 with
    | zero =>
      intro g1 j hn9 heg hn1 hy hjk H locs hP hS ls hl
      exact absurd hn9 (by omega)
    | succ n9 ih =>
      intro g1 j hn9 heg hn1 hy hjk H locs hP hS ls hl
      refine lv_iload_n hx hb dM_count_101 rfl (lv_at hl 3 rfl) ?_
      refine lv_bipush (v := 12) hx hb dM_count_102 (by decide) ?_
      refine lv_icmp_ge (tgt := 142) hx hb dM_count_104 (by decide) (fun c1 => ?_) (fun c1 => ?_)
      · have e9 : j = 12 := ht_end12 hjk c1
        refine lv_iload_n hx hb dM_count_142 rfl (lv_at hl 2 rfl) ?_
        have hG : g1 = (rf_oCount (ht_up g 0 0 0) k y).2 := by rw [← heg, hy]; simp [rf_oCount]
        rw [hG] at hP
        exact W.iret (v := nI (ht_num (fun s => decide (g1 14 s = 0) && (!rf_claimed g1 k (nI s) (-1) && rf_stood g1 k s)) j)) hx hb hr (fun t ht hW => ⟨⟨nI (ht_num (fun s => decide (g1 14 s = 0) && (!rf_claimed g1 k (nI s) (-1) && rf_stood g1 k s)) j), (), rfl, by rw [← heg, hy, e9]; simp [rf_oCount], rf_Im hP hK hN ht hW⟩, hS.F ht⟩) hS.2.2 dM_count_143
      · have hjl : j < 12 := ht_lt12 hjk c1
        refine lv_aload_n hx hb dM_count_107 rfl (lv_at hl 0 rfl) ?_
        refine va_get (D := D) (ci := 2) (C := RM) (T := TM) (N := 19) (v := .ref (q 14)) hx hb hts inM hown hK hP 0 rf_at0 rfl 15 (by decide) (hts _ w459) (fun _ h9 => h9) rfl dM_count_108 ?_
        refine lv_iload_n hx hb dM_count_111 rfl (lv_at hl 3 rfl) ?_
        refine rf_ldI hx hb hK hP 14 (j := j) (by decide) (by decide) rfl hjl rfl dM_count_112 ?_
        refine lv_if_ne (tgt := 136) hx hb dM_count_113 (by decide) (fun c2 => ?_) (fun c2 => ?_)
        · refine lv_iinc (v := nI (j + 1)) (lv' := [(3, .int (nI (j + 1))), (0, .ref (q 0)), (1, .int y), (2, .int (nI (ht_num (fun s => decide (g1 14 s = 0) && (!rf_claimed g1 k (nI s) (-1) && rf_stood g1 k s)) j)))]) hx hb dM_count_136 hl (k := 3) rfl (nI_1 _) (by decide) rfl (fun ls hl => ?_)
          refine lv_goto (tgt := 101) hx hb dM_count_139 (by decide) ?_
          have e8 : ht_num (fun s => decide (g1 14 s = 0) && (!rf_claimed g1 k (nI s) (-1) && rf_stood g1 k s)) (j + 1) = ht_num (fun s => decide (g1 14 s = 0) && (!rf_claimed g1 k (nI s) (-1) && rf_stood g1 k s)) j := by simp [ht_num, c2]
          rw [← e8] at hl
          exact ih g1 (j + 1) (by omega) heg hn1 hy (by omega) _ _ hP hS ls (lv_sub hl [1, 2, 3, 0] rfl)
        · refine lv_aload_n hx hb dM_count_116 rfl (lv_at hl 0 rfl) ?_
          refine lv_iload_n hx hb dM_count_117 rfl (lv_at hl 3 rfl) ?_
          refine lv_iconst (v := (-1)) hx hb dM_count_118 (by decide) ?_
          refine vp_callSi (va_Run.run (va_runV (As := [.int (nI j), .int (-1 : Int32)]) (rest := []) ⟨hx, hb, hml, hown, hts⟩ (xM_claimed l D cB q g1 k hk hn1 (nI j) (-1)) (cwV 2 hts (ht_gV w526 w528 s35 w3 w529) rfl rfl rfl (by decide +kernel) ⟨Nat.le_of_ble_eq_true rfl, Nat.le_of_ble_eq_true rfl⟩) ⟨rf_bl, va_recv hK hP (ci := 2) (q0 := 0) rfl rf_at0, fun U hU hW => ⟨rfl, rf_Im hP hK hN hU hW⟩⟩ rfl rfl hl.1 rfl (lv_room (Nat.le_of_ble_eq_true rfl)) dM_count_119 ⟨Nat.zero_le _, Nat.zero_le _⟩)) (fun r3 hr3 => ?_)
          subst hr3
          refine lv_if_ne (tgt := 136) hx hb dM_count_122 (by decide) (fun c4 => ?_) (fun c4 => ?_)
          · replace c4 := ht_b1.mp c4
            refine lv_iinc (v := nI (j + 1)) (lv' := [(3, .int (nI (j + 1))), (0, .ref (q 0)), (1, .int y), (2, .int (nI (ht_num (fun s => decide (g1 14 s = 0) && (!rf_claimed g1 k (nI s) (-1) && rf_stood g1 k s)) j)))]) hx hb dM_count_136 hl (k := 3) rfl (nI_1 _) (by decide) rfl (fun ls hl => ?_)
            refine lv_goto (tgt := 101) hx hb dM_count_139 (by decide) ?_
            have e8 : ht_num (fun s => decide (g1 14 s = 0) && (!rf_claimed g1 k (nI s) (-1) && rf_stood g1 k s)) (j + 1) = ht_num (fun s => decide (g1 14 s = 0) && (!rf_claimed g1 k (nI s) (-1) && rf_stood g1 k s)) j := by simp [ht_num, c2, c4]
            rw [← e8] at hl
            exact ih g1 (j + 1) (by omega) heg hn1 hy (by omega) _ _ hP hS ls (lv_sub hl [1, 2, 3, 0] rfl)
          · replace c4 := ht_b0.mp c4
            refine lv_aload_n hx hb dM_count_125 rfl (lv_at hl 0 rfl) ?_
            refine lv_iload_n hx hb dM_count_126 rfl (lv_at hl 3 rfl) ?_
            refine vp_callSi (va_Run.run (va_runV (As := [.int (nI j)]) (rest := []) ⟨hx, hb, hml, hown, hts⟩ (xM_stood l D cB q g1 k hk hn1 j hjl) (cwV 1 hts (ht_gV w630 w632 s49 w3 w633) rfl rfl rfl (by decide +kernel) ⟨Nat.le_of_ble_eq_true rfl, Nat.le_of_ble_eq_true rfl⟩) ⟨rf_bl, va_recv hK hP (ci := 2) (q0 := 0) rfl rf_at0, fun U hU hW => ⟨rfl, rf_Im hP hK hN hU hW⟩⟩ rfl rfl hl.1 rfl (lv_room (Nat.le_of_ble_eq_true rfl)) dM_count_127 ⟨Nat.zero_le _, Nat.zero_le _⟩)) (fun r5 hr5 => ?_)
            subst hr5
            refine lv_if_eq (tgt := 136) hx hb dM_count_130 (by decide) (fun c6 => ?_) (fun c6 => ?_)
            · replace c6 := ht_b0.mp c6
              refine lv_iinc (v := nI (j + 1)) (lv' := [(3, .int (nI (j + 1))), (0, .ref (q 0)), (1, .int y), (2, .int (nI (ht_num (fun s => decide (g1 14 s = 0) && (!rf_claimed g1 k (nI s) (-1) && rf_stood g1 k s)) j)))]) hx hb dM_count_136 hl (k := 3) rfl (nI_1 _) (by decide) rfl (fun ls hl => ?_)
              refine lv_goto (tgt := 101) hx hb dM_count_139 (by decide) ?_
              have e8 : ht_num (fun s => decide (g1 14 s = 0) && (!rf_claimed g1 k (nI s) (-1) && rf_stood g1 k s)) (j + 1) = ht_num (fun s => decide (g1 14 s = 0) && (!rf_claimed g1 k (nI s) (-1) && rf_stood g1 k s)) j := by simp [ht_num, c2, c4, c6]
              rw [← e8] at hl
              exact ih g1 (j + 1) (by omega) heg hn1 hy (by omega) _ _ hP hS ls (lv_sub hl [1, 2, 3, 0] rfl)
            · replace c6 := ht_b1.mp c6
              refine lv_iinc (v := nI (ht_num (fun s => decide (g1 14 s = 0) && (!rf_claimed g1 k (nI s) (-1) && rf_stood g1 k s)) j + 1)) (lv' := [(2, .int (nI (ht_num (fun s => decide (g1 14 s = 0) && (!rf_claimed g1 k (nI s) (-1) && rf_stood g1 k s)) j + 1))), (0, .ref (q 0)), (1, .int y), (3, .int (nI j))]) hx hb dM_count_133 hl (k := 2) rfl (nI_1 _) (by decide) rfl (fun ls hl => ?_)
              refine lv_iinc (v := nI (j + 1)) (lv' := [(3, .int (nI (j + 1))), (2, .int (nI (ht_num (fun s => decide (g1 14 s = 0) && (!rf_claimed g1 k (nI s) (-1) && rf_stood g1 k s)) j + 1))), (0, .ref (q 0)), (1, .int y)]) hx hb dM_count_136 hl (k := 3) rfl (nI_1 _) (by decide) rfl (fun ls hl => ?_)
              refine lv_goto (tgt := 101) hx hb dM_count_139 (by decide) ?_
              have e8 : ht_num (fun s => decide (g1 14 s = 0) && (!rf_claimed g1 k (nI s) (-1) && rf_stood g1 k s)) (j + 1) = ht_num (fun s => decide (g1 14 s = 0) && (!rf_claimed g1 k (nI s) (-1) && rf_stood g1 k s)) j + 1 := by simp [ht_num, c2, c4, c6]
              rw [← e8] at hl
              exact ih g1 (j + 1) (by omega) heg hn1 hy (by omega) _ _ hP hS ls (lv_sub hl [2, 3, 1, 0] rfl)
  have K63 : ∀ (n9 : Nat), ∀ (g1 : ht_G) (j : Nat), (k + 1 ≤ j + n9) → (g1 = ht_up g 0 0 0) → (g1 0 1 = nI k) → (y = 1) → (j ≤ k) → ∀ (H : Heap) (locs : List Loc), va_P D ht_cl (rf_w cB q g1) H → va_S (mw_A 17 q s.heap.size) s.heap H locs → ∀ (ls : Array Slot), lv_has ls 4 [(0, .ref (q 0)), (1, .int y), (2, .int (nI (ht_num (fun v => !decide (g1 1 v = 0)) j))), (3, .int (nI j))] → W p l e (headSpec kM_count ({ frames := 3, cells := 0, slots := 0, locals := 66 })).room s m [.ref (q 0), .int y].toArray below meth c H locs 0 0 (MQ below (va_Qi (fun r (_ : Unit) => r = (rf_oCount (ht_up g 0 0 0) k y).1) (fun _ t => rf_I D cB q ((rf_oCount (ht_up g 0 0 0) k y).2) t) (mw_A 17 q s.heap.size)) [.ref (q 0), .int y].toArray s 0 0 (mw_A 17 q s.heap.size)) (F0 m 63 ls []) := by
    intro n9
    induction n9 with
    | zero =>
      intro g1 j hn9 heg hn1 hy hjk H locs hP hS ls hl
      exact absurd hn9 (by omega)
    | succ n9 ih =>
      intro g1 j hn9 heg hn1 hy hjk H locs hP hS ls hl
      refine lv_iload_n hx hb dM_count_63 rfl (lv_at hl 3 rfl) ?_
      refine lv_aload_n hx hb dM_count_64 rfl (lv_at hl 0 rfl) ?_
      refine va_get (D := D) (ci := 2) (C := RM) (T := TM) (N := 19) (v := .int (g1 0 1)) hx hb hts inM hown hK hP 0 rf_at0 rfl 14 (by decide) (hts _ w458) (fun _ h9 => h9) rfl dM_count_65 ?_
      refine lv_icmp_ge (tgt := 89) hx hb dM_count_68 (by decide) (fun c7 => ?_) (fun c7 => ?_)
      · rw [hn1] at c7
        have e9 : j = k := ht_end hk hjk c7
        refine lv_iload_n hx hb dM_count_89 rfl (lv_at hl 2 rfl) ?_
        have hG : g1 = (rf_oCount (ht_up g 0 0 0) k y).2 := by rw [← heg, hy]; simp [rf_oCount]
        rw [hG] at hP
        exact W.iret (v := nI (ht_num (fun v => !decide (g1 1 v = 0)) j)) hx hb hr (fun t ht hW => ⟨⟨nI (ht_num (fun v => !decide (g1 1 v = 0)) j), (), rfl, by rw [← heg, hy, e9]; simp [rf_oCount], rf_Im hP hK hN ht hW⟩, hS.F ht⟩) hS.2.2 dM_count_90
      · rw [hn1] at c7
        have hjl : j < k := ht_lt hk hjk c7
        have hj8 : j < 8 := Nat.lt_of_lt_of_le hjl hk
        refine lv_aload_n hx hb dM_count_71 rfl (lv_at hl 0 rfl) ?_
        refine va_get (D := D) (ci := 2) (C := RM) (T := TM) (N := 19) (v := .ref (q 1)) hx hb hts inM hown hK hP 0 rf_at0 rfl 1 (by decide) (hts _ w445) (fun _ h9 => h9) rfl dM_count_72 ?_
        refine lv_iload_n hx hb dM_count_75 rfl (lv_at hl 3 rfl) ?_
        refine rf_ldZ hx hb hK hP 1 (j := j) (by decide) (by decide) rfl hj8 rfl dM_count_76 ?_
        refine lv_if_eq (tgt := 83) hx hb dM_count_77 (by decide) (fun c8 => ?_) (fun c8 => ?_)
        · refine lv_iinc (v := nI (j + 1)) (lv' := [(3, .int (nI (j + 1))), (0, .ref (q 0)), (1, .int y), (2, .int (nI (ht_num (fun v => !decide (g1 1 v = 0)) j)))]) hx hb dM_count_83 hl (k := 3) rfl (nI_1 _) (by decide) rfl (fun ls hl => ?_)
          refine lv_goto (tgt := 63) hx hb dM_count_86 (by decide) ?_
          have e8 : ht_num (fun v => !decide (g1 1 v = 0)) (j + 1) = ht_num (fun v => !decide (g1 1 v = 0)) j := by simp [ht_num, c8]
          rw [← e8] at hl
          exact ih g1 (j + 1) (by omega) heg hn1 hy (by omega) _ _ hP hS ls (lv_sub hl [1, 2, 3, 0] rfl)
        · refine lv_iinc (v := nI (ht_num (fun v => !decide (g1 1 v = 0)) j + 1)) (lv' := [(2, .int (nI (ht_num (fun v => !decide (g1 1 v = 0)) j + 1))), (0, .ref (q 0)), (1, .int y), (3, .int (nI j))]) hx hb dM_count_80 hl (k := 2) rfl (nI_1 _) (by decide) rfl (fun ls hl => ?_)
          refine lv_iinc (v := nI (j + 1)) (lv' := [(3, .int (nI (j + 1))), (2, .int (nI (ht_num (fun v => !decide (g1 1 v = 0)) j + 1))), (0, .ref (q 0)), (1, .int y)]) hx hb dM_count_83 hl (k := 3) rfl (nI_1 _) (by decide) rfl (fun ls hl => ?_)
          refine lv_goto (tgt := 63) hx hb dM_count_86 (by decide) ?_
          have e8 : ht_num (fun v => !decide (g1 1 v = 0)) (j + 1) = ht_num (fun v => !decide (g1 1 v = 0)) j + 1 := by simp [ht_num, c8]
          rw [← e8] at hl
          exact ih g1 (j + 1) (by omega) heg hn1 hy (by omega) _ _ hP hS ls (lv_sub hl [2, 3, 1, 0] rfl)
  refine lv_aload_n hx hb dM_count_0 rfl (lv_at hl 0 rfl) ?_
  refine lv_iconst (v := 0) hx hb dM_count_1 (by decide) ?_
  refine va_put (D := D) (ci := 2) (C := RM) (T := TM) (N := 19) (v := .int 0) (ty := .int) hx hb hts inM tyM tyM_ok nmM hown hK hP (mw_DA hJ) hS 0 rf_at0 rfl 0 (by decide) (hts _ w444) (fun _ h9 => h9) rfl rfl rfl rfl (Nat.le_of_ble_eq_true rfl) dM_count_2 (fun H locs hP _ hS => ?_)
  rw [rf_st0] at hP
  obtain ⟨g9, eg9⟩ : ∃ y9 : ht_G, y9 = ht_up g 0 0 0 := ⟨_, rfl⟩
  rw [← eg9] at hP
  have hn1 : g9 0 1 = nI k := by rw [eg9, ht_up_k (by decide)]; exact hn
  refine lv_iconst (v := 0) hx hb dM_count_5 (by decide) ?_
  refine lv_istore_n (lv' := [(2, .int 0), (0, .ref (q 0)), (1, .int y)]) hx hb dM_count_6 rfl hl (by decide) rfl (fun ls hl => ?_)
  refine lv_iload_n hx hb dM_count_7 rfl (lv_at hl 2 rfl) ?_
  by_cases c10 : y = 0
  · refine lv_tableIn (tgt := 56) (off := 48) hx hb dM_count_8 (by rw [c10]; decide) (by rw [c10]; decide) (by rw [c10]; rfl) (by decide) ?_
    refine lv_aload_n hx hb dM_count_56 rfl (lv_at hl 1 rfl) ?_
    refine va_get (D := D) (ci := 2) (C := RM) (T := TM) (N := 19) (v := .int (g9 0 1)) hx hb hts inM hown hK hP 0 rf_at0 rfl 14 (by decide) (hts _ w458) (fun _ h9 => h9) rfl dM_count_57 ?_
    have hG : g9 = (rf_oCount (ht_up g 0 0 0) k y).2 := by rw [← eg9]; simp [rf_oCount, c10]
    rw [hG] at hP
    exact W.iret (v := g9 0 1) hx hb hr (fun t ht hW => ⟨⟨g9 0 1, (), rfl, by rw [← eg9]; simp [rf_oCount, c10, ht_up], rf_Im hP hK hN ht hW⟩, hS.F ht⟩) hS.2.2 dM_count_60
  ·
    by_cases c11 : y = 1
    · refine lv_tableIn (tgt := 61) (off := 53) hx hb dM_count_8 (by rw [c11]; decide) (by rw [c11]; decide) (by rw [c11]; rfl) (by decide) ?_
      refine lv_iconst (v := 0) hx hb dM_count_61 (by decide) ?_
      refine lv_istore_n (lv' := [(3, .int 0), (2, .int 0), (0, .ref (q 0)), (1, .int y)]) hx hb dM_count_62 rfl hl (by decide) rfl (fun ls hl => ?_)
      exact K63 (k + 1) g9 0 (by omega) eg9 hn1 c11 (by omega) _ _ hP hS ls (lv_sub hl [2, 3, 1, 0] rfl)
    ·
      by_cases c12 : y = 2
      · refine lv_tableIn (tgt := 91) (off := 83) hx hb dM_count_8 (by rw [c12]; decide) (by rw [c12]; decide) (by rw [c12]; rfl) (by decide) ?_
        refine lv_aload_n hx hb dM_count_91 rfl (lv_at hl 1 rfl) ?_
        refine lv_iload_n hx hb dM_count_92 rfl (lv_at hl 2 rfl) ?_
        refine lv_iconst (v := 2) hx hb dM_count_93 (by decide) ?_
        refine lv_isub hx hb dM_count_94 ?_
        refine vp_callSi (va_Run.run (va_runV (As := [.int (y - 2)]) (rest := []) ⟨hx, hb, hml, hown, hts⟩ (xM_countStates l D cB q g9 (y - 2)) (cwV 1 hts (ht_gV w610 w612 s48 w3 w613) rfl rfl rfl (by decide +kernel) ⟨Nat.le_of_ble_eq_true rfl, Nat.le_of_ble_eq_true rfl⟩) ⟨rf_bl, va_recv hK hP (ci := 2) (q0 := 0) rfl rf_at0, fun U hU hW => ⟨rfl, rf_Im hP hK hN hU hW⟩⟩ rfl rfl hl.1 rfl (lv_room (Nat.le_of_ble_eq_true rfl)) dM_count_95 ⟨Nat.zero_le _, Nat.zero_le _⟩)) (fun r13 hr13 => ?_)
        subst hr13
        have hG : g9 = (rf_oCount (ht_up g 0 0 0) k y).2 := by rw [← eg9]; simp [rf_oCount, c10, c11, c12]
        rw [hG] at hP
        exact W.iret (v := nI (rf_cs g9 (y - 2))) hx hb hr (fun t ht hW => ⟨⟨nI (rf_cs g9 (y - 2)), (), rfl, by rw [← eg9]; simp [rf_oCount, c10, c11, c12, ht_up], rf_Im hP hK hN ht hW⟩, hS.F ht⟩) hS.2.2 dM_count_98
      ·
        by_cases c14 : y = 3
        · refine lv_tableIn (tgt := 91) (off := 83) hx hb dM_count_8 (by rw [c14]; decide) (by rw [c14]; decide) (by rw [c14]; rfl) (by decide) ?_
          refine lv_aload_n hx hb dM_count_91 rfl (lv_at hl 1 rfl) ?_
          refine lv_iload_n hx hb dM_count_92 rfl (lv_at hl 2 rfl) ?_
          refine lv_iconst (v := 2) hx hb dM_count_93 (by decide) ?_
          refine lv_isub hx hb dM_count_94 ?_
          refine vp_callSi (va_Run.run (va_runV (As := [.int (y - 2)]) (rest := []) ⟨hx, hb, hml, hown, hts⟩ (xM_countStates l D cB q g9 (y - 2)) (cwV 1 hts (ht_gV w610 w612 s48 w3 w613) rfl rfl rfl (by decide +kernel) ⟨Nat.le_of_ble_eq_true rfl, Nat.le_of_ble_eq_true rfl⟩) ⟨rf_bl, va_recv hK hP (ci := 2) (q0 := 0) rfl rf_at0, fun U hU hW => ⟨rfl, rf_Im hP hK hN hU hW⟩⟩ rfl rfl hl.1 rfl (lv_room (Nat.le_of_ble_eq_true rfl)) dM_count_95 ⟨Nat.zero_le _, Nat.zero_le _⟩)) (fun r15 hr15 => ?_)
          subst hr15
          have hG : g9 = (rf_oCount (ht_up g 0 0 0) k y).2 := by rw [← eg9]; simp [rf_oCount, c10, c11, c12, c14]
          rw [hG] at hP
          exact W.iret (v := nI (rf_cs g9 (y - 2))) hx hb hr (fun t ht hW => ⟨⟨nI (rf_cs g9 (y - 2)), (), rfl, by rw [← eg9]; simp [rf_oCount, c10, c11, c12, c14, ht_up], rf_Im hP hK hN ht hW⟩, hS.F ht⟩) hS.2.2 dM_count_98
        ·
          by_cases c16 : y = 4
          · refine lv_tableIn (tgt := 91) (off := 83) hx hb dM_count_8 (by rw [c16]; decide) (by rw [c16]; decide) (by rw [c16]; rfl) (by decide) ?_
            refine lv_aload_n hx hb dM_count_91 rfl (lv_at hl 1 rfl) ?_
            refine lv_iload_n hx hb dM_count_92 rfl (lv_at hl 2 rfl) ?_
            refine lv_iconst (v := 2) hx hb dM_count_93 (by decide) ?_
            refine lv_isub hx hb dM_count_94 ?_
            refine vp_callSi (va_Run.run (va_runV (As := [.int (y - 2)]) (rest := []) ⟨hx, hb, hml, hown, hts⟩ (xM_countStates l D cB q g9 (y - 2)) (cwV 1 hts (ht_gV w610 w612 s48 w3 w613) rfl rfl rfl (by decide +kernel) ⟨Nat.le_of_ble_eq_true rfl, Nat.le_of_ble_eq_true rfl⟩) ⟨rf_bl, va_recv hK hP (ci := 2) (q0 := 0) rfl rf_at0, fun U hU hW => ⟨rfl, rf_Im hP hK hN hU hW⟩⟩ rfl rfl hl.1 rfl (lv_room (Nat.le_of_ble_eq_true rfl)) dM_count_95 ⟨Nat.zero_le _, Nat.zero_le _⟩)) (fun r17 hr17 => ?_)
            subst hr17
            have hG : g9 = (rf_oCount (ht_up g 0 0 0) k y).2 := by rw [← eg9]; simp [rf_oCount, c10, c11, c12, c14, c16]
            rw [hG] at hP
            exact W.iret (v := nI (rf_cs g9 (y - 2))) hx hb hr (fun t ht hW => ⟨⟨nI (rf_cs g9 (y - 2)), (), rfl, by rw [← eg9]; simp [rf_oCount, c10, c11, c12, c14, c16, ht_up], rf_Im hP hK hN ht hW⟩, hS.F ht⟩) hS.2.2 dM_count_98
          ·
            by_cases c18 : y = 5
            · refine lv_tableIn (tgt := 91) (off := 83) hx hb dM_count_8 (by rw [c18]; decide) (by rw [c18]; decide) (by rw [c18]; rfl) (by decide) ?_
              refine lv_aload_n hx hb dM_count_91 rfl (lv_at hl 1 rfl) ?_
              refine lv_iload_n hx hb dM_count_92 rfl (lv_at hl 2 rfl) ?_
              refine lv_iconst (v := 2) hx hb dM_count_93 (by decide) ?_
              refine lv_isub hx hb dM_count_94 ?_
              refine vp_callSi (va_Run.run (va_runV (As := [.int (y - 2)]) (rest := []) ⟨hx, hb, hml, hown, hts⟩ (xM_countStates l D cB q g9 (y - 2)) (cwV 1 hts (ht_gV w610 w612 s48 w3 w613) rfl rfl rfl (by decide +kernel) ⟨Nat.le_of_ble_eq_true rfl, Nat.le_of_ble_eq_true rfl⟩) ⟨rf_bl, va_recv hK hP (ci := 2) (q0 := 0) rfl rf_at0, fun U hU hW => ⟨rfl, rf_Im hP hK hN hU hW⟩⟩ rfl rfl hl.1 rfl (lv_room (Nat.le_of_ble_eq_true rfl)) dM_count_95 ⟨Nat.zero_le _, Nat.zero_le _⟩)) (fun r19 hr19 => ?_)
              subst hr19
              have hG : g9 = (rf_oCount (ht_up g 0 0 0) k y).2 := by rw [← eg9]; simp [rf_oCount, c10, c11, c12, c14, c16, c18]
              rw [hG] at hP
              exact W.iret (v := nI (rf_cs g9 (y - 2))) hx hb hr (fun t ht hW => ⟨⟨nI (rf_cs g9 (y - 2)), (), rfl, by rw [← eg9]; simp [rf_oCount, c10, c11, c12, c14, c16, c18, ht_up], rf_Im hP hK hN ht hW⟩, hS.F ht⟩) hS.2.2 dM_count_98
            ·
              by_cases c20 : y = 6
              · refine lv_tableIn (tgt := 99) (off := 91) hx hb dM_count_8 (by rw [c20]; decide) (by rw [c20]; decide) (by rw [c20]; rfl) (by decide) ?_
                refine lv_iconst (v := 0) hx hb dM_count_99 (by decide) ?_
                refine lv_istore_n (lv' := [(3, .int 0), (2, .int 0), (0, .ref (q 0)), (1, .int y)]) hx hb dM_count_100 rfl hl (by decide) rfl (fun ls hl => ?_)
                exact K101 (12 + 1) g9 0 (by omega) eg9 hn1 c20 (by omega) _ _ hP hS ls (lv_sub hl [2, 3, 1, 0] rfl)
              ·
                by_cases c21 : y = 7
                · refine lv_tableIn (tgt := 144) (off := 136) hx hb dM_count_8 (by rw [c21]; decide) (by rw [c21]; decide) (by rw [c21]; rfl) (by decide) ?_
                  refine lv_aload_n hx hb dM_count_144 rfl (lv_at hl 1 rfl) ?_
                  refine va_get (D := D) (ci := 2) (C := RM) (T := TM) (N := 19) (v := .int (g9 0 2)) hx hb hts inM hown hK hP 0 rf_at0 rfl 18 (by decide) (hts _ w462) (fun _ h9 => h9) rfl dM_count_145 ?_
                  have hG : g9 = (rf_oCount (ht_up g 0 0 0) k y).2 := by rw [← eg9]; simp [rf_oCount, c10, c11, c12, c14, c16, c18, c20, c21]
                  rw [hG] at hP
                  exact W.iret (v := g9 0 2) hx hb hr (fun t ht hW => ⟨⟨g9 0 2, (), rfl, by rw [← eg9]; simp [rf_oCount, c10, c11, c12, c14, c16, c18, c20, c21, ht_up], rf_Im hP hK hN ht hW⟩, hS.F ht⟩) hS.2.2 dM_count_148
                ·
                  have nc10 := lv_neT c10 (a := 0) rfl
                  have nc11 := lv_neT c11 (a := 1) rfl
                  have nc12 := lv_neT c12 (a := 2) rfl
                  have nc14 := lv_neT c14 (a := 3) rfl
                  have nc16 := lv_neT c16 (a := 4) rfl
                  have nc18 := lv_neT c18 (a := 5) rfl
                  have nc20 := lv_neT c20 (a := 6) rfl
                  have nc21 := lv_neT c21 (a := 7) rfl
                  refine lv_tableOut (tgt := 149) hx hb dM_count_8 (by omega) (by decide) ?_
                  refine lv_aload_n hx hb dM_count_149 rfl (lv_at hl 1 rfl) ?_
                  refine lv_iconst (v := 1) hx hb dM_count_150 (by decide) ?_
                  refine va_calli (va_runV (As := [.int 1]) (rest := []) ⟨hx, hb, hml, hown, hts⟩ (xM_raise l D cB q hJ _ g9 1) (cwV 1 hts (ht_gV w514 w516 s32 w3 w517) rfl rfl rfl (by decide +kernel) ⟨Nat.le_of_ble_eq_true rfl, Nat.le_of_ble_eq_true rfl⟩) ⟨rf_bls, va_recv hK hP (ci := 2) (q0 := 0) rfl rf_at0, fun U hU hW => ⟨rfl, by rw [hU], rf_Im hP hK hN hU hW⟩⟩ rfl rfl hl.1 rfl (lv_room (Nat.le_of_ble_eq_true rfl)) dM_count_151 ⟨Nat.zero_le _, Nat.zero_le _⟩) hS mw_AA (mw_AF hS.1) (fun r22 u22 t22 H locs ht22 hvm22 hw22 hB22 hz22 hk22 hS => ?_)
                  have hP := hB22.1
                  rw [ht22] at hP
                  subst hw22
                  obtain ⟨g23, eg23⟩ : ∃ y9 : ht_G, y9 = ht_up g9 0 0 1 := ⟨_, rfl⟩
                  rw [← eg23] at hP
                  have hG : g23 = (rf_oCount (ht_up g 0 0 0) k y).2 := by rw [← eg9]; subst eg23; simp [rf_oCount, c10, c11, c12, c14, c16, c18, c20, c21]
                  rw [hG] at hP
                  exact W.iret (v := 0) hx hb hr (fun t ht hW => ⟨⟨0, (), rfl, by rw [← eg9]; subst eg23; simp [rf_oCount, c10, c11, c12, c14, c16, c18, c20, c21, ht_up], rf_Im hP hK hN ht hW⟩, hS.F ht⟩) hS.2.2 dM_count_154
