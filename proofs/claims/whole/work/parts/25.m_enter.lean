set_option maxHeartbeats 800000 in
set_option maxRecDepth 100000 in
theorem xM_enter (l : Launch) (D : va_G) (cB : ClassId × ClassId) (q : Nat → Nat) (hJ : mw_J 17 q) (sz : Nat) (g : ht_G) (k : Nat) (hk : k ≤ 8) (hn : g 0 1 = nI k) (hA : ht_al g 16) (x y : Int32) : Met l yM_enter kM_enter ({ frames := 5, cells := 0, slots := 0, locals := 112 }) (va_Pc [.ref (q 0), .int x, .int y] (fun U => U.heap.size = sz ∧ rf_I D cB q g U)) (va_Qi (fun r (_ : Unit) => r = (rf_oEnter (ht_up g 0 0 0) k x y).1) (fun _ t => rf_I D cB q ((rf_oEnter (ht_up g 0 0 0) k x y).2) t) (mw_A 17 q sz)) 0 0 (mw_A 17 q sz) := by
  refine Met.ofW (cc := cM_enter) (maxL := 4) (ret := (some .int)) (by decide) rfl ?_
  intro p e s m args below meth c s₁ B hml hv
  obtain ⟨rfl, hsz, hP, hK, hN⟩ := hv
  have hx := B.exec
  have hb := B.bytes
  have hr := B.returns
  have hts := fun w h => atoms_spec (ws := kM_enter) B.pre w (List.mem_cons_of_mem _ h)
  have hown : s.vm.findClass RM = some m.cls := findClass_of_methodNamed B.named
  have hlocks := B.notSynchronized
  subst hsz
  have hS : va_S (mw_A 17 q s.heap.size) s.heap s.heap [] := va_S.rf
  have hl := lv_entry ([.ref (q 0), .int x, .int y]) (n := 4) (Nat.le_of_ble_eq_true rfl)
  rw [lg_entry_eq]
  generalize (lg_sl ([.ref (q 0), .int x, .int y]) ++ List.replicate (4 - (lg_sl ([.ref (q 0), .int x, .int y])).length) Slot.unset).toArray = ls at hl ⊢
  have hl : lv_has ls 4 [(0, .ref (q 0)), (1, .int x), (2, .int y)] := hl
  have K59 : ∀ (n9 : Nat), ∀ (g1 : ht_G) (X Y A u : Nat), (Y + 1 ≤ u + n9) → (g1 = ht_up g 0 0 0) → (g1 0 1 = nI k) → (ht_al g1 16) → (rf_in y 1 40 = true) → (rf_in x 0 119 = true) → (-1 ≤ x - y) → (¬ g1 0 1 = 8) → (x = nI X) → (X ≤ 119) → (A + Y = X + 1) → ((x - y + 1).toNatClampNeg = A) → (y.toNatClampNeg = Y) → (u ≤ Y) → (ht_ex (fun i => decide (0 ≤ rf_so g1 k (nI (A + i)) (-1)) || rf_claimed g1 k (nI (A + i) / 10) (-1)) u = false) → ∀ (H : Heap) (locs : List Loc), va_P D ht_cl (rf_w cB q g1) H → va_S (mw_A 17 q s.heap.size) s.heap H locs → ∀ (ls : Array Slot), lv_has ls 4 [(0, .ref (q 0)), (1, .int x), (2, .int y), (3, .int (nI (A + u)))] → W p l e (headSpec kM_enter ({ frames := 5, cells := 0, slots := 0, locals := 112 })).room s m [.ref (q 0), .int x, .int y].toArray below meth c H locs 0 0 (MQ below (va_Qi (fun r (_ : Unit) => r = (rf_oEnter (ht_up g 0 0 0) k x y).1) (fun _ t => rf_I D cB q ((rf_oEnter (ht_up g 0 0 0) k x y).2) t) (mw_A 17 q s.heap.size)) [.ref (q 0), .int x, .int y].toArray s 0 0 (mw_A 17 q s.heap.size)) (F0 m 59 ls []) := by
    intro n9
    induction n9 with
    | zero =>
      intro g1 X Y A u hn9 heg hn1 hA1 hi1 hi2 hge h8 hxX hX hAY hac hyc hu hE H locs hP hS ls hl
      exact absurd hn9 (by omega)
    | succ n9 ih =>
      intro g1 X Y A u hn9 heg hn1 hA1 hi1 hi2 hge h8 hxX hX hAY hac hyc hu hE H locs hP hS ls hl
      refine lv_iload_n hx hb dM_enter_59 rfl (lv_at hl 3 rfl) ?_
      refine lv_iload_n hx hb dM_enter_60 rfl (lv_at hl 1 rfl) ?_
      refine lv_icmp_gt (tgt := 97) hx hb dM_enter_61 (by decide) (fun c1 => ?_) (fun c1 => ?_)
      · rw [hxX] at c1
        have e9 : u = Y := by have h9 := (nI_ltI (by omega) (by omega)).mp c1; omega
        rw [e9] at hE
        have hk8 : k < 8 := rf_lt8 hk hn1 h8
        refine lv_aload_n hx hb dM_enter_97 rfl (lv_at hl 0 rfl) ?_
        refine va_get (D := D) (ci := 2) (C := RM) (T := TM) (N := 19) (v := .int (g1 0 1)) hx hb hts inM hown hK hP 0 rf_at0 rfl 14 (by decide) (hts _ w458) (fun _ h9 => h9) rfl dM_enter_98 ?_
        refine lv_istore_n (lv' := [(3, .int (g1 0 1)), (0, .ref (q 0)), (1, .int x), (2, .int y)]) hx hb dM_enter_101 rfl hl (by decide) rfl (fun ls hl => ?_)
        refine lv_aload_n hx hb dM_enter_102 rfl (lv_at hl 1 rfl) ?_
        refine lv_dup hx hb dM_enter_103 rfl ?_
        refine va_get (D := D) (ci := 2) (C := RM) (T := TM) (N := 19) (v := .int (g1 0 1)) hx hb hts inM hown hK hP 0 rf_at0 rfl 14 (by decide) (hts _ w458) (fun _ h9 => h9) rfl dM_enter_104 ?_
        refine lv_iconst (v := 1) hx hb dM_enter_107 (by decide) ?_
        refine lv_iadd hx hb dM_enter_108 ?_
        refine va_put (D := D) (ci := 2) (C := RM) (T := TM) (N := 19) (v := .int ((g1 0 1) + 1)) (ty := .int) hx hb hts inM tyM tyM_ok nmM hown hK hP (mw_DA hJ) hS 0 rf_at0 rfl 14 (by decide) (hts _ w458) (fun _ h9 => h9) rfl rfl rfl rfl (Nat.le_of_ble_eq_true rfl) dM_enter_109 (fun H locs hP _ hS => ?_)
        rw [rf_st1] at hP
        obtain ⟨g2, eg2⟩ : ∃ y9 : ht_G, y9 = ht_up g1 0 1 ((g1 0 1) + 1) := ⟨_, rfl⟩
        rw [← eg2] at hP
        refine lv_aload_n hx hb dM_enter_112 rfl (lv_at hl 1 rfl) ?_
        refine va_get (D := D) (ci := 2) (C := RM) (T := TM) (N := 19) (v := .ref (q 1)) hx hb hts inM hown hK hP 0 rf_at0 rfl 1 (by decide) (hts _ w445) (fun _ h9 => h9) rfl dM_enter_113 ?_
        refine lv_iload_n hx hb dM_enter_116 rfl (lv_at hl 0 rfl) ?_
        refine lv_iconst (v := 1) hx hb dM_enter_117 (by decide) ?_
        refine rf_stZ hx hb hK hP (mw_DA hJ) hS 1 (j := k) (by decide) (by decide) rfl (Or.inr rfl) hk8 hn1 dM_enter_118 (fun H locs hP hS => ?_)
        obtain ⟨g3, eg3⟩ : ∃ y9 : ht_G, y9 = ht_up g2 1 k 1 := ⟨_, rfl⟩
        rw [← eg3] at hP
        refine lv_aload_n hx hb dM_enter_119 rfl (lv_at hl 1 rfl) ?_
        refine va_get (D := D) (ci := 2) (C := RM) (T := TM) (N := 19) (v := .ref (q 2)) hx hb hts inM hown hK hP 0 rf_at0 rfl 2 (by decide) (hts _ w446) (fun _ h9 => h9) rfl dM_enter_120 ?_
        refine lv_iload_n hx hb dM_enter_123 rfl (lv_at hl 0 rfl) ?_
        refine lv_iconst (v := 1) hx hb dM_enter_124 (by decide) ?_
        refine rf_stZ hx hb hK hP (mw_DA hJ) hS 2 (j := k) (by decide) (by decide) rfl (Or.inr rfl) hk8 hn1 dM_enter_125 (fun H locs hP hS => ?_)
        obtain ⟨g4, eg4⟩ : ∃ y9 : ht_G, y9 = ht_up g3 2 k 1 := ⟨_, rfl⟩
        rw [← eg4] at hP
        refine lv_aload_n hx hb dM_enter_126 rfl (lv_at hl 1 rfl) ?_
        refine va_get (D := D) (ci := 2) (C := RM) (T := TM) (N := 19) (v := .ref (q 3)) hx hb hts inM hown hK hP 0 rf_at0 rfl 3 (by decide) (hts _ w447) (fun _ h9 => h9) rfl dM_enter_127 ?_
        refine lv_iload_n hx hb dM_enter_130 rfl (lv_at hl 0 rfl) ?_
        refine lv_iload_n hx hb dM_enter_131 rfl (lv_at hl 2 rfl) ?_
        refine rf_stI hx hb hK hP (mw_DA hJ) hS 3 (j := k) (by decide) (by decide) rfl hk8 hn1 dM_enter_132 (fun H locs hP hS => ?_)
        obtain ⟨g5, eg5⟩ : ∃ y9 : ht_G, y9 = ht_up g4 3 k x := ⟨_, rfl⟩
        rw [← eg5] at hP
        refine lv_aload_n hx hb dM_enter_133 rfl (lv_at hl 1 rfl) ?_
        refine va_get (D := D) (ci := 2) (C := RM) (T := TM) (N := 19) (v := .ref (q 4)) hx hb hts inM hown hK hP 0 rf_at0 rfl 4 (by decide) (hts _ w448) (fun _ h9 => h9) rfl dM_enter_134 ?_
        refine lv_iload_n hx hb dM_enter_137 rfl (lv_at hl 0 rfl) ?_
        refine lv_iload_n hx hb dM_enter_138 rfl (lv_at hl 3 rfl) ?_
        refine rf_stI hx hb hK hP (mw_DA hJ) hS 4 (j := k) (by decide) (by decide) rfl hk8 hn1 dM_enter_139 (fun H locs hP hS => ?_)
        obtain ⟨g6, eg6⟩ : ∃ y9 : ht_G, y9 = ht_up g5 4 k y := ⟨_, rfl⟩
        rw [← eg6] at hP
        refine lv_aload_n hx hb dM_enter_140 rfl (lv_at hl 1 rfl) ?_
        refine va_get (D := D) (ci := 2) (C := RM) (T := TM) (N := 19) (v := .ref (q 6)) hx hb hts inM hown hK hP 0 rf_at0 rfl 6 (by decide) (hts _ w450) (fun _ h9 => h9) rfl dM_enter_141 ?_
        refine lv_iload_n hx hb dM_enter_144 rfl (lv_at hl 0 rfl) ?_
        refine lv_iload_n hx hb dM_enter_145 rfl (lv_at hl 2 rfl) ?_
        refine rf_stI hx hb hK hP (mw_DA hJ) hS 6 (j := k) (by decide) (by decide) rfl hk8 hn1 dM_enter_146 (fun H locs hP hS => ?_)
        obtain ⟨g7, eg7⟩ : ∃ y9 : ht_G, y9 = ht_up g6 6 k x := ⟨_, rfl⟩
        rw [← eg7] at hP
        refine lv_aload_n hx hb dM_enter_147 rfl (lv_at hl 1 rfl) ?_
        refine va_get (D := D) (ci := 2) (C := RM) (T := TM) (N := 19) (v := .ref (q 8)) hx hb hts inM hown hK hP 0 rf_at0 rfl 8 (by decide) (hts _ w452) (fun _ h9 => h9) rfl dM_enter_148 ?_
        refine lv_iload_n hx hb dM_enter_151 rfl (lv_at hl 0 rfl) ?_
        refine lv_iconst (v := 1) hx hb dM_enter_152 (by decide) ?_
        refine rf_stZ hx hb hK hP (mw_DA hJ) hS 8 (j := k) (by decide) (by decide) rfl (Or.inr rfl) hk8 hn1 dM_enter_153 (fun H locs hP hS => ?_)
        obtain ⟨g8, eg8⟩ : ∃ y9 : ht_G, y9 = ht_up g7 8 k 1 := ⟨_, rfl⟩
        rw [← eg8] at hP
        refine lv_aload_n hx hb dM_enter_154 rfl (lv_at hl 1 rfl) ?_
        refine va_get (D := D) (ci := 2) (C := RM) (T := TM) (N := 19) (v := .ref (q 13)) hx hb hts inM hown hK hP 0 rf_at0 rfl 13 (by decide) (hts _ w457) (fun _ h9 => h9) rfl dM_enter_155 ?_
        refine lv_iload_n hx hb dM_enter_158 rfl (lv_at hl 0 rfl) ?_
        refine lv_iconst (v := (-1)) hx hb dM_enter_159 (by decide) ?_
        refine rf_stI hx hb hK hP (mw_DA hJ) hS 13 (j := k) (by decide) (by decide) rfl hk8 hn1 dM_enter_160 (fun H locs hP hS => ?_)
        obtain ⟨g9, eg9⟩ : ∃ y9 : ht_G, y9 = ht_up g8 13 k (-1 : Int32) := ⟨_, rfl⟩
        rw [← eg9] at hP
        refine lv_aload_n hx hb dM_enter_161 rfl (lv_at hl 1 rfl) ?_
        refine lv_iload_n hx hb dM_enter_162 rfl (lv_at hl 0 rfl) ?_
        refine lv_topi (fun x9 ex9 => ?_)
        obtain rfl : x9 = nI k := ex9.trans hn1
        refine va_callv (va_runV (As := [.int (nI k)]) (rest := []) ⟨hx, hb, hml, hown, hts⟩ (xM_report l D cB q hJ _ g9 k hk8 (by simp [ht_up, eg2, eg3, eg4, eg5, eg6, eg7, eg8, eg9])) (cwV 1 hts (ht_gV w534 w536 s37 w3 w537) rfl rfl rfl (by decide +kernel) ⟨Nat.le_of_ble_eq_true rfl, Nat.le_of_ble_eq_true rfl⟩) ⟨rf_bls, va_recv hK hP (ci := 2) (q0 := 0) rfl rf_at0, fun U hU hW => ⟨rfl, by rw [hU], rf_Im hP hK hN hU hW⟩⟩ rfl rfl hl.1 rfl (lv_room (Nat.le_of_ble_eq_true rfl)) dM_enter_163 ⟨Nat.zero_le _, Nat.zero_le _⟩) hS mw_AA (mw_AF hS.1) (fun u10 t10 H locs ht10 hvm10 hw10 hB10 hz10 hk10 hS => ?_)
        have hP := hB10.1
        rw [ht10] at hP
        obtain ⟨g11, eg11⟩ : ∃ y9 : ht_G, y9 = rf_rep k g9 := ⟨_, rfl⟩
        rw [← eg11] at hP
        refine lv_aload_n hx hb dM_enter_166 rfl (lv_at hl 1 rfl) ?_
        refine va_callv (va_runV (As := []) (rest := []) ⟨hx, hb, hml, hown, hts⟩ (xM_findStates l D cB q hJ _ g11 (k + 1) (by omega) (by rw [eg11, rf_rep_o (by decide)]; simp [ht_up, eg2, eg3, eg4, eg5, eg6, eg7, eg8, eg9, hn1]; exact nI_1 k) (ht_al_of hA1 (fun z9 _ => by rw [eg11, rf_rep_o (by decide)]; simp [ht_up, eg2, eg3, eg4, eg5, eg6, eg7, eg8, eg9]))) (cwV 0 hts (ht_gV w538 w540 s38 w3 w541) rfl rfl rfl (by decide +kernel) ⟨Nat.le_of_ble_eq_true rfl, Nat.le_of_ble_eq_true rfl⟩) ⟨rf_bls, va_recv hK hP (ci := 2) (q0 := 0) rfl rf_at0, fun U hU hW => ⟨rfl, by rw [hU], rf_Im hP hK hN hU hW⟩⟩ rfl rfl hl.1 rfl (lv_room (Nat.le_of_ble_eq_true rfl)) dM_enter_167 ⟨Nat.zero_le _, Nat.zero_le _⟩) hS mw_AA (mw_AF hS.1) (fun u12 t12 H locs ht12 hvm12 hw12 hB12 hz12 hk12 hS => ?_)
        have hP := hB12.1
        rw [ht12] at hP
        obtain ⟨g13, eg13⟩ : ∃ y9 : ht_G, y9 = rf_find (k + 1) g11 := ⟨_, rfl⟩
        rw [← eg13] at hP
        refine lv_iload_n hx hb dM_enter_170 rfl (lv_at hl 0 rfl) ?_
        have hG : g13 = (rf_oEnter (ht_up g 0 0 0) k x y).2 := by rw [← heg, rf_oEnter, if_neg (by simp [hi1, hi2, hge]), if_neg h8, hac, hyc, if_neg (by rw [hE]; decide)]; simp only [rf_ent, eg2, eg3, eg4, eg5, eg6, eg7, eg8, eg9, eg11, eg13]
        rw [hG] at hP
        exact W.iret (v := g1 0 1) hx hb hr (fun t ht hW => ⟨⟨g1 0 1, (), rfl, by rw [← heg, rf_oEnter, if_neg (by simp [hi1, hi2, hge]), if_neg h8, hac, hyc, if_neg (by rw [hE]; decide)], rf_Im hP hK hN ht hW⟩, hS.F ht⟩) hS.2.2 dM_enter_171
      · rw [hxX] at c1
        have hlt : u < Y := by have h9 := mt (nI_ltI (a := X) (b := A + u) (by omega) (by omega)).mpr c1; omega
        refine lv_aload_n hx hb dM_enter_64 rfl (lv_at hl 0 rfl) ?_
        refine lv_iload_n hx hb dM_enter_65 rfl (lv_at hl 3 rfl) ?_
        refine lv_iconst (v := (-1)) hx hb dM_enter_66 (by decide) ?_
        refine vp_callSi (va_Run.run (va_runV (As := [.int (nI (A + u)), .int (-1 : Int32)]) (rest := []) ⟨hx, hb, hml, hown, hts⟩ (xM_standsOn l D cB q g1 k hk (hn1) (nI (A + u)) (-1 : Int32)) (cwV 2 hts (ht_gV w518 w520 s33 w3 w521) rfl rfl rfl (by decide +kernel) ⟨Nat.le_of_ble_eq_true rfl, Nat.le_of_ble_eq_true rfl⟩) ⟨rf_bl, va_recv hK hP (ci := 2) (q0 := 0) rfl rf_at0, fun U hU hW => ⟨rfl, rf_Im hP hK hN hU hW⟩⟩ rfl rfl hl.1 rfl (lv_room (Nat.le_of_ble_eq_true rfl)) dM_enter_67 ⟨Nat.zero_le _, Nat.zero_le _⟩)) (fun r14 hr14 => ?_)
        subst hr14
        refine lv_if_ge (tgt := 85) hx hb dM_enter_70 (by decide) (fun c15 => ?_) (fun c15 => ?_)
        · refine lv_aload_n hx hb dM_enter_85 rfl (lv_at hl 0 rfl) ?_
          refine lv_iconst (v := 2) hx hb dM_enter_86 (by decide) ?_
          refine va_calli (va_runV (As := [.int 2]) (rest := []) ⟨hx, hb, hml, hown, hts⟩ (xM_raise l D cB q hJ _ g1 2) (cwV 1 hts (ht_gV w514 w516 s32 w3 w517) rfl rfl rfl (by decide +kernel) ⟨Nat.le_of_ble_eq_true rfl, Nat.le_of_ble_eq_true rfl⟩) ⟨rf_bls, va_recv hK hP (ci := 2) (q0 := 0) rfl rf_at0, fun U hU hW => ⟨rfl, by rw [hU], rf_Im hP hK hN hU hW⟩⟩ rfl rfl hl.1 rfl (lv_room (Nat.le_of_ble_eq_true rfl)) dM_enter_87 ⟨Nat.zero_le _, Nat.zero_le _⟩) hS mw_AA (mw_AF hS.1) (fun r16 u16 t16 H locs ht16 hvm16 hw16 hB16 hz16 hk16 hS => ?_)
          have hP := hB16.1
          rw [ht16] at hP
          subst hw16
          obtain ⟨g17, eg17⟩ : ∃ y9 : ht_G, y9 = ht_up g1 0 0 2 := ⟨_, rfl⟩
          rw [← eg17] at hP
          have hG : g17 = (rf_oEnter (ht_up g 0 0 0) k x y).2 := by rw [eg17, ← heg, rf_oEnter, if_neg (by simp [hi1, hi2, hge]), if_neg h8, hac, hyc, if_pos (ht_ex_t (i := u) hlt (by simp [c15]))]
          rw [hG] at hP
          exact W.iret (v := 0) hx hb hr (fun t ht hW => ⟨⟨0, (), rfl, by rw [← heg, rf_oEnter, if_neg (by simp [hi1, hi2, hge]), if_neg h8, hac, hyc, if_pos (ht_ex_t (i := u) hlt (by simp [c15]))], rf_Im hP hK hN ht hW⟩, hS.F ht⟩) hS.2.2 dM_enter_90
        · refine lv_aload_n hx hb dM_enter_73 rfl (lv_at hl 0 rfl) ?_
          refine lv_iload_n hx hb dM_enter_74 rfl (lv_at hl 3 rfl) ?_
          refine lv_bipush (v := 10) hx hb dM_enter_75 (by decide) ?_
          refine lv_idiv hx hb dM_enter_77 (by decide) ?_
          refine lv_iconst (v := (-1)) hx hb dM_enter_78 (by decide) ?_
          refine vp_callSi (va_Run.run (va_runV (As := [.int ((nI (A + u)) / 10), .int (-1 : Int32)]) (rest := []) ⟨hx, hb, hml, hown, hts⟩ (xM_claimed l D cB q g1 k hk (hn1) ((nI (A + u)) / 10) (-1 : Int32)) (cwV 2 hts (ht_gV w526 w528 s35 w3 w529) rfl rfl rfl (by decide +kernel) ⟨Nat.le_of_ble_eq_true rfl, Nat.le_of_ble_eq_true rfl⟩) ⟨rf_bl, va_recv hK hP (ci := 2) (q0 := 0) rfl rf_at0, fun U hU hW => ⟨rfl, rf_Im hP hK hN hU hW⟩⟩ rfl rfl hl.1 rfl (lv_room (Nat.le_of_ble_eq_true rfl)) dM_enter_79 ⟨Nat.zero_le _, Nat.zero_le _⟩)) (fun r18 hr18 => ?_)
          subst hr18
          refine lv_if_eq (tgt := 91) hx hb dM_enter_82 (by decide) (fun c19 => ?_) (fun c19 => ?_)
          · replace c19 := ht_b0.mp c19
            refine lv_iinc (v := nI (A + u + 1)) (lv' := [(3, .int (nI (A + u + 1))), (0, .ref (q 0)), (1, .int x), (2, .int y)]) hx hb dM_enter_91 hl (k := 3) rfl (nI_1 _) (by decide) rfl (fun ls hl => ?_)
            refine lv_goto (tgt := 59) hx hb dM_enter_94 (by decide) ?_
            exact ih g1 X Y A (u + 1) (by omega) heg hn1 hA1 hi1 hi2 hge h8 hxX hX hAY hac hyc (by omega) (ht_ex_s hE (by simp [c15, c19])) _ _ hP hS ls (lv_sub hl [1, 2, 3, 0] rfl)
          · replace c19 := ht_b1.mp c19
            refine lv_aload_n hx hb dM_enter_85 rfl (lv_at hl 0 rfl) ?_
            refine lv_iconst (v := 2) hx hb dM_enter_86 (by decide) ?_
            refine va_calli (va_runV (As := [.int 2]) (rest := []) ⟨hx, hb, hml, hown, hts⟩ (xM_raise l D cB q hJ _ g1 2) (cwV 1 hts (ht_gV w514 w516 s32 w3 w517) rfl rfl rfl (by decide +kernel) ⟨Nat.le_of_ble_eq_true rfl, Nat.le_of_ble_eq_true rfl⟩) ⟨rf_bls, va_recv hK hP (ci := 2) (q0 := 0) rfl rf_at0, fun U hU hW => ⟨rfl, by rw [hU], rf_Im hP hK hN hU hW⟩⟩ rfl rfl hl.1 rfl (lv_room (Nat.le_of_ble_eq_true rfl)) dM_enter_87 ⟨Nat.zero_le _, Nat.zero_le _⟩) hS mw_AA (mw_AF hS.1) (fun r20 u20 t20 H locs ht20 hvm20 hw20 hB20 hz20 hk20 hS => ?_)
            have hP := hB20.1
            rw [ht20] at hP
            subst hw20
            obtain ⟨g21, eg21⟩ : ∃ y9 : ht_G, y9 = ht_up g1 0 0 2 := ⟨_, rfl⟩
            rw [← eg21] at hP
            have hG : g21 = (rf_oEnter (ht_up g 0 0 0) k x y).2 := by rw [eg21, ← heg, rf_oEnter, if_neg (by simp [hi1, hi2, hge]), if_neg h8, hac, hyc, if_pos (ht_ex_t (i := u) hlt (by simp [c15, c19]))]
            rw [hG] at hP
            exact W.iret (v := 0) hx hb hr (fun t ht hW => ⟨⟨0, (), rfl, by rw [← heg, rf_oEnter, if_neg (by simp [hi1, hi2, hge]), if_neg h8, hac, hyc, if_pos (ht_ex_t (i := u) hlt (by simp [c15, c19]))], rf_Im hP hK hN ht hW⟩, hS.F ht⟩) hS.2.2 dM_enter_90
  refine lv_aload_n hx hb dM_enter_0 rfl (lv_at hl 0 rfl) ?_
  refine lv_iconst (v := 0) hx hb dM_enter_1 (by decide) ?_
  refine va_put (D := D) (ci := 2) (C := RM) (T := TM) (N := 19) (v := .int 0) (ty := .int) hx hb hts inM tyM tyM_ok nmM hown hK hP (mw_DA hJ) hS 0 rf_at0 rfl 0 (by decide) (hts _ w444) (fun _ h9 => h9) rfl rfl rfl rfl (Nat.le_of_ble_eq_true rfl) dM_enter_2 (fun H locs hP _ hS => ?_)
  rw [rf_st0] at hP
  obtain ⟨g22, eg22⟩ : ∃ y9 : ht_G, y9 = ht_up g 0 0 0 := ⟨_, rfl⟩
  rw [← eg22] at hP
  have hn1 : g22 0 1 = nI k := by rw [eg22, ht_up_k (by decide)]; exact hn
  have hA1 : ht_al g22 16 := ht_al_of hA (fun y _ => by rw [eg22, ht_up_r (by decide)])
  refine lv_iload_n hx hb dM_enter_5 rfl (lv_at hl 2 rfl) ?_
  refine lv_iconst (v := 1) hx hb dM_enter_6 (by decide) ?_
  refine lv_bipush (v := 40) hx hb dM_enter_7 (by decide) ?_
  refine vp_callSi (va_Run.run (va_runS (As := [.int y, .int 1, .int 40]) (rest := []) ⟨hx, hb, hml, hown, hts⟩ (xM_in l D cB q g22 y 1 40) (cwS 3 hts (ht_gS w511 w512 w3 w513) rfl rfl rfl (by decide +kernel) ⟨Nat.le_of_ble_eq_true rfl, Nat.le_of_ble_eq_true rfl⟩) ⟨rf_bl, fun U hU hW => ⟨rfl, rf_Im hP hK hN hU hW⟩⟩ rfl rfl hl.1 rfl (lv_room (Nat.le_of_ble_eq_true rfl)) dM_enter_9 ⟨Nat.zero_le _, Nat.zero_le _⟩)) (fun r23 hr23 => ?_)
  subst hr23
  refine lv_if_eq (tgt := 32) hx hb dM_enter_12 (by decide) (fun c24 => ?_) (fun c24 => ?_)
  · replace c24 := ht_b0.mp c24
    refine lv_aload_n hx hb dM_enter_32 rfl (lv_at hl 0 rfl) ?_
    refine lv_iconst (v := 1) hx hb dM_enter_33 (by decide) ?_
    refine va_calli (va_runV (As := [.int 1]) (rest := []) ⟨hx, hb, hml, hown, hts⟩ (xM_raise l D cB q hJ _ g22 1) (cwV 1 hts (ht_gV w514 w516 s32 w3 w517) rfl rfl rfl (by decide +kernel) ⟨Nat.le_of_ble_eq_true rfl, Nat.le_of_ble_eq_true rfl⟩) ⟨rf_bls, va_recv hK hP (ci := 2) (q0 := 0) rfl rf_at0, fun U hU hW => ⟨rfl, by rw [hU], rf_Im hP hK hN hU hW⟩⟩ rfl rfl hl.1 rfl (lv_room (Nat.le_of_ble_eq_true rfl)) dM_enter_34 ⟨Nat.zero_le _, Nat.zero_le _⟩) hS mw_AA (mw_AF hS.1) (fun r25 u25 t25 H locs ht25 hvm25 hw25 hB25 hz25 hk25 hS => ?_)
    have hP := hB25.1
    rw [ht25] at hP
    subst hw25
    obtain ⟨g26, eg26⟩ : ∃ y9 : ht_G, y9 = ht_up g22 0 0 1 := ⟨_, rfl⟩
    rw [← eg26] at hP
    have hG : g26 = (rf_oEnter (ht_up g 0 0 0) k x y).2 := by rw [← eg22]; subst eg26; simp [rf_oEnter, c24]
    rw [hG] at hP
    exact W.iret (v := 0) hx hb hr (fun t ht hW => ⟨⟨0, (), rfl, by rw [← eg22]; subst eg26; simp [rf_oEnter, c24, ht_up], rf_Im hP hK hN ht hW⟩, hS.F ht⟩) hS.2.2 dM_enter_37
  · replace c24 := ht_b1.mp c24
    refine lv_iload_n hx hb dM_enter_15 rfl (lv_at hl 1 rfl) ?_
    refine lv_iconst (v := 0) hx hb dM_enter_16 (by decide) ?_
    refine lv_bipush (v := 119) hx hb dM_enter_17 (by decide) ?_
    refine vp_callSi (va_Run.run (va_runS (As := [.int x, .int 0, .int 119]) (rest := []) ⟨hx, hb, hml, hown, hts⟩ (xM_in l D cB q g22 x 0 119) (cwS 3 hts (ht_gS w511 w512 w3 w513) rfl rfl rfl (by decide +kernel) ⟨Nat.le_of_ble_eq_true rfl, Nat.le_of_ble_eq_true rfl⟩) ⟨rf_bl, fun U hU hW => ⟨rfl, rf_Im hP hK hN hU hW⟩⟩ rfl rfl hl.1 rfl (lv_room (Nat.le_of_ble_eq_true rfl)) dM_enter_19 ⟨Nat.zero_le _, Nat.zero_le _⟩)) (fun r27 hr27 => ?_)
    subst hr27
    refine lv_if_eq (tgt := 32) hx hb dM_enter_22 (by decide) (fun c28 => ?_) (fun c28 => ?_)
    · replace c28 := ht_b0.mp c28
      refine lv_aload_n hx hb dM_enter_32 rfl (lv_at hl 0 rfl) ?_
      refine lv_iconst (v := 1) hx hb dM_enter_33 (by decide) ?_
      refine va_calli (va_runV (As := [.int 1]) (rest := []) ⟨hx, hb, hml, hown, hts⟩ (xM_raise l D cB q hJ _ g22 1) (cwV 1 hts (ht_gV w514 w516 s32 w3 w517) rfl rfl rfl (by decide +kernel) ⟨Nat.le_of_ble_eq_true rfl, Nat.le_of_ble_eq_true rfl⟩) ⟨rf_bls, va_recv hK hP (ci := 2) (q0 := 0) rfl rf_at0, fun U hU hW => ⟨rfl, by rw [hU], rf_Im hP hK hN hU hW⟩⟩ rfl rfl hl.1 rfl (lv_room (Nat.le_of_ble_eq_true rfl)) dM_enter_34 ⟨Nat.zero_le _, Nat.zero_le _⟩) hS mw_AA (mw_AF hS.1) (fun r29 u29 t29 H locs ht29 hvm29 hw29 hB29 hz29 hk29 hS => ?_)
      have hP := hB29.1
      rw [ht29] at hP
      subst hw29
      obtain ⟨g30, eg30⟩ : ∃ y9 : ht_G, y9 = ht_up g22 0 0 1 := ⟨_, rfl⟩
      rw [← eg30] at hP
      have hG : g30 = (rf_oEnter (ht_up g 0 0 0) k x y).2 := by rw [← eg22]; subst eg30; simp [rf_oEnter, c24, c28]
      rw [hG] at hP
      exact W.iret (v := 0) hx hb hr (fun t ht hW => ⟨⟨0, (), rfl, by rw [← eg22]; subst eg30; simp [rf_oEnter, c24, c28, ht_up], rf_Im hP hK hN ht hW⟩, hS.F ht⟩) hS.2.2 dM_enter_37
    · replace c28 := ht_b1.mp c28
      refine lv_iload_n hx hb dM_enter_25 rfl (lv_at hl 1 rfl) ?_
      refine lv_iload_n hx hb dM_enter_26 rfl (lv_at hl 2 rfl) ?_
      refine lv_isub hx hb dM_enter_27 ?_
      refine lv_iconst (v := (-1)) hx hb dM_enter_28 (by decide) ?_
      refine lv_icmp_ge (tgt := 38) hx hb dM_enter_29 (by decide) (fun c31 => ?_) (fun c31 => ?_)
      · refine lv_aload_n hx hb dM_enter_38 rfl (lv_at hl 0 rfl) ?_
        refine va_get (D := D) (ci := 2) (C := RM) (T := TM) (N := 19) (v := .int (g22 0 1)) hx hb hts inM hown hK hP 0 rf_at0 rfl 14 (by decide) (hts _ w458) (fun _ h9 => h9) rfl dM_enter_39 ?_
        refine lv_bipush (v := 8) hx hb dM_enter_42 (by decide) ?_
        refine lv_icmp_ne (tgt := 53) hx hb dM_enter_44 (by decide) (fun c32 => ?_) (fun c32 => ?_)
        · refine lv_iload_n hx hb dM_enter_53 rfl (lv_at hl 1 rfl) ?_
          refine lv_iload_n hx hb dM_enter_54 rfl (lv_at hl 2 rfl) ?_
          refine lv_isub hx hb dM_enter_55 ?_
          refine lv_iconst (v := 1) hx hb dM_enter_56 (by decide) ?_
          refine lv_iadd hx hb dM_enter_57 ?_
          refine lv_istore_n (lv' := [(3, .int ((x - y) + 1)), (0, .ref (q 0)), (1, .int x), (2, .int y)]) hx hb dM_enter_58 rfl hl (by decide) rfl (fun ls hl => ?_)
          obtain ⟨X, Y, A, hxX, hX, hAY, hAe, hac, hyc⟩ := rf_span c24 c28 c31
          rw [hAe] at hl
          exact K59 (Y + 1) g22 X Y A 0 (by omega) eg22 hn1 hA1 c24 c28 c31 c32 hxX hX hAY hac hyc (by omega) rfl _ _ hP hS ls (lv_sub hl [1, 2, 3, 0] rfl)
        · refine lv_aload_n hx hb dM_enter_47 rfl (lv_at hl 0 rfl) ?_
          refine lv_iconst (v := 2) hx hb dM_enter_48 (by decide) ?_
          refine va_calli (va_runV (As := [.int 2]) (rest := []) ⟨hx, hb, hml, hown, hts⟩ (xM_raise l D cB q hJ _ g22 2) (cwV 1 hts (ht_gV w514 w516 s32 w3 w517) rfl rfl rfl (by decide +kernel) ⟨Nat.le_of_ble_eq_true rfl, Nat.le_of_ble_eq_true rfl⟩) ⟨rf_bls, va_recv hK hP (ci := 2) (q0 := 0) rfl rf_at0, fun U hU hW => ⟨rfl, by rw [hU], rf_Im hP hK hN hU hW⟩⟩ rfl rfl hl.1 rfl (lv_room (Nat.le_of_ble_eq_true rfl)) dM_enter_49 ⟨Nat.zero_le _, Nat.zero_le _⟩) hS mw_AA (mw_AF hS.1) (fun r33 u33 t33 H locs ht33 hvm33 hw33 hB33 hz33 hk33 hS => ?_)
          have hP := hB33.1
          rw [ht33] at hP
          subst hw33
          obtain ⟨g34, eg34⟩ : ∃ y9 : ht_G, y9 = ht_up g22 0 0 2 := ⟨_, rfl⟩
          rw [← eg34] at hP
          have hG : g34 = (rf_oEnter (ht_up g 0 0 0) k x y).2 := by rw [← eg22]; subst eg34; simp [rf_oEnter, c24, c28, c31, c32]
          rw [hG] at hP
          exact W.iret (v := 0) hx hb hr (fun t ht hW => ⟨⟨0, (), rfl, by rw [← eg22]; subst eg34; simp [rf_oEnter, c24, c28, c31, c32, ht_up], rf_Im hP hK hN ht hW⟩, hS.F ht⟩) hS.2.2 dM_enter_52
      · refine lv_aload_n hx hb dM_enter_32 rfl (lv_at hl 0 rfl) ?_
        refine lv_iconst (v := 1) hx hb dM_enter_33 (by decide) ?_
        refine va_calli (va_runV (As := [.int 1]) (rest := []) ⟨hx, hb, hml, hown, hts⟩ (xM_raise l D cB q hJ _ g22 1) (cwV 1 hts (ht_gV w514 w516 s32 w3 w517) rfl rfl rfl (by decide +kernel) ⟨Nat.le_of_ble_eq_true rfl, Nat.le_of_ble_eq_true rfl⟩) ⟨rf_bls, va_recv hK hP (ci := 2) (q0 := 0) rfl rf_at0, fun U hU hW => ⟨rfl, by rw [hU], rf_Im hP hK hN hU hW⟩⟩ rfl rfl hl.1 rfl (lv_room (Nat.le_of_ble_eq_true rfl)) dM_enter_34 ⟨Nat.zero_le _, Nat.zero_le _⟩) hS mw_AA (mw_AF hS.1) (fun r35 u35 t35 H locs ht35 hvm35 hw35 hB35 hz35 hk35 hS => ?_)
        have hP := hB35.1
        rw [ht35] at hP
        subst hw35
        obtain ⟨g36, eg36⟩ : ∃ y9 : ht_G, y9 = ht_up g22 0 0 1 := ⟨_, rfl⟩
        rw [← eg36] at hP
        have hG : g36 = (rf_oEnter (ht_up g 0 0 0) k x y).2 := by rw [← eg22]; subst eg36; simp [rf_oEnter, c24, c28, c31]
        rw [hG] at hP
        exact W.iret (v := 0) hx hb hr (fun t ht hW => ⟨⟨0, (), rfl, by rw [← eg22]; subst eg36; simp [rf_oEnter, c24, c28, c31, ht_up], rf_Im hP hK hN ht hW⟩, hS.F ht⟩) hS.2.2 dM_enter_37
