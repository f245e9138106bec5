set_option maxHeartbeats 800000 in
set_option maxRecDepth 100000 in
theorem xM_lose (l : Launch) (D : va_G) (cB : ClassId × ClassId) (q : Nat → Nat) (hJ : mw_J 17 q) (sz : Nat) (g : ht_G) (k : Nat) (hk : k ≤ 8) (hn : g 0 1 = nI k) (x y : Int32) : Met l yM_lose kM_lose ({ frames := 2, cells := 0, slots := 0, locals := 43 }) (va_Pc [.ref (q 0), .int x, .int y] (fun U => U.heap.size = sz ∧ rf_I D cB q g U)) (va_Qi (fun r (_ : Unit) => r = (rf_oLose (ht_up g 0 0 0) k x y).1) (fun _ t => rf_I D cB q ((rf_oLose (ht_up g 0 0 0) k x y).2) t) (mw_A 17 q sz)) 0 0 (mw_A 17 q sz) := by
  refine Met.ofW (cc := cM_lose) (maxL := 4) (ret := (some .int)) (by decide) rfl ?_
  intro p e s m args below meth c s₁ B hml hv
  obtain ⟨rfl, hsz, hP, hK, hN⟩ := hv
  have hx := B.exec
  have hb := B.bytes
  have hr := B.returns
  have hts := fun w h => atoms_spec (ws := kM_lose) B.pre w (List.mem_cons_of_mem _ h)
  have hown : s.vm.findClass RM = some m.cls := findClass_of_methodNamed B.named
  have hlocks := B.notSynchronized
  subst hsz
  have hS : va_S (mw_A 17 q s.heap.size) s.heap s.heap [] := va_S.rf
  have hl := lv_entry ([.ref (q 0), .int x, .int y]) (n := 4) (Nat.le_of_ble_eq_true rfl)
  rw [lg_entry_eq]
  generalize (lg_sl ([.ref (q 0), .int x, .int y]) ++ List.replicate (4 - (lg_sl ([.ref (q 0), .int x, .int y])).length) Slot.unset).toArray = ls at hl ⊢
  have hl : lv_has ls 4 [(0, .ref (q 0)), (1, .int x), (2, .int y)] := hl
  refine lv_aload_n hx hb dM_lose_0 rfl (lv_at hl 0 rfl) ?_
  refine lv_iconst (v := 0) hx hb dM_lose_1 (by decide) ?_
  refine va_put (D := D) (ci := 2) (C := RM) (T := TM) (N := 19) (v := .int 0) (ty := .int) hx hb hts inM tyM tyM_ok nmM hown hK hP (mw_DA hJ) hS 0 rf_at0 rfl 0 (by decide) (hts _ w444) (fun _ h9 => h9) rfl rfl rfl rfl (Nat.le_of_ble_eq_true rfl) dM_lose_2 (fun H locs hP _ hS => ?_)
  rw [rf_st0] at hP
  obtain ⟨g1, eg1⟩ : ∃ y9 : ht_G, y9 = ht_up g 0 0 0 := ⟨_, rfl⟩
  rw [← eg1] at hP
  have hn1 : g1 0 1 = nI k := by rw [eg1, ht_up_k (by decide)]; exact hn
  refine lv_aload_n hx hb dM_lose_5 rfl (lv_at hl 0 rfl) ?_
  refine lv_iload_n hx hb dM_lose_6 rfl (lv_at hl 1 rfl) ?_
  refine vp_callSi (va_Run.run (va_runV (As := [.int x]) (rest := []) ⟨hx, hb, hml, hown, hts⟩ (xM_isTrain l D cB q g1 k hk (hn1) x) (cwV 1 hts (ht_gV w574 w576 s46 w3 w577) rfl rfl rfl (by decide +kernel) ⟨Nat.le_of_ble_eq_true rfl, Nat.le_of_ble_eq_true rfl⟩) ⟨rf_bl, va_recv hK hP (ci := 2) (q0 := 0) rfl rf_at0, fun U hU hW => ⟨rfl, rf_Im hP hK hN hU hW⟩⟩ rfl rfl hl.1 rfl (lv_room (Nat.le_of_ble_eq_true rfl)) dM_lose_7 ⟨Nat.zero_le _, Nat.zero_le _⟩)) (fun r2 hr2 => ?_)
  subst hr2
  refine lv_if_ne (tgt := 19) hx hb dM_lose_10 (by decide) (fun c3 => ?_) (fun c3 => ?_)
  · replace c3 := ht_b1.mp c3
    obtain ⟨j, hjl, hxj, hxc⟩ := rf_isT_ix hk c3
    have hj8 : j < 8 := Nat.lt_of_lt_of_le hjl hk
    refine lv_iload_n hx hb dM_lose_19 rfl (lv_at hl 2 rfl) ?_
    refine lv_iconst (v := 1) hx hb dM_lose_20 (by decide) ?_
    refine lv_aload_n hx hb dM_lose_21 rfl (lv_at hl 0 rfl) ?_
    refine va_get (D := D) (ci := 2) (C := RM) (T := TM) (N := 19) (v := .ref (q 4)) hx hb hts inM hown hK hP 0 rf_at0 rfl 4 (by decide) (hts _ w448) (fun _ h9 => h9) rfl dM_lose_22 ?_
    refine lv_iload_n hx hb dM_lose_25 rfl (lv_at hl 1 rfl) ?_
    refine rf_ldI hx hb hK hP 4 (j := j) (by decide) (by decide) rfl hj8 hxj dM_lose_26 ?_
    refine lv_iconst (v := 1) hx hb dM_lose_27 (by decide) ?_
    refine lv_isub hx hb dM_lose_28 ?_
    refine vp_callSi (va_Run.run (va_runS (As := [.int y, .int 1, .int ((g1 4 j) - 1)]) (rest := []) ⟨hx, hb, hml, hown, hts⟩ (xM_in l D cB q g1 y 1 ((g1 4 j) - 1)) (cwS 3 hts (ht_gS w511 w512 w3 w513) rfl rfl rfl (by decide +kernel) ⟨Nat.le_of_ble_eq_true rfl, Nat.le_of_ble_eq_true rfl⟩) ⟨rf_bl, fun U hU hW => ⟨rfl, rf_Im hP hK hN hU hW⟩⟩ rfl rfl hl.1 rfl (lv_room (Nat.le_of_ble_eq_true rfl)) dM_lose_29 ⟨Nat.zero_le _, Nat.zero_le _⟩)) (fun r4 hr4 => ?_)
    subst hr4
    refine lv_if_ne (tgt := 41) hx hb dM_lose_32 (by decide) (fun c5 => ?_) (fun c5 => ?_)
    · replace c5 := ht_b1.mp c5
      refine lv_aload_n hx hb dM_lose_41 rfl (lv_at hl 0 rfl) ?_
      refine va_get (D := D) (ci := 2) (C := RM) (T := TM) (N := 19) (v := .int (g1 0 1)) hx hb hts inM hown hK hP 0 rf_at0 rfl 14 (by decide) (hts _ w458) (fun _ h9 => h9) rfl dM_lose_42 ?_
      refine lv_bipush (v := 8) hx hb dM_lose_45 (by decide) ?_
      refine lv_icmp_ne (tgt := 56) hx hb dM_lose_47 (by decide) (fun c6 => ?_) (fun c6 => ?_)
      · have hk8 : k < 8 := rf_lt8 hk hn1 c6
        refine lv_aload_n hx hb dM_lose_56 rfl (lv_at hl 0 rfl) ?_
        refine va_get (D := D) (ci := 2) (C := RM) (T := TM) (N := 19) (v := .int (g1 0 1)) hx hb hts inM hown hK hP 0 rf_at0 rfl 14 (by decide) (hts _ w458) (fun _ h9 => h9) rfl dM_lose_57 ?_
        refine lv_istore_n (lv' := [(3, .int (g1 0 1)), (0, .ref (q 0)), (1, .int x), (2, .int y)]) hx hb dM_lose_60 rfl hl (by decide) rfl (fun ls hl => ?_)
        refine lv_aload_n hx hb dM_lose_61 rfl (lv_at hl 1 rfl) ?_
        refine lv_dup hx hb dM_lose_62 rfl ?_
        refine va_get (D := D) (ci := 2) (C := RM) (T := TM) (N := 19) (v := .int (g1 0 1)) hx hb hts inM hown hK hP 0 rf_at0 rfl 14 (by decide) (hts _ w458) (fun _ h9 => h9) rfl dM_lose_63 ?_
        refine lv_iconst (v := 1) hx hb dM_lose_66 (by decide) ?_
        refine lv_iadd hx hb dM_lose_67 ?_
        refine va_put (D := D) (ci := 2) (C := RM) (T := TM) (N := 19) (v := .int ((g1 0 1) + 1)) (ty := .int) hx hb hts inM tyM tyM_ok nmM hown hK hP (mw_DA hJ) hS 0 rf_at0 rfl 14 (by decide) (hts _ w458) (fun _ h9 => h9) rfl rfl rfl rfl (Nat.le_of_ble_eq_true rfl) dM_lose_68 (fun H locs hP _ hS => ?_)
        rw [rf_st1] at hP
        obtain ⟨g7, eg7⟩ : ∃ y9 : ht_G, y9 = ht_up g1 0 1 ((g1 0 1) + 1) := ⟨_, rfl⟩
        rw [← eg7] at hP
        refine lv_aload_n hx hb dM_lose_71 rfl (lv_at hl 1 rfl) ?_
        refine va_get (D := D) (ci := 2) (C := RM) (T := TM) (N := 19) (v := .ref (q 2)) hx hb hts inM hown hK hP 0 rf_at0 rfl 2 (by decide) (hts _ w446) (fun _ h9 => h9) rfl dM_lose_72 ?_
        refine lv_iload_n hx hb dM_lose_75 rfl (lv_at hl 0 rfl) ?_
        refine lv_iconst (v := 1) hx hb dM_lose_76 (by decide) ?_
        refine rf_stZ hx hb hK hP (mw_DA hJ) hS 2 (j := k) (by decide) (by decide) rfl (Or.inr rfl) hk8 hn1 dM_lose_77 (fun H locs hP hS => ?_)
        obtain ⟨g8, eg8⟩ : ∃ y9 : ht_G, y9 = ht_up g7 2 k 1 := ⟨_, rfl⟩
        rw [← eg8] at hP
        refine lv_aload_n hx hb dM_lose_78 rfl (lv_at hl 1 rfl) ?_
        refine va_get (D := D) (ci := 2) (C := RM) (T := TM) (N := 19) (v := .ref (q 3)) hx hb hts inM hown hK hP 0 rf_at0 rfl 3 (by decide) (hts _ w447) (fun _ h9 => h9) rfl dM_lose_79 ?_
        refine lv_iload_n hx hb dM_lose_82 rfl (lv_at hl 0 rfl) ?_
        refine lv_aload_n hx hb dM_lose_83 rfl (lv_at hl 1 rfl) ?_
        refine lv_iload_n hx hb dM_lose_84 rfl (lv_at hl 2 rfl) ?_
        refine lv_topi (fun x9 ex9 => ?_)
        obtain rfl : x9 = nI j := ex9.trans hxj
        refine vp_callSi (va_Run.run (va_runV (As := [.int (nI j)]) (rest := [.int (g1 0 1), .ref (q 3)]) ⟨hx, hb, hml, hown, hts⟩ (xM_last l D cB q g8 j hj8) (cwV 1 hts (ht_gV w522 w524 s34 w3 w525) rfl rfl rfl (by decide +kernel) ⟨Nat.le_of_ble_eq_true rfl, Nat.le_of_ble_eq_true rfl⟩) ⟨rf_bl, va_recv hK hP (ci := 2) (q0 := 0) rfl rf_at0, fun U hU hW => ⟨rfl, rf_Im hP hK hN hU hW⟩⟩ rfl rfl hl.1 rfl (lv_room (Nat.le_of_ble_eq_true rfl)) dM_lose_85 ⟨Nat.zero_le _, Nat.zero_le _⟩)) (fun r9 hr9 => ?_)
        subst hr9
        refine lv_iload_n hx hb dM_lose_88 rfl (lv_at hl 3 rfl) ?_
        refine lv_iadd hx hb dM_lose_89 ?_
        refine lv_iconst (v := 1) hx hb dM_lose_90 (by decide) ?_
        refine lv_isub hx hb dM_lose_91 ?_
        refine rf_stI hx hb hK hP (mw_DA hJ) hS 3 (j := k) (by decide) (by decide) rfl hk8 hn1 dM_lose_92 (fun H locs hP hS => ?_)
        obtain ⟨g10, eg10⟩ : ∃ y9 : ht_G, y9 = ht_up g8 3 k (((rf_last g8 j) + y) - 1) := ⟨_, rfl⟩
        rw [← eg10] at hP
        refine lv_aload_n hx hb dM_lose_93 rfl (lv_at hl 1 rfl) ?_
        refine va_get (D := D) (ci := 2) (C := RM) (T := TM) (N := 19) (v := .ref (q 4)) hx hb hts inM hown hK hP 0 rf_at0 rfl 4 (by decide) (hts _ w448) (fun _ h9 => h9) rfl dM_lose_94 ?_
        refine lv_iload_n hx hb dM_lose_97 rfl (lv_at hl 0 rfl) ?_
        refine lv_iload_n hx hb dM_lose_98 rfl (lv_at hl 3 rfl) ?_
        refine rf_stI hx hb hK hP (mw_DA hJ) hS 4 (j := k) (by decide) (by decide) rfl hk8 hn1 dM_lose_99 (fun H locs hP hS => ?_)
        obtain ⟨g11, eg11⟩ : ∃ y9 : ht_G, y9 = ht_up g10 4 k y := ⟨_, rfl⟩
        rw [← eg11] at hP
        refine lv_aload_n hx hb dM_lose_100 rfl (lv_at hl 1 rfl) ?_
        refine va_get (D := D) (ci := 2) (C := RM) (T := TM) (N := 19) (v := .ref (q 4)) hx hb hts inM hown hK hP 0 rf_at0 rfl 4 (by decide) (hts _ w448) (fun _ h9 => h9) rfl dM_lose_101 ?_
        refine lv_iload_n hx hb dM_lose_104 rfl (lv_at hl 2 rfl) ?_
        refine lv_dup2_11 hx hb dM_lose_105 rfl rfl ?_
        refine rf_ldI hx hb hK hP 4 (j := j) (by decide) (by decide) rfl hj8 hxj dM_lose_106 ?_
        refine lv_iload_n hx hb dM_lose_107 rfl (lv_at hl 3 rfl) ?_
        refine lv_isub hx hb dM_lose_108 ?_
        refine rf_stI hx hb hK hP (mw_DA hJ) hS 4 (j := j) (by decide) (by decide) rfl hj8 hxj dM_lose_109 (fun H locs hP hS => ?_)
        obtain ⟨g12, eg12⟩ : ∃ y9 : ht_G, y9 = ht_up g11 4 j ((g11 4 j) - y) := ⟨_, rfl⟩
        rw [← eg12] at hP
        refine lv_aload_n hx hb dM_lose_110 rfl (lv_at hl 1 rfl) ?_
        refine va_get (D := D) (ci := 2) (C := RM) (T := TM) (N := 19) (v := .ref (q 8)) hx hb hts inM hown hK hP 0 rf_at0 rfl 8 (by decide) (hts _ w452) (fun _ h9 => h9) rfl dM_lose_111 ?_
        refine lv_iload_n hx hb dM_lose_114 rfl (lv_at hl 2 rfl) ?_
        refine lv_iconst (v := 0) hx hb dM_lose_115 (by decide) ?_
        refine rf_stZ hx hb hK hP (mw_DA hJ) hS 8 (j := j) (by decide) (by decide) rfl (Or.inl rfl) hj8 hxj dM_lose_116 (fun H locs hP hS => ?_)
        obtain ⟨g13, eg13⟩ : ∃ y9 : ht_G, y9 = ht_up g12 8 j 0 := ⟨_, rfl⟩
        rw [← eg13] at hP
        refine lv_iload_n hx hb dM_lose_117 rfl (lv_at hl 0 rfl) ?_
        have hG : g13 = (rf_oLose (ht_up g 0 0 0) k x y).2 := by rw [← eg1]; subst eg13 eg12 eg11 eg10 eg8 eg7; simp [rf_oLose, c3, hxc, c5, c6, rf_lose3]
        rw [hG] at hP
        exact W.iret (v := g1 0 1) hx hb hr (fun t ht hW => ⟨⟨g1 0 1, (), rfl, by rw [← eg1]; subst eg13 eg12 eg11 eg10 eg8 eg7; simp [rf_oLose, c3, hxc, c5, c6, rf_lose3, ht_up], rf_Im hP hK hN ht hW⟩, hS.F ht⟩) hS.2.2 dM_lose_118
      · refine lv_aload_n hx hb dM_lose_50 rfl (lv_at hl 0 rfl) ?_
        refine lv_iconst (v := 3) hx hb dM_lose_51 (by decide) ?_
        refine va_calli (va_runV (As := [.int 3]) (rest := []) ⟨hx, hb, hml, hown, hts⟩ (xM_raise l D cB q hJ _ g1 3) (cwV 1 hts (ht_gV w514 w516 s32 w3 w517) rfl rfl rfl (by decide +kernel) ⟨Nat.le_of_ble_eq_true rfl, Nat.le_of_ble_eq_true rfl⟩) ⟨rf_bls, va_recv hK hP (ci := 2) (q0 := 0) rfl rf_at0, fun U hU hW => ⟨rfl, by rw [hU], rf_Im hP hK hN hU hW⟩⟩ rfl rfl hl.1 rfl (lv_room (Nat.le_of_ble_eq_true rfl)) dM_lose_52 ⟨Nat.zero_le _, Nat.zero_le _⟩) hS mw_AA (mw_AF hS.1) (fun r14 u14 t14 H locs ht14 hvm14 hw14 hB14 hz14 hk14 hS => ?_)
        have hP := hB14.1
        rw [ht14] at hP
        subst hw14
        obtain ⟨g15, eg15⟩ : ∃ y9 : ht_G, y9 = ht_up g1 0 0 3 := ⟨_, rfl⟩
        rw [← eg15] at hP
        have hG : g15 = (rf_oLose (ht_up g 0 0 0) k x y).2 := by rw [← eg1]; subst eg15; simp [rf_oLose, c3, hxc, c5, c6, rf_lose3]
        rw [hG] at hP
        exact W.iret (v := 0) hx hb hr (fun t ht hW => ⟨⟨0, (), rfl, by rw [← eg1]; subst eg15; simp [rf_oLose, c3, hxc, c5, c6, rf_lose3, ht_up], rf_Im hP hK hN ht hW⟩, hS.F ht⟩) hS.2.2 dM_lose_55
    · replace c5 := ht_b0.mp c5
      refine lv_aload_n hx hb dM_lose_35 rfl (lv_at hl 0 rfl) ?_
      refine lv_iconst (v := 2) hx hb dM_lose_36 (by decide) ?_
      refine va_calli (va_runV (As := [.int 2]) (rest := []) ⟨hx, hb, hml, hown, hts⟩ (xM_raise l D cB q hJ _ g1 2) (cwV 1 hts (ht_gV w514 w516 s32 w3 w517) rfl rfl rfl (by decide +kernel) ⟨Nat.le_of_ble_eq_true rfl, Nat.le_of_ble_eq_true rfl⟩) ⟨rf_bls, va_recv hK hP (ci := 2) (q0 := 0) rfl rf_at0, fun U hU hW => ⟨rfl, by rw [hU], rf_Im hP hK hN hU hW⟩⟩ rfl rfl hl.1 rfl (lv_room (Nat.le_of_ble_eq_true rfl)) dM_lose_37 ⟨Nat.zero_le _, Nat.zero_le _⟩) hS mw_AA (mw_AF hS.1) (fun r16 u16 t16 H locs ht16 hvm16 hw16 hB16 hz16 hk16 hS => ?_)
      have hP := hB16.1
      rw [ht16] at hP
      subst hw16
      obtain ⟨g17, eg17⟩ : ∃ y9 : ht_G, y9 = ht_up g1 0 0 2 := ⟨_, rfl⟩
      rw [← eg17] at hP
      have hG : g17 = (rf_oLose (ht_up g 0 0 0) k x y).2 := by rw [← eg1]; subst eg17; simp [rf_oLose, c3, hxc, c5, rf_lose3]
      rw [hG] at hP
      exact W.iret (v := 0) hx hb hr (fun t ht hW => ⟨⟨0, (), rfl, by rw [← eg1]; subst eg17; simp [rf_oLose, c3, hxc, c5, rf_lose3, ht_up], rf_Im hP hK hN ht hW⟩, hS.F ht⟩) hS.2.2 dM_lose_40
  · replace c3 := ht_b0.mp c3
    refine lv_aload_n hx hb dM_lose_13 rfl (lv_at hl 0 rfl) ?_
    refine lv_iconst (v := 1) hx hb dM_lose_14 (by decide) ?_
    refine va_calli (va_runV (As := [.int 1]) (rest := []) ⟨hx, hb, hml, hown, hts⟩ (xM_raise l D cB q hJ _ g1 1) (cwV 1 hts (ht_gV w514 w516 s32 w3 w517) rfl rfl rfl (by decide +kernel) ⟨Nat.le_of_ble_eq_true rfl, Nat.le_of_ble_eq_true rfl⟩) ⟨rf_bls, va_recv hK hP (ci := 2) (q0 := 0) rfl rf_at0, fun U hU hW => ⟨rfl, by rw [hU], rf_Im hP hK hN hU hW⟩⟩ rfl rfl hl.1 rfl (lv_room (Nat.le_of_ble_eq_true rfl)) dM_lose_15 ⟨Nat.zero_le _, Nat.zero_le _⟩) hS mw_AA (mw_AF hS.1) (fun r18 u18 t18 H locs ht18 hvm18 hw18 hB18 hz18 hk18 hS => ?_)
    have hP := hB18.1
    rw [ht18] at hP
    subst hw18
    obtain ⟨g19, eg19⟩ : ∃ y9 : ht_G, y9 = ht_up g1 0 0 1 := ⟨_, rfl⟩
    rw [← eg19] at hP
    have hG : g19 = (rf_oLose (ht_up g 0 0 0) k x y).2 := by rw [← eg1]; subst eg19; simp [rf_oLose, c3, rf_lose3]
    rw [hG] at hP
    exact W.iret (v := 0) hx hb hr (fun t ht hW => ⟨⟨0, (), rfl, by rw [← eg1]; subst eg19; simp [rf_oLose, c3, rf_lose3, ht_up], rf_Im hP hK hN ht hW⟩, hS.F ht⟩) hS.2.2 dM_lose_18
