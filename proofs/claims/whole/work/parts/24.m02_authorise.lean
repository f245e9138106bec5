set_option maxHeartbeats 800000 in
set_option maxRecDepth 100000 in
theorem xM_authorise (l : Launch) (D : va_G) (cB : ClassId × ClassId) (q : Nat → Nat) (hJ : mw_J 17 q) (sz : Nat) (g : ht_G) (k : Nat) (hk : k ≤ 8) (hn : g 0 1 = nI k) (x : Int32) (hEn : rf_en g) : Met l yM_authorise kM_authorise ({ frames := 2, cells := 0, slots := 0, locals := 45 }) (va_Pc [.ref (q 0), .int x] (fun U => U.heap.size = sz ∧ rf_I D cB q g U)) (va_Qi (fun r (_ : Unit) => r = (rf_oAuth (ht_up g 0 0 0) k x).1) (fun _ t => rf_I D cB q ((rf_oAuth (ht_up g 0 0 0) k x).2) t) (mw_A 17 q sz)) 0 0 (mw_A 17 q sz) := by
  refine Met.ofW (cc := cM_authorise) (maxL := 3) (ret := (some .int)) (by decide) rfl ?_
  intro p e s m args below meth c s₁ B hml hv
  obtain ⟨rfl, hsz, hP, hK, hN⟩ := hv
  have hx := B.exec
  have hb := B.bytes
  have hr := B.returns
  have hts := fun w h => atoms_spec (ws := kM_authorise) B.pre w (List.mem_cons_of_mem _ h)
  have hown : s.vm.findClass RM = some m.cls := findClass_of_methodNamed B.named
  have hlocks := B.notSynchronized
  subst hsz
  have hS : va_S (mw_A 17 q s.heap.size) s.heap s.heap [] := va_S.rf
  have hl := lv_entry ([.ref (q 0), .int x]) (n := 3) (Nat.le_of_ble_eq_true rfl)
  rw [lg_entry_eq]
  generalize (lg_sl ([.ref (q 0), .int x]) ++ List.replicate (3 - (lg_sl ([.ref (q 0), .int x])).length) Slot.unset).toArray = ls at hl ⊢
  have hl : lv_has ls 3 [(0, .ref (q 0)), (1, .int x)] := hl
  have K90 : ∀ (n9 : Nat), ∀ (g1 : ht_G) (j a f : Nat), (13 ≤ f + n9) → (g1 = ht_up g 0 0 0) → (g1 0 1 = nI k) → (j < 8) → (x = nI j) → (x.toNatClampNeg = j) → (rf_isT g1 k x = true) → (rf_mute g1 j = false) → (g1 7 j = 0) → (g1 6 j / 10 = nI a) → ((nI a).toNatClampNeg = a) → (rf_claimed g1 k (nI a) x = false) → (¬ (¬ g1 14 a = 0 ∧ ¬ g1 9 j / 10 = nI a)) → (f < 12) → (rf_far g1 k x (11 - f) f = rf_far g1 k x (11 - a) a) → ∀ (H : Heap) (locs : List Loc), va_P D ht_cl (rf_w cB q g1) H → va_S (mw_A 17 q s.heap.size) s.heap H locs → ∀ (ls : Array Slot), lv_has ls 3 [(0, .ref (q 0)), (1, .int x), (2, .int (nI f))] → W p l e (headSpec kM_authorise ({ frames := 2, cells := 0, slots := 0, locals := 45 })).room s m [.ref (q 0), .int x].toArray below meth c H locs 0 0 (MQ below (va_Qi (fun r (_ : Unit) => r = (rf_oAuth (ht_up g 0 0 0) k x).1) (fun _ t => rf_I D cB q ((rf_oAuth (ht_up g 0 0 0) k x).2) t) (mw_A 17 q s.heap.size)) [.ref (q 0), .int x].toArray s 0 0 (mw_A 17 q s.heap.size)) (F0 m 90 ls []) := by
    intro n9
    induction n9 with
    | zero =>
      intro g1 j a f hn9 heg hn1 hj8 hxj hxc hT hM hSi hae hac hcl hst hf hF H locs hP hS ls hl
      exact absurd hn9 (by omega)
    | succ n9 ih =>
      intro g1 j a f hn9 heg hn1 hj8 hxj hxc hT hM hSi hae hac hcl hst hf hF H locs hP hS ls hl
      refine lv_iload_n hx hb dM_authorise_90 rfl (lv_at hl 2 rfl) ?_
      refine lv_bipush (v := 11) hx hb dM_authorise_91 (by decide) ?_
      refine lv_icmp_ge (tgt := 124) hx hb dM_authorise_93 (by decide) (fun c1 => ?_) (fun c1 => ?_)
      · have e9 : f = 11 := ht_end11 hf c1
        have hfar : f = rf_far g1 k x (11 - a) a := by rw [← hF, e9]; rfl
        refine lv_aload_n hx hb dM_authorise_124 rfl (lv_at hl 0 rfl) ?_
        refine va_get (D := D) (ci := 2) (C := RM) (T := TM) (N := 19) (v := .ref (q 6)) hx hb hts inM hown hK hP 0 rf_at0 rfl 6 (by decide) (hts _ w450) (fun _ h9 => h9) rfl dM_authorise_125 ?_
        refine lv_iload_n hx hb dM_authorise_128 rfl (lv_at hl 1 rfl) ?_
        refine lv_bipush (v := 10) hx hb dM_authorise_129 (by decide) ?_
        refine lv_iload_n hx hb dM_authorise_131 rfl (lv_at hl 2 rfl) ?_
        refine lv_imul hx hb dM_authorise_132 ?_
        refine lv_bipush (v := 9) hx hb dM_authorise_133 (by decide) ?_
        refine lv_iadd hx hb dM_authorise_135 ?_
        refine rf_stI hx hb hK hP (mw_DA hJ) hS 6 (j := j) (by decide) (by decide) rfl hj8 hxj dM_authorise_136 (fun H locs hP hS => ?_)
        obtain ⟨g2, eg2⟩ : ∃ y9 : ht_G, y9 = ht_up g1 6 j ((10 * (nI f)) + 9) := ⟨_, rfl⟩
        rw [← eg2] at hP
        refine lv_aload_n hx hb dM_authorise_137 rfl (lv_at hl 0 rfl) ?_
        refine va_get (D := D) (ci := 2) (C := RM) (T := TM) (N := 19) (v := .ref (q 6)) hx hb hts inM hown hK hP 0 rf_at0 rfl 6 (by decide) (hts _ w450) (fun _ h9 => h9) rfl dM_authorise_138 ?_
        refine lv_iload_n hx hb dM_authorise_141 rfl (lv_at hl 1 rfl) ?_
        refine rf_ldI hx hb hK hP 6 (j := j) (by decide) (by decide) rfl hj8 hxj dM_authorise_142 ?_
        have hG : g2 = (rf_oAuth (ht_up g 0 0 0) k x).2 := by rw [eg2, ← heg, rf_oAuth, hxc, if_neg (by simp [hT]), if_neg (by simp [hM, hSi]), hae, hac, if_neg (fun h => h.elim (fun h => by rw [hcl] at h; cases h) hst), ← hfar]
        rw [hG] at hP
        exact W.iret (v := g2 6 j) hx hb hr (fun t ht hW => ⟨⟨g2 6 j, (), rfl, by rw [eg2, ht_up_s, ← heg, rf_oAuth, hxc, if_neg (by simp [hT]), if_neg (by simp [hM, hSi]), hae, hac, if_neg (fun h => h.elim (fun h => by rw [hcl] at h; cases h) hst), ← hfar], rf_Im hP hK hN ht hW⟩, hS.F ht⟩) hS.2.2 dM_authorise_143
      · have hjl : f + 1 < 12 := ht_lt11 hf c1
        refine lv_aload_n hx hb dM_authorise_96 rfl (lv_at hl 0 rfl) ?_
        refine va_get (D := D) (ci := 2) (C := RM) (T := TM) (N := 19) (v := .ref (q 14)) hx hb hts inM hown hK hP 0 rf_at0 rfl 15 (by decide) (hts _ w459) (fun _ h9 => h9) rfl dM_authorise_97 ?_
        refine lv_iload_n hx hb dM_authorise_100 rfl (lv_at hl 2 rfl) ?_
        refine lv_iconst (v := 1) hx hb dM_authorise_101 (by decide) ?_
        refine lv_iadd hx hb dM_authorise_102 ?_
        refine rf_ldI hx hb hK hP 14 (j := f + 1) (by decide) (by decide) rfl hjl (nI_1 f) dM_authorise_103 ?_
        refine lv_if_ne (tgt := 124) hx hb dM_authorise_104 (by decide) (fun c3 => ?_) (fun c3 => ?_)
        · have hfar : f = rf_far g1 k x (11 - a) a := by rw [← hF, show 11 - f = (11 - (f + 1)) + 1 by omega, rf_far, if_neg (by simp [c3])]
          refine lv_aload_n hx hb dM_authorise_124 rfl (lv_at hl 0 rfl) ?_
          refine va_get (D := D) (ci := 2) (C := RM) (T := TM) (N := 19) (v := .ref (q 6)) hx hb hts inM hown hK hP 0 rf_at0 rfl 6 (by decide) (hts _ w450) (fun _ h9 => h9) rfl dM_authorise_125 ?_
          refine lv_iload_n hx hb dM_authorise_128 rfl (lv_at hl 1 rfl) ?_
          refine lv_bipush (v := 10) hx hb dM_authorise_129 (by decide) ?_
          refine lv_iload_n hx hb dM_authorise_131 rfl (lv_at hl 2 rfl) ?_
          refine lv_imul hx hb dM_authorise_132 ?_
          refine lv_bipush (v := 9) hx hb dM_authorise_133 (by decide) ?_
          refine lv_iadd hx hb dM_authorise_135 ?_
          refine rf_stI hx hb hK hP (mw_DA hJ) hS 6 (j := j) (by decide) (by decide) rfl hj8 hxj dM_authorise_136 (fun H locs hP hS => ?_)
          obtain ⟨g4, eg4⟩ : ∃ y9 : ht_G, y9 = ht_up g1 6 j ((10 * (nI f)) + 9) := ⟨_, rfl⟩
          rw [← eg4] at hP
          refine lv_aload_n hx hb dM_authorise_137 rfl (lv_at hl 0 rfl) ?_
          refine va_get (D := D) (ci := 2) (C := RM) (T := TM) (N := 19) (v := .ref (q 6)) hx hb hts inM hown hK hP 0 rf_at0 rfl 6 (by decide) (hts _ w450) (fun _ h9 => h9) rfl dM_authorise_138 ?_
          refine lv_iload_n hx hb dM_authorise_141 rfl (lv_at hl 1 rfl) ?_
          refine rf_ldI hx hb hK hP 6 (j := j) (by decide) (by decide) rfl hj8 hxj dM_authorise_142 ?_
          have hG : g4 = (rf_oAuth (ht_up g 0 0 0) k x).2 := by rw [eg4, ← heg, rf_oAuth, hxc, if_neg (by simp [hT]), if_neg (by simp [hM, hSi]), hae, hac, if_neg (fun h => h.elim (fun h => by rw [hcl] at h; cases h) hst), ← hfar]
          rw [hG] at hP
          exact W.iret (v := g4 6 j) hx hb hr (fun t ht hW => ⟨⟨g4 6 j, (), rfl, by rw [eg4, ht_up_s, ← heg, rf_oAuth, hxc, if_neg (by simp [hT]), if_neg (by simp [hM, hSi]), hae, hac, if_neg (fun h => h.elim (fun h => by rw [hcl] at h; cases h) hst), ← hfar], rf_Im hP hK hN ht hW⟩, hS.F ht⟩) hS.2.2 dM_authorise_143
        · refine lv_aload_n hx hb dM_authorise_107 rfl (lv_at hl 0 rfl) ?_
          refine lv_iload_n hx hb dM_authorise_108 rfl (lv_at hl 2 rfl) ?_
          refine lv_iconst (v := 1) hx hb dM_authorise_109 (by decide) ?_
          refine lv_iadd hx hb dM_authorise_110 ?_
          refine lv_iload_n hx hb dM_authorise_111 rfl (lv_at hl 1 rfl) ?_
          refine vp_callSi (va_Run.run (va_runV (As := [.int ((nI f) + 1), .int x]) (rest := []) ⟨hx, hb, hml, hown, hts⟩ (xM_claimed l D cB q g1 k hk hn1 ((nI f) + 1) x) (cwV 2 hts (ht_gV w526 w528 s35 w3 w529) rfl rfl rfl (by decide +kernel) ⟨Nat.le_of_ble_eq_true rfl, Nat.le_of_ble_eq_true rfl⟩) ⟨rf_bl, va_recv hK hP (ci := 2) (q0 := 0) rfl rf_at0, fun U hU hW => ⟨rfl, rf_Im hP hK hN hU hW⟩⟩ rfl rfl hl.1 rfl (lv_room (Nat.le_of_ble_eq_true rfl)) dM_authorise_112 ⟨Nat.zero_le _, Nat.zero_le _⟩)) (fun r5 hr5 => ?_)
          subst hr5
          refine lv_if_ne (tgt := 124) hx hb dM_authorise_115 (by decide) (fun c6 => ?_) (fun c6 => ?_)
          · replace c6 := ht_b1.mp c6
            rw [nI_1] at c6
            have hfar : f = rf_far g1 k x (11 - a) a := by rw [← hF, show 11 - f = (11 - (f + 1)) + 1 by omega, rf_far, if_neg (by simp [c3, c6])]
            refine lv_aload_n hx hb dM_authorise_124 rfl (lv_at hl 0 rfl) ?_
            refine va_get (D := D) (ci := 2) (C := RM) (T := TM) (N := 19) (v := .ref (q 6)) hx hb hts inM hown hK hP 0 rf_at0 rfl 6 (by decide) (hts _ w450) (fun _ h9 => h9) rfl dM_authorise_125 ?_
            refine lv_iload_n hx hb dM_authorise_128 rfl (lv_at hl 1 rfl) ?_
            refine lv_bipush (v := 10) hx hb dM_authorise_129 (by decide) ?_
            refine lv_iload_n hx hb dM_authorise_131 rfl (lv_at hl 2 rfl) ?_
            refine lv_imul hx hb dM_authorise_132 ?_
            refine lv_bipush (v := 9) hx hb dM_authorise_133 (by decide) ?_
            refine lv_iadd hx hb dM_authorise_135 ?_
            refine rf_stI hx hb hK hP (mw_DA hJ) hS 6 (j := j) (by decide) (by decide) rfl hj8 hxj dM_authorise_136 (fun H locs hP hS => ?_)
            obtain ⟨g7, eg7⟩ : ∃ y9 : ht_G, y9 = ht_up g1 6 j ((10 * (nI f)) + 9) := ⟨_, rfl⟩
            rw [← eg7] at hP
            refine lv_aload_n hx hb dM_authorise_137 rfl (lv_at hl 0 rfl) ?_
            refine va_get (D := D) (ci := 2) (C := RM) (T := TM) (N := 19) (v := .ref (q 6)) hx hb hts inM hown hK hP 0 rf_at0 rfl 6 (by decide) (hts _ w450) (fun _ h9 => h9) rfl dM_authorise_138 ?_
            refine lv_iload_n hx hb dM_authorise_141 rfl (lv_at hl 1 rfl) ?_
            refine rf_ldI hx hb hK hP 6 (j := j) (by decide) (by decide) rfl hj8 hxj dM_authorise_142 ?_
            have hG : g7 = (rf_oAuth (ht_up g 0 0 0) k x).2 := by rw [eg7, ← heg, rf_oAuth, hxc, if_neg (by simp [hT]), if_neg (by simp [hM, hSi]), hae, hac, if_neg (fun h => h.elim (fun h => by rw [hcl] at h; cases h) hst), ← hfar]
            rw [hG] at hP
            exact W.iret (v := g7 6 j) hx hb hr (fun t ht hW => ⟨⟨g7 6 j, (), rfl, by rw [eg7, ht_up_s, ← heg, rf_oAuth, hxc, if_neg (by simp [hT]), if_neg (by simp [hM, hSi]), hae, hac, if_neg (fun h => h.elim (fun h => by rw [hcl] at h; cases h) hst), ← hfar], rf_Im hP hK hN ht hW⟩, hS.F ht⟩) hS.2.2 dM_authorise_143
          · replace c6 := ht_b0.mp c6
            rw [nI_1] at c6
            refine lv_iinc (v := nI (f + 1)) (lv' := [(2, .int (nI (f + 1))), (0, .ref (q 0)), (1, .int x)]) hx hb dM_authorise_118 hl (k := 2) rfl (nI_1 _) (by decide) rfl (fun ls hl => ?_)
            refine lv_goto (tgt := 90) hx hb dM_authorise_121 (by decide) ?_
            exact ih g1 j a (f + 1) (by omega) heg hn1 hj8 hxj hxc hT hM hSi hae hac hcl hst (by omega) (by rw [← hF, show 11 - f = (11 - (f + 1)) + 1 by omega, rf_far, if_pos ⟨c3, c6⟩]) _ _ hP hS ls (lv_sub hl [1, 2, 0] rfl)
  refine lv_aload_n hx hb dM_authorise_0 rfl (lv_at hl 0 rfl) ?_
  refine lv_iconst (v := 0) hx hb dM_authorise_1 (by decide) ?_
  refine va_put (D := D) (ci := 2) (C := RM) (T := TM) (N := 19) (v := .int 0) (ty := .int) hx hb hts inM tyM tyM_ok nmM hown hK hP (mw_DA hJ) hS 0 rf_at0 rfl 0 (by decide) (hts _ w444) (fun _ h9 => h9) rfl rfl rfl rfl (Nat.le_of_ble_eq_true rfl) dM_authorise_2 (fun H locs hP _ hS => ?_)
  rw [rf_st0] at hP
  obtain ⟨g8, eg8⟩ : ∃ y9 : ht_G, y9 = ht_up g 0 0 0 := ⟨_, rfl⟩
  rw [← eg8] at hP
  have hn1 : g8 0 1 = nI k := by rw [eg8, ht_up_k (by decide)]; exact hn
  have hEn1 : rf_en g8 := fun i hi => by rw [eg8, ht_up_r (by decide)]; exact hEn i hi
  refine lv_aload_n hx hb dM_authorise_5 rfl (lv_at hl 0 rfl) ?_
  refine lv_iload_n hx hb dM_authorise_6 rfl (lv_at hl 1 rfl) ?_
  refine vp_callSi (va_Run.run (va_runV (As := [.int x]) (rest := []) ⟨hx, hb, hml, hown, hts⟩ (xM_isTrain l D cB q g8 k hk (hn1) x) (cwV 1 hts (ht_gV w574 w576 s46 w3 w577) rfl rfl rfl (by decide +kernel) ⟨Nat.le_of_ble_eq_true rfl, Nat.le_of_ble_eq_true rfl⟩) ⟨rf_bl, va_recv hK hP (ci := 2) (q0 := 0) rfl rf_at0, fun U hU hW => ⟨rfl, rf_Im hP hK hN hU hW⟩⟩ rfl rfl hl.1 rfl (lv_room (Nat.le_of_ble_eq_true rfl)) dM_authorise_7 ⟨Nat.zero_le _, Nat.zero_le _⟩)) (fun r9 hr9 => ?_)
  subst hr9
  refine lv_if_ne (tgt := 19) hx hb dM_authorise_10 (by decide) (fun c10 => ?_) (fun c10 => ?_)
  · replace c10 := ht_b1.mp c10
    obtain ⟨j, hjl, hxj, hxc⟩ := rf_isT_ix hk c10
    have hj8 : j < 8 := Nat.lt_of_lt_of_le hjl hk
    refine lv_aload_n hx hb dM_authorise_19 rfl (lv_at hl 0 rfl) ?_
    refine lv_iload_n hx hb dM_authorise_20 rfl (lv_at hl 1 rfl) ?_
    refine lv_topi (fun x9 ex9 => ?_)
    obtain rfl : x9 = nI j := ex9.trans hxj
    refine vp_callSi (va_Run.run (va_runV (As := [.int (nI j)]) (rest := []) ⟨hx, hb, hml, hown, hts⟩ (xM_mute l D cB q g8 j hj8) (cwV 1 hts (ht_gV w558 w560 s43 w3 w561) rfl rfl rfl (by decide +kernel) ⟨Nat.le_of_ble_eq_true rfl, Nat.le_of_ble_eq_true rfl⟩) ⟨rf_bl, va_recv hK hP (ci := 2) (q0 := 0) rfl rf_at0, fun U hU hW => ⟨rfl, rf_Im hP hK hN hU hW⟩⟩ rfl rfl hl.1 rfl (lv_room (Nat.le_of_ble_eq_true rfl)) dM_authorise_21 ⟨Nat.zero_le _, Nat.zero_le _⟩)) (fun r11 hr11 => ?_)
    subst hr11
    refine lv_if_ne (tgt := 36) hx hb dM_authorise_24 (by decide) (fun c12 => ?_) (fun c12 => ?_)
    · replace c12 := ht_b1.mp c12
      refine lv_aload_n hx hb dM_authorise_36 rfl (lv_at hl 0 rfl) ?_
      refine lv_iconst (v := 2) hx hb dM_authorise_37 (by decide) ?_
      refine va_calli (va_runV (As := [.int 2]) (rest := []) ⟨hx, hb, hml, hown, hts⟩ (xM_raise l D cB q hJ _ g8 2) (cwV 1 hts (ht_gV w514 w516 s32 w3 w517) rfl rfl rfl (by decide +kernel) ⟨Nat.le_of_ble_eq_true rfl, Nat.le_of_ble_eq_true rfl⟩) ⟨rf_bls, va_recv hK hP (ci := 2) (q0 := 0) rfl rf_at0, fun U hU hW => ⟨rfl, by rw [hU], rf_Im hP hK hN hU hW⟩⟩ rfl rfl hl.1 rfl (lv_room (Nat.le_of_ble_eq_true rfl)) dM_authorise_38 ⟨Nat.zero_le _, Nat.zero_le _⟩) hS mw_AA (mw_AF hS.1) (fun r13 u13 t13 H locs ht13 hvm13 hw13 hB13 hz13 hk13 hS => ?_)
      have hP := hB13.1
      rw [ht13] at hP
      subst hw13
      obtain ⟨g14, eg14⟩ : ∃ y9 : ht_G, y9 = ht_up g8 0 0 2 := ⟨_, rfl⟩
      rw [← eg14] at hP
      have hG : g14 = (rf_oAuth (ht_up g 0 0 0) k x).2 := by rw [← eg8]; subst eg14; simp [rf_oAuth, c10, hxc, c12]
      rw [hG] at hP
      exact W.iret (v := 0) hx hb hr (fun t ht hW => ⟨⟨0, (), rfl, by rw [← eg8]; subst eg14; simp [rf_oAuth, c10, hxc, c12, ht_up], rf_Im hP hK hN ht hW⟩, hS.F ht⟩) hS.2.2 dM_authorise_41
    · replace c12 := ht_b0.mp c12
      refine lv_aload_n hx hb dM_authorise_27 rfl (lv_at hl 0 rfl) ?_
      refine va_get (D := D) (ci := 2) (C := RM) (T := TM) (N := 19) (v := .ref (q 7)) hx hb hts inM hown hK hP 0 rf_at0 rfl 7 (by decide) (hts _ w451) (fun _ h9 => h9) rfl dM_authorise_28 ?_
      refine lv_iload_n hx hb dM_authorise_31 rfl (lv_at hl 1 rfl) ?_
      refine rf_ldZ hx hb hK hP 7 (j := j) (by decide) (by decide) rfl hj8 hxj dM_authorise_32 ?_
      refine lv_if_eq (tgt := 42) hx hb dM_authorise_33 (by decide) (fun c15 => ?_) (fun c15 => ?_)
      · refine lv_aload_n hx hb dM_authorise_42 rfl (lv_at hl 0 rfl) ?_
        refine va_get (D := D) (ci := 2) (C := RM) (T := TM) (N := 19) (v := .ref (q 6)) hx hb hts inM hown hK hP 0 rf_at0 rfl 6 (by decide) (hts _ w450) (fun _ h9 => h9) rfl dM_authorise_43 ?_
        refine lv_iload_n hx hb dM_authorise_46 rfl (lv_at hl 1 rfl) ?_
        refine rf_ldI hx hb hK hP 6 (j := j) (by decide) (by decide) rfl hj8 hxj dM_authorise_47 ?_
        refine lv_bipush (v := 10) hx hb dM_authorise_48 (by decide) ?_
        refine lv_idiv hx hb dM_authorise_50 (by decide) ?_
        obtain ⟨a, ha12, hae⟩ := hEn1 j hj8
        have hac : (nI a).toNatClampNeg = a := nI_clamp (by omega)
        rw [hae]
        refine lv_istore_n (lv' := [(2, .int (nI a)), (0, .ref (q 0)), (1, .int x)]) hx hb dM_authorise_51 rfl hl (by decide) rfl (fun ls hl => ?_)
        refine lv_aload_n hx hb dM_authorise_52 rfl (lv_at hl 1 rfl) ?_
        refine lv_iload_n hx hb dM_authorise_53 rfl (lv_at hl 0 rfl) ?_
        refine lv_iload_n hx hb dM_authorise_54 rfl (lv_at hl 2 rfl) ?_
        refine vp_callSi (va_Run.run (va_runV (As := [.int (nI a), .int x]) (rest := []) ⟨hx, hb, hml, hown, hts⟩ (xM_claimed l D cB q g8 k hk hn1 (nI a) x) (cwV 2 hts (ht_gV w526 w528 s35 w3 w529) rfl rfl rfl (by decide +kernel) ⟨Nat.le_of_ble_eq_true rfl, Nat.le_of_ble_eq_true rfl⟩) ⟨rf_bl, va_recv hK hP (ci := 2) (q0 := 0) rfl rf_at0, fun U hU hW => ⟨rfl, rf_Im hP hK hN hU hW⟩⟩ rfl rfl hl.1 rfl (lv_room (Nat.le_of_ble_eq_true rfl)) dM_authorise_55 ⟨Nat.zero_le _, Nat.zero_le _⟩)) (fun r16 hr16 => ?_)
        subst hr16
        refine lv_if_ne (tgt := 83) hx hb dM_authorise_58 (by decide) (fun c17 => ?_) (fun c17 => ?_)
        · replace c17 := ht_b1.mp c17
          refine lv_aload_n hx hb dM_authorise_83 rfl (lv_at hl 1 rfl) ?_
          refine va_get (D := D) (ci := 2) (C := RM) (T := TM) (N := 19) (v := .ref (q 6)) hx hb hts inM hown hK hP 0 rf_at0 rfl 6 (by decide) (hts _ w450) (fun _ h9 => h9) rfl dM_authorise_84 ?_
          refine lv_iload_n hx hb dM_authorise_87 rfl (lv_at hl 2 rfl) ?_
          refine rf_ldI hx hb hK hP 6 (j := j) (by decide) (by decide) rfl hj8 hxj dM_authorise_88 ?_
          have hG : g8 = (rf_oAuth (ht_up g 0 0 0) k x).2 := by rw [← eg8]; simp [rf_oAuth, c10, hxc, c12, c15, hae, hac, c17]
          rw [hG] at hP
          exact W.iret (v := g8 6 j) hx hb hr (fun t ht hW => ⟨⟨g8 6 j, (), rfl, by rw [← eg8]; simp [rf_oAuth, c10, hxc, c12, c15, hae, hac, c17, ht_up], rf_Im hP hK hN ht hW⟩, hS.F ht⟩) hS.2.2 dM_authorise_89
        · replace c17 := ht_b0.mp c17
          refine lv_aload_n hx hb dM_authorise_61 rfl (lv_at hl 1 rfl) ?_
          refine va_get (D := D) (ci := 2) (C := RM) (T := TM) (N := 19) (v := .ref (q 14)) hx hb hts inM hown hK hP 0 rf_at0 rfl 15 (by decide) (hts _ w459) (fun _ h9 => h9) rfl dM_authorise_62 ?_
          refine lv_iload_n hx hb dM_authorise_65 rfl (lv_at hl 0 rfl) ?_
          refine rf_ldI hx hb hK hP 14 (j := a) (by decide) (by decide) rfl ha12 rfl dM_authorise_66 ?_
          refine lv_if_eq (tgt := 90) hx hb dM_authorise_67 (by decide) (fun c18 => ?_) (fun c18 => ?_)
          · exact K90 13 g8 j a a (by omega) eg8 hn1 hj8 hxj hxc c10 c12 c15 hae hac c17 (fun h => h.1 c18) ha12 rfl _ _ hP hS ls (lv_sub hl [1, 2, 0] rfl)
          · refine lv_aload_n hx hb dM_authorise_70 rfl (lv_at hl 1 rfl) ?_
            refine va_get (D := D) (ci := 2) (C := RM) (T := TM) (N := 19) (v := .ref (q 9)) hx hb hts inM hown hK hP 0 rf_at0 rfl 9 (by decide) (hts _ w453) (fun _ h9 => h9) rfl dM_authorise_71 ?_
            refine lv_iload_n hx hb dM_authorise_74 rfl (lv_at hl 2 rfl) ?_
            refine rf_ldI hx hb hK hP 9 (j := j) (by decide) (by decide) rfl hj8 hxj dM_authorise_75 ?_
            refine lv_bipush (v := 10) hx hb dM_authorise_76 (by decide) ?_
            refine lv_idiv hx hb dM_authorise_78 (by decide) ?_
            refine lv_iload_n hx hb dM_authorise_79 rfl (lv_at hl 0 rfl) ?_
            refine lv_icmp_eq (tgt := 90) hx hb dM_authorise_80 (by decide) (fun c19 => ?_) (fun c19 => ?_)
            · exact K90 13 g8 j a a (by omega) eg8 hn1 hj8 hxj hxc c10 c12 c15 hae hac c17 (fun h => h.2 c19) ha12 rfl _ _ hP hS ls (lv_sub hl [1, 2, 0] rfl)
            · refine lv_aload_n hx hb dM_authorise_83 rfl (lv_at hl 1 rfl) ?_
              refine va_get (D := D) (ci := 2) (C := RM) (T := TM) (N := 19) (v := .ref (q 6)) hx hb hts inM hown hK hP 0 rf_at0 rfl 6 (by decide) (hts _ w450) (fun _ h9 => h9) rfl dM_authorise_84 ?_
              refine lv_iload_n hx hb dM_authorise_87 rfl (lv_at hl 2 rfl) ?_
              refine rf_ldI hx hb hK hP 6 (j := j) (by decide) (by decide) rfl hj8 hxj dM_authorise_88 ?_
              have hG : g8 = (rf_oAuth (ht_up g 0 0 0) k x).2 := by rw [← eg8]; simp [rf_oAuth, c10, hxc, c12, c15, hae, hac, c17, c18, c19]
              rw [hG] at hP
              exact W.iret (v := g8 6 j) hx hb hr (fun t ht hW => ⟨⟨g8 6 j, (), rfl, by rw [← eg8]; simp [rf_oAuth, c10, hxc, c12, c15, hae, hac, c17, c18, c19, ht_up], rf_Im hP hK hN ht hW⟩, hS.F ht⟩) hS.2.2 dM_authorise_89
      · refine lv_aload_n hx hb dM_authorise_36 rfl (lv_at hl 0 rfl) ?_
        refine lv_iconst (v := 2) hx hb dM_authorise_37 (by decide) ?_
        refine va_calli (va_runV (As := [.int 2]) (rest := []) ⟨hx, hb, hml, hown, hts⟩ (xM_raise l D cB q hJ _ g8 2) (cwV 1 hts (ht_gV w514 w516 s32 w3 w517) rfl rfl rfl (by decide +kernel) ⟨Nat.le_of_ble_eq_true rfl, Nat.le_of_ble_eq_true rfl⟩) ⟨rf_bls, va_recv hK hP (ci := 2) (q0 := 0) rfl rf_at0, fun U hU hW => ⟨rfl, by rw [hU], rf_Im hP hK hN hU hW⟩⟩ rfl rfl hl.1 rfl (lv_room (Nat.le_of_ble_eq_true rfl)) dM_authorise_38 ⟨Nat.zero_le _, Nat.zero_le _⟩) hS mw_AA (mw_AF hS.1) (fun r20 u20 t20 H locs ht20 hvm20 hw20 hB20 hz20 hk20 hS => ?_)
        have hP := hB20.1
        rw [ht20] at hP
        subst hw20
        obtain ⟨g21, eg21⟩ : ∃ y9 : ht_G, y9 = ht_up g8 0 0 2 := ⟨_, rfl⟩
        rw [← eg21] at hP
        have hG : g21 = (rf_oAuth (ht_up g 0 0 0) k x).2 := by rw [← eg8]; subst eg21; simp [rf_oAuth, c10, hxc, c12, c15]
        rw [hG] at hP
        exact W.iret (v := 0) hx hb hr (fun t ht hW => ⟨⟨0, (), rfl, by rw [← eg8]; subst eg21; simp [rf_oAuth, c10, hxc, c12, c15, ht_up], rf_Im hP hK hN ht hW⟩, hS.F ht⟩) hS.2.2 dM_authorise_41
  · replace c10 := ht_b0.mp c10
    refine lv_aload_n hx hb dM_authorise_13 rfl (lv_at hl 0 rfl) ?_
    refine lv_iconst (v := 1) hx hb dM_authorise_14 (by decide) ?_
    refine va_calli (va_runV (As := [.int 1]) (rest := []) ⟨hx, hb, hml, hown, hts⟩ (xM_raise l D cB q hJ _ g8 1) (cwV 1 hts (ht_gV w514 w516 s32 w3 w517) rfl rfl rfl (by decide +kernel) ⟨Nat.le_of_ble_eq_true rfl, Nat.le_of_ble_eq_true rfl⟩) ⟨rf_bls, va_recv hK hP (ci := 2) (q0 := 0) rfl rf_at0, fun U hU hW => ⟨rfl, by rw [hU], rf_Im hP hK hN hU hW⟩⟩ rfl rfl hl.1 rfl (lv_room (Nat.le_of_ble_eq_true rfl)) dM_authorise_15 ⟨Nat.zero_le _, Nat.zero_le _⟩) hS mw_AA (mw_AF hS.1) (fun r22 u22 t22 H locs ht22 hvm22 hw22 hB22 hz22 hk22 hS => ?_)
    have hP := hB22.1
    rw [ht22] at hP
    subst hw22
    obtain ⟨g23, eg23⟩ : ∃ y9 : ht_G, y9 = ht_up g8 0 0 1 := ⟨_, rfl⟩
    rw [← eg23] at hP
    have hG : g23 = (rf_oAuth (ht_up g 0 0 0) k x).2 := by rw [← eg8]; subst eg23; simp [rf_oAuth, c10]
    rw [hG] at hP
    exact W.iret (v := 0) hx hb hr (fun t ht hW => ⟨⟨0, (), rfl, by rw [← eg8]; subst eg23; simp [rf_oAuth, c10, ht_up], rf_Im hP hK hN ht hW⟩, hS.F ht⟩) hS.2.2 dM_authorise_18
