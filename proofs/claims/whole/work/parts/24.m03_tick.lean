set_option maxHeartbeats 800000 in
set_option maxRecDepth 100000 in
theorem xM_tick (l : Launch) (D : va_G) (cB : ClassId × ClassId) (q : Nat → Nat) (hJ : mw_J 17 q) (sz : Nat) (g : ht_G) (k : Nat) (hk : k ≤ 8) (hn : g 0 1 = nI k) (hA : ht_al g 16) (hB : rf_bw g) (x : Int32) : Met l yM_tick kM_tick ({ frames := 6, cells := 0, slots := 0, locals := 134 }) (va_Pc [.ref (q 0), .int x] (fun U => U.heap.size = sz ∧ rf_I D cB q g U)) (va_Qi (fun r (_ : Unit) => r = (rf_oTick (ht_up g 0 0 0) k x).1) (fun _ t => rf_I D cB q ((rf_oTick (ht_up g 0 0 0) k x).2) t) (mw_A 17 q sz)) 0 0 (mw_A 17 q sz) := by
  refine Met.ofW (cc := cM_tick) (maxL := 3) (ret := (some .int)) (by decide) rfl ?_
  intro p e s m args below meth c s₁ B hml hv
  obtain ⟨rfl, hsz, hP, hK, hN⟩ := hv
  have hx := B.exec
  have hb := B.bytes
  have hr := B.returns
  have hts := fun w h => atoms_spec (ws := kM_tick) B.pre w (List.mem_cons_of_mem _ h)
  have hown : s.vm.findClass RM = some m.cls := findClass_of_methodNamed B.named
  have hlocks := B.notSynchronized
  subst hsz
  have hS : va_S (mw_A 17 q s.heap.size) s.heap s.heap [] := va_S.rf
  have hl := lv_entry ([.ref (q 0), .int x]) (n := 3) (Nat.le_of_ble_eq_true rfl)
  rw [lg_entry_eq]
  generalize (lg_sl ([.ref (q 0), .int x]) ++ List.replicate (3 - (lg_sl ([.ref (q 0), .int x])).length) Slot.unset).toArray = ls at hl ⊢
  have hl : lv_has ls 3 [(0, .ref (q 0)), (1, .int x)] := hl
  have K23 : ∀ (n9 : Nat), ∀ (g1 : ht_G) (N n : Nat) (gg : ht_G), (N + 1 ≤ n + n9) → (g1 = ht_up g 0 0 0) → (x = nI N) → (N ≤ 6) → (x.toNatClampNeg = N) → (rf_in x 1 6 = true) → (n ≤ N) → (gg = ht_it (fun _ => rf_tick k) n g1) → (gg 0 1 = nI k) → (ht_al gg 16) → (rf_bw gg) → ∀ (H : Heap) (locs : List Loc), va_P D ht_cl (rf_w cB q gg) H → va_S (mw_A 17 q s.heap.size) s.heap H locs → ∀ (ls : Array Slot), lv_has ls 3 [(0, .ref (q 0)), (1, .int x), (2, .int (nI n))] → W p l e (headSpec kM_tick ({ frames := 6, cells := 0, slots := 0, locals := 134 })).room s m [.ref (q 0), .int x].toArray below meth c H locs 0 0 (MQ below (va_Qi (fun r (_ : Unit) => r = (rf_oTick (ht_up g 0 0 0) k x).1) (fun _ t => rf_I D cB q ((rf_oTick (ht_up g 0 0 0) k x).2) t) (mw_A 17 q s.heap.size)) [.ref (q 0), .int x].toArray s 0 0 (mw_A 17 q s.heap.size)) (F0 m 23 ls []) := by
    intro n9
    induction n9 with
    | zero =>
      intro g1 N n gg hn9 heg hxN hN6 hNc hin hnN hgg hng hAg hBg H locs hP hS ls hl
      exact absurd hn9 (by omega)
    | succ n9 ih =>
      intro g1 N n gg hn9 heg hxN hN6 hNc hin hnN hgg hng hAg hBg H locs hP hS ls hl
      refine lv_iload_n hx hb dM_tick_23 rfl (lv_at hl 2 rfl) ?_
      refine lv_iload_n hx hb dM_tick_24 rfl (lv_at hl 1 rfl) ?_
      refine lv_icmp_ge (tgt := 38) hx hb dM_tick_25 (by decide) (fun c1 => ?_) (fun c1 => ?_)
      · rw [hxN] at c1
        have e9 : n = N := by have h9 := (nI_leI (by omega) (by omega)).mp c1; omega
        rw [e9] at hgg
        refine lv_aload_n hx hb dM_tick_38 rfl (lv_at hl 0 rfl) ?_
        refine lv_iconst (v := 0) hx hb dM_tick_39 (by decide) ?_
        refine vp_callSi (va_Run.run (va_runV (As := [.int 0]) (rest := []) ⟨hx, hb, hml, hown, hts⟩ (xM_countStates l D cB q gg 0) (cwV 1 hts (ht_gV w610 w612 s48 w3 w613) rfl rfl rfl (by decide +kernel) ⟨Nat.le_of_ble_eq_true rfl, Nat.le_of_ble_eq_true rfl⟩) ⟨rf_bl, va_recv hK hP (ci := 2) (q0 := 0) rfl rf_at0, fun U hU hW => ⟨rfl, rf_Im hP hK hN hU hW⟩⟩ rfl rfl hl.1 rfl (lv_room (Nat.le_of_ble_eq_true rfl)) dM_tick_40 ⟨Nat.zero_le _, Nat.zero_le _⟩)) (fun r2 hr2 => ?_)
        subst hr2
        have hG : gg = (rf_oTick (ht_up g 0 0 0) k x).2 := by rw [hgg, ← heg]; simp [rf_oTick, hin, hNc]
        rw [hG] at hP
        exact W.iret (v := nI (rf_cs gg 0)) hx hb hr (fun t ht hW => ⟨⟨nI (rf_cs gg 0), (), rfl, by rw [hgg, ← heg]; simp [rf_oTick, hin, hNc], rf_Im hP hK hN ht hW⟩, hS.F ht⟩) hS.2.2 dM_tick_43
      · rw [hxN] at c1
        have hlt : n < N := Nat.not_le.mp (fun h => c1 (nI_le h (by omega)))
        refine lv_aload_n hx hb dM_tick_28 rfl (lv_at hl 0 rfl) ?_
        refine va_callv (va_runV (As := []) (rest := []) ⟨hx, hb, hml, hown, hts⟩ (xM_tickOnce l D cB q hJ _ gg k hk hng hAg hBg) (cwV 0 hts (ht_gV w606 w608 s47 w3 w609) rfl rfl rfl (by decide +kernel) ⟨Nat.le_of_ble_eq_true rfl, Nat.le_of_ble_eq_true rfl⟩) ⟨rf_bls, va_recv hK hP (ci := 2) (q0 := 0) rfl rf_at0, fun U hU hW => ⟨rfl, by rw [hU], rf_Im hP hK hN hU hW⟩⟩ rfl rfl hl.1 rfl (lv_room (Nat.le_of_ble_eq_true rfl)) dM_tick_29 ⟨Nat.zero_le _, Nat.zero_le _⟩) hS mw_AA (mw_AF hS.1) (fun u3 t3 H locs ht3 hvm3 hw3 hB3 hz3 hk3 hS => ?_)
        have hP := hB3.1
        rw [ht3] at hP
        obtain ⟨g4, eg4⟩ : ∃ y9 : ht_G, y9 = rf_tick k gg := ⟨_, rfl⟩
        rw [← eg4] at hP
        refine lv_iinc (v := nI (n + 1)) (lv' := [(2, .int (nI (n + 1))), (0, .ref (q 0)), (1, .int x)]) hx hb dM_tick_32 hl (k := 2) rfl (nI_1 _) (by decide) rfl (fun ls hl => ?_)
        refine lv_goto (tgt := 23) hx hb dM_tick_35 (by decide) ?_
        exact ih g1 N (n + 1) g4 (by omega) heg hxN hN6 hNc hin (by omega) (by rw [eg4, hgg, ht_it_c]) (by rw [eg4, rf_tick_n]; exact hng) (by rw [eg4]; exact rf_tick_al hk hAg) (by rw [eg4]; exact rf_tick_bw hBg) _ _ hP hS ls (lv_sub hl [1, 2, 0] rfl)
  refine lv_aload_n hx hb dM_tick_0 rfl (lv_at hl 0 rfl) ?_
  refine lv_iconst (v := 0) hx hb dM_tick_1 (by decide) ?_
  refine va_put (D := D) (ci := 2) (C := RM) (T := TM) (N := 19) (v := .int 0) (ty := .int) hx hb hts inM tyM tyM_ok nmM hown hK hP (mw_DA hJ) hS 0 rf_at0 rfl 0 (by decide) (hts _ w444) (fun _ h9 => h9) rfl rfl rfl rfl (Nat.le_of_ble_eq_true rfl) dM_tick_2 (fun H locs hP _ hS => ?_)
  rw [rf_st0] at hP
  obtain ⟨g5, eg5⟩ : ∃ y9 : ht_G, y9 = ht_up g 0 0 0 := ⟨_, rfl⟩
  rw [← eg5] at hP
  have hn1 : g5 0 1 = nI k := by rw [eg5, ht_up_k (by decide)]; exact hn
  have hA1 : ht_al g5 16 := ht_al_of hA (fun y _ => by rw [eg5, ht_up_r (by decide)])
  have hB1 : rf_bw g5 := rf_bw_of hB (fun i _ => by rw [eg5, ht_up_r (by decide)])
  refine lv_iload_n hx hb dM_tick_5 rfl (lv_at hl 1 rfl) ?_
  refine lv_iconst (v := 1) hx hb dM_tick_6 (by decide) ?_
  refine lv_bipush (v := 6) hx hb dM_tick_7 (by decide) ?_
  refine vp_callSi (va_Run.run (va_runS (As := [.int x, .int 1, .int 6]) (rest := []) ⟨hx, hb, hml, hown, hts⟩ (xM_in l D cB q g5 x 1 6) (cwS 3 hts (ht_gS w511 w512 w3 w513) rfl rfl rfl (by decide +kernel) ⟨Nat.le_of_ble_eq_true rfl, Nat.le_of_ble_eq_true rfl⟩) ⟨rf_bl, fun U hU hW => ⟨rfl, rf_Im hP hK hN hU hW⟩⟩ rfl rfl hl.1 rfl (lv_room (Nat.le_of_ble_eq_true rfl)) dM_tick_9 ⟨Nat.zero_le _, Nat.zero_le _⟩)) (fun r6 hr6 => ?_)
  subst hr6
  refine lv_if_ne (tgt := 21) hx hb dM_tick_12 (by decide) (fun c7 => ?_) (fun c7 => ?_)
  · replace c7 := ht_b1.mp c7
    obtain ⟨N, hN6, hxN, hNc⟩ := rf_t6 c7
    refine lv_iconst (v := 0) hx hb dM_tick_21 (by decide) ?_
    refine lv_istore_n (lv' := [(2, .int 0), (0, .ref (q 0)), (1, .int x)]) hx hb dM_tick_22 rfl hl (by decide) rfl (fun ls hl => ?_)
    exact K23 (N + 1) g5 N 0 g5 (by omega) eg5 hxN hN6 hNc c7 (by omega) rfl hn1 hA1 hB1 _ _ hP hS ls (lv_sub hl [1, 2, 0] rfl)
  · replace c7 := ht_b0.mp c7
    refine lv_aload_n hx hb dM_tick_15 rfl (lv_at hl 0 rfl) ?_
    refine lv_iconst (v := 1) hx hb dM_tick_16 (by decide) ?_
    refine va_calli (va_runV (As := [.int 1]) (rest := []) ⟨hx, hb, hml, hown, hts⟩ (xM_raise l D cB q hJ _ g5 1) (cwV 1 hts (ht_gV w514 w516 s32 w3 w517) rfl rfl rfl (by decide +kernel) ⟨Nat.le_of_ble_eq_true rfl, Nat.le_of_ble_eq_true rfl⟩) ⟨rf_bls, va_recv hK hP (ci := 2) (q0 := 0) rfl rf_at0, fun U hU hW => ⟨rfl, by rw [hU], rf_Im hP hK hN hU hW⟩⟩ rfl rfl hl.1 rfl (lv_room (Nat.le_of_ble_eq_true rfl)) dM_tick_17 ⟨Nat.zero_le _, Nat.zero_le _⟩) hS mw_AA (mw_AF hS.1) (fun r8 u8 t8 H locs ht8 hvm8 hw8 hB8 hz8 hk8 hS => ?_)
    have hP := hB8.1
    rw [ht8] at hP
    subst hw8
    obtain ⟨g9, eg9⟩ : ∃ y9 : ht_G, y9 = ht_up g5 0 0 1 := ⟨_, rfl⟩
    rw [← eg9] at hP
    have hG : g9 = (rf_oTick (ht_up g 0 0 0) k x).2 := by rw [← eg5]; subst eg9; simp [rf_oTick, c7]
    rw [hG] at hP
    exact W.iret (v := 0) hx hb hr (fun t ht hW => ⟨⟨0, (), rfl, by rw [← eg5]; subst eg9; simp [rf_oTick, c7, ht_up], rf_Im hP hK hN ht hW⟩, hS.F ht⟩) hS.2.2 dM_tick_20
