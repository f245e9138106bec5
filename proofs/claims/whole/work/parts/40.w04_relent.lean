set_option maxHeartbeats 600000 in
set_option maxRecDepth 100000 in
theorem xL_relent (l : Launch) (hl0 : l.stackTraces = false) (D : va_G) (cA : ClassId × ClassId) (q : Nat → Nat) (hJ : mw_J 14 q) (ao : Nat) (cJ : ClassId) (fo : Nat → Int64) (hao : ∀ i, i < 14 → ao ≠ q i) (sz : Nat) (g : ht_G) (k : Nat) (hk : k ≤ 8) (hn : g 0 0 = nI k) (x : Int32) : Met l yL_relent kL_relent ({ frames := 8, cells := 2, slots := 12, locals := 126 }) (va_Pc [.ref (q 0), .int x, .ref ao] (fun U => ht_E D cA q g sz U ∧ va_P D ht_cl [(ao, .inl (cJ, 1, .inr (.inl fo)))] U.heap ∧ va_K D ht_cl [(cJ, .long)] U ∧ ht_C U)) (va_Qi (fun r (f : Nat → Int64) => r = (ht_oRelent g k x).1 ∧ (r = 0 → f 0 = (ht_oRelent g k x).2.1.toInt64)) (fun f t => va_P D ht_cl (ht_w cA q (ht_oRelent g k x).2.2) t.heap ∧ va_P D ht_cl [(ao, .inl (cJ, 1, .inr (.inl f)))] t.heap) (fun z => mw_A 14 q sz z ∨ z = ao)) 2 12 (fun z => mw_A 14 q sz z ∨ z = ao) := by
  refine hx_ofWH (cc := cL_relent) (maxL := 4) (ret := (some .int)) (hh := hL_relent) (by decide) rfl ?_
  intro p e s m args below meth c s₁ B hml hv
  obtain ⟨rfl, ⟨hsz, ⟨hP, hK, hN⟩, hX, hR, hZ⟩, hPo, hKo, hC⟩ := hv
  have hx := B.exec
  have hb := B.bytes
  have hr := B.returns
  have hts := fun w h => atoms_spec (ws := kL_relent) B.pre w (List.mem_cons_of_mem _ h)
  have htab := vx_table (x := yL_relent) B (atoms_spec (ws := kL_relent) B.pre _ List.mem_cons_self)
  have hown : s.vm.findClass RW = some m.cls := findClass_of_methodNamed B.named
  have hlocks := B.notSynchronized
  subst hsz
  have hS1 : va_S (mw_A 14 q s.heap.size) s.heap s.heap [] := va_S.rf
  have hS : va_S (fun z => mw_A 14 q s.heap.size z ∨ z = ao) s.heap s.heap [] := va_S.rf
  have hkeep : ¬ (ht_oRelent g k x).1 = 0 → (ht_oRelent g k x).2.2 = g := by show ht_kP g (ht_oRelent g k x); unfold ht_oRelent; repeat' (first | refine ht_kif ?_ ?_ | exact (fun h => absurd (Eq.refl (0 : Int32)) h) | exact (fun _ => Eq.refl g))
  have hl := lv_entry ([.ref (q 0), .int x, .ref ao]) (n := 4) (Nat.le_of_ble_eq_true rfl)
  rw [lg_entry_eq]
  generalize (lg_sl ([.ref (q 0), .int x, .ref ao]) ++ List.replicate (4 - (lg_sl ([.ref (q 0), .int x, .ref ao])).length) Slot.unset).toArray = ls at hl ⊢
  have hl : lv_has ls 4 [(0, .ref (q 0)), (1, .int x), (2, .ref ao)] := hl
  refine lv_aload_n hx hb dL_relent_0 rfl (lv_at hl 2 rfl) ?_
  refine lv_iconst (v := 0) hx hb dL_relent_1 (by decide) ?_
  refine lv_aload_n hx hb dL_relent_2 rfl (lv_at hl 0 rfl) ?_
  refine lv_iload_n hx hb dL_relent_3 rfl (lv_at hl 1 rfl) ?_
  refine vx_calli (vx_runV (As := [.int x]) (rest := [.int 0, .ref ao]) ⟨hx, hb, hml, hown, hts⟩ (xH_relent l hl0 D cA q hJ _ g k hk hn x) (cwV 1 hts (ht_gV w334 w335 w336 w1 w337) rfl rfl rfl (by decide +kernel) ⟨Nat.le_of_ble_eq_true rfl, Nat.le_of_ble_eq_true rfl⟩) ⟨ht_ble, va_recv hK hP (ci := 1) (q0 := 0) rfl ht_atO, fun U hU hW => ⟨rfl, ht_Em hP hK hN hX hR hZ hS1 hU hW⟩⟩ rfl rfl hl.1 rfl (lv_room (Nat.le_of_ble_eq_true rfl)) dL_relent_4 ⟨Nat.le_of_ble_eq_true rfl, Nat.le_of_ble_eq_true rfl⟩) hS (fun z hz h => Or.inl (mw_AA z hz h)) (fun z h => Or.inl h) (fun z hz h => Or.inl (mw_AA z hz h)) (fun E ce q9 u t H locs ht hvm hpx hBX hz hk9 hS hce hcv hcl => ?_) (fun r u t H locs ht hvm hw hB hz hk9 hS => ?_)
  · have hao9 : H[ao]? = s.heap[ao]? := hk9 ao (hPo 0 _ rfl).lt (fun h => h.elim (fun ⟨i, hi, e9⟩ => hao i hi e9) (fun h => absurd (hPo 0 _ rfl).lt (Nat.not_lt.mpr h)))
    have hPo : va_P D ht_cl [(ao, .inl (cJ, 1, .inr (.inl fo)))] H := hPo.kept (fun k x hx => by obtain ⟨hk1, hk2⟩ := ht_one1 hx; subst hk2; exact hao9)
    obtain ⟨hPx, hm⟩ := hBX
    rw [ht] at hPx
    simp only [List.mem_cons, List.not_mem_nil, or_false, Prod.mk.injEq] at hm
    rcases hm with ⟨h1, rfl⟩ | ⟨h1, rfl⟩
    · refine vx_catch hown [] ⟨0, 9, 12, 20⟩ [⟨0, 9, 15, 15⟩] (by rw [htab]; rfl) (fun z hz => nomatch hz) rfl (by decide) (hts _ w282) (va_Nw.use (ht_X.on (List.mem_of_getElem? (i := 2) rfl)) (hX _ (List.mem_of_getElem? (i := 2) rfl))) hce hcv hcl ?_
      refine lv_astore_n (lv' := [(3, .ref q9), (0, .ref (q 0)), (1, .int x), (2, .ref ao)]) hx hb dL_relent_12 rfl hl (by decide) rfl (fun ls hl => ?_)
      refine lv_iconst (v := 1) hx hb dL_relent_13 (by decide) ?_
      refine W.widen (k := 2) (n := 12) (Nat.le_of_ble_eq_true rfl) (Nat.le_of_ble_eq_true rfl) ?_
      exact W.iret (v := 1) hx hb hr (fun t9 ht9 hW => ⟨⟨1, fo, rfl, ⟨h1.symm, fun h => absurd h (by decide)⟩, by show va_P D ht_cl (ht_w cA q (ht_oRelent g k x).2.2) t9.heap ∧ va_P D ht_cl [(ao, .inl (cJ, 1, .inr (.inl fo)))] t9.heap; rw [ht9, hkeep (by rw [h1]; decide)]; exact ⟨hPx, hPo⟩⟩, hS.F ht9⟩) hS.2.2 dL_relent_14
    · refine vx_catch hown [⟨0, 9, 12, 20⟩] ⟨0, 9, 15, 15⟩ [] (by rw [htab]; rfl) (List.forall_mem_cons.mpr ⟨Or.inr ⟨(by decide), _, hts _ w282, hC.2.2⟩, (fun z hz => nomatch hz)⟩) rfl (by decide) (hts _ w103) (va_Nw.use (ht_X.on (List.mem_of_getElem? (i := 1) rfl)) (hX _ (List.mem_of_getElem? (i := 1) rfl))) hce hcv hcl ?_
      refine lv_astore_n (lv' := [(3, .ref q9), (0, .ref (q 0)), (1, .int x), (2, .ref ao)]) hx hb dL_relent_15 rfl hl (by decide) rfl (fun ls hl => ?_)
      refine lv_iconst (v := 2) hx hb dL_relent_16 (by decide) ?_
      refine W.widen (k := 2) (n := 12) (Nat.le_of_ble_eq_true rfl) (Nat.le_of_ble_eq_true rfl) ?_
      exact W.iret (v := 2) hx hb hr (fun t9 ht9 hW => ⟨⟨2, fo, rfl, ⟨h1.symm, fun h => absurd h (by decide)⟩, by show va_P D ht_cl (ht_w cA q (ht_oRelent g k x).2.2) t9.heap ∧ va_P D ht_cl [(ao, .inl (cJ, 1, .inr (.inl fo)))] t9.heap; rw [ht9, hkeep (by rw [h1]; decide)]; exact ⟨hPx, hPo⟩⟩, hS.F ht9⟩) hS.2.2 dL_relent_17
  · have hao9 : H[ao]? = s.heap[ao]? := hk9 ao (hPo 0 _ rfl).lt (fun h => h.elim (fun ⟨i, hi, e9⟩ => hao i hi e9) (fun h => absurd (hPo 0 _ rfl).lt (Nat.not_lt.mpr h)))
    have hPo : va_P D ht_cl [(ao, .inl (cJ, 1, .inr (.inl fo)))] H := hPo.kept (fun k x hx => by obtain ⟨hk1, hk2⟩ := ht_one1 hx; subst hk2; exact hao9)
    have hB : va_P D ht_cl (ht_w cA q (ht_oRelent g k x).2.2) t.heap := hB
    rw [ht] at hB
    refine lv_i2l (v := r.toInt64) hx hb dL_relent_7 rfl ?_
    have hPB := va_P.app hB hPo
    refine va_last hx hb hKo hPB (mw_catD hJ (fun i hi => Or.inl (Or.inl ⟨i, hi, rfl⟩)) (Or.inr rfl) hao) hS 14 0 mw_catAt rfl (by unfold vp_in; decide) dL_relent_8 (fun H locs hPB _ hS => ?_)
    rw [mw_catSet] at hPB
    refine lv_goto (tgt := 18) hx hb dL_relent_9 (by decide) ?_
    refine lv_iconst (v := 0) hx hb dL_relent_18 (by decide) ?_
    refine W.widen (k := 2) (n := 12) (Nat.le_of_ble_eq_true rfl) (Nat.le_of_ble_eq_true rfl) ?_
    exact W.iret (v := 0) hx hb hr (fun t9 ht9 hW => ⟨⟨0, vp_updL fo (0 : Int32).toNatClampNeg r.toInt64, rfl, ⟨hw.1.symm, fun _ => by rw [← hw.2]; rfl⟩, by show va_P D ht_cl (ht_w cA q (ht_oRelent g k x).2.2) t9.heap ∧ va_P D ht_cl [(ao, .inl (cJ, 1, .inr (.inl (vp_updL fo (0 : Int32).toNatClampNeg r.toInt64))))] t9.heap; rw [ht9]; exact ⟨mw_catL hPB, mw_catR hPB⟩⟩, hS.F ht9⟩) hS.2.2 dL_relent_19
