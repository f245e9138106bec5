abbrev lx_pre : Cond := Jvm.Cond.and given_1 narrow_1
set_option maxRecDepth 100000 in
theorem lx_n1 : ∀ w ∈ ht_nest, w ∈ lw_tbl := by decide +kernel
set_option maxRecDepth 100000 in
theorem lx_n2 : ∀ w ∈ ht_nest, w.onTables = true := by decide +kernel
set_option maxRecDepth 100000 in
theorem lx_x1 : ∀ w ∈ ht_xw, w ∈ lw_tbl := by decide +kernel
set_option maxRecDepth 100000 in
theorem lx_s1 : ∀ x ∈ ht_ss, Cond.stringRef RH x.1 x.2 ∈ lw_tbl := by decide +kernel
set_option maxRecDepth 100000 in
theorem lx_s2 : ∀ x ∈ ht_ss, Cond.exactly (Term.string RH x.1) "java/lang/String" ∈ flatC lx_pre := by decide +kernel
set_option maxRecDepth 100000 in
theorem lx_c1 : ∀ x ∈ [(ES, EA), (EA, EN), (ES, EN)], Cond.not (.castable x.1 x.2) ∈ flatC lx_pre := by decide +kernel
set_option maxRecDepth 100000 in
theorem lx_z1 : ∀ x ∈ [("UNASSIGNED_STACK", Bundle.steD), ("SUPPRESSED_SENTINEL", Bundle.listD)], Cond.laysStatic Bundle.tN x.1 x.2 ∈ lw_tbl ∧ Cond.isRef (.static Bundle.tN x.1 x.2) ∈ flatC lx_pre := by decide +kernel
set_option maxRecDepth 100000 in
theorem lx_z2 : Cond.initialized Bundle.tN ∈ lw_tbl ∧ Cond.arrayOver (.object RV) ∈ lw_tbl ∧ Cond.instantiable RV 13 ∈ lw_tbl ∧ Cond.instantiable RH 7 ∈ lw_tbl ∧ Cond.instantiable RM 19 ∈ lw_tbl := by decide +kernel
theorem lx_given {p : Program} {s : State} {m : MethodId} {meth : Method} {c : Code} {b L : Nat} {xs : Nat → Int32} (C0 : lw_At p s m meth c b L xs) : (∃ D : va_G, va_K D ht_cl [] s) ∧ ht_N s ∧ ht_X s ∧ ht_R s ∧ ht_C s ∧ ht_Z (lx_A s) s s.heap ∧ va_AO RV s := by
  obtain ⟨hx, hb, hr, hml, hown, hts0, hXs, hbl, hlocks, hgv⟩ := C0
  have hts : ∀ w ∈ ht_tb, w.before #[Value.ref b] s = true := fun w h => hts0 w (List.mem_filter.mp h).1
  have hfl := flat_of_before _ hgv
  refine ⟨?_, fun w hw => va_Nw.of (lx_n2 w hw) (hts0 w (lx_n1 w hw)), fun w hw => va_Nw.of (ht_X.on hw) (hts0 w (lx_x1 w hw)), fun x hx => ?_, ⟨va_Nc.of (hfl _ (lx_c1 (ES, EA) (by simp))), va_Nc.of (hfl _ (lx_c1 (EA, EN) (by simp))), va_Nc.of (hfl _ (lx_c1 (ES, EN) (by simp)))⟩, ⟨?_, ?_⟩, va_AO.of (hts0 _ lx_z2.2.1)⟩
  · obtain ⟨c0, i0, k0⟩ := u_known (C := RV) (T := TV) (N := 13) (n := 13) hts inV (hts0 _ lx_z2.2.2.1)
    obtain ⟨c1, i1, k1⟩ := u_known (C := RH) (T := TH) (N := 7) (n := 7) hts inH (hts0 _ lx_z2.2.2.2.1)
    obtain ⟨c2, i2, k2⟩ := u_known (C := RM) (T := TM) (N := 19) (n := 19) hts inM (hts0 _ lx_z2.2.2.2.2)
    refine ⟨(fun k => if k = 0 then c0 else if k = 1 then c1 else c2, fun k => if k = 0 then i0 else if k = 1 then i1 else i2), ?_, fun k q h => by simp at h⟩
    intro k q hq
    match k, hq with
    | 0, hq => cases hq; exact k0
    | 1, hq => cases hq; exact k1
    | 2, hq => cases hq; exact k2
    | k + 3, hq => simp [ht_cl] at hq
  · obtain ⟨a, c, cA, kA, q1, -⟩ := Cond.exactly_spec (args := #[Value.ref b]) (first := s) (o := none) (s := s) (idx := []) (t := Term.string RH x.1) (cls := "java/lang/String") (hfl _ (lx_s2 x hx))
    exact ⟨a, vk_R.of (hts0 _ (lx_s1 x hx)) q1⟩
  · have h := lx_z1 ("UNASSIGNED_STACK", Bundle.steD) (by simp)
    exact vx_Zqof (hts0 _ h.1) (hts0 _ lx_z2.1) (hfl _ h.2) (fun a h => Nat.not_le.mpr h)
  · have h := lx_z1 ("SUPPRESSED_SENTINEL", Bundle.listD) (by simp)
    exact vx_Zqof (hts0 _ h.1) (hts0 _ lx_z2.1) (hfl _ h.2) (fun a h => Nat.not_le.mpr h)
