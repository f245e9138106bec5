def tie2 (k : Nat) (g r : ht_G) : Prop := tie k g r ∧ g 0 1 = r 0 2
theorem tie_start : tie2 0 ht_gA rf_gA := by
  refine ⟨⟨by decide, rfl, rfl, fun s hs => ?_, ?_, fun i hi => ?_⟩, rfl⟩
  · simp only [ht_gA, rf_gA, hs]
    decide
  · intro z hz h
    exact absurd (by simp [rf_gA, hz]) h
  · have a1 : ¬ 5 + i = 3 := by omega
    have a2 : ¬ 5 + i = 4 := by omega
    simp [tie_v, tie_i, ht_gA, rf_gA, a1, a2]
theorem tie_go {k i : Nat} (hi : i < k) : ∀ (n : Nat) (g r : ht_G), tie k g r → ¬ r 1 i = 0 → tie k (ht_go k i n g) (rf_go k i n r) := by
  intro n
  induction n with
  | zero => intro g r h _; exact h
  | succ n ih =>
    intro g r h ht
    have hk := h.1
    obtain ⟨hv, hn⟩ := h.2.2.2.2.2 i (by omega)
    obtain ⟨t1, t2, t3, t4, t5⟩ := hn.2.2.2.2.2 ht
    obtain ⟨l1, l2, l3⟩ := hn.2.2.2.2.1 t1
    have hinc := tn_inc (a := r 3 i) (by omega) (by omega)
    simp only [ht_go, rf_go]
    rw [hv.2.2.1, hv.2.2.2.2.2.1]
    by_cases c : r 6 i ≤ r 3 i
    · rw [if_pos c, if_pos (by rw [Int32.lt_iff_toInt_lt, hinc]; rw [Int32.le_iff_toInt_le] at c; omega)]
      exact h
    · rw [if_neg c, if_neg (by rw [Int32.lt_iff_toInt_lt, hinc]; rw [Int32.le_iff_toInt_le] at c; omega)]
      have hst : ht_stood g k (r 3 i + 1) (r 3 i + 1) = true ↔ 0 ≤ rf_so r k (r 3 i + 1) (nI i) := by
        rw [tie_stood h, tie_so h, hinc]
        constructor
        · rintro ⟨j, a, b, c1, d⟩
          refine ⟨j, a, fun q => ?_, b, d, c1⟩
          have e := (nI_eq (by omega) (by omega)).mp q
          subst e
          omega
        · rintro ⟨j, a, -, b, c1, d⟩
          exact ⟨j, a, b, d, c1⟩
      by_cases d : 0 ≤ rf_so r k (r 3 i + 1) (nI i)
      · rw [if_pos d, if_pos (hst.mpr d)]
        exact h
      · rw [if_neg d, if_neg (fun q => d (hst.mp q))]
        refine ih _ _ (h.upd (j := i) (Nat.le_refl _) hk ((ht_up_r (by omega)).trans h.2.1) ((ht_up_r (by decide)).trans h.2.2.1) (fun a c _ hne => ht_up_r hne) (fun a c _ hne => ?_) ?_ ?_) (by rw [ht_up_r (by decide)]; exact ht)
        · rcases hne with q | q
          · exact ht_up_r (by omega)
          · exact ht_up_k q
        · obtain ⟨v0, v1, v2, v3, v4, v5, v6, v7, v8, v9, v10, v11, v12⟩ := hv
          simp [tie_v, ht_up, v0, v1, v2, v3, v4, v5, v6, v7, v8, v9, v10, v11, v12]
        · rw [Int32.le_iff_toInt_le] at c
          simp (discharger := decide) only [tie_i, ht_up_s, ht_up_r]
          rw [hinc]
          have hb := hn.2.1.2
          exact ⟨hn.1, hn.2.1, hn.2.2.1, hn.2.2.2.1, fun _ => ⟨l1, by omega, by omega⟩, fun _ => ⟨t1, t2, t3, by omega, by omega⟩⟩
theorem tie_mv {k i : Nat} {g r : ht_G} (hi : i < k) (h : tie k g r) : tie k (ht_mv k i g) (rf_mv k i r) := by
  have hk := h.1
  obtain ⟨hv, hn⟩ := h.2.2.2.2.2 i (by omega)
  unfold ht_mv rf_mv
  rw [hv.1, hv.2.2.2.2.1]
  by_cases c : r 1 i = 0
  · rw [if_pos c, hn.2.2.2.1 c]
    exact h
  · rw [if_neg c]
    exact tie_go hi _ _ _ h c
theorem tie_mvs {k : Nat} {g r : ht_G} (h : tie k g r) : ∀ n, n ≤ k → tie k (ht_it (ht_mv k) n g) (ht_it (rf_mv k) n r) := by
  intro n
  induction n with
  | zero => intro _; exact h
  | succ n ih => intro hn; exact tie_mv (by omega) (ih (by omega))
theorem tie_rp {k i : Nat} {g r : ht_G} (hi : i < k) (h : tie k g r) : tie k (ht_rp i g) (rf_rp i r) := by
  have hk := h.1
  obtain ⟨hv, hn⟩ := h.2.2.2.2.2 i (by omega)
  unfold ht_rp rf_rp
  rw [hv.1, hv.2.2.2.2.2.2.1]
  by_cases c : r 1 i = 0
  · rw [if_pos c, if_pos c]
    exact h
  · rw [if_neg c, if_neg c]
    obtain ⟨t1, t2, t3, t4, t5⟩ := hn.2.2.2.2.2 c
    obtain ⟨l1, l2, l3⟩ := hn.2.2.2.2.1 t1
    have hlast := tie_last hn t1
    have hlv := tie_lastv hv
    obtain ⟨v0, v1, v2, v3, v4, v5, v6, v7, v8, v9, v10, v11, v12⟩ := hv
    by_cases d : r 7 i = 0
    · rw [if_pos d, if_pos d]
      refine h.upd (j := i) (Nat.le_refl _) hk ((ht_send_o (Or.inl (by decide)) g).trans h.2.1) ?_ ?_ ?_ ?_ ?_
      · rw [rf_rep_o (by decide), ht_up_r (by decide)]
        exact h.2.2.1
      · intro a c1 _ hne
        simp only [ht_send, ht_up_r hne]
      · intro a c1 _ hne
        rcases hne with q | q
        · rw [rf_rep_o (by omega), ht_up_r (by omega)]
        · simp only [rf_rep, ht_up_k q]
      · have n0 : ¬ r 10 i < 0 := by rw [Int32.lt_iff_toInt_lt, tn_0]; omega
        simp only [ht_last, rf_last] at hlv
        simp [tie_v, ht_send, rf_rep, ht_up, v0, v1, v2, v3, v4, v5, v6, v7, v11, ht_last, rf_last, n0]
      · simp (discharger := decide) only [tie_i, rf_rep, ht_up_s, ht_up_r, rf_last]
        simp only [rf_last] at hlast
        rw [hlast]
        exact ⟨hn.1, hn.2.1, hn.2.2.1, hn.2.2.2.1, hn.2.2.2.2.1, fun _ => ⟨t1, by omega, by omega, by omega, by omega⟩⟩
    · rw [if_neg d, if_neg d]
      refine h.upd (j := i) (Nat.le_refl _) hk ((ht_up_r (by omega)).trans h.2.1) ((ht_up_r (by decide)).trans h.2.2.1) (fun a c _ hne => ht_up_r hne) (fun a c _ hne => ?_) ?_ ?_
      · rcases hne with q | q
        · exact ht_up_r (by omega)
        · exact ht_up_k q
      · simp [tie_v, ht_up, v0, v1, v2, v3, v4, v5, v6, v7, v8, v9, v10, v11, v12]
      · simp (discharger := decide) only [tie_i, ht_up_r]
        exact hn
theorem tie_rps {k : Nat} {g r : ht_G} (h : tie k g r) : ∀ n, n ≤ k → tie k (ht_it ht_rp n g) (ht_it rf_rp n r) := by
  intro n
  induction n with
  | zero => intro _; exact h
  | succ n ih => intro hn; exact tie_rp (by omega) (ih (by omega))
theorem tie_tick {k : Nat} {g r : ht_G} (h : tie2 k g r) : tie2 k (ht_tick k g) (rf_tick k r) := by
  have h0 : tie k g (ht_up r 0 2 (r 0 2 + 1)) := h.1.row0 rfl (ht_up_k (by decide)) (fun _ _ _ => rfl) (fun a c ha => ht_up_r (by omega))
  have h1 := tie_find (tie_rps (tie_mvs h0 k (Nat.le_refl _)) k (Nat.le_refl _))
  rw [ht_tick_eq, rf_tick_eq]
  refine ⟨h1.row0 (ht_up_k (by decide)) rfl (fun a c ha => ht_up_r (by omega)) (fun _ _ _ => rfl), ?_⟩
  rw [ht_up_s, ht_find_o (Or.inl rfl), ht_it_keep (fun _ a => ht_rp_o (Or.inl (by decide)) a), ht_it_keep (fun _ a => ht_mv_o (Or.inl (by decide)) a), rf_find_o (by decide), ht_it_keep (fun _ a => rf_rp_o (Or.inl (by decide)) a), ht_it_keep (fun _ a => rf_mv_o (Or.inl rfl) a), ht_up_s, h.2]
theorem tie_ticks {k : Nat} {g r : ht_G} (h : tie2 k g r) : ∀ n, tie2 k (ht_it (fun _ => ht_tick k) n g) (ht_it (fun _ => rf_tick k) n r) := by
  intro n
  induction n with
  | zero => exact h
  | succ n ih => rw [ht_it_c, ht_it_c]; exact tie_tick ih
