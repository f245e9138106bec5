-- an operation: what the object answers and what the reference answers
def tieO (o : Int32 × Int32 × ht_G) (m : Int32 × ht_G) : Prop := m.2 0 0 = o.1 ∧ (o.1 = 0 → o.2.1 = m.1) ∧ ∃ k', tie2 k' o.2.2 m.2
theorem tie2.set {k : Nat} {g r : ht_G} (h : tie2 k g r) (x : Int32) : tie2 k g (ht_up r 0 0 x) := ⟨h.1.set x, h.2.trans (ht_up_k (by decide)).symm⟩
theorem tieO.bad {k : Nat} {g r : ht_G} (h : tie2 k g r) (c a b : Int32) (hc : ¬ c = 0) : tieO (c, a, g) (b, ht_up r 0 0 c) := ⟨ht_up_s r 0 0 c, fun q => absurd q hc, k, h.set c⟩
theorem tieO.mk {c a b : Int32} {g r : ht_G} {k' : Nat} (h1 : r 0 0 = c) (h2 : c = 0 → a = b) (h3 : tie2 k' g r) : tieO (c, a, g) (b, r) := ⟨h1, h2, k', h3⟩
theorem tie_in {k : Nat} (hk : k ≤ 8) (x : Int32) : rf_in x 0 (nI k - 1) = (!decide (x < 0) && !decide (nI k ≤ x)) := by
  have e : nI k - 1 < x ↔ nI k ≤ x := by
    rw [Int32.lt_iff_toInt_lt, Int32.le_iff_toInt_le, show (1 : Int32) = nI 1 from rfl, pk_sub_toInt (by omega) (by omega), nI_toInt (by omega)]
    omega
  unfold rf_in
  rw [decide_eq_decide.mpr e]
theorem tie_on {k : Nat} {g r : ht_G} (h : tie k g r) (x : Int32) : ht_on g k x = (rf_in x 0 (nI k - 1) && !decide (r 2 x.toNatClampNeg = 0)) := by
  have hk := h.1
  by_cases c : rf_in x 0 (nI k - 1) = true
  · obtain ⟨j, hj, ej, cj⟩ := rf_ix hk c
    rw [tie_in hk] at c ⊢
    unfold ht_on
    rw [← Bool.and_assoc, c, cj, (h.2.2.2.2.2 j (by omega)).1.2.1]
  · rw [Bool.eq_false_iff.mpr c, Bool.false_and]
    rw [tie_in hk] at c
    unfold ht_on
    rw [← Bool.and_assoc, Bool.eq_false_iff.mpr c, Bool.false_and]
theorem tie_tr {k : Nat} {g r : ht_G} (h : tie k g r) (x : Int32) : ht_tr g k x = rf_isT r k x := by
  have hk := h.1
  unfold ht_tr rf_isT
  rw [tie_on h]
  by_cases c : rf_in x 0 (nI k - 1) = true
  · obtain ⟨j, hj, ej, cj⟩ := rf_ix hk c
    obtain ⟨hv, hn⟩ := h.2.2.2.2.2 j (by omega)
    rw [c, cj, hv.1]
    by_cases t : r 1 j = 0
    · simp [t]
    · simp [t, (hn.2.2.2.2.2 t).1]
  · rw [Bool.eq_false_iff.mpr c]
    rfl
theorem tie_isT {k : Nat} {g r : ht_G} (h : tie k g r) {x : Int32} (c : ¬ rf_isT r k x = false) : ∃ j, j < k ∧ j < 8 ∧ x = nI j ∧ x.toNatClampNeg = j ∧ ¬ r 1 j = 0 := by
  have c : rf_isT r k x = true := by simpa using c
  obtain ⟨j, hj, ej, cj⟩ := rf_isT_ix h.1 c
  have hk := h.1
  refine ⟨j, hj, by omega, ej, cj, ?_⟩
  unfold rf_isT at c
  rw [Bool.and_eq_true, cj] at c
  simpa using c.2
theorem rf_in_f {y a b : Int32} : rf_in y a b = false ↔ (y < a ∨ b < y) := by
  unfold rf_in
  by_cases c : y < a <;> by_cases d : b < y <;> simp [c, d]
theorem tie_cell {k j a b : Nat} {g r : ht_G} {x : Int32} (h : tie2 k g r) (hb : 1 ≤ b) (hb2 : b ≤ 13) (hv : tie_v (ht_up g (5 + j) a x (5 + j)) (ht_up r b j x) j) (hi : tie_i (ht_up r b j x) k j) : tie2 k (ht_up g (5 + j) a x) (ht_up r b j x) := by
  refine ⟨h.1.upd (j := j) (Nat.le_refl _) h.1.1 ((ht_up_r (by omega)).trans h.1.2.1) ((ht_up_r (by omega)).trans h.1.2.2.1) (fun a c _ hne => ht_up_r hne) (fun a c _ hne => ?_) hv hi, ?_⟩
  · rcases hne with q | q
    · exact ht_up_r (by omega)
    · exact ht_up_k q
  · rw [ht_up_r (by omega), ht_up_r (by omega)]
    exact h.2
theorem tie_drive {k : Nat} {g r : ht_G} (h : tie2 k g r) (hz : r 0 0 = 0) (x y : Int32) : tieO (ht_oDrive g k x y) (rf_oDrive r k x y) := by
  unfold ht_oDrive rf_oDrive
  rw [tie_tr h.1]
  by_cases c : rf_isT r k x = false
  · rw [if_pos c, if_pos c]; exact tieO.bad h _ _ _ (by decide)
  rw [if_neg c, if_neg c]
  by_cases d : rf_in y 0 9 = false
  · rw [if_pos d, if_pos (by rw [rf_in_f] at d; rw [Int32.not_le]; exact d)]; exact tieO.bad h _ _ _ (by decide)
  rw [if_neg d, if_neg (by rw [rf_in_f] at d; rw [Int32.not_le]; exact d)]
  obtain ⟨j, hj, h8, ej, cj, ht⟩ := tie_isT h.1 c
  rw [cj]
  obtain ⟨hv, hn⟩ := h.1.2.2.2.2.2 j h8
  refine tieO.mk ((ht_up_r (by decide)).trans hz) (fun _ => hv.2.2.2.2.1) (tie_cell h (by decide) (by decide) ?_ ?_)
  · obtain ⟨v0, v1, v2, v3, v4, v5, v6, v7, v8, v9, v10, v11, v12⟩ := hv
    simp [tie_v, ht_up, v0, v1, v2, v3, v5, v6, v7, v8, v9, v10, v11, v12]
  · simp (discharger := decide) only [tie_i, ht_up_s, ht_up_r]
    exact ⟨hn.1, hn.2.1, hn.2.2.1, fun q => absurd q ht, hn.2.2.2.2⟩
theorem tie_silence {k : Nat} {g r : ht_G} (h : tie2 k g r) (hz : r 0 0 = 0) (x y : Int32) : tieO (ht_oSilence g k x y) (rf_oSilence r k x y) := by
  unfold ht_oSilence rf_oSilence
  rw [tie_tr h.1]
  by_cases c : rf_isT r k x = false
  · rw [if_pos c, if_pos c]; exact tieO.bad h _ _ _ (by decide)
  rw [if_neg c, if_neg c]
  obtain ⟨j, hj, h8, ej, cj, ht⟩ := tie_isT h.1 c
  rw [cj]
  obtain ⟨hv, hn⟩ := h.1.2.2.2.2.2 j h8
  refine tieO.mk ((ht_up_r (by decide)).trans hz) (fun _ => by show (if g (5 + j) 6 = y then (0 : Int32) else 1) = (if r 7 j = y then (0 : Int32) else 1); rw [hv.2.2.2.2.2.2.1]) (tie_cell h (by decide) (by decide) ?_ ?_)
  · obtain ⟨v0, v1, v2, v3, v4, v5, v6, v7, v8, v9, v10, v11, v12⟩ := hv
    simp [tie_v, ht_up, v0, v1, v2, v3, v4, v5, v7, v8, v9, v10, v11, v12]
  · simp (discharger := decide) only [tie_i, ht_up_r]
    exact hn
theorem tie_relent {k : Nat} {g r : ht_G} (h : tie2 k g r) (hz : r 0 0 = 0) (x : Int32) : tieO (ht_oRelent g k x) (rf_oRelent r k x) := by
  unfold ht_oRelent rf_oRelent
  rw [tie_tr h.1]
  by_cases c : rf_isT r k x = false
  · rw [if_pos c, if_pos c]; exact tieO.bad h _ _ _ (by decide)
  rw [if_neg c, if_neg c]
  obtain ⟨j, hj, h8, ej, cj, ht⟩ := tie_isT h.1 c
  rw [cj]
  obtain ⟨hv, hn⟩ := h.1.2.2.2.2.2 j h8
  rw [hv.2.2.2.2.2.2.1, hv.2.2.2.2.2.1, hv.2.2.1]
  by_cases d : r 7 j = 0
  · rw [if_neg (fun q => q d), if_neg (fun q => q d)]
    obtain ⟨t1, t2, t3, t4, t5⟩ := hn.2.2.2.2.2 ht
    obtain ⟨l1, l2, l3⟩ := hn.2.2.2.2.1 t1
    refine tieO.mk ((ht_up_r (by decide)).trans hz) (fun _ => rfl) (tie_cell h (by decide) (by decide) ?_ ?_)
    · obtain ⟨v0, v1, v2, v3, v4, v5, v6, v7, v8, v9, v10, v11, v12⟩ := hv
      simp [tie_v, ht_up, v0, v1, v2, v3, v4, v6, v7, v8, v9, v10, v11, v12]
    · simp (discharger := decide) only [tie_i, ht_up_s, ht_up_r]
      exact ⟨hn.1, ⟨by omega, by omega⟩, hn.2.2.1, hn.2.2.2.1, hn.2.2.2.2.1, fun _ => ⟨t1, t2, t3, t4, by omega⟩⟩
  · rw [if_pos d, if_pos d]; exact tieO.bad h _ _ _ (by decide)
theorem tie_confirm {k : Nat} {g r : ht_G} (h : tie2 k g r) (hz : r 0 0 = 0) (x : Int32) : tieO (ht_oConfirm g k x) (rf_oConfirm r k x) := by
  unfold ht_oConfirm rf_oConfirm
  rw [tie_tr h.1]
  by_cases c : rf_isT r k x = false
  · rw [if_pos c, if_pos c]; exact tieO.bad h _ _ _ (by decide)
  rw [if_neg c, if_neg c]
  obtain ⟨j, hj, h8, ej, cj, ht⟩ := tie_isT h.1 c
  rw [cj]
  obtain ⟨hv, hn⟩ := h.1.2.2.2.2.2 j h8
  rw [hv.2.2.2.2.2.2.2.1, hv.2.2.2.2.2.2.2.2.2.2.1, hv.2.2.2.1]
  by_cases d : ¬ r 8 j = 0 ∨ ¬ r 11 j = 0
  · rw [if_pos d, if_pos d]; exact tieO.bad h _ _ _ (by decide)
  · rw [if_neg d, if_neg d]
    refine tieO.mk ((ht_up_r (by decide)).trans hz) (fun _ => rfl) (tie_cell h (by decide) (by decide) ?_ ?_)
    · obtain ⟨v0, v1, v2, v3, v4, v5, v6, v7, v8, v9, v10, v11, v12⟩ := hv
      simp [tie_v, ht_up, v0, v1, v2, v3, v4, v5, v6, v8, v9, v10, v11, v12]
    · simp (discharger := decide) only [tie_i, ht_up_s, ht_up_r]
      exact ⟨Or.inr trivial, hn.2⟩
theorem tie_clear {k : Nat} {g r : ht_G} (h : tie2 k g r) (hz : r 0 0 = 0) (x : Int32) : tieO (ht_oClear g k x) (rf_oClear r k x) := by
  have hk := h.1.1
  unfold ht_oClear rf_oClear
  rw [tie_on h.1]
  by_cases c : rf_in x 0 (nI k - 1) = true
  · obtain ⟨j, hj, ej, cj⟩ := rf_ix hk c
    obtain ⟨hv, hn⟩ := h.1.2.2.2.2.2 j (by omega)
    rw [c, cj, hv.1, hv.2.2.2.1]
    by_cases t : r 1 j = 0
    · by_cases u : r 2 j = 0
      · rw [if_pos (by simp [u]), if_pos (by simp [u])]; exact tieO.bad h _ _ _ (by decide)
      · rw [if_neg (by simp [u, t]), if_neg (by simp [u, t])]
        refine tieO.mk ((ht_up_r (by decide)).trans hz) (fun _ => rfl) (tie_cell h (by decide) (by decide) ?_ ?_)
        · obtain ⟨v0, v1, v2, v3, v4, v5, v6, v7, v8, v9, v10, v11, v12⟩ := hv
          simp [tie_v, ht_up, v0, v2, v3, v4, v5, v6, v7, v8, v9, v10, v11, v12]
        · simp (discharger := decide) only [tie_i, ht_up_s, ht_up_r]
          exact ⟨hn.1, hn.2.1, hn.2.2.1, hn.2.2.2.1, fun q => absurd trivial q, fun q => absurd t q⟩
    · rw [if_pos (by simp [t]), if_pos (by simp [t])]; exact tieO.bad h _ _ _ (by decide)
  · have c := Bool.eq_false_iff.mpr c
    rw [if_pos (Or.inl (by rw [c]; rfl)), if_pos (Or.inl c)]; exact tieO.bad h _ _ _ (by decide)
theorem tie_state {k : Nat} {g r : ht_G} (h : tie2 k g r) (hz : r 0 0 = 0) (x : Int32) : tieO (ht_oState g x) (rf_oState r k x) := by
  unfold ht_oState rf_oState
  have e : (x < 0 ∨ ¬ x < 12) ↔ rf_in x 0 11 = false := by
    rw [rf_in_f, Int32.lt_iff_toInt_lt, Int32.lt_iff_toInt_lt, Int32.lt_iff_toInt_lt, show (12 : Int32).toInt = 12 from rfl, show (11 : Int32).toInt = 11 from rfl]
    omega
  by_cases d : rf_in x 0 11 = false
  · rw [if_pos d, if_pos (e.mpr d)]; exact tieO.bad h _ _ _ (by decide)
  · rw [if_neg d, if_neg (fun q => d (e.mp q))]
    obtain ⟨j, hj, -, cj⟩ := rf_ix12 (x := x) (by simpa using d)
    rw [cj]
    exact tieO.mk hz (fun _ => (h.1.2.2.2.1 j hj).1) h
theorem tie_detected {k : Nat} {g r : ht_G} (h : tie2 k g r) (hz : r 0 0 = 0) (x : Int32) : tieO (ht_oDet g k x) (rf_oDet r k x) := by
  unfold ht_oDet rf_oDet
  have e : (x < 0 ∨ ¬ x < 4) ↔ rf_in x 0 3 = false := by
    rw [rf_in_f, Int32.lt_iff_toInt_lt, Int32.lt_iff_toInt_lt, Int32.lt_iff_toInt_lt, show (4 : Int32).toInt = 4 from rfl, show (3 : Int32).toInt = 3 from rfl]
    omega
  by_cases d : rf_in x 0 3 = false
  · rw [if_pos d, if_pos (e.mpr d)]; exact tieO.bad h _ _ _ (by decide)
  · rw [if_neg d, if_neg (fun q => d (e.mp q))]
    rw [rf_in_f] at d
    obtain ⟨j, hj, ej⟩ := nI_of2 (M := 3) (n := 3) rfl (fun q => d (Or.inl q)) (Int32.not_lt.mp (fun q => d (Or.inr q)))
    subst ej
    exact tieO.mk hz (fun _ => by show ht_b (ht_det g k (nI j)) = ht_b (rf_occ r k (nI j)); rw [tie_det h.1 (by omega)]) h
theorem tie_vehicle {k : Nat} {g r : ht_G} (h : tie2 k g r) (hz : r 0 0 = 0) (x y : Int32) : tieO (ht_oVehicle g k x y) (rf_oVehicle r k x y) := by
  have hk := h.1.1
  unfold ht_oVehicle rf_oVehicle
  rw [tie_on h.1]
  by_cases c : rf_in x 0 (nI k - 1) = true
  · obtain ⟨j, hj, ej, cj⟩ := rf_ix hk c
    obtain ⟨hv, hn⟩ := h.1.2.2.2.2.2 j (by omega)
    rw [c, cj, hv.1]
    by_cases u : r 2 j = 0
    · rw [if_pos (by simp [u]), if_pos (by simp [u])]; exact tieO.bad h _ _ _ (by decide)
    · rw [if_neg (show ¬ (true && !decide (r 2 j = 0)) = false by simp [u]), if_neg (show ¬ (true = false ∨ r 2 j = 0) by simp [u])]
      by_cases d : rf_in y 0 5 = false
      · rw [if_pos d, if_pos (by rw [rf_in_f] at d; rw [Int32.not_le]; exact d)]; exact tieO.bad h _ _ _ (by decide)
      · rw [if_neg d, if_neg (by rw [rf_in_f] at d; rw [Int32.not_le]; exact d)]
        have e : (¬ y < 2 ∧ r 1 j = 0) ↔ (¬ y ≤ 1 ∧ r 1 j = 0) := by
          rw [Int32.lt_iff_toInt_lt, Int32.le_iff_toInt_le, show (2 : Int32).toInt = 2 from rfl, tn_1]
          exact and_congr_left (fun _ => by omega)
        by_cases t : ¬ y ≤ 1 ∧ r 1 j = 0
        · rw [if_pos t, if_pos (e.mpr t)]; exact tieO.bad h _ _ _ (by decide)
        · rw [if_neg t, if_neg (fun q => t (e.mp q))]
          refine tieO.mk hz (fun _ => ?_) h
          show (if y = 0 then g (5 + j) 2 else if y = 1 then g (5 + j) 3 else if y = 2 then g (5 + j) 5 else if y = 3 then g (5 + j) 8 else if y = 4 then g (5 + j) 9 else if g (5 + j) 7 = 0 then 0 else 1) = (if y = 0 then r 3 j else if y = 1 then r 4 j else if y = 2 then r 6 j else if y = 3 then r 12 j else if y = 4 then r 9 j else if r 8 j = 0 then 0 else 1)
          rw [hv.2.2.1, hv.2.2.2.1, hv.2.2.2.2.2.1, hv.2.2.2.2.2.2.2.2.1, hv.2.2.2.2.2.2.2.2.2.1, hv.2.2.2.2.2.2.2.1]
  · have c := Bool.eq_false_iff.mpr c
    rw [if_pos (by rw [c]; rfl), if_pos (Or.inl c)]; exact tieO.bad h _ _ _ (by decide)
theorem tie_cs {k : Nat} {g r : ht_G} (h : tie k g r) (x : Int32) : ht_in g x = rf_cs r x := by
  unfold ht_in rf_cs
  exact ht_num_congr (fun s hs => by rw [(h.2.2.2.1 s hs).1])
theorem tie_tickO {k : Nat} {g r : ht_G} (h : tie2 k g r) (hz : r 0 0 = 0) (x : Int32) : tieO (ht_oTick g k x) (rf_oTick r k x) := by
  unfold ht_oTick rf_oTick
  by_cases d : rf_in x 1 6 = false
  · rw [if_pos d, if_pos (by rw [rf_in_f] at d; rw [Int32.not_le]; exact d)]; exact tieO.bad h _ _ _ (by decide)
  · rw [if_neg d, if_neg (by rw [rf_in_f] at d; rw [Int32.not_le]; exact d)]
    generalize x.toNatClampNeg = n
    have ht := tie_ticks h n
    have h0 : ∀ n, ht_it (fun _ => rf_tick k) n r 0 0 = r 0 0 := fun n => ht_it_keep (fun _ a => by
      rw [rf_tick_eq, rf_find_o (by decide), ht_it_keep (fun _ a => rf_rp_o (Or.inl (by decide)) a), ht_it_keep (fun _ a => rf_mv_o (Or.inl rfl) a), ht_up_k (by decide)]) n r
    exact tieO.mk ((h0 n).trans hz) (fun _ => by show nI (ht_in _ 0) = nI (rf_cs _ 0); rw [tie_cs ht.1]) ht
theorem tie_count {k : Nat} {g r : ht_G} (h : tie2 k g r) (hz : r 0 0 = 0) (y : Int32) : tieO (ht_oCount g k y) (rf_oCount r k y) := by
  have hk := h.1.1
  unfold ht_oCount rf_oCount
  by_cases c0 : y = 0
  · rw [if_pos c0, if_pos c0]
    exact tieO.mk hz (fun _ => h.1.2.1.trans h.1.2.2.1.symm) h
  rw [if_neg c0, if_neg c0]
  by_cases c1 : y = 1
  · rw [if_pos c1, if_pos c1]
    refine tieO.mk hz (fun _ => ?_) h
    show nI (ht_trains g k) = nI (ht_num (fun v => !decide (r 1 v = 0)) k)
    unfold ht_trains
    rw [ht_num_congr (fun i hi => by rw [(h.1.2.2.2.2.2 i (by omega)).1.1])]
  rw [if_neg c1, if_neg c1]
  by_cases c2 : y = 2
  · rw [if_pos c2, if_pos (Or.inl c2), c2]
    exact tieO.mk hz (fun _ => by show nI (ht_in g 0) = nI (rf_cs r (2 - 2)); rw [tie_cs h.1]; rfl) h
  rw [if_neg c2]
  by_cases c3 : y = 3
  · rw [if_pos c3, if_pos (Or.inr (Or.inl c3)), c3]
    exact tieO.mk hz (fun _ => by show nI (ht_in g 1) = nI (rf_cs r (3 - 2)); rw [tie_cs h.1]; rfl) h
  rw [if_neg c3]
  by_cases c4 : y = 4
  · rw [if_pos c4, if_pos (Or.inr (Or.inr (Or.inl c4))), c4]
    exact tieO.mk hz (fun _ => by show nI (ht_in g 2) = nI (rf_cs r (4 - 2)); rw [tie_cs h.1]; rfl) h
  rw [if_neg c4]
  by_cases c5 : y = 5
  · rw [if_pos c5, if_pos (Or.inr (Or.inr (Or.inr c5))), c5]
    exact tieO.mk hz (fun _ => by show nI (ht_in g 3) = nI (rf_cs r (5 - 2)); rw [tie_cs h.1]; rfl) h
  rw [if_neg c5, if_neg (show ¬ (y = 2 ∨ y = 3 ∨ y = 4 ∨ y = 5) from fun q => q.elim c2 (fun q => q.elim c3 (fun q => q.elim c4 c5)))]
  by_cases c6 : y = 6
  · rw [if_pos c6, if_pos c6]
    refine tieO.mk hz (fun _ => ?_) h
    show nI (ht_wrong g k) = nI (ht_num (fun s => decide (r 14 s = 0) && (!rf_claimed r k (nI s) (-1) && rf_stood r k s)) 12)
    unfold ht_wrong
    rw [ht_num_congr (fun s hs => by rw [(h.1.2.2.2.1 s hs).1, tie_claimed h.1, tie_sec h.1 hs])]
  rw [if_neg c6, if_neg c6]
  by_cases c7 : y = 7
  · rw [if_pos c7, if_pos c7]
    exact tieO.mk hz (fun _ => h.2) h
  rw [if_neg c7, if_neg c7]
  exact tieO.bad h _ _ _ (by decide)
