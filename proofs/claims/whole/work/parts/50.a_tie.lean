-- numbers
theorem tn_div {a b : Int32} {n : Nat} (hb : b.toInt = n) (hn : 0 < n) (h : 0 ≤ a.toInt) : (a / b).toInt = a.toInt / n := by
  have h1 := a.toInt_lt
  have h2 : a.toInt / n ≤ a.toInt := Int.ediv_le_self _ h
  have h3 : 0 ≤ a.toInt / n := Int.ediv_nonneg h (by omega)
  rw [Int32.toInt_div, hb, Int.tdiv_eq_ediv_of_nonneg h]
  exact Int.bmod_eq_of_le (by omega) (by omega)
theorem tn_10 {a : Int32} (h : 0 ≤ a.toInt) : (a / 10).toInt = a.toInt / 10 := tn_div (n := 10) rfl (by decide) h
theorem tn_30 {a : Int32} (h : 0 ≤ a.toInt) : (a / 30).toInt = a.toInt / 30 := tn_div (n := 30) rfl (by decide) h
theorem tn_sub {a b : Int32} (h1 : -2147483648 ≤ a.toInt - b.toInt) (h2 : a.toInt - b.toInt < 2147483648) : (a - b).toInt = a.toInt - b.toInt := by
  rw [Int32.toInt_sub]
  exact Int.bmod_eq_of_le (by omega) (by omega)
theorem tn_add {a b : Int32} (h1 : -2147483648 ≤ a.toInt + b.toInt) (h2 : a.toInt + b.toInt < 2147483648) : (a + b).toInt = a.toInt + b.toInt := by
  rw [Int32.toInt_add]
  exact Int.bmod_eq_of_le (by omega) (by omega)
theorem tn_1 : (1 : Int32).toInt = 1 := rfl
theorem tn_m1 : (-1 : Int32).toInt = -1 := rfl
theorem tn_0 : (0 : Int32).toInt = 0 := rfl
theorem tn_sp {a b : Int32} (ha : 0 ≤ a.toInt) (ha2 : a.toInt ≤ 1000) (hb : 0 ≤ b.toInt) (hb2 : b.toInt ≤ 1000) : (a - b + 1).toInt = a.toInt - b.toInt + 1 := by
  have e := tn_sub (a := a) (b := b) (by omega) (by omega)
  rw [tn_add (by rw [e, tn_1]; omega) (by rw [e, tn_1]; omega), e, tn_1]
theorem tn_inc {a : Int32} (ha : -1000 ≤ a.toInt) (ha2 : a.toInt ≤ 1000) : (a + 1).toInt = a.toInt + 1 := by
  rw [tn_add (by rw [tn_1]; omega) (by rw [tn_1]; omega), tn_1]
theorem tn_30s (d : Nat) : nI d * 30 = nI (d * 30) := by rw [show (30 : Int32) = nI 30 from rfl, pk_mul]
theorem tn_30e (d : Nat) : nI d * 30 + 30 - 1 = nI (d * 30 + 29) := by
  rw [tn_30s, show (30 : Int32) = nI 30 from rfl, show (1 : Int32) = nI 1 from rfl, nI_add, pk_sub (by omega), show d * 30 + 30 - 1 = d * 30 + 29 by omega]
theorem tn_10s (d : Nat) : nI d * 10 = nI (d * 10) := by rw [show (10 : Int32) = nI 10 from rfl, pk_mul]
theorem tn_10e (d : Nat) : nI d * 10 + 10 - 1 = nI (d * 10 + 9) := by
  rw [tn_10s, show (10 : Int32) = nI 10 from rfl, show (1 : Int32) = nI 1 from rfl, nI_add, pk_sub (by omega), show d * 10 + 10 - 1 = d * 10 + 9 by omega]
-- the tie of one vehicle: v the object's row, r the reference's grid
def tie_v (v : Nat → Int32) (r : ht_G) (i : Nat) : Prop :=
  v 0 = r 1 i ∧ v 1 = r 2 i ∧ v 2 = r 3 i ∧ v 3 = r 4 i ∧ v 4 = r 5 i ∧ v 5 = r 6 i ∧ v 6 = r 7 i ∧ v 7 = r 8 i ∧ v 8 = r 12 i ∧ v 9 = r 9 i ∧ v 10 = r 11 i ∧ v 11 = r 10 i / 10 ∧ v 12 = (if r 13 i < 0 then r 10 i / 10 else r 13 i / 10)
def tie_i (r : ht_G) (k i : Nat) : Prop :=
  (r 8 i = 0 ∨ r 8 i = 1) ∧ (0 ≤ (r 6 i).toInt ∧ (r 6 i).toInt ≤ 119) ∧ (k ≤ i → r 1 i = 0) ∧ (r 1 i = 0 → r 5 i = 0) ∧
  (¬ r 2 i = 0 → 1 ≤ (r 4 i).toInt ∧ (r 4 i).toInt ≤ (r 3 i).toInt + 1 ∧ (r 3 i).toInt ≤ 119) ∧
  (¬ r 1 i = 0 → ¬ r 2 i = 0 ∧ 0 ≤ (r 10 i).toInt ∧ (r 10 i).toInt ≤ (r 9 i).toInt ∧ (r 9 i).toInt ≤ (r 3 i).toInt ∧ (r 3 i).toInt ≤ (r 6 i).toInt)
def tie (k : Nat) (g r : ht_G) : Prop :=
  k ≤ 8 ∧ g 0 0 = nI k ∧ r 0 1 = nI k ∧ (∀ s, s < 12 → g 1 s = r 14 s ∧ g 3 s = r 16 s ∧ 0 ≤ (r 14 s).toInt ∧ (r 14 s).toInt ≤ 3) ∧ ht_al r 16 ∧ ∀ i, i < 8 → tie_v (g (5 + i)) r i ∧ tie_i r k i
theorem tie.al {k : Nat} {g r : ht_G} (h : tie k g r) : ht_al g 3 := ht_al_of h.2.2.2.2.1 (fun z hz => (h.2.2.2.1 z hz).2.1)
theorem tie.bw {k : Nat} {g r : ht_G} (h : tie k g r) : rf_bw r := fun i hi => (h.2.2.2.2.2 i hi).2.1
theorem tie.bo {k : Nat} {g r : ht_G} (h : tie k g r) : ht_bo g 7 := fun i hi => by
  obtain ⟨hv, hi⟩ := h.2.2.2.2.2 i hi
  rw [hv.2.2.2.2.2.2.2.1]
  exact hi.1
theorem tn_en {x : Int32} (h0 : 0 ≤ x.toInt) (h1 : x.toInt ≤ 119) : ∃ a, a < 12 ∧ x / 10 = nI a := by
  refine ⟨(x.toInt / 10).toNat, by omega, ?_⟩
  apply Int32.toInt_inj.mp
  rw [tn_10 h0, nI_toInt (by omega)]
  omega
theorem tie.en {k : Nat} {g r : ht_G} (h : tie k g r) : rf_en r := fun i hi => tn_en (h.2.2.2.2.2 i hi).2.2.1.1 (h.2.2.2.2.2 i hi).2.2.1.2
theorem tie.enH {k : Nat} {g r : ht_G} (h : tie k g r) : ht_en g := fun i hi => by
  obtain ⟨hv, hi⟩ := h.2.2.2.2.2 i hi
  rw [hv.2.2.2.2.2.1]
  exact tn_en hi.2.1.1 hi.2.1.2
theorem tie_v_of {v v' : Nat → Int32} {r r' : ht_G} {i : Nat} (h : tie_v v r i) (e : ∀ c, c < 13 → v' c = v c) (e' : ∀ a, 1 ≤ a → a ≤ 13 → r' a i = r a i) : tie_v v' r' i := by
  simp only [tie_v, e 0 (by decide), e 1 (by decide), e 2 (by decide), e 3 (by decide), e 4 (by decide), e 5 (by decide), e 6 (by decide), e 7 (by decide), e 8 (by decide), e 9 (by decide), e 10 (by decide), e 11 (by decide), e 12 (by decide), e' 1 (by decide) (by decide), e' 2 (by decide) (by decide), e' 3 (by decide) (by decide), e' 4 (by decide) (by decide), e' 5 (by decide) (by decide), e' 6 (by decide) (by decide), e' 7 (by decide) (by decide), e' 8 (by decide) (by decide), e' 9 (by decide) (by decide), e' 10 (by decide) (by decide), e' 11 (by decide) (by decide), e' 12 (by decide) (by decide), e' 13 (by decide) (by decide)]
  exact h
theorem tie_i_of {r r' : ht_G} {k k' i : Nat} (h : tie_i r k i) (hk : k ≤ k') (e' : ∀ a, 1 ≤ a → a ≤ 13 → r' a i = r a i) : tie_i r' k' i := by
  simp only [tie_i, e' 1 (by decide) (by decide), e' 2 (by decide) (by decide), e' 3 (by decide) (by decide), e' 4 (by decide) (by decide), e' 5 (by decide) (by decide), e' 6 (by decide) (by decide), e' 8 (by decide) (by decide), e' 9 (by decide) (by decide), e' 10 (by decide) (by decide)]
  exact ⟨h.1, h.2.1, fun q => h.2.2.1 (Nat.le_trans hk q), h.2.2.2⟩
/-- a change at one vehicle -/
theorem tie.upd {k k' j : Nat} {g r g' r' : ht_G} (h : tie k g r) (hk : k ≤ k') (hk8 : k' ≤ 8) (e0 : g' 0 0 = nI k') (e1 : r' 0 1 = nI k') (eg : ∀ a c, 1 ≤ a → a ≠ 5 + j → g' a c = g a c) (er : ∀ a c, 1 ≤ a → (14 ≤ a ∨ c ≠ j) → r' a c = r a c)
    (hv : tie_v (g' (5 + j)) r' j) (hi : tie_i r' k' j) : tie k' g' r' := by
  refine ⟨hk8, e0, e1, fun s hs => ?_, ht_al_of h.2.2.2.2.1 (fun z _ => er 16 z (by decide) (Or.inl (by decide))), fun i hi8 => ?_⟩
  · rw [eg 1 s (by decide) (by omega), eg 3 s (by decide) (by omega), er 14 s (by decide) (Or.inl (by decide)), er 16 s (by decide) (Or.inl (by decide))]
    exact h.2.2.2.1 s hs
  · by_cases e : i = j
    · subst e; exact ⟨hv, hi⟩
    · have e' : ∀ a, 1 ≤ a → a ≤ 13 → r' a i = r a i := fun a ha _ => er a i ha (Or.inr e)
      exact ⟨tie_v_of (h.2.2.2.2.2 i hi8).1 (fun c _ => eg (5 + i) c (by omega) (by omega)) e', tie_i_of (h.2.2.2.2.2 i hi8).2 hk e'⟩
/-- rows 0 alone changed -/
theorem tie.row0 {k : Nat} {g r g' r' : ht_G} (h : tie k g r) (e0 : g' 0 0 = g 0 0) (e1 : r' 0 1 = r 0 1) (eg : ∀ a c, 1 ≤ a → g' a c = g a c) (er : ∀ a c, 1 ≤ a → r' a c = r a c) : tie k g' r' := by
  refine ⟨h.1, e0.trans h.2.1, e1.trans h.2.2.1, fun s hs => ?_, ht_al_of h.2.2.2.2.1 (fun z _ => er 16 z (by decide)), fun i hi8 => ⟨tie_v_of (h.2.2.2.2.2 i hi8).1 (fun c _ => eg (5 + i) c (by omega)) (fun a ha _ => er a i ha), tie_i_of (h.2.2.2.2.2 i hi8).2 (Nat.le_refl _) (fun a ha _ => er a i ha)⟩⟩
  rw [eg 1 s (by decide), eg 3 s (by decide), er 14 s (by decide), er 16 s (by decide)]
  exact h.2.2.2.1 s hs
theorem tie.set {k : Nat} {g r : ht_G} (h : tie k g r) (x : Int32) : tie k g (ht_up r 0 0 x) := h.row0 rfl (ht_up_k (by decide)) (fun _ _ _ => rfl) (fun a c ha => ht_up_r (by omega))
-- predicates
theorem tie_last {r : ht_G} {k i : Nat} (hi : tie_i r k i) (ht : ¬ r 2 i = 0) : (rf_last r i).toInt = (r 3 i).toInt - (r 4 i).toInt + 1 := by
  obtain ⟨a, b, c⟩ := hi.2.2.2.2.1 ht
  exact tn_sp (by omega) (by omega) (by omega) (by omega)
theorem tie_lastv {v : Nat → Int32} {r : ht_G} {i : Nat} (hv : tie_v v r i) : ht_last v = rf_last r i := by
  unfold ht_last rf_last
  rw [hv.2.2.1, hv.2.2.2.1]
theorem tie_stands {v : Nat → Int32} {r : ht_G} {k i : Nat} (hv : tie_v v r i) (hi : tie_i r k i) (lo hg : Int32) : ht_stands v lo hg = true ↔ ¬ r 2 i = 0 ∧ lo.toInt ≤ (r 3 i).toInt ∧ (r 3 i).toInt - (r 4 i).toInt + 1 ≤ hg.toInt := by
  unfold ht_stands
  rw [tie_lastv hv, hv.2.1, hv.2.2.1]
  simp only [Bool.and_eq_true, Bool.not_eq_true', decide_eq_false_iff_not, Int32.lt_iff_toInt_lt]
  constructor
  · rintro ⟨a, b, c⟩
    rw [tie_last hi a] at c
    exact ⟨a, by omega, by omega⟩
  · rintro ⟨a, b, c⟩
    rw [tie_last hi a]
    exact ⟨a, by omega, by omega⟩
theorem ht_fst0 {P : Nat → Bool} : ∀ (n v : Nat), v + n < 2 ^ 31 → (0 ≤ ht_fst P n v ↔ ∃ i, v ≤ i ∧ i < v + n ∧ P i = true) := by
  intro n
  induction n with
  | zero => intro v _; exact ⟨fun h => absurd h (show ¬ (0 : Int32) ≤ -1 by decide), fun ⟨i, a, b, _⟩ => absurd b (by omega)⟩
  | succ n ih =>
    intro v hv
    simp only [ht_fst]
    split
    · rename_i c
      exact ⟨fun _ => ⟨v, by omega, by omega, c⟩, fun _ => nI_pos' (by omega)⟩
    · rename_i c
      rw [ih (v + 1) (by omega)]
      constructor
      · rintro ⟨i, a, b, d⟩
        exact ⟨i, by omega, by omega, d⟩
      · rintro ⟨i, a, b, d⟩
        by_cases e : i = v
        · subst e; exact absurd d c
        · exact ⟨i, by omega, by omega, d⟩
theorem tie_so {k : Nat} {g r : ht_G} (h : tie k g r) (x b : Int32) : 0 ≤ rf_so r k x b ↔ ∃ i, i < k ∧ ¬ nI i = b ∧ ¬ r 2 i = 0 ∧ (r 3 i).toInt - (r 4 i).toInt + 1 ≤ x.toInt ∧ x.toInt ≤ (r 3 i).toInt := by
  have hk := h.1
  unfold rf_so
  rw [ht_fst0 _ _ (by omega)]
  constructor
  · rintro ⟨i, a, c, d⟩
    simp only [Bool.and_eq_true, Bool.not_eq_true', decide_eq_false_iff_not, Int32.lt_iff_toInt_lt] at d
    obtain ⟨d1, d2, d3, d4⟩ := d
    rw [tie_last (h.2.2.2.2.2 i (by omega)).2 d2] at d4
    exact ⟨i, by omega, d1, d2, by omega, by omega⟩
  · rintro ⟨i, a, d1, d2, d3, d4⟩
    refine ⟨i, by omega, by omega, ?_⟩
    simp only [Bool.and_eq_true, Bool.not_eq_true', decide_eq_false_iff_not, Int32.lt_iff_toInt_lt]
    rw [tie_last (h.2.2.2.2.2 i (by omega)).2 d2]
    exact ⟨d1, d2, by omega, by omega⟩
theorem tie_stood {k : Nat} {g r : ht_G} (h : tie k g r) (lo hg : Int32) : ht_stood g k lo hg = true ↔ ∃ i, i < k ∧ ¬ r 2 i = 0 ∧ lo.toInt ≤ (r 3 i).toInt ∧ (r 3 i).toInt - (r 4 i).toInt + 1 ≤ hg.toInt := by
  have hk := h.1
  unfold ht_stood
  rw [ht_ex_iff]
  constructor
  · rintro ⟨i, a, b⟩
    exact ⟨i, a, (tie_stands (h.2.2.2.2.2 i (by omega)).1 (h.2.2.2.2.2 i (by omega)).2 _ _).mp b⟩
  · rintro ⟨i, a, b⟩
    exact ⟨i, a, (tie_stands (h.2.2.2.2.2 i (by omega)).1 (h.2.2.2.2.2 i (by omega)).2 _ _).mpr b⟩
theorem tie_det {k : Nat} {g r : ht_G} (h : tie k g r) {d : Nat} (hd : d < 4) : ht_det g k (nI d) = rf_occ r k (nI d) := by
  have hk := h.1
  unfold ht_det ht_stood rf_occ
  refine ht_ex_congr (fun i hi => ?_)
  obtain ⟨hv, hi⟩ := h.2.2.2.2.2 i (by omega)
  rw [Bool.eq_iff_iff, tie_stands hv hi, tn_30e, tn_30s, nI_toInt (by omega), nI_toInt (by omega)]
  simp only [Bool.and_eq_true, Bool.not_eq_true', decide_eq_false_iff_not, Int32.lt_iff_toInt_lt]
  refine and_congr_right (fun ht => ?_)
  obtain ⟨a, b, c⟩ := hi.2.2.2.2.1 ht
  have e := tie_last hi ht
  rw [tn_30 (by omega), tn_30 (by omega), e, nI_toInt (by omega)]
  omega
theorem tie_sec {k : Nat} {g r : ht_G} (h : tie k g r) {z : Nat} (hz : z < 12) : ht_sec g k (nI z) = rf_stood r k z := by
  have hk := h.1
  unfold ht_sec rf_stood
  rw [Bool.eq_iff_iff, tie_stood h, ht_ex_iff, tn_10e, tn_10s, nI_toInt (by omega), nI_toInt (by omega)]
  constructor
  · rintro ⟨i, a, b, c, d⟩
    obtain ⟨a1, a2, a3⟩ := (h.2.2.2.2.2 i (by omega)).2.2.2.2.2.1 b
    -- a place of both
    refine ⟨(max ((r 3 i).toInt - (r 4 i).toInt + 1) (z * 10) - z * 10).toNat, by omega, ?_⟩
    simp only [Bool.not_eq_true', decide_eq_false_iff_not, Int32.not_lt]
    rw [tie_so h]
    refine ⟨i, a, ?_, b, ?_, ?_⟩
    · intro q
      have := congrArg Int32.toInt q
      rw [nI_toInt (by omega), tn_m1] at this
      omega
    · rw [nI_toInt (by omega)]; omega
    · rw [nI_toInt (by omega)]; omega
  · rintro ⟨p, hp, q⟩
    simp only [Bool.not_eq_true', decide_eq_false_iff_not, Int32.not_lt] at q
    rw [tie_so h] at q
    obtain ⟨i, a, -, b, c, d⟩ := q
    rw [nI_toInt (by omega)] at c d
    exact ⟨i, a, b, by omega, by omega⟩
theorem tie_mute {v : Nat → Int32} {r : ht_G} {i : Nat} (hv : tie_v v r i) : ht_mute v = (!decide (r 1 i = 0) && rf_mute r i) := by
  unfold ht_mute rf_mute
  rw [hv.1, hv.2.2.2.2.2.2.2.2.1]
theorem tie_loc {v : Nat → Int32} {r : ht_G} {i : Nat} (hv : tie_v v r i) (s : Int32) : ht_locOn v s = rf_loc r i s := by
  unfold ht_locOn rf_loc
  rw [tie_mute hv, hv.1, hv.2.2.2.2.2.2.2.2.2.1, hv.2.2.2.2.2.2.2.2.2.2.2.1]
  by_cases e : r 1 i = 0 <;> simp [e]
theorem tie_claims {v : Nat → Int32} {r : ht_G} {i : Nat} (hv : tie_v v r i) (s : Int32) : ht_claims v s s = rf_claims r i s := by
  unfold ht_claims rf_claims
  rw [hv.1, hv.2.2.2.2.2.1, hv.2.2.2.2.2.2.2.2.2.2.2.1]
theorem tie_claimed {k : Nat} {g r : ht_G} (h : tie k g r) (s b : Int32) : ht_claimed g k s s b = rf_claimed r k s b := by
  have hk := h.1
  unfold ht_claimed rf_claimed
  exact ht_ex_congr (fun i hi => by rw [tie_claims (h.2.2.2.2.2 i (by omega)).1])
theorem tie_claimsI {v : Nat → Int32} {r : ht_G} {k i : Nat} (hv : tie_v v r i) (hi : tie_i r k i) (a b : Int32) : ht_claims v a b = true ↔ ¬ r 1 i = 0 ∧ (r 10 i).toInt / 10 ≤ b.toInt ∧ a.toInt ≤ (r 6 i).toInt / 10 := by
  unfold ht_claims
  rw [hv.1, hv.2.2.2.2.2.1, hv.2.2.2.2.2.2.2.2.2.2.2.1]
  simp only [Bool.and_eq_true, Bool.not_eq_true', decide_eq_false_iff_not, Int32.lt_iff_toInt_lt]
  refine and_congr_right (fun ht => ?_)
  rw [tn_10 (hi.2.2.2.2.2 ht).2.1, tn_10 hi.2.1.1]
  omega
theorem tie_claimsR {r : ht_G} {k i : Nat} (hi : tie_i r k i) (a : Int32) : rf_claims r i a = true ↔ ¬ r 1 i = 0 ∧ (r 10 i).toInt / 10 ≤ a.toInt ∧ a.toInt ≤ (r 6 i).toInt / 10 := by
  unfold rf_claims
  simp only [Bool.and_eq_true, Bool.not_eq_true', decide_eq_false_iff_not, Int32.lt_iff_toInt_lt]
  refine and_congr_right (fun ht => ?_)
  rw [tn_10 (hi.2.2.2.2.2 ht).2.1, tn_10 hi.2.1.1]
  omega
theorem tie_claimM {k : Nat} {g r : ht_G} (h : tie k g r) (s : Int32) : ht_claimM g k s s = ht_ex (fun t => !decide (r 1 t = 0) && (rf_mute r t && rf_claims r t s)) k := by
  have hk := h.1
  unfold ht_claimM
  exact ht_ex_congr (fun i hi => by rw [tie_claims (h.2.2.2.2.2 i (by omega)).1, tie_mute (h.2.2.2.2.2 i (by omega)).1, Bool.and_assoc])
