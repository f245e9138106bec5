theorem tie_8 {k : Nat} {g r : ht_G} (h : tie k g r) : (¬ g 0 0 < 8) ↔ r 0 1 = 8 := by
  have hk := h.1
  rw [h.2.1, h.2.2.1]
  constructor
  · intro q
    have : ¬ k < 8 := fun w => q ((nI_ltI (b := 8) (by omega) (by omega)).mpr w)
    rw [show k = 8 by omega]; rfl
  · intro q w
    have e := (nI_eq (b := 8) (by omega) (by omega)).mp q
    have e2 := (nI_ltI (b := 8) (by omega) (by omega)).mp w
    omega
theorem tie_lose {k : Nat} {g r : ht_G} (h : tie2 k g r) (hz : r 0 0 = 0) (x y : Int32) : tieO (ht_oLose g k x y) (rf_oLose r k x y) := by
  have hk := h.1.1
  unfold ht_oLose rf_oLose
  rw [tie_tr h.1]
  by_cases c : rf_isT r k x = false
  · rw [if_pos c, if_pos c]; exact tieO.bad h _ _ _ (by decide)
  rw [if_neg c, if_neg c]
  obtain ⟨j, hj, h8, ej, cj, ht⟩ := tie_isT h.1 c
  rw [cj]
  obtain ⟨hv, hn⟩ := h.1.2.2.2.2.2 j h8
  obtain ⟨t1, t2, t3, t4, t5⟩ := hn.2.2.2.2.2 ht
  obtain ⟨l1, l2, l3⟩ := hn.2.2.2.2.1 t1
  rw [hv.2.2.2.1]
  have es : (r 4 j - 1).toInt = (r 4 j).toInt - 1 := by rw [tn_sub (by rw [tn_1]; omega) (by rw [tn_1]; omega), tn_1]
  have e : (y < 1 ∨ ¬ y < r 4 j) ↔ rf_in y 1 (r 4 j - 1) = false := by
    rw [rf_in_f, Int32.lt_iff_toInt_lt, Int32.lt_iff_toInt_lt, Int32.lt_iff_toInt_lt, tn_1, es]
    omega
  by_cases d : rf_in y 1 (r 4 j - 1) = false
  · rw [if_pos d, if_pos (e.mpr d)]; exact tieO.bad h _ _ _ (by decide)
  rw [if_neg d, if_neg (fun q => d (e.mp q))]
  by_cases f : r 0 1 = 8
  · rw [if_pos f, if_pos ((tie_8 h.1).mpr f)]; exact tieO.bad h _ _ _ (by decide)
  rw [if_neg f, if_neg (fun q => f ((tie_8 h.1).mp q))]
  have hk8 := rf_lt8 hk h.1.2.2.1 f
  have hjk : j ≠ k := by omega
  rw [rf_in_f, Int32.lt_iff_toInt_lt, Int32.lt_iff_toInt_lt, tn_1, es] at d
  have hlast := tie_last hn t1
  have hlv := tie_lastv hv
  obtain ⟨hvk, hnk⟩ := h.1.2.2.2.2.2 k hk8
  have hfr : (rf_last r j + y - 1).toInt = (r 3 j).toInt - (r 4 j).toInt + y.toInt := by
    have e1 : (rf_last r j + y).toInt = (rf_last r j).toInt + y.toInt := tn_add (by omega) (by omega)
    rw [tn_sub (by rw [tn_1]; omega) (by rw [tn_1]; omega), tn_1, e1, hlast]
    omega
  -- the wagon
  have h1 : tie (k + 1) (ht_up (ht_wagon k (rf_last r j + y - 1) y g) 0 0 (ht_wagon k (rf_last r j + y - 1) y g 0 0 + 1)) (ht_up (ht_up (ht_up (ht_up r 0 1 (r 0 1 + 1)) 2 k 1) 3 k (rf_last r j + y - 1)) 4 k y) := by
    refine h.1.upd (j := k) (by omega) (by omega) ?_ ?_ ?_ ?_ ?_ ?_
    · rw [ht_up_s]
      simp only [ht_wagon, ht_up_r (show 0 ≠ 5 + k by omega)]
      rw [h.1.2.1, nI_1]
    · rw [ht_up_r (by decide), ht_up_r (by decide), ht_up_r (by decide), ht_up_s, h.1.2.2.1, nI_1]
    · intro a c1 ha hne
      rw [ht_up_r (by omega)]
      simp only [ht_wagon, ht_up_r hne]
    · intro a c1 ha hne
      rcases hne with q | q
      · rw [ht_up_r (by omega), ht_up_r (by omega), ht_up_r (by omega), ht_up_r (by omega)]
      · rw [ht_up_k q, ht_up_k q, ht_up_k q, ht_up_r (by omega)]
    · obtain ⟨v0, v1, v2, v3, v4, v5, v6, v7, v8, v9, v10, v11, v12⟩ := hvk
      simp [tie_v, ht_wagon, ht_up, v0, v4, v5, v6, v7, v8, v9, v10, v11, v12]
    · simp (discharger := decide) only [tie_i, ht_up_s, ht_up_r]
      rw [hfr]
      exact ⟨hnk.1, hnk.2.1, fun _ => hnk.2.2.1 (Nat.le_refl _), hnk.2.2.2.1, fun _ => ⟨by omega, by omega, by omega⟩, fun q => absurd (hnk.2.2.1 (Nat.le_refl _)) q⟩
  have eg3 : ht_lose3 g k j y = ht_up (ht_up (ht_up (ht_wagon k (rf_last r j + y - 1) y g) 0 0 (ht_wagon k (rf_last r j + y - 1) y g 0 0 + 1)) (5 + j) 3 (r 4 j - y)) (5 + j) 7 0 := by
    simp only [ht_lose3, hlv]
    have : ∀ v, ht_up (ht_wagon k (rf_last r j + y - 1) y g) 0 0 v (5 + j) 3 = r 4 j := by
      intro v
      rw [ht_up_r (by omega)]
      simp only [ht_wagon, ht_up_r (show 5 + j ≠ 5 + k by omega)]
      exact hv.2.2.2.1
    rw [this]
  have er3 : rf_lose3 r k j y = ht_up (ht_up (ht_up (ht_up (ht_up (ht_up r 0 1 (r 0 1 + 1)) 2 k 1) 3 k (rf_last r j + y - 1)) 4 k y) 4 j (r 4 j - y)) 8 j 0 := by
    simp only [rf_lose3]
    have e1 : rf_last (ht_up (ht_up r 0 1 (r 0 1 + 1)) 2 k 1) j = rf_last r j := by simp (discharger := decide) only [rf_last, ht_up_r]
    rw [e1]
    simp (discharger := first | decide | exact hjk) only [ht_up_k, ht_up_r]
  have hlen : (r 4 j - y).toInt = (r 4 j).toInt - y.toInt := tn_sub (by omega) (by omega)
  have h2 : tie (k + 1) (ht_lose3 g k j y) (rf_lose3 r k j y) := by
    rw [eg3, er3]
    obtain ⟨hvj, hnj⟩ := h1.2.2.2.2.2 j h8
    have a1 : ∀ a c, 1 ≤ a → (a = 1 ∨ 5 ≤ a ∨ c ≠ k) → ht_up (ht_up (ht_up (ht_up r 0 1 (r 0 1 + 1)) 2 k 1) 3 k (rf_last r j + y - 1)) 4 k y a c = r a c := by
      intro a c ha hne
      rcases hne with q | q | q
      · rw [ht_up_r (by omega), ht_up_r (by omega), ht_up_r (by omega), ht_up_r (by omega)]
      · rw [ht_up_r (by omega), ht_up_r (by omega), ht_up_r (by omega), ht_up_r (by omega)]
      · rw [ht_up_k q, ht_up_k q, ht_up_k q, ht_up_r (by omega)]
    generalize ht_up (ht_wagon k (rf_last r j + y - 1) y g) 0 0 (ht_wagon k (rf_last r j + y - 1) y g 0 0 + 1) = G at h1 hvj ⊢
    generalize ht_up (ht_up (ht_up (ht_up r 0 1 (r 0 1 + 1)) 2 k 1) 3 k (rf_last r j + y - 1)) 4 k y = R at h1 hvj hnj a1 ⊢
    refine h1.upd (j := j) (Nat.le_refl _) (by omega) ?_ ?_ ?_ ?_ ?_ ?_
    · rw [ht_up_r (by omega), ht_up_r (by omega)]; exact h1.2.1
    · rw [ht_up_r (by omega), ht_up_r (by omega)]; exact h1.2.2.1
    · intro a c1 ha hne
      rw [ht_up_r hne, ht_up_r hne]
    · intro a c1 ha hne
      rcases hne with q | q
      · rw [ht_up_r (by omega), ht_up_r (by omega)]
      · rw [ht_up_k q, ht_up_k q]
    · obtain ⟨v0, v1, v2, v3, v4, v5, v6, v7, v8, v9, v10, v11, v12⟩ := hvj
      simp [tie_v, ht_up, v0, v1, v2, v4, v5, v6, v8, v9, v10, v11, v12]
    · simp (discharger := decide) only [tie_i, ht_up_s, ht_up_r]
      rw [hlen, a1 3 j (by decide) (Or.inr (Or.inr hjk))]
      have q6 := hnj.2.2.2.2.2
      rw [a1 3 j (by decide) (Or.inr (Or.inr hjk))] at q6
      exact ⟨Or.inl trivial, hnj.2.1, hnj.2.2.1, hnj.2.2.2.1, fun _ => ⟨by omega, by omega, by omega⟩, q6⟩
  refine tieO.mk (k' := k + 1) ?_ (fun _ => ?_) ⟨h2, ?_⟩
  · rw [er3, ht_up_r (by decide), ht_up_r (by decide), ht_up_r (by decide), ht_up_r (by decide), ht_up_r (by decide), ht_up_k (by decide)]
    exact hz
  · rw [h2.2.1, h.1.2.2.1, nI_pred]
  · rw [er3, ht_up_r (by decide), ht_up_r (by decide), ht_up_r (by decide), ht_up_r (by decide), ht_up_r (by decide), ht_up_k (by decide), eg3, ht_up_r (by omega), ht_up_r (by omega), ht_up_k (by decide)]
    simp only [ht_wagon, ht_up_r (show 0 ≠ 5 + k by omega)]
    exact h.2
theorem tie_far {k : Nat} {g r : ht_G} (h : tie k g r) (x : Int32) : ∀ (n s : Nat), s + n ≤ 11 → ht_far g k x n s = rf_far r k x n s ∧ s ≤ rf_far r k x n s ∧ rf_far r k x n s ≤ 11 := by
  intro n
  induction n with
  | zero => intro s hs; exact ⟨rfl, Nat.le_refl _, hs⟩
  | succ n ih =>
    intro s hs
    simp only [ht_far, rf_far]
    rw [(h.2.2.2.1 (s + 1) (by omega)).1, tie_claimed h]
    by_cases c : r 14 (s + 1) = 0 ∧ rf_claimed r k (nI (s + 1)) x = false
    · rw [if_pos c, if_pos c]
      obtain ⟨a, b, d⟩ := ih (s + 1) (by omega)
      exact ⟨a, by omega, d⟩
    · rw [if_neg c, if_neg c]
      exact ⟨rfl, Nat.le_refl _, by omega⟩
theorem tie_authorise {k : Nat} {g r : ht_G} (h : tie2 k g r) (hz : r 0 0 = 0) (x : Int32) : tieO (ht_oAuth g k x) (rf_oAuth r k x) := by
  have hk := h.1.1
  unfold ht_oAuth rf_oAuth
  rw [tie_tr h.1]
  by_cases c : rf_isT r k x = false
  · rw [if_pos c, if_pos c]; exact tieO.bad h _ _ _ (by decide)
  rw [if_neg c, if_neg c]
  obtain ⟨j, hj, h8, ej, cj, ht⟩ := tie_isT h.1 c
  rw [cj]
  obtain ⟨hv, hn⟩ := h.1.2.2.2.2.2 j h8
  obtain ⟨t1, t2, t3, t4, t5⟩ := hn.2.2.2.2.2 ht
  obtain ⟨l1, l2, l3⟩ := hn.2.2.2.2.1 t1
  rw [tie_mute hv, hv.2.2.2.2.2.2.1, hv.2.2.2.2.2.1, hv.2.2.2.2.2.2.2.2.2.1, decide_eq_false ht, Bool.not_false, Bool.true_and]
  by_cases d : rf_mute r j = true ∨ ¬ r 7 j = 0
  · rw [if_pos d, if_pos d]; exact tieO.bad h _ _ _ (by decide)
  rw [if_neg d, if_neg d]
  obtain ⟨a, ha, ea⟩ := h.1.en j h8
  have ea2 : (r 6 j).toInt / 10 = a := by
    have := congrArg Int32.toInt ea
    rw [tn_10 hn.2.1.1, nI_toInt (by omega)] at this
    exact this
  rw [ea, nI_clamp (by omega), (h.1.2.2.2.1 a ha).1, tie_claimed h.1]
  obtain ⟨f1, f2, f3⟩ := tie_far h.1 x (11 - a) a (by omega)
  rw [f1]
  generalize rf_far r k x (11 - a) a = F at f1 f2 f3
  have eF : nI F * 10 + 10 - 1 = nI (F * 10 + 9) := tn_10e F
  have eF2 : 10 * nI F + 9 = nI (F * 10 + 9) := by rw [ht_10, show (9 : Int32) = nI 9 from rfl, nI_add, show 10 * F + 9 = F * 10 + 9 by omega]
  rw [eF, eF2]
  by_cases p : rf_claimed r k (nI a) x = true ∨ (¬ r 14 a = 0 ∧ ¬ r 9 j / 10 = nI a)
  · rw [if_pos p, if_neg (fun q => ?_)]
    · exact tieO.mk hz (fun _ => rfl) h
    · rcases p with p | p
      · rw [p] at q; exact absurd q.2 (by decide)
      · exact q.1.elim p.1 p.2
  · have p1 : (r 14 a = 0 ∨ r 9 j / 10 = nI a) ∧ rf_claimed r k (nI a) x = false := by
      refine ⟨?_, Bool.eq_false_iff.mpr (fun q => p (Or.inl q))⟩
      by_cases w : r 14 a = 0
      · exact Or.inl w
      · exact Or.inr (Classical.byContradiction (fun v => p (Or.inr ⟨w, v⟩)))
    rw [if_neg p, if_pos p1]
    refine tieO.mk ((ht_up_r (by decide)).trans hz) (fun _ => rfl) (tie_cell h (by decide) (by decide) ?_ ?_)
    · obtain ⟨v0, v1, v2, v3, v4, v5, v6, v7, v8, v9, v10, v11, v12⟩ := hv
      simp [tie_v, ht_up, v0, v1, v2, v3, v4, v6, v7, v8, v9, v10, v11, v12]
    · simp (discharger := decide) only [tie_i, ht_up_s, ht_up_r]
      rw [nI_toInt (by omega)]
      exact ⟨hn.1, ⟨by omega, by omega⟩, hn.2.2.1, hn.2.2.2.1, hn.2.2.2.2.1, fun _ => ⟨t1, t2, t3, t4, by omega⟩⟩
theorem tie_enter {k : Nat} {g r : ht_G} (h : tie2 k g r) (hz : r 0 0 = 0) (x y : Int32) : tieO (ht_oEnter g k x y) (rf_oEnter r k x y) := by
  have hk := h.1.1
  unfold ht_oEnter rf_oEnter
  by_cases c1 : rf_in y 1 40 = false
  · rw [if_pos (Or.inl c1), if_pos (by rw [rf_in_f] at c1; rw [Int32.not_le]; exact c1)]; exact tieO.bad h _ _ _ (by decide)
  have c1' : ¬ (y < 1 ∨ ¬ y ≤ 40) := by rw [rf_in_f] at c1; rw [Int32.not_le]; exact c1
  rw [if_neg c1']
  by_cases c2 : rf_in x 0 119 = false
  · rw [if_pos (Or.inr (Or.inl c2)), if_pos ?_]
    · exact tieO.bad h _ _ _ (by decide)
    · rw [rf_in_f, Int32.lt_iff_toInt_lt, Int32.lt_iff_toInt_lt, tn_0, show (119 : Int32).toInt = 119 from rfl] at c2
      rw [Int32.lt_iff_toInt_lt, Int32.le_iff_toInt_le, tn_0, show (120 : Int32).toInt = 120 from rfl]
      rcases c2 with q | q
      · exact Or.inl q
      · exact Or.inr (Or.inl (by omega))
  have b1 := c1
  have b2 := c2
  rw [rf_in_f, Int32.lt_iff_toInt_lt, Int32.lt_iff_toInt_lt, tn_1, show (40 : Int32).toInt = 40 from rfl] at b1
  rw [rf_in_f, Int32.lt_iff_toInt_lt, Int32.lt_iff_toInt_lt, tn_0, show (119 : Int32).toInt = 119 from rfl] at b2
  have es : (x - y).toInt = x.toInt - y.toInt := tn_sub (by omega) (by omega)
  have es1 : (x - y + 1).toInt = x.toInt - y.toInt + 1 := tn_sp (by omega) (by omega) (by omega) (by omega)
  have e3 : (x < 0 ∨ 120 ≤ x ∨ ¬ 0 ≤ x - y + 1) ↔ ¬ -1 ≤ x - y := by
    rw [Int32.lt_iff_toInt_lt, Int32.le_iff_toInt_le, Int32.le_iff_toInt_le, Int32.le_iff_toInt_le, es, es1, tn_0, tn_m1, show (120 : Int32).toInt = 120 from rfl]
    omega
  by_cases c3 : ¬ -1 ≤ x - y
  · rw [if_pos (e3.mpr c3), if_pos (Or.inr (Or.inr c3))]; exact tieO.bad h _ _ _ (by decide)
  rw [if_neg (fun q => c3 (e3.mp q)), if_neg (show ¬ (rf_in y 1 40 = false ∨ rf_in x 0 119 = false ∨ ¬ -1 ≤ x - y) from fun q => q.elim c1 (fun q => q.elim c2 c3))]
  by_cases f : r 0 1 = 8
  · rw [if_pos f, if_pos ((tie_8 h.1).mpr f)]; exact tieO.bad h _ _ _ (by decide)
  rw [if_neg f, if_neg (fun q => f ((tie_8 h.1).mp q))]
  have hk8 := rf_lt8 hk h.1.2.2.1 f
  obtain ⟨X, Y, A, eX, hX, hA, eA, cA, cY⟩ := rf_span (x := x) (y := y) (by simpa using c1) (by simpa using c2) (Classical.byContradiction c3)
  rw [cA, cY, eA]
  have tX : x.toInt = X := by rw [eX, nI_toInt (by omega)]
  have tA : (nI A).toInt = A := nI_toInt (by omega)
  have tXY : x.toInt - y.toInt + 1 = A := by rw [← es1, eA, tA]
  have t10 : ∀ m, m < 1000 → (nI m / 10).toInt = (m / 10 : Nat) := by
    intro m hm
    rw [tn_10 (by rw [nI_toInt (by omega)]; omega), nI_toInt (by omega)]
    omega
  have key : (ht_stood g k (nI A) x = true ∨ ht_claimed g k (nI A / 10) (x / 10) (-1) = true) ↔ ht_ex (fun i => decide (0 ≤ rf_so r k (nI (A + i)) (-1)) || rf_claimed r k (nI (A + i) / 10) (-1)) Y = true := by
    rw [ht_ex_iff, tie_stood h.1, tA, tX]
    unfold ht_claimed
    rw [ht_ex_iff]
    constructor
    · rintro (⟨i, a, b, c, d⟩ | ⟨i, a, b⟩)
      · obtain ⟨m1, m2, m3⟩ := (h.1.2.2.2.2.2 i (by omega)).2.2.2.2.2.1 b
        refine ⟨(max ((r 3 i).toInt - (r 4 i).toInt + 1) A - A).toNat, by omega, ?_⟩
        rw [Bool.or_eq_true, decide_eq_true_iff, tie_so h.1, nI_toInt (by omega)]
        exact Or.inl ⟨i, a, nI_m1 (by omega), b, by omega, by omega⟩
      · obtain ⟨hv, hn⟩ := h.1.2.2.2.2.2 i (by omega)
        rw [Bool.and_eq_true, tie_claimsI hv hn, t10 A (by omega), eX, t10 X (by omega)] at b
        obtain ⟨b1, b2, b3, b4⟩ := b
        obtain ⟨-, m2, m3, m4, m5⟩ := hn.2.2.2.2.2 b2
        refine ⟨(max ((r 10 i).toInt / 10 * 10) A - A).toNat, by omega, ?_⟩
        rw [Bool.or_eq_true]
        right
        unfold rf_claimed
        refine ht_ex_t a ?_
        rw [Bool.and_eq_true, tie_claimsR hn, t10 _ (by omega)]
        exact ⟨b1, b2, by omega, by omega⟩
    · rintro ⟨p, hp, q⟩
      rw [Bool.or_eq_true, decide_eq_true_iff, tie_so h.1, nI_toInt (by omega)] at q
      rcases q with ⟨i, a, -, b, c, d⟩ | q
      · exact Or.inl ⟨i, a, b, by omega, by omega⟩
      · unfold rf_claimed at q
        rw [ht_ex_iff] at q
        obtain ⟨i, a, b⟩ := q
        obtain ⟨hv, hn⟩ := h.1.2.2.2.2.2 i (by omega)
        rw [Bool.and_eq_true, tie_claimsR hn, t10 _ (by omega)] at b
        refine Or.inr ⟨i, a, ?_⟩
        rw [Bool.and_eq_true, tie_claimsI hv hn, t10 A (by omega), eX, t10 X (by omega)]
        exact ⟨b.1, b.2.1, by omega, by omega⟩
  by_cases w : ht_ex (fun i => decide (0 ≤ rf_so r k (nI (A + i)) (-1)) || rf_claimed r k (nI (A + i) / 10) (-1)) Y = true
  · rw [if_pos w]
    rcases key.mpr w with q | q
    · rw [if_pos q]; exact tieO.bad h _ _ _ (by decide)
    · by_cases q1 : ht_stood g k (nI A) x = true
      · rw [if_pos q1]; exact tieO.bad h _ _ _ (by decide)
      · rw [if_neg q1, if_pos q]; exact tieO.bad h _ _ _ (by decide)
  · rw [if_neg w, if_neg (fun q => w (key.mp (Or.inl q))), if_neg (fun q => w (key.mp (Or.inr q)))]
    obtain ⟨hvk, hnk⟩ := h.1.2.2.2.2.2 k hk8
    have h1 : tie (k + 1) (ht_up (ht_become k x y g) 0 0 (ht_become k x y g 0 0 + 1)) (rf_ent r k x y) := by
      refine h.1.upd (j := k) (by omega) (by omega) ?_ ?_ ?_ ?_ ?_ ?_
      · rw [ht_up_s, ht_become_o (by decide), h.1.2.1, nI_1]
      · simp (discharger := decide) only [rf_ent, rf_rep_o (Or.inl (show 0 < 9 by decide)), ht_up_r, ht_up_s]
        rw [h.1.2.2.1, nI_1]
      · intro a c ha hne
        rw [ht_up_r (by omega)]
        simp only [ht_become, ht_send, ht_up_r hne]
      · intro a c ha hne
        rcases hne with q | q
        · simp only [rf_ent]
          rw [rf_rep_o (by omega)]
          simp only [ht_up_r (show a ≠ 13 by omega), ht_up_r (show a ≠ 8 by omega), ht_up_r (show a ≠ 6 by omega), ht_up_r (show a ≠ 4 by omega), ht_up_r (show a ≠ 3 by omega), ht_up_r (show a ≠ 2 by omega), ht_up_r (show a ≠ 1 by omega), ht_up_r (show a ≠ 0 by omega)]
        · simp only [rf_ent, rf_rep, ht_up_k q, ht_up_r (show a ≠ 0 by omega)]
      · obtain ⟨v0, v1, v2, v3, v4, v5, v6, v7, v8, v9, v10, v11, v12⟩ := hvk
        simp [tie_v, ht_become, ht_send, rf_ent, rf_rep, ht_up, ht_last, rf_last, v4, v6]
      · simp (discharger := decide) only [tie_i, rf_ent, rf_rep, ht_up_s, ht_up_r, rf_last]
        rw [es1]
        exact ⟨Or.inr trivial, ⟨by omega, by omega⟩, fun q => absurd q (by omega), fun q => absurd q (by decide), fun _ => ⟨by omega, by omega, by omega⟩, fun _ => ⟨by decide, by omega, by omega, by omega, by omega⟩⟩
    have h2 := tie_find h1
    refine tieO.mk (k' := k + 1) ?_ (fun _ => ?_) ⟨h2, ?_⟩
    · rw [rf_find_o (by decide)]
      simp (discharger := decide) only [rf_ent, rf_rep_o (Or.inl (show 0 < 9 by decide)), ht_up_r, ht_up_k]
      exact hz
    · rw [h2.2.1, h.1.2.2.1, nI_pred]
    · rw [ht_find_o (Or.inl rfl), ht_up_k (by decide), ht_become_o (by decide), rf_find_o (by decide)]
      simp (discharger := decide) only [rf_ent, rf_rep_o (Or.inl (show 0 < 9 by decide)), ht_up_r, ht_up_k]
      exact h.2
