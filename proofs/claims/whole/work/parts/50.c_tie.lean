theorem ht_num0 {p : Nat → Bool} {n : Nat} : 0 < ht_num p n ↔ ∃ i, i < n ∧ p i = true := by
  induction n with
  | zero => exact ⟨fun h => absurd h (Nat.lt_irrefl 0), fun ⟨i, a, _⟩ => absurd a (Nat.not_lt_zero i)⟩
  | succ n ih =>
    simp only [ht_num]
    split
    · rename_i c
      exact ⟨fun _ => ⟨n, by omega, c⟩, fun _ => by omega⟩
    · rename_i c
      rw [ih]
      constructor
      · rintro ⟨i, a, b⟩
        exact ⟨i, by omega, b⟩
      · rintro ⟨i, a, b⟩
        by_cases e : i = n
        · subst e; exact absurd b c
        · exact ⟨i, by omega, b⟩
theorem tr_manyE {r : ht_G} {k : Nat} (hk : k ≤ 8) (x : Int32) : (rf_n r x k = 1 ∧ (¬ rf_many r k x = 0 ∧ ¬ 0 ≤ rf_many r k x) ∧ rf_many r k x + 100 = nI (rf_one r x k)) ∨ (¬ rf_n r x k = 1 ∧ rf_many r k x = nI (rf_n r x k) ∧ 0 ≤ rf_many r k x) := by
  have hle : rf_n r x k ≤ k := ht_num_le _ _
  have h8 := rf_one_lt (g := r) (x := x) k hk
  by_cases e : rf_n r x k = 1
  · have e1 : rf_many r k x = nI (rf_one r x k) - 100 := by unfold rf_many; rw [if_pos (by rw [e]; rfl)]
    have e2 : (rf_many r k x).toInt = (rf_one r x k : Int) - 100 := by
      rw [e1, show (100 : Int32) = nI 100 from rfl, pk_sub_toInt (by omega) (by omega)]
      rfl
    refine Or.inl ⟨e, ⟨fun q => ?_, fun q => ?_⟩, by rw [e1, Int32.sub_add_cancel]⟩
    · rw [q, tn_0] at e2
      omega
    · rw [Int32.le_iff_toInt_le, e2, tn_0] at q
      omega
  · have e2 : ¬ nI (rf_n r x k) = 1 := fun w => e ((nI_eq (b := 1) (by omega) (by omega)).mp w)
    have e1 : rf_many r k x = nI (rf_n r x k) := by unfold rf_many; rw [if_neg e2]
    exact Or.inr ⟨e, e1, by rw [e1]; exact nI_pos' (by omega)⟩
theorem tie_broken {k : Nat} {g r : ht_G} (h : tie k g r) (s : Nat) : ht_broken g k s = rf_left r k (nI s) := by
  have hk := h.1
  unfold ht_broken rf_left ht_left
  refine ht_ex_congr (fun i hi => ?_)
  obtain ⟨hv, -⟩ := h.2.2.2.2.2 i (by omega)
  rw [hv.1, hv.2.2.2.2.2.2.2.2.1, hv.2.2.2.2.2.2.2.2.2.2.1, hv.2.2.2.2.2.2.2.2.2.2.2.1, hv.2.2.2.2.2.2.2.2.2.2.2.2]
  congr 3
  by_cases c : r 13 i < 0
  · rw [if_pos c, decide_eq_true c]
    simp only [Bool.not_true, Bool.false_and]
    rw [Bool.eq_false_iff]
    intro w
    simp only [Bool.and_eq_true, Bool.not_eq_true', decide_eq_false_iff_not] at w
    exact w.2 (Int32.not_lt.mp w.1)
  · rw [if_neg c, decide_eq_false c]
    simp only [Bool.not_false, Bool.true_and]
theorem tie_acc {k : Nat} {g r : ht_G} (h : tie k g r) {s : Nat} (hs : s < 12) {g1 : ht_G} (h2 : ∀ z, z < 12 → g1 2 z = nI (rf_n r (nI z) k)) :
    (ht_anyLoc g1 (s - s % 3) 3 || ht_claimM g k (nI (s - s % 3)) (nI (s - s % 3 + 2))) = rf_acc r k (s / 3) := by
  have hk := h.1
  have e3 : s - s % 3 = 3 * (s / 3) := by omega
  rw [e3, Bool.eq_iff_iff, Bool.or_eq_true, rf_acc, ht_ex_iff, ht_anyLoc, ht_ex_iff, ht_claimM, ht_ex_iff]
  constructor
  · rintro (⟨j, hj, a⟩ | ⟨i, hi, a⟩)
    · rw [decide_eq_true_iff, h2 _ (by omega)] at a
      have hle : rf_n r (nI (3 * (s / 3) + j)) k ≤ k := ht_num_le _ _
      have a := (nI_ltI (a := 0) (by omega) (by omega)).mp a
      rw [rf_n, ht_num0] at a
      obtain ⟨t, ht, b⟩ := a
      exact ⟨t, ht, ht_ex_t hj (by unfold rf_am; rw [b]; rfl)⟩
    · obtain ⟨hv, hn⟩ := h.2.2.2.2.2 i (by omega)
      rw [Bool.and_eq_true, tie_mute hv, Bool.and_eq_true, tie_claimsI hv hn, nI_toInt (by omega), nI_toInt (by omega)] at a
      obtain ⟨⟨a1, a2⟩, a3, a4, a5⟩ := a
      obtain ⟨-, b1, b2, b3, b4⟩ := hn.2.2.2.2.2 a3
      refine ⟨i, hi, ?_⟩
      have hp : (max ((r 10 i).toInt / 10) (3 * (s / 3) : Nat) - (3 * (s / 3) : Nat)).toNat < 3 := by omega
      refine ht_ex_t hp ?_
      have c1 : rf_claims r i (nI (3 * (s / 3) + (max ((r 10 i).toInt / 10) (3 * (s / 3) : Nat) - (3 * (s / 3) : Nat)).toNat)) = true := by
        rw [tie_claimsR hn, nI_toInt (by omega)]
        exact ⟨a3, by omega, by omega⟩
      unfold rf_am
      rw [c1, a1, a2, Bool.and_true, Bool.and_true, Bool.or_true]
  · rintro ⟨t, ht, a⟩
    rw [ht_ex_iff] at a
    obtain ⟨j, hj, a⟩ := a
    obtain ⟨hv, hn⟩ := h.2.2.2.2.2 t (by omega)
    unfold rf_am at a
    rw [Bool.or_eq_true] at a
    rcases a with a | a
    · refine Or.inl ⟨j, hj, ?_⟩
      rw [decide_eq_true_iff, h2 _ (by omega)]
      have hle : rf_n r (nI (3 * (s / 3) + j)) k ≤ k := ht_num_le _ _
      refine (nI_ltI (a := 0) (by omega) (by omega)).mpr ?_
      rw [rf_n, ht_num0]
      exact ⟨t, ht, a⟩
    · refine Or.inr ⟨t, ht, ?_⟩
      rw [Bool.and_eq_true, Bool.and_eq_true, tie_claimsR hn, nI_toInt (by omega)] at a
      rw [Bool.and_eq_true, tie_mute hv, Bool.and_eq_true, tie_claimsI hv hn, nI_toInt (by omega), nI_toInt (by omega)]
      exact ⟨⟨a.1, a.2.1⟩, a.2.2.1, by omega, by omega⟩
theorem tn_cases {x : Int32} (h0 : 0 ≤ x.toInt) (h3 : x.toInt ≤ 3) : x = 0 ∨ x = 1 ∨ x = 2 ∨ x = 3 := by
  rcases (show x.toInt = 0 ∨ x.toInt = 1 ∨ x.toInt = 2 ∨ x.toInt = 3 by omega) with e | e | e | e
  · exact Or.inl (Int32.toInt_inj.mp e)
  · exact Or.inr (Or.inl (Int32.toInt_inj.mp e))
  · exact Or.inr (Or.inr (Or.inl (Int32.toInt_inj.mp e)))
  · exact Or.inr (Or.inr (Or.inr (Int32.toInt_inj.mp e)))
theorem nI_m1 {j : Nat} (hj : j < 2 ^ 31) : ¬ nI j = -1 := by
  intro q
  have := congrArg Int32.toInt q
  rw [nI_toInt hj, tn_m1] at this
  omega
theorem tie_st {k : Nat} {g r g1 : ht_G} (h : tie k g r) {s : Nat} (hs : s < 12) (h1 : g1 1 s = g 1 s) (h2 : ∀ z, z < 12 → g1 2 z = nI (rf_n r (nI z) k))
    (h3 : g1 3 s = if rf_n r (nI s) k = 1 then nI (rf_one r (nI s) k) else -1) (h4 : g1 4 s = g 3 s) (h5 : ∀ i, g1 (5 + i) = g (5 + i)) : ht_st g1 k s = rf_found r k s := by
  have hk := h.1
  obtain ⟨q1, q3, q0, qq⟩ := h.2.2.2.1 s hs
  have e1 : ht_det g1 k (nI s / 3) = rf_occ r k (nI s / 3) := by
    rw [ht_z3 hs, ← tie_det h (by omega)]
    simp only [ht_det, ht_stood, h5]
  have e3 : ht_broken g1 k s = rf_left r k (nI s) := by
    rw [← tie_broken h]
    unfold ht_broken
    exact ht_ex_congr (fun i _ => by rw [h5])
  have e5 : ∀ a b, ht_claimM g1 k a b = ht_claimM g k a b := fun a b => by simp only [ht_claimM, h5]
  have e7 : ht_stays g1 k s = (rf_acc r k (s / 3) && !rf_left r k (nI s)) := by unfold ht_stays; rw [e3, e5, tie_acc h hs h2]
  have hle : rf_n r (nI s) k ≤ k := ht_num_le _ _
  unfold ht_st rf_found
  rw [e1, e7, h1, q1, h2 s hs]
  by_cases c0 : rf_occ r k (nI s / 3) = false
  · rw [if_pos c0, if_pos c0]
  · rw [if_neg c0, if_neg c0]
    rcases tr_manyE (r := r) hk (nI s) with ⟨m1, ⟨m2, m3⟩, m4⟩ | ⟨m1, m2, m3⟩
    · -- one train
      have h8 := rf_one_lt (g := r) (x := nI s) k hk
      have hv := (h.2.2.2.2.2 _ h8).1
      rw [if_pos m1] at h3
      rw [if_pos m2, if_pos (by rw [m1]; decide), m4, nI_clamp (by omega)]
      unfold ht_under
      rw [h3, h1, q1, nI_clamp (by omega), h5, hv.2.2.2.2.2.2.2.2.2.2.1]
      by_cases w : r 11 (rf_one r (nI s) k) = 0
      · rw [if_neg (fun q => q.1.2 w), if_neg (fun q => q.2.1 w)]
      · rcases tn_cases q0 qq with v | v | v | v
        · rw [if_pos ⟨⟨nI_m1 (by omega), w⟩, Or.inl v⟩, if_pos ⟨m3, w, by rw [v]; decide⟩]
        · rw [if_pos ⟨⟨nI_m1 (by omega), w⟩, Or.inr v⟩, if_pos ⟨m3, w, by rw [v]; decide⟩]
        · rw [if_neg (fun q => absurd q.2 (by rw [v]; decide)), if_neg (fun q => q.2.2 (by rw [v]; decide))]
        · rw [if_neg (fun q => absurd q.2 (by rw [v]; decide)), if_neg (fun q => q.2.2 (by rw [v]; decide))]
    · rw [if_neg m1] at h3
      by_cases n0 : rf_n r (nI s) k = 0
      · -- nobody
        rw [m2, n0, if_neg (show ¬ ¬ nI 0 ≤ 0 by decide), if_neg (show ¬ ¬ nI 0 = 0 by decide)]
        by_cases z0 : r 14 s = 0
        · rw [if_pos z0, if_pos z0]
          by_cases y : rf_acc r k (s / 3) = true ∧ rf_left r k (nI s) = false
          · rw [if_pos y, if_pos (by rw [y.1, y.2]; rfl)]
          · rw [if_neg y, if_neg (fun q => y (by simpa using q))]
        · rw [if_neg z0, if_neg z0]
          by_cases z1 : r 14 s = 1
          · rw [if_pos z1]
            unfold ht_byW
            rw [h4, q3, h5]
            by_cases al : r 16 s = -1
            · rw [if_pos (show 1 < r 14 s ∨ ¬ 0 ≤ r 16 s from Or.inr (by rw [al]; decide)), if_neg (by rw [al]; simp)]
            · obtain ⟨j, hj, ej, cj⟩ := h.2.2.2.2.1 s hs al
              have hv := (h.2.2.2.2.2 j hj).1
              rw [if_neg (show ¬ (1 < r 14 s ∨ ¬ 0 ≤ r 16 s) from fun q => q.elim (fun q => absurd q (by rw [z1]; decide)) (fun q => q (by rw [ej]; exact nI_pos' (by omega)))), cj, hv.2.2.2.2.2.2.2.2.1, hv.2.2.2.2.2.2.2.2.2.2.1]
              by_cases y : r 12 j = 0 ∧ ¬ r 11 j = 0
              · rw [if_pos y, if_pos (by simp [al, y.1, y.2])]
              · rw [if_neg y, if_neg (fun q => y (by simp only [Bool.and_eq_true, Bool.not_eq_true', decide_eq_false_iff_not, decide_eq_true_iff] at q; exact q.2))]
          · rw [if_neg z1, if_pos (Or.inl ?_)]
            rcases tn_cases q0 qq with v | v | v | v
            · exact absurd v z0
            · exact absurd v z1
            · rw [v]; decide
            · rw [v]; decide
      · rw [if_pos (show ¬ nI (rf_n r (nI s) k) ≤ 0 from nI_nle (by omega) (by omega)), if_pos (show ¬ rf_many r k (nI s) = 0 by rw [m2]; exact nI_ne0 (by omega) (by omega)), if_neg (fun q => q.1 m3)]
        unfold ht_under
        rw [if_neg (fun q => q.1.1 h3)]
theorem tie_found_le {k : Nat} {r : ht_G} (s : Nat) : 0 ≤ (rf_found r k s).toInt ∧ (rf_found r k s).toInt ≤ 3 := by
  have : rf_found r k s = 0 ∨ rf_found r k s = 1 ∨ rf_found r k s = 2 ∨ rf_found r k s = 3 := by
    unfold rf_found
    repeat' split
    all_goals simp
  rcases this with e | e | e | e <;> rw [e] <;> decide
theorem tie_find {k : Nat} {g r : ht_G} (h : tie k g r) : tie k (ht_find k g) (rf_find k r) := by
  have hk := h.1
  have hr13 : ∀ a, 1 ≤ a → a ≤ 13 → ht_it (rf_f1 k) 12 r a = r a := fun a _ _ => funext fun c => ht_it_keep (fun _ a => rf_f1_o (by omega) a) _ _
  refine ⟨hk, (ht_find_o (Or.inl rfl) g).trans h.2.1, (rf_find_o (by decide) r).trans h.2.2.1, fun s hs => ?_, rf_find_al hk h.2.2.2.2.1, fun i hi => ⟨tie_v_of (h.2.2.2.2.2 i hi).1 (fun c _ => ht_find_o (Or.inr (by omega)) g) (fun a _ _ => rf_find_o (by omega) r), tie_i_of (h.2.2.2.2.2 i hi).2 (Nat.le_refl _) (fun a _ _ => rf_find_o (by omega) r)⟩⟩
  have hls : ∀ z, z < 12 → _ := fun z hz => th_ls (g := g) (r := r) hk (fun i hi => (h.2.2.2.2.2 i hi).1) 12 z hz (Nat.le_refl _)
  have hl1 : ht_it (ht_ls k) 12 g 1 s = g 1 s := ht_it_keep (fun _ a => ht_ls_o (by decide) (by decide) (by decide) a) _ _
  have hl4 : ht_it (ht_ls k) 12 g 4 s = g 3 s := by rw [ht_loc4, if_pos hs]
  have hl5 : ∀ i, ht_it (ht_ls k) 12 g (5 + i) = g (5 + i) := fun i => funext fun c => ht_it_keep (fun _ a => ht_ls_o (by omega) (by omega) (by omega) a) _ _
  have hst := tie_st h hs hl1 (fun z hz => (hls z hz).1) (hls s hs).2 hl4 hl5
  obtain ⟨f14, f16⟩ := tr_f2 (k := k) (r := ht_it (rf_f1 k) 12 r) 12 s hs
  rw [tr_f1, if_pos hs, tr_occ _ hr13, tr_cm_c _ hr13] at f14
  rw [tr_many _ hr13] at f16
  have g3 : ht_find k g 3 s = ht_it (ht_ls k) 12 g 3 s := by
    unfold ht_find
    rw [ht_it_keep (fun _ a => ht_s2_o (by decide) a), ht_it_keep (fun _ a => ht_s1_o (by decide) a)]
  have hs1 := th_s1 (k := k) (g := ht_it (ht_ls k) 12 g) 12 s
  rw [if_pos hs, hst] at hs1
  have h15 : ∀ i, ht_it (ht_s1 k) 12 (ht_it (ht_ls k) 12 g) (5 + i) = g (5 + i) := fun i => (funext fun c => ht_it_keep (fun _ a => ht_s1_o (by omega) a) _ _).trans (hl5 i)
  have g1 : ht_find k g 1 s = if rf_found r k s = 0 ∧ tr_cm r k (nI s) = true ∧ rf_occ r k (nI s / 3) = true then 3 else rf_found r k s := by
    have e1 : ht_det (ht_it (ht_s1 k) 12 (ht_it (ht_ls k) 12 g)) k (nI s / 3) = rf_occ r k (nI s / 3) := by
      rw [ht_z3 hs, ← tie_det h (by omega)]
      simp only [ht_det, ht_stood, h15]
    have e5 : ht_claimM (ht_it (ht_s1 k) 12 (ht_it (ht_ls k) 12 g)) k (nI s) (nI s) = tr_cm r k (nI s) := by
      unfold tr_cm
      rw [← tie_claimM h]
      simp only [ht_claimM, h15]
    unfold ht_find
    generalize ht_it (ht_s1 k) 12 (ht_it (ht_ls k) 12 g) = t at hs1 e1 e5
    rw [th_s2, hs1, e1, e5]
    simp only [hs, true_and]
  have e14 : rf_find k r 14 s = if rf_found r k s = 0 ∧ tr_cm r k (nI s) = true ∧ rf_occ r k (nI s / 3) = true then 3 else rf_found r k s := by
    unfold rf_find
    rw [f14]
    by_cases a : rf_found r k s = 0
    · by_cases b : rf_occ r k (nI s / 3) = true
      · rw [if_neg (fun q => q.elim (fun q => q a) (fun q => by rw [b] at q; cases q))]
        by_cases c : tr_cm r k (nI s) = true
        · rw [if_pos c, if_pos ⟨a, c, b⟩]
        · rw [if_neg c, if_neg (fun q => c q.2.1)]
      · rw [if_pos (Or.inr (Bool.eq_false_iff.mpr b)), if_neg (fun q => b q.2.2)]
    · rw [if_pos (Or.inl a), if_neg (fun q => a q.1)]
  refine ⟨g1.trans e14.symm, ?_, ?_⟩
  · rw [g3, (hls s hs).2]
    unfold rf_find
    rw [f16]
    rcases tr_manyE (r := r) hk (nI s) with ⟨m1, ⟨m2, m3⟩, m4⟩ | ⟨m1, m2, m3⟩
    · rw [if_pos m1, if_pos m3, m4]
    · rw [if_neg m1, if_neg (fun q => q m3)]
  · rw [e14]
    split
    · decide
    · exact tie_found_le s
