-- the search of the states: the object
theorem th_lc {r : ht_G} {s : Nat} : ∀ (n : Nat) (g : ht_G), n < 2 ^ 31 → g 2 s = 0 → g 3 s = -1 → (∀ i, i < n → ht_locOn (g (5 + i)) (nI s) = rf_loc r i (nI s)) →
    ht_it (ht_lc s) n g 2 s = nI (rf_n r (nI s) n) ∧ ht_it (ht_lc s) n g 3 s = if rf_n r (nI s) n = 1 then nI (rf_one r (nI s) n) else -1 := by
  intro n g hn h2 h3 hl
  induction n with
  | zero => exact ⟨h2, h3⟩
  | succ n ih =>
    obtain ⟨i2, i3⟩ := ih (by omega) (fun i hi => hl i (by omega))
    have hle : rf_n r (nI s) n ≤ n := ht_num_le _ _
    have hrow : ht_it (ht_lc s) n g (5 + n) = g (5 + n) := funext fun c => ht_lcs_o (by omega) (by omega) n g
    have e : rf_n r (nI s) (n + 1) = if rf_loc r n (nI s) = true then rf_n r (nI s) n + 1 else rf_n r (nI s) n := rfl
    have e1 : rf_one r (nI s) (n + 1) = if rf_loc r n (nI s) = true then n else rf_one r (nI s) n := rfl
    rw [ht_it, ht_lc, hrow, hl n (by omega), e, e1]
    by_cases c : rf_loc r n (nI s) = true
    · rw [if_pos c, if_pos c, if_pos c]
      refine ⟨?_, ?_⟩
      · rw [ht_up_r (by decide), ht_up_s, i2, nI_1]
      · rw [ht_up_s, ht_up_s, i2, nI_1]
        by_cases q : rf_n r (nI s) n + 1 = 1
        · rw [if_pos q, if_pos (by rw [q]; rfl)]
        · have q2 : ¬ nI (rf_n r (nI s) n + 1) = 1 := fun w => q ((nI_eq (b := 1) (by omega) (by omega)).mp w)
          rw [if_neg q, if_neg q2]
    · rw [if_neg c, if_neg c, if_neg c]
      exact ⟨i2, i3⟩
theorem th_ls {k : Nat} {g r : ht_G} (hk : k ≤ 8) (hv : ∀ i, i < 8 → tie_v (g (5 + i)) r i) : ∀ (n s : Nat), s < n → n ≤ 12 →
    ht_it (ht_ls k) n g 2 s = nI (rf_n r (nI s) k) ∧ ht_it (ht_ls k) n g 3 s = if rf_n r (nI s) k = 1 then nI (rf_one r (nI s) k) else -1 := by
  intro n s
  induction n with
  | zero => intro h; exact absurd h (Nat.not_lt_zero s)
  | succ n ih =>
    intro hs hn
    rw [ht_it]
    by_cases e : s = n
    · subst e
      have hrow : ∀ i c, ht_it (ht_ls k) s g (5 + i) c = g (5 + i) c := fun i c => ht_it_keep (fun _ a => ht_ls_o (by omega) (by omega) (by omega) a) _ _
      generalize ht_it (ht_ls k) s g = t at hrow
      unfold ht_ls
      refine th_lc k _ (by omega) (ht_up_s _ _ _ _) (by rw [ht_up_r (by decide), ht_up_s]) (fun i hi => ?_)
      rw [ht_up_row (show 5 + i ≠ 2 by omega), ht_up_row (show 5 + i ≠ 3 by omega), ht_up_row (show 5 + i ≠ 4 by omega), show t (5 + i) = g (5 + i) from funext (hrow i)]
      exact tie_loc (hv i (by omega)) _
    · have h := ih (by omega) (by omega)
      rw [ht_ls_c e, ht_ls_c e]
      exact h
theorem th_st_c {g g' : ht_G} {k s : Nat} (h : ∀ a, a ≠ 1 → g' a = g a) (h1 : g' 1 s = g 1 s) : ht_st g' k s = ht_st g k s := by
  have r5 : ∀ i, g' (5 + i) = g (5 + i) := fun i => h (5 + i) (by omega)
  have e1 : ∀ x, ht_det g' k x = ht_det g k x := fun x => by simp only [ht_det, ht_stood, r5]
  have e2 : ht_under g' s = ht_under g s := by unfold ht_under; rw [h 3 (by decide), h1, r5]
  have e3 : ht_broken g' k s = ht_broken g k s := by unfold ht_broken; exact ht_ex_congr (fun i _ => by rw [r5])
  have e4 : ∀ a n, ht_anyLoc g' a n = ht_anyLoc g a n := fun a n => by unfold ht_anyLoc; rw [h 2 (by decide)]
  have e5 : ∀ a b, ht_claimM g' k a b = ht_claimM g k a b := fun a b => by simp only [ht_claimM, r5]
  have e6 : ht_byW g' s = ht_byW g s := by unfold ht_byW; rw [h 4 (by decide), r5]
  have e7 : ht_stays g' k s = ht_stays g k s := by unfold ht_stays; rw [e3, e4, e5]
  unfold ht_st
  rw [e1, e2, e6, e7, h1, h 2 (by decide)]
theorem th_s1 {k : Nat} {g : ht_G} : ∀ (n s : Nat), ht_it (ht_s1 k) n g 1 s = if s < n then ht_st g k s else g 1 s := by
  intro n s
  induction n with
  | zero => rfl
  | succ n ih =>
    rw [ht_it, ht_s1]
    by_cases e : s = n
    · subst e
      rw [ht_up_s, if_pos (by omega)]
      refine th_st_c (fun a ha => funext fun c => ht_it_keep (fun _ a => ht_s1_o ha a) _ _) ?_
      rw [ih, if_neg (by omega)]
    · rw [ht_up_k e, ih]
      by_cases q : s < n
      · rw [if_pos q, if_pos (by omega)]
      · rw [if_neg q, if_neg (by omega)]
theorem th_s2 {k : Nat} {g : ht_G} : ∀ (n s : Nat), ht_it (ht_s2 k) n g 1 s = if s < n ∧ g 1 s = 0 ∧ ht_claimM g k (nI s) (nI s) = true ∧ ht_det g k (nI s / 3) = true then 3 else g 1 s := by
  intro n s
  induction n with
  | zero => rw [if_neg (fun q => absurd q.1 (Nat.not_lt_zero s))]; rfl
  | succ n ih =>
    rw [ht_it, ht_s2]
    have hrow : ∀ i, ht_it (ht_s2 k) n g (5 + i) = g (5 + i) := fun i => funext fun c => ht_it_keep (fun _ a => ht_s2_o (by omega) a) _ _
    have e1 : ht_claimM (ht_it (ht_s2 k) n g) k (nI n) (nI n) = ht_claimM g k (nI n) (nI n) := by simp only [ht_claimM, hrow]
    have e2 : ht_det (ht_it (ht_s2 k) n g) k (nI n / 3) = ht_det g k (nI n / 3) := by simp only [ht_det, ht_stood, hrow]
    by_cases e : s = n
    · subst e
      rw [if_neg (fun q => absurd q.1 (Nat.lt_irrefl s))] at ih
      rw [e1, e2, ih]
      by_cases q : g 1 s = 0 ∧ ht_claimM g k (nI s) (nI s) = true ∧ ht_det g k (nI s / 3) = true
      · rw [if_pos q, ht_up_s, if_pos ⟨by omega, q⟩]
      · rw [if_neg q, if_neg (fun w => q w.2), ih]
    · have hstep : ∀ (p : Prop) [Decidable p] (x : Int32), (if p then ht_up (ht_it (ht_s2 k) n g) 1 n x else ht_it (ht_s2 k) n g) 1 s = ht_it (ht_s2 k) n g 1 s := by
        intro p _ x
        split
        · exact ht_up_k e
        · rfl
      rw [hstep, ih]
      by_cases q : s < n
      · simp only [q, show s < n + 1 by omega, true_and]
      · simp only [q, show ¬ s < n + 1 by omega, false_and]
-- the reference
theorem tr_loc {r r' : ht_G} (t : Nat) (x : Int32) (h : ∀ a, 1 ≤ a → a ≤ 13 → r' a = r a) : rf_loc r' t x = rf_loc r t x := by
  unfold rf_loc rf_mute
  rw [h 1 (by decide) (by decide), h 9 (by decide) (by decide), h 10 (by decide) (by decide), h 12 (by decide) (by decide)]
theorem tr_many {k : Nat} {r r' : ht_G} (x : Int32) (h : ∀ a, 1 ≤ a → a ≤ 13 → r' a = r a) : rf_many r' k x = rf_many r k x := by
  have h1 : ∀ (t : Nat), rf_one r' x t = rf_one r x t := by
    intro t
    induction t with
    | zero => rfl
    | succ t iht => rw [rf_one, rf_one, iht, tr_loc t x h]
  have h2 : rf_n r' x k = rf_n r x k := ht_num_congr (fun i _ => tr_loc i x h)
  unfold rf_many
  rw [h1, h2]
theorem tr_occ {k : Nat} {r r' : ht_G} (x : Int32) (h : ∀ a, 1 ≤ a → a ≤ 13 → r' a = r a) : rf_occ r' k x = rf_occ r k x := by
  unfold rf_occ rf_last
  rw [h 2 (by decide) (by decide), h 3 (by decide) (by decide), h 4 (by decide) (by decide)]
theorem tr_found {k s : Nat} {r r' : ht_G} (h : ∀ a, 1 ≤ a → a ≤ 16 → a ≠ 15 → r' a = r a) : rf_found r' k s = rf_found r k s := by
  have h13 : ∀ a, 1 ≤ a → a ≤ 13 → r' a = r a := fun a h1 h2 => h a h1 (by omega) (by omega)
  have e1 : rf_acc r' k (s / 3) = rf_acc r k (s / 3) := by
    unfold rf_acc
    refine ht_ex_congr (fun t _ => ht_ex_congr (fun i _ => ?_))
    unfold rf_am rf_mute rf_claims
    rw [tr_loc _ _ h13, h13 1 (by decide) (by decide), h13 6 (by decide) (by decide), h13 10 (by decide) (by decide), h13 12 (by decide) (by decide)]
  have e2 : rf_left r' k (nI s) = rf_left r k (nI s) := by
    unfold rf_left
    rw [h13 1 (by decide) (by decide), h13 10 (by decide) (by decide), h13 11 (by decide) (by decide), h13 12 (by decide) (by decide), h13 13 (by decide) (by decide)]
  unfold rf_found
  rw [tr_occ _ h13, tr_many _ h13, e1, e2, h13 11 (by decide) (by decide), h13 12 (by decide) (by decide), h 14 (by decide) (by decide) (by decide), h 16 (by decide) (by decide) (by decide)]
theorem tr_f1 {k : Nat} {r : ht_G} : ∀ (n s : Nat), ht_it (rf_f1 k) n r 15 s = if s < n then rf_found r k s else r 15 s := by
  intro n s
  induction n with
  | zero => rfl
  | succ n ih =>
    rw [ht_it, rf_f1]
    by_cases e : s = n
    · subst e
      rw [ht_up_s, if_pos (by omega)]
      exact tr_found (fun a _ _ ha => funext fun c => ht_it_keep (fun _ a => rf_f1_o ha a) _ _)
    · rw [ht_up_k e, ih]
      by_cases q : s < n
      · rw [if_pos q, if_pos (by omega)]
      · rw [if_neg q, if_neg (by omega)]
def tr_cm (r : ht_G) (k : Nat) (x : Int32) : Bool := ht_ex (fun t => !decide (r 1 t = 0) && (rf_mute r t && rf_claims r t x)) k
theorem tr_cm_c {k : Nat} {r r' : ht_G} (x : Int32) (h : ∀ a, 1 ≤ a → a ≤ 13 → r' a = r a) : tr_cm r' k x = tr_cm r k x := by
  unfold tr_cm rf_mute rf_claims
  rw [h 1 (by decide) (by decide), h 6 (by decide) (by decide), h 10 (by decide) (by decide), h 12 (by decide) (by decide)]
theorem tr_f3 {z : Nat} {r : ht_G} : ∀ n, ht_it (rf_f3 z) n r 14 z = if tr_cm r n (nI z) = true then 3 else r 14 z := by
  intro n
  induction n with
  | zero => rw [if_neg (by simp [tr_cm, ht_ex])]; rfl
  | succ n ih =>
    have hrow : ∀ a, a ≠ 14 → ht_it (rf_f3 z) n r a = r a := fun a ha => funext fun c => ht_it_keep (fun _ a => rf_f3_o ha a) _ _
    have e : tr_cm r (n + 1) (nI z) = (tr_cm r n (nI z) || (!decide (r 1 n = 0) && (rf_mute r n && rf_claims r n (nI z)))) := rfl
    have c1 : rf_mute (ht_it (rf_f3 z) n r) n = rf_mute r n := by unfold rf_mute; rw [hrow 12 (by decide)]
    have c2 : rf_claims (ht_it (rf_f3 z) n r) n (nI z) = rf_claims r n (nI z) := by unfold rf_claims; rw [hrow 1 (by decide), hrow 10 (by decide), hrow 6 (by decide)]
    rw [ht_it, rf_f3, hrow 1 (by decide), c1, c2, e]
    by_cases q : ¬ r 1 n = 0 ∧ rf_mute r n = true ∧ rf_claims r n (nI z) = true
    · rw [if_pos q, ht_up_s, if_pos (by simp [q.1, q.2.1, q.2.2])]
    · rw [if_neg q, ih]
      have : (!decide (r 1 n = 0) && (rf_mute r n && rf_claims r n (nI z))) = false := by
        rw [Bool.eq_false_iff]
        intro w
        simp only [Bool.and_eq_true, Bool.not_eq_true', decide_eq_false_iff_not] at w
        exact q w
      rw [this, Bool.or_false]
theorem tr_f3c {z n c a : Nat} (h : c ≠ z) (r : ht_G) : ht_it (rf_f3 z) n r a c = r a c := ht_it_keep (fun _ a => by
  unfold rf_f3
  split
  · exact ht_up_k h
  · rfl) _ _
theorem tr_f2c {k z c a : Nat} (h : c ≠ z) (r : ht_G) : rf_f2 k z r a c = r a c := by
  have e : rf_f2a k z r a c = r a c := by simp only [rf_f2a, ht_up_k h]
  unfold rf_f2
  split
  · exact e
  · rw [tr_f3c h, e]
theorem tr_f2 {k : Nat} {r : ht_G} : ∀ (n s : Nat), s < n → ht_it (rf_f2 k) n r 14 s = (if ¬ r 15 s = 0 ∨ rf_occ r k (nI s / 3) = false then r 15 s else if tr_cm r k (nI s) = true then 3 else r 15 s) ∧ ht_it (rf_f2 k) n r 16 s = if ¬ 0 ≤ rf_many r k (nI s) then rf_many r k (nI s) + 100 else -1 := by
  intro n s
  induction n with
  | zero => intro h; exact absurd h (Nat.not_lt_zero s)
  | succ n ih =>
    intro hs
    rw [ht_it]
    by_cases e : s = n
    · subst e
      have hk : ∀ a, a ≠ 14 → a ≠ 16 → ht_it (rf_f2 k) s r a = r a := fun a h1 h2 => funext fun c => ht_it_keep (fun _ a => rf_f2_o h1 h2 a) _ _
      generalize ht_it (rf_f2 k) s r = t at hk
      have h13 : ∀ a, 1 ≤ a → a ≤ 13 → rf_f2a k s t a = r a := fun a _ _ => (funext fun c => rf_f2a_o (by omega) (by omega) t).trans (hk a (by omega) (by omega))
      have h15 : rf_f2a k s t 15 s = r 15 s := by rw [rf_f2a_o (by decide) (by decide), hk 15 (by decide) (by decide)]
      have h14 : rf_f2a k s t 14 s = r 15 s := by
        simp only [rf_f2a, ht_up_r (show 14 ≠ 16 by decide), ht_up_s]
        rw [hk 15 (by decide) (by decide)]
      have h16 : rf_f2a k s t 16 s = if ¬ 0 ≤ rf_many r k (nI s) then rf_many r k (nI s) + 100 else -1 := by
        simp only [rf_f2a, ht_up_s]
        rw [tr_many (r := r) (nI s) (fun a _ _ => (ht_up_row (show a ≠ 14 by omega)).trans (hk a (by omega) (by omega)))]
      unfold rf_f2
      rw [tr_occ (r := r) _ h13, h15]
      by_cases q : ¬ r 15 s = 0 ∨ rf_occ r k (nI s / 3) = false
      · rw [if_pos q, if_pos q]
        exact ⟨h14, h16⟩
      · rw [if_neg q, if_neg q, tr_f3, tr_cm_c (r := r) _ h13, h14]
        refine ⟨rfl, ?_⟩
        rw [ht_it_keep (fun _ a => rf_f3_o (by decide) a), h16]
    · rw [tr_f2c e, tr_f2c e]
      exact ih (by omega)
