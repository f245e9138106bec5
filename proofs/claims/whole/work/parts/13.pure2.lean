theorem ht_it_keep {f : Nat → ht_G → ht_G} {r c : Nat} (h : ∀ i a, f i a r c = a r c) : ∀ (n : Nat) (a : ht_G), ht_it f n a r c = a r c := by
  intro n a
  induction n with
  | zero => rfl
  | succ n ih => rw [ht_it, h, ih]
theorem ht_go_o {k i r c : Nat} (h : r ≠ 5 + i ∨ c ≠ 2) : ∀ (n : Nat) (g : ht_G), ht_go k i n g r c = g r c := by
  intro n
  induction n with
  | zero => intro g; rfl
  | succ n ih =>
    intro g
    simp only [ht_go]
    split
    · rfl
    · split
      · rfl
      · rw [ih]
        rcases h with h | h
        · exact ht_up_r h
        · exact ht_up_k h
theorem ht_mv_o {k i r c : Nat} (h : r < 5 ∨ c ≠ 2) (g : ht_G) : ht_mv k i g r c = g r c := by
  unfold ht_mv
  split
  · rfl
  · exact ht_go_o (h.elim (fun h => Or.inl (by omega)) Or.inr) _ _
theorem ht_send_o {i r c : Nat} (h : r < 5 ∨ c < 8) (g : ht_G) : ht_send i g r c = g r c := by
  simp only [ht_send, ht_up]
  rcases h with h | h
  · simp [show ¬ r = 5 + i by omega]
  · simp [show ¬ c = 8 by omega, show ¬ c = 9 by omega, show ¬ c = 10 by omega, show ¬ c = 11 by omega, show ¬ c = 12 by omega]
theorem ht_rp_o {i r c : Nat} (h : r < 5 ∨ c < 8) (g : ht_G) : ht_rp i g r c = g r c := by
  unfold ht_rp
  split
  · rfl
  · split
    · exact ht_send_o h g
    · rcases h with h | h
      · exact ht_up_r (by omega)
      · exact ht_up_k (by omega)
theorem ht_lc_o {s i r c : Nat} (h2 : r ≠ 2) (h3 : r ≠ 3) (g : ht_G) : ht_lc s i g r c = g r c := by
  unfold ht_lc
  split
  · simp only [ht_up_r h3, ht_up_r h2]
  · rfl
theorem ht_lcs_o {s r c : Nat} (h2 : r ≠ 2) (h3 : r ≠ 3) (n : Nat) (g : ht_G) : ht_it (ht_lc s) n g r c = g r c := ht_it_keep (fun _ a => ht_lc_o h2 h3 a) n g
theorem ht_ls_o {k s r c : Nat} (h2 : r ≠ 2) (h3 : r ≠ 3) (h4 : r ≠ 4) (g : ht_G) : ht_ls k s g r c = g r c := by
  unfold ht_ls
  simp only [ht_lcs_o h2 h3, ht_up_r h2, ht_up_r h3, ht_up_r h4]
theorem ht_s1_o {k s r c : Nat} (h : r ≠ 1) (g : ht_G) : ht_s1 k s g r c = g r c := ht_up_r h
theorem ht_s2_o {k s r c : Nat} (h : r ≠ 1) (g : ht_G) : ht_s2 k s g r c = g r c := by
  unfold ht_s2
  split
  · exact ht_up_r h
  · rfl
/-- what a row of numbers of trains says: nobody, or a number under eight -/
def ht_al (g : ht_G) (r : Nat) : Prop := ∀ z, z < 12 → ¬ g r z = -1 → ∃ j, j < 8 ∧ g r z = nI j ∧ (g r z).toNatClampNeg = j
theorem ht_al_of {g g' : ht_G} {r r' : Nat} (h : ht_al g r) (e : ∀ z, z < 12 → g' r' z = g r z) : ht_al g' r' := by
  intro z hz
  rw [e z hz]
  exact h z hz
theorem ht_lc_c {s i z : Nat} {r : Nat} (h : z ≠ s) (g : ht_G) : ht_lc s i g r z = g r z := by
  unfold ht_lc
  split
  · simp only [ht_up_k h]
  · rfl
theorem ht_ls_c {k s z r : Nat} (h : z ≠ s) (g : ht_G) : ht_ls k s g r z = g r z := by
  unfold ht_ls
  simp only [ht_it_keep (fun _ a => ht_lc_c h a), ht_up_k h]
theorem ht_lone {s z : Nat} : ∀ (n : Nat) (g : ht_G), n ≤ 8 → (g 3 z = -1 ∨ ∃ j, j < 8 ∧ g 3 z = nI j) → (ht_it (ht_lc s) n g 3 z = -1 ∨ ∃ j, j < 8 ∧ ht_it (ht_lc s) n g 3 z = nI j) := by
  intro n g hn h
  induction n with
  | zero => exact h
  | succ n ih =>
    have ih := ih (by omega)
    by_cases hz : z = s
    · subst hz
      simp only [ht_it, ht_lc]
      split
      · simp only [ht_up_s]
        split
        · exact Or.inr ⟨n, by omega, rfl⟩
        · exact Or.inl rfl
      · exact ih
    · rw [ht_it, ht_lc_c hz]
      exact ih
theorem ht_ls3 {k s z : Nat} (hk : k ≤ 8) (g : ht_G) (h : g 3 z = -1 ∨ ∃ j, j < 8 ∧ g 3 z = nI j) : ht_ls k s g 3 z = -1 ∨ ∃ j, j < 8 ∧ ht_ls k s g 3 z = nI j := by
  unfold ht_ls
  refine ht_lone k _ hk ?_
  rw [ht_up_r (by decide)]
  by_cases hz : z = s
  · subst hz
    exact Or.inl (ht_up_s _ _ _ _)
  · rw [ht_up_k hz, ht_up_k hz]
    exact h
theorem ht_al_iff {g : ht_G} {r : Nat} : ht_al g r ↔ ∀ z, z < 12 → (g r z = -1 ∨ ∃ j, j < 8 ∧ g r z = nI j) := by
  constructor
  · intro h z hz
    by_cases e : g r z = -1
    · exact Or.inl e
    · obtain ⟨j, a, b, -⟩ := h z hz e
      exact Or.inr ⟨j, a, b⟩
  · intro h z hz e
    rcases h z hz with q | ⟨j, a, b⟩
    · exact absurd q e
    · exact ⟨j, a, b, by rw [b, nI_clamp (by omega)]⟩
theorem ht_loc3 {k : Nat} (hk : k ≤ 8) {g : ht_G} (h : ht_al g 3) (n : Nat) : ht_al (ht_it (ht_ls k) n g) 3 := by
  induction n with
  | zero => exact h
  | succ n ih =>
    rw [ht_al_iff] at ih ⊢
    intro z hz
    rw [ht_it]
    exact ht_ls3 hk _ (ih z hz)
/-- the row before is the row that was -/
theorem ht_loc4 {k : Nat} {g : ht_G} : ∀ (n z : Nat), ht_it (ht_ls k) n g 4 z = if z < n then g 3 z else g 4 z := by
  intro n z
  induction n with
  | zero => simp [ht_it]
  | succ n ih =>
    rw [ht_it]
    by_cases hz : z = n
    · subst hz
      rw [if_pos (by omega)]
      unfold ht_ls
      simp only [ht_lcs_o (r := 4) (by decide) (by decide), ht_up_r (r := 2) (i := 4) (by decide), ht_up_r (r := 3) (i := 4) (by decide), ht_up_s]
      clear ih
      have : ∀ m, m ≤ z → ht_it (ht_ls k) m g 3 z = g 3 z := by
        intro m
        induction m with
        | zero => intro _; rfl
        | succ m ih => intro hm; rw [ht_it, ht_ls_c (by omega), ih (by omega)]
      exact this z (Nat.le_refl z)
    · rw [ht_ls_c hz, ih]
      by_cases h2 : z < n
      · rw [if_pos h2, if_pos (by omega)]
      · rw [if_neg h2, if_neg (by omega)]
theorem ht_loc4a {k : Nat} {g : ht_G} (h : ht_al g 3) : ht_al (ht_it (ht_ls k) 12 g) 4 := ht_al_of h (fun z hz => by rw [ht_loc4, if_pos hz])
theorem ht_sp {x : Int32} {n : Nat} (hn : n < 2 ^ 31) : x ≤ nI n ↔ x.toNatClampNeg ≤ n := by
  rw [Int32.le_iff_toInt_le, nI_toInt hn]
  show x.toInt ≤ n ↔ x.toInt.toNat ≤ n
  omega
theorem ht_sp31 (x : Int32) : x.toNatClampNeg < 2 ^ 31 := by
  have h := x.toInt_lt
  show x.toInt.toNat < 2 ^ 31
  omega
def ht_bo (g : ht_G) (c : Nat) : Prop := ∀ i, i < 8 → g (5 + i) c = 0 ∨ g (5 + i) c = 1
theorem ht_find_o {k r c : Nat} (h : r = 0 ∨ 5 ≤ r) (g : ht_G) : ht_find k g r c = g r c := by
  unfold ht_find
  rw [ht_it_keep (fun _ a => ht_s2_o (by omega) a), ht_it_keep (fun _ a => ht_s1_o (by omega) a), ht_it_keep (fun _ a => ht_ls_o (by omega) (by omega) (by omega) a)]
theorem ht_tick_eq (k : Nat) (g : ht_G) : ht_tick k g = ht_up (ht_find k (ht_it ht_rp k (ht_it (ht_mv k) k g))) 0 1 (ht_find k (ht_it ht_rp k (ht_it (ht_mv k) k g)) 0 1 + 1) := by
  unfold ht_tick
  rfl
