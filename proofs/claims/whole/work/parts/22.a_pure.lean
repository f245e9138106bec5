theorem ht_3d (d : Nat) : (3 : Int32) * nI d = nI (3 * d) := by rw [show (3 : Int32) = nI 3 from rfl, pk_mul]
theorem ht_3d3 (d : Nat) : (3 : Int32) * nI d + 3 = nI (3 * d + 3) := by rw [ht_3d, show (3 : Int32) = nI 3 from rfl, nI_add]
theorem ht_10 (d : Nat) : (10 : Int32) * nI d = nI (10 * d) := by rw [show (10 : Int32) = nI 10 from rfl, pk_mul]
theorem ht_1010 (d : Nat) : (10 : Int32) * nI d + 10 = nI (10 * d + 10) := by rw [ht_10, show (10 : Int32) = nI 10 from rfl, nI_add]
theorem ht_z3 {z : Nat} (hz : z < 12) : nI z / 3 = nI (z / 3) := by rw [show (3 : Int32) = nI 3 from rfl, pk_div (by omega) (by omega) (by omega)]
theorem rf_one_lt {g : ht_G} {x : Int32} : ∀ n, n ≤ 8 → rf_one g x n < 8 := by
  intro n hn
  induction n with
  | zero => simp [rf_one]
  | succ n ih =>
    simp only [rf_one]
    split
    · omega
    · exact ih (by omega)
theorem rf_many_neg {g : ht_G} {k : Nat} {x : Int32} (hk : k ≤ 8) (h : ¬ 0 ≤ rf_many g k x) : ∃ j, j < 8 ∧ rf_many g k x + 100 = nI j ∧ (rf_many g k x + 100).toNatClampNeg = j := by
  have hle : rf_n g x k ≤ k := ht_num_le _ _
  by_cases e : nI (rf_n g x k) = 1
  · refine ⟨rf_one g x k, rf_one_lt k hk, ?_⟩
    have h1 : rf_many g k x + 100 = nI (rf_one g x k) := by
      rw [rf_many, if_pos e, Int32.sub_add_cancel]
    have h2 := rf_one_lt (g := g) (x := x) k hk
    exact ⟨h1, by rw [h1, nI_clamp (by omega)]⟩
  · exfalso
    rw [rf_many, if_neg e] at h
    exact h (nI_pos' (by omega))
