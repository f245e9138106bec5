theorem rf_span {x y : Int32} (h1 : rf_in y 1 40 = true) (h2 : rf_in x 0 119 = true) (h3 : -1 ≤ x - y) : ∃ X Y A : Nat, x = nI X ∧ X ≤ 119 ∧ A + Y = X + 1 ∧ x - y + 1 = nI A ∧ (x - y + 1).toNatClampNeg = A ∧ y.toNatClampNeg = Y := by
  simp only [rf_in, Bool.and_eq_true, Bool.not_eq_true', decide_eq_false_iff_not] at h1 h2
  obtain ⟨X, hX, eX⟩ := nI_of2 (M := 119) (n := 119) rfl h2.1 (Int32.not_lt.mp h2.2)
  have hy0 : ¬ y < 0 := fun h => h1.1 (Int32.lt_trans h (by decide))
  obtain ⟨Y, hY, eY⟩ := nI_of2 (M := 40) (n := 40) rfl hy0 (Int32.not_lt.mp h1.2)
  have hXY : Y ≤ X + 1 := by
    have h := Int32.le_iff_toInt_le.mp h3
    rw [eX, eY, pk_sub_toInt (by omega) (by omega)] at h
    have e1 : (-1 : Int32).toInt = -1 := rfl
    omega
  have e : x - y + 1 = nI (X + 1 - Y) := by
    rw [eX, eY, ← pk_sub hXY, ← nI_1, Int32.sub_eq_add_neg, Int32.sub_eq_add_neg, Int32.add_assoc, Int32.add_assoc, Int32.add_comm (-nI Y)]
  exact ⟨X, Y, X + 1 - Y, eX, hX, by omega, e, by rw [e, nI_clamp (by omega)], by rw [eY, nI_clamp (by omega)]⟩
def rf_ent (g : ht_G) (k : Nat) (x y : Int32) : ht_G :=
  let a1 := ht_up g 0 1 (g 0 1 + 1)
  let a2 := ht_up a1 1 k 1
  let a3 := ht_up a2 2 k 1
  let a4 := ht_up a3 3 k x
  let a5 := ht_up a4 4 k y
  let a6 := ht_up a5 6 k x
  let a7 := ht_up a6 8 k 1
  let a8 := ht_up a7 13 k (-1)
  rf_rep k a8
def rf_oEnter (g1 : ht_G) (k : Nat) (x y : Int32) : Int32 × ht_G := if rf_in y 1 40 = false ∨ rf_in x 0 119 = false ∨ ¬ -1 ≤ x - y then (0, ht_up g1 0 0 1) else if g1 0 1 = 8 then (0, ht_up g1 0 0 2)
  else if ht_ex (fun i => decide (0 ≤ rf_so g1 k (nI ((x - y + 1).toNatClampNeg + i)) (-1)) || rf_claimed g1 k (nI ((x - y + 1).toNatClampNeg + i) / 10) (-1)) y.toNatClampNeg = true then (0, ht_up g1 0 0 2)
  else (g1 0 1, rf_find (k + 1) (rf_ent g1 k x y))
