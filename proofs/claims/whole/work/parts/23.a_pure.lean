theorem rf_f1_o {k z r c : Nat} (h : r ≠ 15) (g : ht_G) : rf_f1 k z g r c = g r c := ht_up_r h
theorem rf_f3_o {z t r c : Nat} (h : r ≠ 14) (g : ht_G) : rf_f3 z t g r c = g r c := by
  unfold rf_f3
  split
  · exact ht_up_r h
  · rfl
theorem rf_f2a_o {k z r c : Nat} (h : r ≠ 14) (h2 : r ≠ 16) (g : ht_G) : rf_f2a k z g r c = g r c := by simp only [rf_f2a, ht_up_r h, ht_up_r h2]
theorem rf_f2_o {k z r c : Nat} (h : r ≠ 14) (h2 : r ≠ 16) (g : ht_G) : rf_f2 k z g r c = g r c := by
  unfold rf_f2
  split
  · exact rf_f2a_o h h2 g
  · rw [ht_it_keep (fun _ a => rf_f3_o h a), rf_f2a_o h h2]
theorem rf_isT_ix {g : ht_G} {k : Nat} (hk : k ≤ 8) {x : Int32} (h : rf_isT g k x = true) : ∃ j, j < k ∧ x = nI j ∧ x.toNatClampNeg = j := by
  simp only [rf_isT, Bool.and_eq_true] at h
  exact rf_ix hk h.1
theorem rf_ix12 {x : Int32} (h : rf_in x 0 11 = true) : ∃ j, j < 12 ∧ x = nI j ∧ x.toNatClampNeg = j := by
  simp only [rf_in, Bool.and_eq_true, Bool.not_eq_true', decide_eq_false_iff_not] at h
  obtain ⟨j, hj, e⟩ := nI_of2 (M := 11) (n := 11) rfl h.1 (Int32.not_lt.mp h.2)
  exact ⟨j, by omega, e, by rw [e, nI_clamp (by omega)]⟩
theorem rf_in_0 {y b : Int32} (h : rf_in y 0 b = true) : ¬ y < 0 := by
  simp only [rf_in, Bool.and_eq_true, Bool.not_eq_true', decide_eq_false_iff_not] at h
  exact h.1
theorem ht_le1 {y : Int32} (h : y ≤ 1) : y < 2 := by
  rw [Int32.lt_iff_toInt_lt]
  have h1 := Int32.le_iff_toInt_le.mp h
  have e1 : (1 : Int32).toInt = 1 := rfl
  have e2 : (2 : Int32).toInt = 2 := rfl
  omega
def rf_oDrive (g : ht_G) (k : Nat) (x y : Int32) : Int32 × ht_G := if rf_isT g k x = false then (0, ht_up g 0 0 1) else if rf_in y 0 9 = false then (0, ht_up g 0 0 2) else (g 5 x.toNatClampNeg, ht_up g 5 x.toNatClampNeg y)
def rf_oSilence (g : ht_G) (k : Nat) (x y : Int32) : Int32 × ht_G := if rf_isT g k x = false then (0, ht_up g 0 0 1) else (if g 7 x.toNatClampNeg = y then 0 else 1, ht_up g 7 x.toNatClampNeg y)
def rf_oRelent (g : ht_G) (k : Nat) (x : Int32) : Int32 × ht_G := if rf_isT g k x = false then (0, ht_up g 0 0 1) else if ¬ g 7 x.toNatClampNeg = 0 then (0, ht_up g 0 0 2) else (g 6 x.toNatClampNeg - g 3 x.toNatClampNeg, ht_up g 6 x.toNatClampNeg (g 3 x.toNatClampNeg))
def rf_oConfirm (g : ht_G) (k : Nat) (x : Int32) : Int32 × ht_G := if rf_isT g k x = false then (0, ht_up g 0 0 1) else if ¬ g 8 x.toNatClampNeg = 0 ∨ ¬ g 11 x.toNatClampNeg = 0 then (0, ht_up g 0 0 2) else (g 4 x.toNatClampNeg, ht_up g 8 x.toNatClampNeg 1)
def rf_oClear (g : ht_G) (k : Nat) (x : Int32) : Int32 × ht_G := if rf_in x 0 (nI k - 1) = false ∨ ¬ g 1 x.toNatClampNeg = 0 ∨ g 2 x.toNatClampNeg = 0 then (0, ht_up g 0 0 1) else (g 4 x.toNatClampNeg, ht_up g 2 x.toNatClampNeg 0)
def rf_oState (g : ht_G) (_k : Nat) (x : Int32) : Int32 × ht_G := if rf_in x 0 11 = false then (0, ht_up g 0 0 1) else (g 14 x.toNatClampNeg, g)
def rf_oDet (g : ht_G) (k : Nat) (x : Int32) : Int32 × ht_G := if rf_in x 0 3 = false then (0, ht_up g 0 0 1) else (ht_b (rf_occ g k x), g)
def rf_oVehicle (g : ht_G) (k : Nat) (x y : Int32) : Int32 × ht_G := if rf_in x 0 (nI k - 1) = false ∨ g 2 x.toNatClampNeg = 0 then (0, ht_up g 0 0 1) else if rf_in y 0 5 = false then (0, ht_up g 0 0 2) else if ¬ y ≤ 1 ∧ g 1 x.toNatClampNeg = 0 then (0, ht_up g 0 0 1) else (if y = 0 then g 3 x.toNatClampNeg else if y = 1 then g 4 x.toNatClampNeg else if y = 2 then g 6 x.toNatClampNeg else if y = 3 then g 12 x.toNatClampNeg else if y = 4 then g 9 x.toNatClampNeg else if g 8 x.toNatClampNeg = 0 then 0 else 1, g)
