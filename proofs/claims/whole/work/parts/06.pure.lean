/-! A WORLD AS A MAP: n cells, cell i lies at q i and holds E i. -/
def mw (n : Nat) (q : Nat → Nat) (E : Nat → va_E) : va_W := (List.range n).map fun i => (q i, E i)
theorem mw_at {n : Nat} {q : Nat → Nat} {E : Nat → va_E} {i : Nat} (h : i < n) : (mw n q E)[i]? = some (q i, E i) := by
  simp [mw, List.getElem?_map, List.getElem?_range h]
theorem mw_no {n : Nat} {q : Nat → Nat} {E : Nat → va_E} {i : Nat} (h : ¬ i < n) : (mw n q E)[i]? = none := by
  rw [List.getElem?_eq_none_iff]; simp [mw]; omega
theorem mw_of {n : Nat} {q : Nat → Nat} {E : Nat → va_E} {i : Nat} {x : Nat × va_E} (h : (mw n q E)[i]? = some x) : i < n ∧ x = (q i, E i) := by
  by_cases hi : i < n
  · rw [mw_at hi] at h; exact ⟨hi, (Option.some.inj h).symm⟩
  · rw [mw_no hi] at h; cases h
theorem mw_set {n : Nat} {q : Nat → Nat} {E E' : Nat → va_E} {i : Nat} {e : va_E} (h : i < n) (he : E' i = e) (ho : ∀ m, m < n → m ≠ i → E' m = E m) : (mw n q E).set i (q i, e) = mw n q E' := by
  apply List.ext_getElem?
  intro j
  by_cases hj : j < n
  · rw [List.getElem?_set, mw_at hj]
    by_cases hij : i = j
    · subst hij
      have hl : i < (mw n q E).length := by simp [mw]; exact h
      rw [if_pos rfl, if_pos hl, mw_at hj, he]
    · rw [if_neg hij, mw_at hj, ho j hj (fun z => hij z.symm)]
  · rw [mw_no hj, List.getElem?_eq_none_iff]; simp [mw]; omega
/-- the places that may be written: those of the world, and all that come -/
def mw_A (n : Nat) (q : Nat → Nat) (sz : Nat) : Nat → Prop := fun z => (∃ i, i < n ∧ z = q i) ∨ sz ≤ z
def mw_J (n : Nat) (q : Nat → Nat) : Prop := ∀ i j, i < n → j < n → q i = q j → i = j
theorem mw_D {n : Nat} {q : Nat → Nat} {E : Nat → va_E} {A : Nat → Prop} (hJ : mw_J n q) (hA : ∀ i, i < n → A (q i)) : va_D A (mw n q E) := by
  refine ⟨fun i j p r hi hj he => ?_, fun k r hk => ?_⟩
  · obtain ⟨h1, rfl⟩ := mw_of hi
    obtain ⟨h2, rfl⟩ := mw_of hj
    exact hJ i j h1 h2 he
  · obtain ⟨h1, rfl⟩ := mw_of hk
    exact hA k h1
theorem mw_DA {n : Nat} {q : Nat → Nat} {E : Nat → va_E} {sz : Nat} (hJ : mw_J n q) : va_D (mw_A n q sz) (mw n q E) := mw_D hJ (fun i hi => Or.inl ⟨i, hi, rfl⟩)
theorem mw_lt {n : Nat} {q : Nat → Nat} {E : Nat → va_E} {D : va_G} {cl : List vw_C} {H : Heap} (hP : va_P D cl (mw n q E) H) {i : Nat} (hi : i < n) : q i < H.size := (hP i _ (mw_at hi)).lt
/-- a world stands where its cells stand -/
theorem mw_kept {n : Nat} {q : Nat → Nat} {E : Nat → va_E} {D : va_G} {cl : List vw_C} {H H1 : Heap} (hP : va_P D cl (mw n q E) H) (h : ∀ i, i < n → H1[q i]? = H[q i]?) : va_P D cl (mw n q E) H1 :=
  hP.kept (fun k r hk => by obtain ⟨h1, rfl⟩ := mw_of hk; exact h k h1)
theorem mw_AA {n : Nat} {q : Nat → Nat} {a b : Nat} : ∀ z, z < a → mw_A n q a z → mw_A n q b z := fun z hz h => h.elim Or.inl (fun h => absurd h (Nat.not_le.mpr hz))
theorem mw_AF {n : Nat} {q : Nat → Nat} {a b : Nat} (h : b ≤ a) : ∀ z, mw_A n q a z → mw_A n q b z := fun z hz => hz.elim Or.inl (fun k => Or.inr (Nat.le_trans h k))
/-! THE CLASS'S STATE AS A GRID OF NUMBERS: row 0: came, ticksMade; rows 1..4: states, locatedTrains, loneTrain, loneTrainBefore; row 5 + i: vehicle i's thirteen fields in the order of its slots.
Pure functions that mirror the methods of the class, on the grid; k: how many vehicles came. -/
abbrev ht_G : Type := Nat → Nat → Int32
def ht_up (g : ht_G) (r k : Nat) (x : Int32) : ht_G := fun i j => if i = r ∧ j = k then x else g i j
theorem ht_up_s (g : ht_G) (r k : Nat) (x : Int32) : ht_up g r k x r k = x := by simp [ht_up]
theorem ht_up_r {g : ht_G} {r k i j : Nat} {x : Int32} (h : i ≠ r) : ht_up g r k x i j = g i j := by simp [ht_up, h]
theorem ht_up_k {g : ht_G} {r k i j : Nat} {x : Int32} (h : j ≠ k) : ht_up g r k x i j = g i j := by simp [ht_up, h]
theorem ht_up_row {g : ht_G} {r k i : Nat} {x : Int32} (h : i ≠ r) : ht_up g r k x i = g i := funext fun j => ht_up_r h
def ht_b (p : Bool) : Int32 := if p = true then 1 else 0
theorem ht_b_t : ht_b true = 1 := rfl
theorem ht_b_f : ht_b false = 0 := rfl
theorem ht_b0 {p : Bool} : ht_b p = 0 ↔ p = false := by cases p <;> simp [ht_b]
theorem ht_b1 {p : Bool} : ¬ ht_b p = 0 ↔ p = true := by cases p <;> simp [ht_b]
/-- is there an i < n with p i -/
def ht_ex (p : Nat → Bool) : Nat → Bool
  | 0 => false
  | n + 1 => ht_ex p n || p n
theorem ht_ex_t {p : Nat → Bool} {n i : Nat} (hi : i < n) (h : p i = true) : ht_ex p n = true := by
  induction n with
  | zero => exact absurd hi (Nat.not_lt_zero i)
  | succ n ih =>
    rcases Nat.lt_succ_iff_lt_or_eq.mp hi with q | q
    · simp [ht_ex, ih q]
    · subst q; simp [ht_ex, h]
theorem ht_ex_s {p : Nat → Bool} {n : Nat} (h1 : ht_ex p n = false) (h2 : p n = false) : ht_ex p (n + 1) = false := by simp [ht_ex, h1, h2]
theorem ht_ex_iff {p : Nat → Bool} {n : Nat} : ht_ex p n = true ↔ ∃ i, i < n ∧ p i = true := by
  induction n with
  | zero => simp [ht_ex]
  | succ n ih =>
    simp only [ht_ex, Bool.or_eq_true, ih]
    constructor
    · rintro (⟨i, a, b⟩ | h)
      · exact ⟨i, by omega, b⟩
      · exact ⟨n, by omega, h⟩
    · rintro ⟨i, a, b⟩
      rcases Nat.lt_succ_iff_lt_or_eq.mp a with q | q
      · exact Or.inl ⟨i, q, b⟩
      · subst q; exact Or.inr b
theorem ht_ex_congr {p r : Nat → Bool} {n : Nat} (h : ∀ i, i < n → p i = r i) : ht_ex p n = ht_ex r n := by
  induction n with
  | zero => rfl
  | succ n ih => simp only [ht_ex]; rw [ih (fun i hi => h i (by omega)), h n (by omega)]
/-- how many i < n with p i -/
def ht_num (p : Nat → Bool) : Nat → Nat
  | 0 => 0
  | n + 1 => if p n = true then ht_num p n + 1 else ht_num p n
theorem ht_num_le (p : Nat → Bool) (n : Nat) : ht_num p n ≤ n := by
  induction n with
  | zero => exact Nat.le_refl _
  | succ n ih => simp only [ht_num]; split <;> omega
theorem ht_num_congr {p r : Nat → Bool} {n : Nat} (h : ∀ i, i < n → p i = r i) : ht_num p n = ht_num r n := by
  induction n with
  | zero => rfl
  | succ n ih => simp only [ht_num]; rw [ih (fun i hi => h i (by omega)), h n (by omega)]
/-- n turns of a body, by rising numbers -/
def ht_it {α : Type} (f : Nat → α → α) : Nat → α → α
  | 0, a => a
  | n + 1, a => f n (ht_it f n a)
-- a vehicle's row v
def ht_last (v : Nat → Int32) : Int32 := v 2 - v 3 + 1
def ht_stands (v : Nat → Int32) (lo hi : Int32) : Bool := !decide (v 1 = 0) && (!decide (v 2 < lo) && !decide (hi < ht_last v))
def ht_mute (v : Nat → Int32) : Bool := !decide (v 0 = 0) && !decide (v 8 ≤ 5)
def ht_locOn (v : Nat → Int32) (s : Int32) : Bool := !decide (v 0 = 0) && (!ht_mute v && (!decide (s < v 11) && !decide (v 9 / 10 < s)))
def ht_claims (v : Nat → Int32) (a b : Int32) : Bool := !decide (v 0 = 0) && (!decide (b < v 11) && !decide (v 5 / 10 < a))
def ht_left (v : Nat → Int32) (s : Int32) : Bool := !decide (s < v 12) && !decide (v 11 ≤ s)
-- the object's
def ht_stood (g : ht_G) (k : Nat) (lo hi : Int32) : Bool := ht_ex (fun i => ht_stands (g (5 + i)) lo hi) k
def ht_claimed (g : ht_G) (k : Nat) (a b ex : Int32) : Bool := ht_ex (fun i => !decide (nI i = ex) && ht_claims (g (5 + i)) a b) k
def ht_claimM (g : ht_G) (k : Nat) (a b : Int32) : Bool := ht_ex (fun i => ht_mute (g (5 + i)) && ht_claims (g (5 + i)) a b) k
def ht_det (g : ht_G) (k : Nat) (d : Int32) : Bool := ht_stood g k (d * 30) (d * 30 + 30 - 1)
def ht_sec (g : ht_G) (k : Nat) (s : Int32) : Bool := ht_stood g k (s * 10) (s * 10 + 10 - 1)
def ht_far (g : ht_G) (k : Nat) (t : Int32) : Nat → Nat → Nat
  | 0, s => s
  | n + 1, s => if g 1 (s + 1) = 0 ∧ ht_claimed g k (nI (s + 1)) (nI (s + 1)) t = false then ht_far g k t n (s + 1) else s
def ht_in (g : ht_G) (w : Int32) : Nat := ht_num (fun s => decide (g 1 s = w)) 12
def ht_wrong (g : ht_G) (k : Nat) : Nat := ht_num (fun s => decide (g 1 s = 0) && (!ht_claimed g k (nI s) (nI s) (-1) && ht_sec g k (nI s))) 12
def ht_trains (g : ht_G) (k : Nat) : Nat := ht_num (fun i => !decide (g (5 + i) 0 = 0)) k
def ht_go (k i : Nat) : Nat → ht_G → ht_G
  | 0, g => g
  | n + 1, g => if g (5 + i) 5 < g (5 + i) 2 + 1 then g else if ht_stood g k (g (5 + i) 2 + 1) (g (5 + i) 2 + 1) = true then g else ht_go k i n (ht_up g (5 + i) 2 (g (5 + i) 2 + 1))
def ht_mv (k i : Nat) (g : ht_G) : ht_G := if g (5 + i) 0 = 0 then g else ht_go k i (g (5 + i) 4).toNatClampNeg g
def ht_send (i : Nat) (g : ht_G) : ht_G :=
  let g1 := ht_up g (5 + i) 9 (g (5 + i) 2)
  let g2 := ht_up g1 (5 + i) 10 (g1 (5 + i) 7)
  let g3 := ht_up g2 (5 + i) 12 (g2 (5 + i) 11)
  let g4 := ht_up g3 (5 + i) 11 (ht_last (g3 (5 + i)) / 10)
  ht_up g4 (5 + i) 8 0
def ht_rp (i : Nat) (g : ht_G) : ht_G := if g (5 + i) 0 = 0 then g else if g (5 + i) 6 = 0 then ht_send i g else ht_up g (5 + i) 8 (g (5 + i) 8 + 1)
def ht_lc (s i : Nat) (g : ht_G) : ht_G := if ht_locOn (g (5 + i)) (nI s) = true then
    let g1 := ht_up g 2 s (g 2 s + 1)
    ht_up g1 3 s (if g1 2 s = 1 then nI i else -1)
  else g
def ht_ls (k s : Nat) (g : ht_G) : ht_G :=
  let g1 := ht_up g 4 s (g 3 s)
  let g2 := ht_up g1 3 s (-1)
  ht_it (ht_lc s) k (ht_up g2 2 s 0)
def ht_under (g : ht_G) (s : Nat) : Int32 := if (¬ g 3 s = -1 ∧ ¬ g (5 + (g 3 s).toNatClampNeg) 10 = 0) ∧ (g 1 s = 0 ∨ g 1 s = 1) then 1 else 2
def ht_anyLoc (g : ht_G) (a : Nat) : Nat → Bool := ht_ex (fun j => decide (0 < g 2 (a + j)))
def ht_broken (g : ht_G) (k s : Nat) : Bool := ht_ex (fun i => !decide (g (5 + i) 0 = 0) && (decide (g (5 + i) 8 = 0) && (decide (g (5 + i) 10 = 0) && ht_left (g (5 + i)) (nI s)))) k
def ht_stays (g : ht_G) (k s : Nat) : Bool := (ht_anyLoc g (s - s % 3) 3 || ht_claimM g k (nI (s - s % 3)) (nI (s - s % 3 + 2))) && !ht_broken g k s
def ht_byW (g : ht_G) (s : Nat) : Bool := !decide (g 4 s = -1) && (decide (g (5 + (g 4 s).toNatClampNeg) 8 = 0) && !decide (g (5 + (g 4 s).toNatClampNeg) 10 = 0))
def ht_st (g : ht_G) (k s : Nat) : Int32 := if ht_det g k (nI s / 3) = false then 0 else if ¬ g 2 s ≤ 0 then ht_under g s else if g 1 s = 0 then (if ht_stays g k s = true then 0 else 3) else if g 1 s = 1 then (if ht_byW g s = true then 0 else 3) else 3
def ht_s1 (k s : Nat) (g : ht_G) : ht_G := ht_up g 1 s (ht_st g k s)
def ht_s2 (k s : Nat) (g : ht_G) : ht_G := if g 1 s = 0 ∧ ht_claimM g k (nI s) (nI s) = true ∧ ht_det g k (nI s / 3) = true then ht_up g 1 s 3 else g
def ht_find (k : Nat) (g : ht_G) : ht_G := ht_it (ht_s2 k) 12 (ht_it (ht_s1 k) 12 (ht_it (ht_ls k) 12 g))
def ht_tick (k : Nat) (g : ht_G) : ht_G :=
  let g1 := ht_find k (ht_it ht_rp k (ht_it (ht_mv k) k g))
  ht_up g1 0 1 (g1 0 1 + 1)
