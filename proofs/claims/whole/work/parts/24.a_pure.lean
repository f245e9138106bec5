def rf_go (k t : Nat) : Nat → ht_G → ht_G
  | 0, g => g
  | n + 1, g => if g 6 t ≤ g 3 t then g else if 0 ≤ rf_so g k (g 3 t + 1) (nI t) then g else rf_go k t n (ht_up g 3 t (g 3 t + 1))
def rf_mv (k t : Nat) (g : ht_G) : ht_G := rf_go k t (g 5 t).toNatClampNeg g
def rf_rp (t : Nat) (g : ht_G) : ht_G := if g 1 t = 0 then g else if g 7 t = 0 then rf_rep t (ht_up g 13 t (g 10 t)) else ht_up g 12 t (g 12 t + 1)
def rf_tick (k : Nat) (g : ht_G) : ht_G := rf_find k (ht_it rf_rp k (ht_it (rf_mv k) k (ht_up g 0 2 (g 0 2 + 1))))
theorem rf_tick_eq (k : Nat) (g : ht_G) : rf_tick k g = rf_find k (ht_it rf_rp k (ht_it (rf_mv k) k (ht_up g 0 2 (g 0 2 + 1)))) := by unfold rf_tick; rfl
theorem rf_go_o {k t r c : Nat} (h : r ≠ 3) : ∀ (n : Nat) (g : ht_G), rf_go k t n g r c = g r c := by
  intro n
  induction n with
  | zero => intro g; rfl
  | succ n ih =>
    intro g
    simp only [rf_go]
    split
    · rfl
    · split
      · rfl
      · rw [ih, ht_up_r h]
theorem rf_mv_o {k t r c : Nat} (h : r = 0 ∨ 4 ≤ r) (g : ht_G) : rf_mv k t g r c = g r c := rf_go_o (by omega) _ _
theorem rf_rep_o {t r c : Nat} (h : r < 9 ∨ 12 < r) (g : ht_G) : rf_rep t g r c = g r c := by
  simp only [rf_rep, ht_up_r (show r ≠ 12 by omega), ht_up_r (show r ≠ 11 by omega), ht_up_r (show r ≠ 10 by omega), ht_up_r (show r ≠ 9 by omega)]
theorem rf_rp_o {t r c : Nat} (h : r < 9 ∨ 13 < r) (g : ht_G) : rf_rp t g r c = g r c := by
  unfold rf_rp
  split
  · rfl
  · split
    · rw [rf_rep_o (by omega), ht_up_r (by omega)]
    · exact ht_up_r (by omega)
def rf_bw (g : ht_G) : Prop := ∀ i, i < 8 → g 8 i = 0 ∨ g 8 i = 1
theorem rf_bw_of {g g' : ht_G} (h : rf_bw g) (e : ∀ i, i < 8 → g' 8 i = g 8 i) : rf_bw g' := fun i hi => by rw [e i hi]; exact h i hi
theorem rf_lt8 {g : ht_G} {k : Nat} (hk : k ≤ 8) (hn : g 0 1 = nI k) (c : ¬ g 0 1 = 8) : k < 8 := by
  rcases Nat.lt_or_ge k 8 with h | h
  · exact h
  · exact absurd (by rw [hn, show k = 8 by omega]; rfl) c
def rf_en (g : ht_G) : Prop := ∀ j, j < 8 → ∃ a, a < 12 ∧ g 6 j / 10 = nI a
def rf_lose3 (g : ht_G) (k j : Nat) (y : Int32) : ht_G :=
  let g1 := ht_up g 0 1 (g 0 1 + 1)
  let g2 := ht_up g1 2 k 1
  let g3 := ht_up g2 3 k (rf_last g2 j + y - 1)
  let g4 := ht_up g3 4 k y
  let g5 := ht_up g4 4 j (g4 4 j - y)
  ht_up g5 8 j 0
def rf_oLose (g : ht_G) (k : Nat) (x y : Int32) : Int32 × ht_G := if rf_isT g k x = false then (0, ht_up g 0 0 1) else if rf_in y 1 (g 4 x.toNatClampNeg - 1) = false then (0, ht_up g 0 0 2) else if g 0 1 = 8 then (0, ht_up g 0 0 3) else (g 0 1, rf_lose3 g k x.toNatClampNeg y)
def rf_far (g : ht_G) (k : Nat) (t : Int32) : Nat → Nat → Nat
  | 0, s => s
  | n + 1, s => if g 14 (s + 1) = 0 ∧ rf_claimed g k (nI (s + 1)) t = false then rf_far g k t n (s + 1) else s
def rf_oAuth (g : ht_G) (k : Nat) (x : Int32) : Int32 × ht_G := if rf_isT g k x = false then (0, ht_up g 0 0 1) else if rf_mute g x.toNatClampNeg = true ∨ ¬ g 7 x.toNatClampNeg = 0 then (0, ht_up g 0 0 2)
  else if rf_claimed g k (g 6 x.toNatClampNeg / 10) x = true ∨ (¬ g 14 (g 6 x.toNatClampNeg / 10).toNatClampNeg = 0 ∧ ¬ g 9 x.toNatClampNeg / 10 = g 6 x.toNatClampNeg / 10) then (g 6 x.toNatClampNeg, g)
  else (10 * nI (rf_far g k x (11 - (g 6 x.toNatClampNeg / 10).toNatClampNeg) (g 6 x.toNatClampNeg / 10).toNatClampNeg) + 9, ht_up g 6 x.toNatClampNeg (10 * nI (rf_far g k x (11 - (g 6 x.toNatClampNeg / 10).toNatClampNeg) (g 6 x.toNatClampNeg / 10).toNatClampNeg) + 9))
