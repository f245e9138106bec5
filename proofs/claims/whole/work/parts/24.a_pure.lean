def rf_go (k t : Nat) : Nat → ht_G → ht_G
  | 0, g => g
  | n + 1, g => if g 6 t ≤ g 3 t then g else if 0 ≤ rf_so g k (g 3 t + 1) (nI t) then g else rf_go k t n (ht_up g 3 t (g 3 t + 1))
def rf_mv (k t : Nat) (g : ht_G) : ht_G := rf_go k t (g 5 t).toNatClampNeg g
def rf_rp (t : Nat) (g : ht_G) : ht_G := if g 1 t = 0 then g else if g 7 t = 0 then rf_rep t (ht_up g 13 t (g 10 t)) else ht_up g 12 t (g 12 t + 1)
def rf_tick (k : Nat) (g : ht_G) : ht_G := rf_find k (ht_it rf_rp k (ht_it (rf_mv k) k (ht_up g 0 2 (g 0 2 + 1))))
theorem rf_tick_eq (k : Nat) (g : ht_G) : rf_tick k g = rf_find k (ht_it rf_rp k (ht_it (rf_mv k) k (ht_up g 0 2 (g 0 2 + 1)))) := by unfold rf_tick; rfl
theorem rf_go_o {k t r c : Nat} (h : r ≠ 3) : ∀ (n : Nat) (g : ht_G), rf_go k t n g r c = g r c := by
  intro n
  induction n with
  | zero => intro g; rfl
  | succ n ih =>
    intro g
    simp only [rf_go]
    split
    · rfl
    · split
      · rfl
      · rw [ih, ht_up_r h]
theorem rf_mv_o {k t r c : Nat} (h : r = 0 ∨ 4 ≤ r) (g : ht_G) : rf_mv k t g r c = g r c := rf_go_o (by omega) _ _
theorem rf_rep_o {t r c : Nat} (h : r < 9 ∨ 12 < r) (g : ht_G) : rf_rep t g r c = g r c := by
  simp only [rf_rep, ht_up_r (show r ≠ 12 by omega), ht_up_r (show r ≠ 11 by omega), ht_up_r (show r ≠ 10 by omega), ht_up_r (show r ≠ 9 by omega)]
theorem rf_rp_o {t r c : Nat} (h : r < 9 ∨ 13 < r) (g : ht_G) : rf_rp t g r c = g r c := by
  unfold rf_rp
  split
  · rfl
  · split
    · rw [rf_rep_o (by omega), ht_up_r (by omega)]
    · exact ht_up_r (by omega)
def rf_bw (g : ht_G) : Prop := ∀ i, i < 8 → g 8 i = 0 ∨ g 8 i = 1
theorem rf_bw_of {g g' : ht_G} (h : rf_bw g) (e : ∀ i, i < 8 → g' 8 i = g 8 i) : rf_bw g' := fun i hi => by rw [e i hi]; exact h i hi
theorem rf_lt8 {g : ht_G} {k : Nat} (hk : k ≤ 8) (hn : g 0 1 = nI k) (c : ¬ g 0 1 = 8) : k < 8 := by
  rcases Nat.lt_or_ge k 8 with h | h
  · exact h
  · exact absurd (by rw [hn, show k = 8 by omega]; rfl) c
def rf_en (g : ht_G) : Prop := ∀ j, j < 8 → ∃ a, a < 12 ∧ g 6 j / 10 = nI a
def rf_lose3 (g : ht_G) (k j : Nat) (y : Int32) : ht_G :=
  let g1 := ht_up g 0 1 (g 0 1 + 1)
  let g2 := ht_up g1 2 k 1
  let g3 := ht_up g2 3 k (rf_last g2 j + y - 1)
  let g4 := ht_up g3 4 k y
  let g5 := ht_up g4 4 j (g4 4 j - y)
  ht_up g5 8 j 0
def rf_oLose (g : ht_G) (k : Nat) (x y : Int32) : Int32 × ht_G := if rf_isT g k x = false then (0, ht_up g 0 0 1) else if rf_in y 1 (g 4 x.toNatClampNeg - 1) = false then (0, ht_up g 0 0 2) else if g 0 1 = 8 then (0, ht_up g 0 0 3) else (g 0 1, rf_lose3 g k x.toNatClampNeg y)
def rf_far (g : ht_G) (k : Nat) (t : Int32) : Nat → Nat → Nat
  | 0, s => s
  | n + 1, s => if g 14 (s + 1) = 0 ∧ rf_claimed g k (nI (s + 1)) t = false then rf_far g k t n (s + 1) else s
def rf_oAuth (g : ht_G) (k : Nat) (x : Int32) : Int32 × ht_G := if rf_isT g k x = false then (0, ht_up g 0 0 1) else if rf_mute g x.toNatClampNeg = true ∨ ¬ g 7 x.toNatClampNeg = 0 then (0, ht_up g 0 0 2)
  else if rf_claimed g k (g 6 x.toNatClampNeg / 10) x = true ∨ (¬ g 14 (g 6 x.toNatClampNeg / 10).toNatClampNeg = 0 ∧ ¬ g 9 x.toNatClampNeg / 10 = g 6 x.toNatClampNeg / 10) then (g 6 x.toNatClampNeg, g)
  else (10 * nI (rf_far g k x (11 - (g 6 x.toNatClampNeg / 10).toNatClampNeg) (g 6 x.toNatClampNeg / 10).toNatClampNeg) + 9, ht_up g 6 x.toNatClampNeg (10 * nI (rf_far g k x (11 - (g 6 x.toNatClampNeg / 10).toNatClampNeg) (g 6 x.toNatClampNeg / 10).toNatClampNeg) + 9))
theorem ht_end11 {f : Nat} (hf : f < 12) (c : (11 : Int32) ≤ nI f) : f = 11 := by
  have h := (nI_leI (a := 11) (b := f) (by omega) (by omega)).mp c
  omega
theorem ht_lt11 {f : Nat} (hf : f < 12) (c : ¬ (11 : Int32) ≤ nI f) : f + 1 < 12 := by
  have h := mt (nI_leI (a := 11) (b := f) (by omega) (by omega)).mpr c
  omega
theorem ht_it_c {α : Type} (f : α → α) (n : Nat) (a : α) : ht_it (fun _ => f) (n + 1) a = f (ht_it (fun _ => f) n a) := rfl
theorem rf_t6 {x : Int32} (h : rf_in x 1 6 = true) : ∃ N, N ≤ 6 ∧ x = nI N ∧ x.toNatClampNeg = N := by
  simp only [rf_in, Bool.and_eq_true, Bool.not_eq_true', decide_eq_false_iff_not] at h
  exact ht_t6 h.1 (Int32.not_lt.mp h.2)
def rf_oTick (g : ht_G) (k : Nat) (x : Int32) : Int32 × ht_G := if rf_in x 1 6 = false then (0, ht_up g 0 0 1) else (nI (rf_cs (ht_it (fun _ => rf_tick k) x.toNatClampNeg g) 0), ht_it (fun _ => rf_tick k) x.toNatClampNeg g)
def rf_oCount (g1 : ht_G) (k : Nat) (y : Int32) : Int32 × ht_G := if y = 0 then (g1 0 1, g1) else if y = 1 then (nI (ht_num (fun v => !decide (g1 1 v = 0)) k), g1) else if y = 2 ∨ y = 3 ∨ y = 4 ∨ y = 5 then (nI (rf_cs g1 (y - 2)), g1) else if y = 6 then (nI (ht_num (fun s => decide (g1 14 s = 0) && (!rf_claimed g1 k (nI s) (-1) && rf_stood g1 k s)) 12), g1) else if y = 7 then (g1 0 2, g1) else (0, ht_up g1 0 0 1)
theorem rf_find_o {k r c : Nat} (h : r < 14) (g : ht_G) : rf_find k g r c = g r c := by
  unfold rf_find
  rw [ht_it_keep (fun _ a => rf_f2_o (by omega) (by omega) a), ht_it_keep (fun _ a => rf_f1_o (by omega) a)]
theorem rf_tick_n {k : Nat} {g : ht_G} : rf_tick k g 0 1 = g 0 1 := by
  rw [rf_tick_eq, rf_find_o (by decide), ht_it_keep (fun _ a => rf_rp_o (Or.inl (by decide)) a), ht_it_keep (fun _ a => rf_mv_o (Or.inl rfl) a), ht_up_k (by decide)]
theorem rf_tick_bw {k : Nat} {g : ht_G} (h : rf_bw g) : rf_bw (rf_tick k g) := rf_bw_of h (fun i _ => by
  rw [rf_tick_eq, rf_find_o (by decide), ht_it_keep (fun _ a => rf_rp_o (Or.inl (by decide)) a), ht_it_keep (fun _ a => rf_mv_o (Or.inr (by decide)) a), ht_up_r (by decide)])
theorem rf_f2_16 {k z : Nat} (hk : k ≤ 8) {g : ht_G} (h : ht_al g 16) : ht_al (rf_f2 k z g) 16 := by
  have key : ht_al (rf_f2a k z g) 16 := by
    rw [ht_al_iff] at h ⊢
    intro y hy
    simp only [rf_f2a]
    by_cases e : y = z
    · subst e
      rw [ht_up_s]
      split
      · rename_i c
        obtain ⟨j, a, b, -⟩ := rf_many_neg hk c
        exact Or.inr ⟨j, a, b⟩
      · exact Or.inl rfl
    · rw [ht_up_k e, ht_up_k e]
      exact h y hy
  unfold rf_f2
  split
  · exact key
  · exact ht_al_of key (fun y _ => ht_it_keep (fun _ a => rf_f3_o (by decide) a) _ _)
theorem rf_find_al {k : Nat} (hk : k ≤ 8) {g : ht_G} (h : ht_al g 16) : ht_al (rf_find k g) 16 := by
  unfold rf_find
  have h1 : ht_al (ht_it (rf_f1 k) 12 g) 16 := ht_al_of h (fun y _ => ht_it_keep (fun _ a => rf_f1_o (by decide) a) _ _)
  generalize ht_it (rf_f1 k) 12 g = gb at h1 ⊢
  have : ∀ n, ht_al (ht_it (rf_f2 k) n gb) 16 := by
    intro n
    induction n with
    | zero => exact h1
    | succ n ih => exact rf_f2_16 hk ih
  exact this 12
theorem rf_tick_al {k : Nat} (hk : k ≤ 8) {g : ht_G} (h : ht_al g 16) : ht_al (rf_tick k g) 16 := by
  rw [rf_tick_eq]
  exact rf_find_al hk (ht_al_of h (fun y _ => by rw [ht_it_keep (fun _ a => rf_rp_o (Or.inr (by decide)) a), ht_it_keep (fun _ a => rf_mv_o (Or.inr (by decide)) a), ht_up_r (by decide)]))
