def ht_oCount (g : ht_G) (k : Nat) (y : Int32) : Int32 × Int32 × ht_G := if y = 0 then (0, g 0 0, g) else if y = 1 then (0, nI (ht_trains g k), g) else if y = 2 then (0, nI (ht_in g 0), g) else if y = 3 then (0, nI (ht_in g 1), g) else if y = 4 then (0, nI (ht_in g 2), g) else if y = 5 then (0, nI (ht_in g 3), g) else if y = 6 then (0, nI (ht_wrong g k), g) else if y = 7 then (0, g 0 1, g) else (1, 0, g)
def ht_oVehicle (g : ht_G) (k : Nat) (x y : Int32) : Int32 × Int32 × ht_G := if ht_on g k x = false then (1, 0, g) else if y < 0 ∨ ¬ y ≤ 5 then (2, 0, g) else if ¬ y < 2 ∧ g (5 + x.toNatClampNeg) 0 = 0 then (1, 0, g) else (0, if y = 0 then g (5 + x.toNatClampNeg) 2 else if y = 1 then g (5 + x.toNatClampNeg) 3 else if y = 2 then g (5 + x.toNatClampNeg) 5 else if y = 3 then g (5 + x.toNatClampNeg) 8 else if y = 4 then g (5 + x.toNatClampNeg) 9 else if g (5 + x.toNatClampNeg) 7 = 0 then 0 else 1, g)
def ht_oTick (g : ht_G) (k : Nat) (x : Int32) : Int32 × Int32 × ht_G := if x < 1 ∨ ¬ x ≤ 6 then (1, 0, g) else (0, nI (ht_in (ht_it (fun _ => ht_tick k) x.toNatClampNeg g) 0), ht_it (fun _ => ht_tick k) x.toNatClampNeg g)
def ht_oEnter (g : ht_G) (k : Nat) (x y : Int32) : Int32 × Int32 × ht_G := if y < 1 ∨ ¬ y ≤ 40 then (1, 0, g) else if x < 0 ∨ 120 ≤ x ∨ ¬ 0 ≤ x - y + 1 then (1, 0, g) else if ¬ g 0 0 < 8 then (2, 0, g) else if ht_stood g k (x - y + 1) x = true then (2, 0, g) else if ht_claimed g k ((x - y + 1) / 10) (x / 10) (-1) = true then (2, 0, g) else
  (0, ht_find (k + 1) (ht_up (ht_become k x y g) 0 0 (ht_become k x y g 0 0 + 1)) 0 0 - 1, ht_find (k + 1) (ht_up (ht_become k x y g) 0 0 (ht_become k x y g 0 0 + 1)))
def ht_lose3 (g : ht_G) (k j : Nat) (y : Int32) : ht_G :=
  let g1 := ht_wagon k (ht_last (g (5 + j)) + y - 1) y g
  let g2 := ht_up g1 0 0 (g1 0 0 + 1)
  let g3 := ht_up g2 (5 + j) 3 (g2 (5 + j) 3 - y)
  ht_up g3 (5 + j) 7 0
def ht_oLose (g : ht_G) (k : Nat) (x y : Int32) : Int32 × Int32 × ht_G := if ht_tr g k x = false then (1, 0, g) else if y < 1 ∨ ¬ y < g (5 + x.toNatClampNeg) 3 then (2, 0, g) else if ¬ g 0 0 < 8 then (3, 0, g) else (0, ht_lose3 g k x.toNatClampNeg y 0 0 - 1, ht_lose3 g k x.toNatClampNeg y)
def ht_oAuth (g : ht_G) (k : Nat) (x : Int32) : Int32 × Int32 × ht_G := if ht_tr g k x = false then (1, 0, g) else if ht_mute (g (5 + x.toNatClampNeg)) = true ∨ ¬ g (5 + x.toNatClampNeg) 6 = 0 then (2, 0, g)
  else if (g 1 (g (5 + x.toNatClampNeg) 5 / 10).toNatClampNeg = 0 ∨ g (5 + x.toNatClampNeg) 9 / 10 = g (5 + x.toNatClampNeg) 5 / 10) ∧ ht_claimed g k (g (5 + x.toNatClampNeg) 5 / 10) (g (5 + x.toNatClampNeg) 5 / 10) x = false then
    (0, nI (ht_far g k x (11 - (g (5 + x.toNatClampNeg) 5 / 10).toNatClampNeg) (g (5 + x.toNatClampNeg) 5 / 10).toNatClampNeg) * 10 + 10 - 1, ht_up g (5 + x.toNatClampNeg) 5 (nI (ht_far g k x (11 - (g (5 + x.toNatClampNeg) 5 / 10).toNatClampNeg) (g (5 + x.toNatClampNeg) 5 / 10).toNatClampNeg) * 10 + 10 - 1))
  else (0, g (5 + x.toNatClampNeg) 5, g)
def ht_en (g : ht_G) : Prop := ∀ j, j < 8 → ∃ a, a < 12 ∧ g (5 + j) 5 / 10 = nI a
theorem ht_t6 {x : Int32} (h1 : ¬ x < 1) (h2 : x ≤ 6) : ∃ N, N ≤ 6 ∧ x = nI N ∧ x.toNatClampNeg = N := by
  have h0 : ¬ x < 0 := fun h => h1 (Int32.lt_trans h (by decide))
  obtain ⟨j, hj, e⟩ := nI_of2 (M := 6) (n := 6) rfl h0 h2
  exact ⟨j, hj, e, by rw [e, nI_clamp (by omega)]⟩
theorem ht_01 {y : Int32} (h0 : ¬ y < 0) (h2 : y < 2) (n0 : ¬ y = 0) (n1 : ¬ y = 1) : False := by
  obtain ⟨j, hj, e⟩ := nI_of h0
  subst e
  have h := (nI_ltI (b := 2) hj (by omega)).mp h2
  rcases (show j = 0 ∨ j = 1 by omega) with rfl | rfl
  · exact n0 rfl
  · exact n1 rfl
theorem ht_lt8 {g : ht_G} {k : Nat} (hk : k ≤ 8) (hn : g 0 0 = nI k) (c : g 0 0 < 8) : k < 8 := by
  rw [hn] at c
  exact (nI_ltI (b := 8) (by omega) (by omega)).mp c
theorem ht_become_o {j r c : Nat} {a b : Int32} {g : ht_G} (h : r < 5) : ht_become j a b g r c = g r c := by
  simp only [ht_become, ht_up_r (show r ≠ 5 + j by omega), ht_send_o (Or.inl h)]
theorem ht_tick_n {k c : Nat} {g : ht_G} (h : c = 0 := by rfl) : ht_tick k g 0 c = g 0 c := by
  subst h
  rw [ht_tick_eq, ht_up_k (by decide), ht_find_o (Or.inl rfl), ht_it_keep (fun _ a => ht_rp_o (Or.inl (by decide)) a), ht_it_keep (fun _ a => ht_mv_o (Or.inl (by decide)) a)]
theorem ht_tick_al {k : Nat} {g : ht_G} (hk : k ≤ 8) (h : ht_al g 3) : ht_al (ht_tick k g) 3 := by
  rw [ht_tick_eq]
  refine ht_al_of (ht_loc3 (k := k) hk (g := ht_it ht_rp k (ht_it (ht_mv k) k g)) (ht_al_of h (fun z _ => by rw [ht_it_keep (fun _ a => ht_rp_o (Or.inl (by decide)) a), ht_it_keep (fun _ a => ht_mv_o (Or.inl (by decide)) a)])) 12) (fun z _ => ?_)
  rw [ht_up_r (by decide), ht_find, ht_it_keep (fun _ a => ht_s2_o (by decide) a), ht_it_keep (fun _ a => ht_s1_o (by decide) a)]
theorem ht_tick_bo {k : Nat} {g : ht_G} (h : ht_bo g 7) : ht_bo (ht_tick k g) 7 := by
  intro i hi
  rw [ht_tick_eq, ht_up_r (by omega), ht_find_o (Or.inr (by omega)), ht_it_keep (fun _ a => ht_rp_o (Or.inr (by decide)) a), ht_it_keep (fun _ a => ht_mv_o (Or.inr (by decide)) a)]
  exact h i hi
