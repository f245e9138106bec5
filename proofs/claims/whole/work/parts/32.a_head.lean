def ht_gA : ht_G := fun i j => if (i = 3 ∨ i = 4) ∧ j < 12 then -1 else 0
theorem ht_gA_eq : ht_it (fun i g => ht_up (ht_up g 3 i (-1)) 4 i (-1)) 12 (fun _ _ => 0) = ht_gA := by
  funext i j
  have : ∀ n, ht_it (fun i g => ht_up (ht_up g 3 i (-1)) 4 i (-1)) n (fun _ _ => 0) i j = if (i = 3 ∨ i = 4) ∧ j < n then -1 else 0 := by
    intro n
    induction n with
    | zero => simp [ht_it]
    | succ n ih =>
      simp only [ht_it, ht_up]
      by_cases h : i = 4 ∧ j = n
      · rw [if_pos h, if_pos ⟨Or.inr h.1, by omega⟩]
      · rw [if_neg h]
        by_cases h2 : i = 3 ∧ j = n
        · rw [if_pos h2, if_pos ⟨Or.inl h2.1, by omega⟩]
        · rw [if_neg h2, ih]
          by_cases h3 : (i = 3 ∨ i = 4) ∧ j < n
          · rw [if_pos h3, if_pos ⟨h3.1, by omega⟩]
          · rw [if_neg h3, if_neg (by omega)]
  exact this 12
/-- a call that wrote the last cell alone -/
theorem ht_after {D : va_G} {cl : List vw_C} {A : Nat → Prop} {ws : va_W} {a : Nat} {e e' : va_E} {H H1 : Heap} (hP : va_P D cl (ws ++ [(a, e)]) H) (hD : va_D A (ws ++ [(a, e)])) (hk : ∀ z : Nat, z < H.size → ¬ (z = a ∨ H.size ≤ z) → H1[z]? = H[z]?) (h1 : va_P D cl [(a, e')] H1) : va_P D cl (ws ++ [(a, e')]) H1 := by
  refine va_P.app (fun k x hx => ?_) h1
  have hl : k < ws.length := (List.getElem?_eq_some_iff.mp hx).1
  have hx' : (ws ++ [(a, e)])[k]? = some x := by rw [List.getElem?_append_left hl]; exact hx
  have hat := hP k x hx'
  refine hat.kept (hk _ hat.lt (fun h => ?_))
  rcases h with h | h
  · have := hD.1 k ws.length x (a, e) hx' (by simp) h
    omega
  · exact absurd hat.lt (Nat.not_lt.mpr h)
theorem ht_refix {D : va_G} {cl : List vw_C} {ws : va_W} {H : Heap} {a n : Nat} {c : ClassId} {f g : Nat → Option Nat} (hP : va_P D cl ws H) (k : Nat) (hk : ws[k]? = some (a, .inl (c, n, .inr (.inr (.inr (.inr f)))))) (hfg : ∀ i, i < n → f i = g i) : va_P D cl (ws.set k (a, .inl (c, n, .inr (.inr (.inr (.inr g)))))) H := by
  intro j x hx
  rw [List.getElem?_set] at hx
  by_cases e : k = j
  · subst e
    have hl : k < ws.length := (List.getElem?_eq_some_iff.mp hk).1
    rw [if_pos rfl, if_pos hl] at hx
    cases hx
    have h0 : H[a]? = some (vp_cell c (n, .inr (.inr (.inr (.inr f))))) := hP k _ hk
    show H[a]? = some (vp_cell c (n, .inr (.inr (.inr (.inr g)))))
    rw [h0]
    show some (arrV c n (fun j => va_rf (f j))) = some (arrV c n (fun j => va_rf (g j)))
    unfold arrV
    congr 3
    funext i
    show va_rf (f i.val) = va_rf (g i.val)
    rw [hfg i.val i.isLt]
  · rw [if_neg e] at hx
    exact hP j x hx
theorem ht_Jx {A : Nat → Prop} {ws : va_W} {n : Nat} {q : Nat → Nat} (hD : va_D A ws) (h : ws.map (fun x => x.1) = (List.range n).map q) : mw_J n q := by
  have key : ∀ i, i < n → ∃ x, ws[i]? = some x ∧ x.1 = q i := by
    intro i hi
    have h1 : (ws.map (fun x => x.1))[i]? = some (q i) := by rw [h, List.getElem?_map, List.getElem?_range hi]; rfl
    rw [List.getElem?_map] at h1
    cases hx : ws[i]? with
    | none => rw [hx] at h1; cases h1
    | some x => rw [hx] at h1; exact ⟨x, rfl, Option.some.inj h1⟩
  intro i j hi hj e
  obtain ⟨x, hx, ex⟩ := key i hi
  obtain ⟨y, hy, ey⟩ := key j hj
  exact hD.1 i j x y hx hy (by rw [ex, ey, e])
theorem ht_Ax {A : Nat → Prop} {ws : va_W} {n : Nat} {q : Nat → Nat} (hD : va_D A ws) (h : ws.map (fun x => x.1) = (List.range n).map q) : ∀ i, i < n → A (q i) := by
  intro i hi
  have h1 : (ws.map (fun x => x.1))[i]? = some (q i) := by rw [h, List.getElem?_map, List.getElem?_range hi]; rfl
  rw [List.getElem?_map] at h1
  cases hx : ws[i]? with
  | none => rw [hx] at h1; cases h1
  | some x =>
    rw [hx] at h1
    have := hD.2 i x hx
    have e1 : x.1 = q i := Option.some.inj h1
    rw [e1] at this
    exact this
