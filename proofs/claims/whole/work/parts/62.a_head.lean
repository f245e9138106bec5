theorem ht_dH : ∀ j, j < 7 → defaultValue (tyH j) = vp_V [.null, .int 0, .int 0, .null, .null, .null, .null] j := by
  intro K hK
  rcases (show K = 0 ∨ K = 1 ∨ K = 2 ∨ K = 3 ∨ K = 4 ∨ K = 5 ∨ K = 6 by omega) with rfl | rfl | rfl | rfl | rfl | rfl | rfl <;> rfl
theorem ht_dM : ∀ j, j < 19 → defaultValue (tyM j) = vp_V [.int 0, .null, .null, .null, .null, .null, .null, .null, .null, .null, .null, .null, .null, .null, .int 0, .null, .null, .null, .int 0] j := by
  intro K hK
  rcases (show K = 0 ∨ K = 1 ∨ K = 2 ∨ K = 3 ∨ K = 4 ∨ K = 5 ∨ K = 6 ∨ K = 7 ∨ K = 8 ∨ K = 9 ∨ K = 10 ∨ K = 11 ∨ K = 12 ∨ K = 13 ∨ K = 14 ∨ K = 15 ∨ K = 16 ∨ K = 17 ∨ K = 18 by omega) with rfl | rfl | rfl | rfl | rfl | rfl | rfl | rfl | rfl | rfl | rfl | rfl | rfl | rfl | rfl | rfl | rfl | rfl | rfl <;> rfl
theorem lx_Pl {D : va_G} {cl : List vw_C} {w1 w2 : va_W} {H : Heap} (h : va_P D cl (w1 ++ w2) H) : va_P D cl w1 H := fun k y hy => h k y (by rw [List.getElem?_append_left (List.getElem?_eq_some_iff.mp hy).1]; exact hy)
theorem lx_at2 {w1 w2 : va_W} {k : Nat} {y : Nat × va_E} (hy : w2[k]? = some y) : (w1 ++ w2)[w1.length + k]? = some y := by
  rw [List.getElem?_append_right (by omega), show w1.length + k - w1.length = k by omega]; exact hy
theorem lx_Pr {D : va_G} {cl : List vw_C} {w1 w2 : va_W} {H : Heap} (h : va_P D cl (w1 ++ w2) H) : va_P D cl w2 H := fun k y hy => h (w1.length + k) y (lx_at2 hy)
theorem lx_ne {A : Nat → Prop} {w1 w2 : va_W} (h : va_D A (w1 ++ w2)) {i j : Nat} {x y : Nat × va_E} (hx : w1[i]? = some x) (hy : w2[j]? = some y) : y.1 ≠ x.1 := fun e => by
  have h1 : i < w1.length := (List.getElem?_eq_some_iff.mp hx).1
  have := h.1 i (w1.length + j) x y (by rw [List.getElem?_append_left h1]; exact hx) (lx_at2 hy) e.symm
  omega
theorem lx_in2 {A : Nat → Prop} {w1 w2 : va_W} (h : va_D A (w1 ++ w2)) {j : Nat} {y : Nat × va_E} (hy : w2[j]? = some y) : A y.1 := h.2 _ y (lx_at2 hy)
theorem lx_D0 {A : Nat → Prop} : va_D A [] := ⟨fun i j p q h => by simp at h, fun k q h => by simp at h⟩
