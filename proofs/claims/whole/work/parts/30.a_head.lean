theorem ht_D1 {A : Nat → Prop} {a : Nat} {e : va_E} (h : A a) : va_D A [(a, e)] := by
  refine ⟨fun i j p r hi hj _ => ?_, fun k r hk => ?_⟩
  · have h1 : i < 1 := (List.getElem?_eq_some_iff.mp hi).1
    have h2 : j < 1 := (List.getElem?_eq_some_iff.mp hj).1
    omega
  · have h1 : k < 1 := (List.getElem?_eq_some_iff.mp hk).1
    rw [show k = 0 by omega] at hk
    cases hk
    exact h
theorem ht_dV : ∀ j, j < 13 → defaultValue (tyV j) = vp_V (ht_vf (fun _ => 0)) j := by
  intro K hK
  rcases (show K = 0 ∨ K = 1 ∨ K = 2 ∨ K = 3 ∨ K = 4 ∨ K = 5 ∨ K = 6 ∨ K = 7 ∨ K = 8 ∨ K = 9 ∨ K = 10 ∨ K = 11 ∨ K = 12 by omega) with rfl | rfl | rfl | rfl | rfl | rfl | rfl | rfl | rfl | rfl | rfl | rfl | rfl <;> rfl
/-- two classes of arrays of one type are one -/
theorem ht_oneI {D : va_G} {cl : List vw_C} {tys : List (ClassId × FieldType)} {s : State} {a b : ClassId} (hK : va_K D cl tys s) (i j : Nat) (hi : tys[i]? = some (a, .int)) (hj : tys[j]? = some (b, .int)) : b = a := Option.some.inj ((hK.2 j _ hj).2.symm.trans (hK.2 i _ hi).2)
theorem ht_oneZ {D : va_G} {cl : List vw_C} {tys : List (ClassId × FieldType)} {s : State} {a b : ClassId} (hK : va_K D cl tys s) (i j : Nat) (hi : tys[i]? = some (a, .boolean)) (hj : tys[j]? = some (b, .boolean)) : b = a := Option.some.inj ((hK.2 j _ hj).2.symm.trans (hK.2 i _ hi).2)
/-- the addresses of a world that is apart -/
theorem mw_Jof {A : Nat → Prop} {n : Nat} {q : Nat → Nat} {E : Nat → va_E} (h : va_D A (mw n q E)) : mw_J n q := fun i j hi hj e => h.1 i j _ _ (mw_at hi) (mw_at hj) e
theorem mw_Aof {A : Nat → Prop} {n : Nat} {q : Nat → Nat} {E : Nat → va_E} (h : va_D A (mw n q E)) {i : Nat} (hi : i < n) : A (q i) := h.2 i _ (mw_at hi)
def rf_gA : ht_G := fun i j => if i = 16 ∧ j < 12 then -1 else 0
theorem rf_gA_eq : ht_it (fun i g => ht_up g 16 i (-1)) 12 (fun _ _ => 0) = rf_gA := by
  funext i j
  have : ∀ n, ht_it (fun i g => ht_up g 16 i (-1)) n (fun _ _ => 0) i j = if i = 16 ∧ j < n then -1 else 0 := by
    intro n
    induction n with
    | zero => simp [ht_it]
    | succ n ih =>
      simp only [ht_it, ht_up]
      by_cases h : i = 16 ∧ j = n
      · rw [if_pos h, if_pos ⟨h.1, by omega⟩]
      · rw [if_neg h]
        rw [ih]
        by_cases h2 : i = 16 ∧ j < n
        · rw [if_pos h2, if_pos ⟨h2.1, by omega⟩]
        · rw [if_neg h2, if_neg (by omega)]
  exact this 12
