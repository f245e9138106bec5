def ht_kP (g : ht_G) (t : Int32 × Int32 × ht_G) : Prop := ¬ t.1 = 0 → t.2.2 = g
theorem ht_kif {g : ht_G} {c : Prop} {inst : Decidable c} {a b : Int32 × Int32 × ht_G} (ha : ht_kP g a) (hb : ht_kP g b) : ht_kP g (@ite _ c inst a b) := by
  cases inst with
  | isTrue h => rw [if_pos h]; exact ha
  | isFalse h => rw [if_neg h]; exact hb
theorem hx_ofWH {l : Launch} {y : MethodName} {ws ws' : List Cond} {rm : Room} {Pc : Array Value → State → Prop} {Qc : Array Value → State → Outcome → State → Prop} {mc ms : Nat} {free : Addr → Prop} {cc : ByteArray} {maxL : Nat} {ret : Option FieldType} {hh : List (Nat × Nat × Nat × Nat)}
    (hy : plainName y.cls = true) (hw : ws = Cond.codeWith y cc maxL ret hh :: ws')
    (body : ∀ p e s m args below meth c s₁, BodyLoose p l y (headSpec ws rm) cc maxL ret e s m args below meth c s₁ → c.maxLocals = maxL → Pc args s →
      W p l e (headSpec ws rm).room s m args below meth c s.heap [] 0 0 (MQ below Qc args s mc ms free) (entryFrame m args maxL)) : Met l y ws rm Pc Qc mc ms free := by
  refine MetFree.of_bodyS (code := cc) (maxLocals := maxL) (ret := ret) hy ?_ ?_
  · intro args s m h hn
    obtain ⟨m9, meth, c, hn9, h1, h2, h3, h4, -, h5, h6, -⟩ := Cond.codeWith_spec (atoms_spec (ws := ws) h _ (by rw [hw]; exact List.mem_cons_self))
    cases hn.symm.trans hn9
    exact ⟨meth, c, h1, h2, h3, h4, h5, h6⟩
  · intro p e s m args below meth c s₁ B hml hP _
    have hh0 : s₁.heap = s.heap := by rw [B.state]; rfl
    obtain ⟨t, a1, o, b1, b2, b3⟩ := body p e s m args below meth c s₁ B hml hP s₁ hh0 (Stand.of_body B)
    exact ⟨t, o, a1, b1, b2, ⟨b3.1, b3.2⟩⟩
def ht_C (U : State) : Prop := va_Nc ES EA U ∧ va_Nc EA EN U ∧ va_Nc ES EN U
theorem ht_C.moved {u U : State} (hv : u.vm.Alike U.vm) (h : ht_C u) : ht_C U := ⟨h.1.moved hv, h.2.1.moved hv, h.2.2.moved hv⟩
theorem ht_one1 {x y : Nat × va_E} {k : Nat} (h : [x][k]? = some y) : k = 0 ∧ y = x := by
  have h1 : k < 1 := (List.getElem?_eq_some_iff.mp h).1
  rw [show k = 0 by omega] at h
  exact ⟨by omega, (Option.some.inj h).symm⟩
theorem mw_len {n : Nat} {q : Nat → Nat} {E : Nat → va_E} : (mw n q E).length = n := by simp [mw]
theorem mw_catL {D : va_G} {cl : List vw_C} {n : Nat} {q : Nat → Nat} {E : Nat → va_E} {x : Nat × va_E} {H : Heap} (h : va_P D cl (mw n q E ++ [x]) H) : va_P D cl (mw n q E) H := fun k y hy => h k y (by rw [List.getElem?_append_left (List.getElem?_eq_some_iff.mp hy).1]; exact hy)
theorem mw_catAt {n : Nat} {q : Nat → Nat} {E : Nat → va_E} {x : Nat × va_E} : (mw n q E ++ [x])[n]? = some x := by
  rw [List.getElem?_append_right (by rw [mw_len]; exact Nat.le_refl n), mw_len, Nat.sub_self]; rfl
theorem mw_catR {D : va_G} {cl : List vw_C} {n : Nat} {q : Nat → Nat} {E : Nat → va_E} {x : Nat × va_E} {H : Heap} (h : va_P D cl (mw n q E ++ [x]) H) : va_P D cl [x] H := fun k y hy => by
  obtain ⟨_, rfl⟩ := ht_one1 hy
  exact h n _ mw_catAt
theorem mw_catSet {n : Nat} {q : Nat → Nat} {E : Nat → va_E} {x y : Nat × va_E} : (mw n q E ++ [x]).set n y = mw n q E ++ [y] := by
  rw [List.set_append_right _ _ (by rw [mw_len]; exact Nat.le_refl n), mw_len, Nat.sub_self]; rfl
theorem mw_catD {A : Nat → Prop} {n : Nat} {q : Nat → Nat} {E : Nat → va_E} {a : Nat} {e : va_E} (hJ : mw_J n q) (hA : ∀ i, i < n → A (q i)) (ha : A a) (hne : ∀ i, i < n → a ≠ q i) : va_D A (mw n q E ++ [(a, e)]) := by
  have key : ∀ k x, (mw n q E ++ [(a, e)])[k]? = some x → (k < n ∧ x.1 = q k) ∨ (k = n ∧ x.1 = a) := by
    intro k x hx
    by_cases hk : k < n
    · rw [List.getElem?_append_left (by rw [mw_len]; exact hk)] at hx
      obtain ⟨h1, rfl⟩ := mw_of hx
      exact Or.inl ⟨h1, rfl⟩
    · rw [List.getElem?_append_right (by rw [mw_len]; omega), mw_len] at hx
      obtain ⟨h1, rfl⟩ := ht_one1 hx
      exact Or.inr ⟨by omega, rfl⟩
  refine ⟨fun i j p r hi hj he => ?_, fun k x hx => ?_⟩
  · rcases key i p hi with ⟨h1, e1⟩ | ⟨h1, e1⟩ <;> rcases key j r hj with ⟨h2, e2⟩ | ⟨h2, e2⟩
    · exact hJ i j h1 h2 (by rw [← e1, ← e2, he])
    · exact absurd (by rw [← e2, ← he, e1]) (hne i h1)
    · exact absurd (by rw [← e1, he, e2]) (hne j h2)
    · omega
  · rcases key k x hx with ⟨h1, e1⟩ | ⟨h1, e1⟩
    · rw [e1]; exact hA k h1
    · rw [e1]; exact ha
