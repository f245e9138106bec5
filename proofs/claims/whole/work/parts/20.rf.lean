/-! THE REFERENCE AS A GRID: row 0: thrown, came, ticks; rows 1..13: train, there, front, length, speed, end, silent, whole, told, toldLast, toldWhole, age, before; rows 14..16: states, next, alone -/
def rf_len (r : Nat) : Nat := if r ≤ 13 then 8 else 12
def rf_bo (r : Nat) : Bool := r == 1 || r == 2 || r == 7 || r == 8 || r == 11
abbrev rf_of (q : Nat → Nat) (x y z : Int32) : List Value := [.int x, .ref (q 1), .ref (q 2), .ref (q 3), .ref (q 4), .ref (q 5), .ref (q 6), .ref (q 7), .ref (q 8), .ref (q 9), .ref (q 10), .ref (q 11), .ref (q 12), .ref (q 13), .int y, .ref (q 14), .ref (q 15), .ref (q 16), .int z]
def rf_cell (c : ClassId × ClassId) (q : Nat → Nat) (g : ht_G) : Nat → va_E
  | 0 => .inr (2, rf_of q (g 0 0) (g 0 1) (g 0 2))
  | n + 1 => .inl (if rf_bo (n + 1) = true then c.2 else c.1, rf_len (n + 1), .inl (g (n + 1)))
abbrev rf_w (c : ClassId × ClassId) (q : Nat → Nat) (g : ht_G) : va_W := mw 17 q (rf_cell c q g)
abbrev rf_ty (c : ClassId × ClassId) : List (ClassId × FieldType) := [(c.1, .int), (c.2, .boolean)]
theorem rf_at0 {c : ClassId × ClassId} {q : Nat → Nat} {g : ht_G} : (rf_w c q g)[0]? = some (q 0, .inr (2, rf_of q (g 0 0) (g 0 1) (g 0 2))) := mw_at (by decide)
theorem rf_atR {c : ClassId × ClassId} {q : Nat → Nat} {g : ht_G} {r : Nat} (h1 : 1 ≤ r) (h4 : r ≤ 16) : (rf_w c q g)[r]? = some (q r, .inl (if rf_bo r = true then c.2 else c.1, rf_len r, .inl (g r))) := by
  rw [mw_at (by omega)]
  obtain ⟨n, rfl⟩ : ∃ n, r = n + 1 := ⟨r - 1, by omega⟩
  rfl
theorem rf_cell_up {c : ClassId × ClassId} {q : Nat → Nat} {g : ht_G} {r k : Nat} {x : Int32} {m : Nat} (h : m ≠ r) : rf_cell c q (ht_up g r k x) m = rf_cell c q g m := by
  match m, h with
  | 0, h => simp only [rf_cell, ht_up_row h]
  | a + 1, h => simp only [rf_cell, ht_up_row h]
theorem rf_stR {c : ClassId × ClassId} {q : Nat → Nat} {g : ht_G} {r s : Nat} {x : Int32} (h1 : 1 ≤ r) (h4 : r ≤ 16) : (rf_w c q g).set r (q r, .inl (if rf_bo r = true then c.2 else c.1, rf_len r, .inl (upd (g r) s x))) = rf_w c q (ht_up g r s x) := by
  refine mw_set (by omega) ?_ (fun m hm hne => rf_cell_up hne)
  have e : ht_up g r s x r = upd (g r) s x := by funext i; simp [ht_up, upd]
  obtain ⟨n, rfl⟩ : ∃ n, r = n + 1 := ⟨r - 1, by omega⟩
  simp only [rf_cell, e]
theorem rf_st0 {c : ClassId × ClassId} {q : Nat → Nat} {g : ht_G} {x : Int32} : (rf_w c q g).set 0 (q 0, .inr (2, (rf_of q (g 0 0) (g 0 1) (g 0 2)).set 0 (.int x))) = rf_w c q (ht_up g 0 0 x) := by
  refine mw_set (by omega) ?_ (fun m hm hne => rf_cell_up hne)
  simp [rf_cell, ht_up]
theorem rf_st1 {c : ClassId × ClassId} {q : Nat → Nat} {g : ht_G} {x : Int32} : (rf_w c q g).set 0 (q 0, .inr (2, (rf_of q (g 0 0) (g 0 1) (g 0 2)).set 14 (.int x))) = rf_w c q (ht_up g 0 1 x) := by
  refine mw_set (by omega) ?_ (fun m hm hne => rf_cell_up hne)
  simp [rf_cell, ht_up]
theorem rf_st2 {c : ClassId × ClassId} {q : Nat → Nat} {g : ht_G} {x : Int32} : (rf_w c q g).set 0 (q 0, .inr (2, (rf_of q (g 0 0) (g 0 1) (g 0 2)).set 18 (.int x))) = rf_w c q (ht_up g 0 2 x) := by
  refine mw_set (by omega) ?_ (fun m hm hne => rf_cell_up hne)
  simp [rf_cell, ht_up]
def rf_I (D : va_G) (c : ClassId × ClassId) (q : Nat → Nat) (g : ht_G) (U : State) : Prop := va_P D ht_cl (rf_w c q g) U.heap ∧ va_K D ht_cl (rf_ty c) U ∧ True
theorem rf_Ic {D : va_G} {c : ClassId × ClassId} {q : Nat → Nat} {g : ht_G} {U : State} (f : JFrame) (mk : MethodId) (a : Array Value) (h : rf_I D c q g U) : rf_I D c q g (U.calling f mk a) :=
  ⟨h.1, va_K.moved (u := U) (U := U.calling f mk a) (Vm.Alike.refl U.vm) h.2.1, trivial⟩
theorem rf_Im {D : va_G} {c : ClassId × ClassId} {q : Nat → Nat} {g : ht_G} {s U : State} {H : Heap} (hP : va_P D ht_cl (rf_w c q g) H) (hK : va_K D ht_cl (rf_ty c) s) (_ : True) (hU : U.heap = H) (hW : s.WarmedH U.vm) : rf_I D c q g U := ⟨by rw [hU]; exact hP, va_K.moved hW.alike hK, trivial⟩
theorem rf_bl {D : va_G} {c : ClassId × ClassId} {q : Nat → Nat} {g : ht_G} {av : List Value} : FrameBlind (va_Pc av (rf_I D c q g)) := fun _ _ f mk h => ⟨h.1, rf_Ic f mk _ h.2⟩
theorem rf_bls {D : va_G} {c : ClassId × ClassId} {q : Nat → Nat} {g : ht_G} {av : List Value} {sz : Nat} : FrameBlind (va_Pc av (fun U => U.heap.size = sz ∧ rf_I D c q g U)) := fun _ _ f mk h => ⟨h.1, h.2.1, rf_Ic f mk _ h.2.2⟩
theorem rf_nar {x : Int32} (h : x = 0 ∨ x = 1) : vp_nar .boolean x = x := by rcases h with rfl | rfl <;> rfl
section
variable {p : Program} {l : Launch} {e : Env} {R : Room} {s : State} {m : MethodId} {args : Array Value} {below : List Frame} {meth : Method} {c : Code} {H : Heap} {locs : List Loc} {cells slots : Nat} {Q : State → Prop}
variable {cc : ByteArray} {pc : Nat} {ls : Array Slot} {rest : List Value} {D : va_G} {A : Nat → Prop} {H0 : Heap} {cB : ClassId × ClassId} {q : Nat → Nat} {g : ht_G}
theorem rf_len31 (r : Nat) : rf_len r < 2 ^ 31 := by unfold rf_len; split <;> decide
theorem rf_ldI (hexec : p.tables.exec = Jvm.exec) (hb : c.code = cc) (hK : va_K D ht_cl (rf_ty cB) s) (hP : va_P D ht_cl (rf_w cB q g) H) (r : Nat) {j : Nat} {i : Int32} (h1 : 1 ≤ r) (h4 : r ≤ 16) (hz : rf_bo r = false) (hj : j < rf_len r) (hi : i = nI j) (hdg : decode cc pc = .ok (.iaload, 1))
    (kk : W p l e R s m args below meth c H locs cells slots Q (F0 m (pc + 1) ls (.int (g r j) :: rest))) : W p l e R s m args below meth c H locs cells slots Q (F0 m pc ls (.int i :: .ref (q r) :: rest)) := by
  have h31 := rf_len31 r
  refine va_iald hexec hb hK hP r 0 (rf_atR h1 h4) (by rw [hz]; rfl) (by rw [hi]; exact vp_in_nI hj h31) hdg ?_
  rw [hi, nI_clamp (by omega)]
  exact kk
theorem rf_ldZ (hexec : p.tables.exec = Jvm.exec) (hb : c.code = cc) (hK : va_K D ht_cl (rf_ty cB) s) (hP : va_P D ht_cl (rf_w cB q g) H) (r : Nat) {j : Nat} {i : Int32} (h1 : 1 ≤ r) (h4 : r ≤ 16) (hz : rf_bo r = true) (hj : j < rf_len r) (hi : i = nI j) (hdg : decode cc pc = .ok (.baload, 1))
    (kk : W p l e R s m args below meth c H locs cells slots Q (F0 m (pc + 1) ls (.int (g r j) :: rest))) : W p l e R s m args below meth c H locs cells slots Q (F0 m pc ls (.int i :: .ref (q r) :: rest)) := by
  have h31 := rf_len31 r
  refine va_zald hexec hb hK hP r 1 (rf_atR h1 h4) (by rw [hz]; rfl) (by rw [hi]; exact vp_in_nI hj h31) hdg ?_
  rw [hi, nI_clamp (by omega)]
  exact kk
theorem rf_stI (hexec : p.tables.exec = Jvm.exec) (hb : c.code = cc) (hK : va_K D ht_cl (rf_ty cB) s) (hP : va_P D ht_cl (rf_w cB q g) H) (hD : va_D A (rf_w cB q g)) (hS : va_S A H0 H locs) (r : Nat) {j : Nat} {i x : Int32} (h1 : 1 ≤ r) (h4 : r ≤ 16) (hz : rf_bo r = false) (hj : j < rf_len r) (hi : i = nI j) (hdg : decode cc pc = .ok (.iastore, 1))
    (kk : ∀ (H1 : Heap) (locs1 : List Loc), va_P D ht_cl (rf_w cB q (ht_up g r j x)) H1 → va_S A H0 H1 locs1 → W p l e R s m args below meth c H1 locs1 cells slots Q (F0 m (pc + 1) ls rest)) : W p l e R s m args below meth c H locs cells slots Q (F0 m pc ls (.int x :: .int i :: .ref (q r) :: rest)) := by
  have h31 := rf_len31 r
  refine va_iast hexec hb hK hP hD hS r 0 (rf_atR h1 h4) (by rw [hz]; rfl) (by rw [hi]; exact vp_in_nI hj h31) hdg (fun H1 locs1 hP1 _ hS1 => ?_)
  rw [hi, nI_clamp (by omega), rf_stR h1 h4] at hP1
  exact kk H1 locs1 hP1 hS1
theorem rf_stZ (hexec : p.tables.exec = Jvm.exec) (hb : c.code = cc) (hK : va_K D ht_cl (rf_ty cB) s) (hP : va_P D ht_cl (rf_w cB q g) H) (hD : va_D A (rf_w cB q g)) (hS : va_S A H0 H locs) (r : Nat) {j : Nat} {i x : Int32} (h1 : 1 ≤ r) (h4 : r ≤ 16) (hz : rf_bo r = true) (hx01 : x = 0 ∨ x = 1) (hj : j < rf_len r) (hi : i = nI j) (hdg : decode cc pc = .ok (.bastore, 1))
    (kk : ∀ (H1 : Heap) (locs1 : List Loc), va_P D ht_cl (rf_w cB q (ht_up g r j x)) H1 → va_S A H0 H1 locs1 → W p l e R s m args below meth c H1 locs1 cells slots Q (F0 m (pc + 1) ls rest)) : W p l e R s m args below meth c H locs cells slots Q (F0 m pc ls (.int x :: .int i :: .ref (q r) :: rest)) := by
  have h31 := rf_len31 r
  refine va_zast hexec hb hK hP hD hS r 1 (rf_atR h1 h4) (by rw [hz]; rfl) (by rw [hi]; exact vp_in_nI hj h31) hdg (fun H1 locs1 hP1 _ hS1 => ?_)
  rw [hi, nI_clamp (by omega), rf_nar hx01, rf_stR h1 h4] at hP1
  exact kk H1 locs1 hP1 hS1
end
-- pure
def rf_last (g : ht_G) (i : Nat) : Int32 := g 3 i - g 4 i + 1
def ht_fst (P : Nat → Bool) : Nat → Nat → Int32
  | 0, _ => -1
  | n + 1, v => if P v = true then nI v else ht_fst P n (v + 1)
def rf_so (g : ht_G) (k : Nat) (x b : Int32) : Int32 := ht_fst (fun v => !decide (nI v = b) && (!decide (g 2 v = 0) && (!decide (g 3 v < x) && !decide (x < rf_last g v)))) k 0
def rf_occ (g : ht_G) (k : Nat) (d : Int32) : Bool := ht_ex (fun v => !decide (g 2 v = 0) && (!decide (g 3 v / 30 < d) && !decide (d < rf_last g v / 30))) k
def rf_mute (g : ht_G) (t : Nat) : Bool := !decide (g 12 t ≤ 5)
def rf_loc (g : ht_G) (t : Nat) (x : Int32) : Bool := !decide (g 1 t = 0) && (!rf_mute g t && (!decide (x < g 10 t / 10) && !decide (g 9 t / 10 < x)))
def rf_claims (g : ht_G) (t : Nat) (x : Int32) : Bool := !decide (g 1 t = 0) && (!decide (x < g 10 t / 10) && !decide (g 6 t / 10 < x))
def rf_claimed (g : ht_G) (k : Nat) (x b : Int32) : Bool := ht_ex (fun t => !decide (nI t = b) && rf_claims g t x) k
def rf_left (g : ht_G) (k : Nat) (x : Int32) : Bool := ht_ex (fun t => !decide (g 1 t = 0) && (decide (g 12 t = 0) && (decide (g 11 t = 0) && (!decide (g 13 t < 0) && (!decide (x < g 13 t / 10) && !decide (g 10 t / 10 ≤ x)))))) k
def rf_am (g : ht_G) (t : Nat) (x : Int32) : Bool := rf_loc g t x || (!decide (g 1 t = 0) && (rf_mute g t && rf_claims g t x))
def rf_acc (g : ht_G) (k d : Nat) : Bool := ht_ex (fun t => ht_ex (fun i => rf_am g t (nI (3 * d + i))) 3) k
def rf_n (g : ht_G) (x : Int32) (k : Nat) : Nat := ht_num (fun t => rf_loc g t x) k
def rf_one (g : ht_G) (x : Int32) : Nat → Nat
  | 0 => 0
  | t + 1 => if rf_loc g t x = true then t else rf_one g x t
def rf_many (g : ht_G) (k : Nat) (x : Int32) : Int32 := if nI (rf_n g x k) = 1 then nI (rf_one g x k) - 100 else nI (rf_n g x k)
def rf_found (g : ht_G) (k z : Nat) : Int32 := if rf_occ g k (nI z / 3) = false then 0 else if ¬ rf_many g k (nI z) = 0 then (if ¬ 0 ≤ rf_many g k (nI z) ∧ ¬ g 11 (rf_many g k (nI z) + 100).toNatClampNeg = 0 ∧ ¬ 2 ≤ g 14 z then 1 else 2)
  else if g 14 z = 0 then (if rf_acc g k (z / 3) = true ∧ rf_left g k (nI z) = false then 0 else 3) else if 1 < g 14 z ∨ ¬ 0 ≤ g 16 z then 3 else if g 12 (g 16 z).toNatClampNeg = 0 ∧ ¬ g 11 (g 16 z).toNatClampNeg = 0 then 0 else 3
def rf_f1 (k z : Nat) (g : ht_G) : ht_G := ht_up g 15 z (rf_found g k z)
def rf_f3 (z t : Nat) (g : ht_G) : ht_G := if ¬ g 1 t = 0 ∧ rf_mute g t = true ∧ rf_claims g t (nI z) = true then ht_up g 14 z 3 else g
def rf_f2a (k z : Nat) (g : ht_G) : ht_G :=
  let g1 := ht_up g 14 z (g 15 z)
  ht_up g1 16 z (if ¬ 0 ≤ rf_many g1 k (nI z) then rf_many g1 k (nI z) + 100 else -1)
def rf_f2 (k z : Nat) (g : ht_G) : ht_G := if ¬ (rf_f2a k z g) 15 z = 0 ∨ rf_occ (rf_f2a k z g) k (nI z / 3) = false then rf_f2a k z g else ht_it (rf_f3 z) k (rf_f2a k z g)
def rf_find (k : Nat) (g : ht_G) : ht_G := ht_it (rf_f2 k) 12 (ht_it (rf_f1 k) 12 g)
def rf_rep (t : Nat) (g : ht_G) : ht_G :=
  let g1 := ht_up g 9 t (g 3 t)
  let g2 := ht_up g1 10 t (rf_last g1 t)
  let g3 := ht_up g2 11 t (g2 8 t)
  ht_up g3 12 t 0
def rf_in (x a b : Int32) : Bool := !decide (x < a) && !decide (b < x)
def rf_isT (g : ht_G) (k : Nat) (x : Int32) : Bool := rf_in x 0 (nI k - 1) && !decide (g 1 x.toNatClampNeg = 0)
def rf_cs (g : ht_G) (x : Int32) : Nat := ht_num (fun s => decide (g 14 s = x)) 12
def rf_stood (g : ht_G) (k z : Nat) : Bool := ht_ex (fun i => !decide (rf_so g k (nI (10 * z + i)) (-1) < 0)) 10
theorem rf_ix {k : Nat} (hk : k ≤ 8) {x : Int32} (h : rf_in x 0 (nI k - 1) = true) : ∃ j, j < k ∧ x = nI j ∧ x.toNatClampNeg = j := by
  simp only [rf_in, Bool.and_eq_true, Bool.not_eq_true', decide_eq_false_iff_not] at h
  obtain ⟨j, hj, e⟩ := nI_of h.1
  subst e
  refine ⟨j, ?_, rfl, nI_clamp (by omega)⟩
  have h2 : ¬ (nI k - 1).toInt < (nI j).toInt := fun q => h.2 (Int32.lt_iff_toInt_lt.mpr q)
  rw [show (1 : Int32) = nI 1 from rfl, pk_sub_toInt (by omega) (by omega), nI_toInt (by omega)] at h2
  omega
