def ht_vf (v : Nat → Int32) : List Value := [.int (v 0), .int (v 1), .int (v 2), .int (v 3), .int (v 4), .int (v 5), .int (v 6), .int (v 7), .int (v 8), .int (v 9), .int (v 10), .int (v 11), .int (v 12)]
abbrev ht_of (q : Nat → Nat) (x y : Int32) : List Value := [.ref (q 1), .int x, .int y, .ref (q 2), .ref (q 3), .ref (q 4), .ref (q 5)]
def ht_cell (c : ClassId × ClassId) (q : Nat → Nat) (g : ht_G) : Nat → va_E
  | 0 => .inr (1, ht_of q (g 0 0) (g 0 1))
  | 1 => .inl (c.1, 8, .inr (.inr (.inr (.inr (fun i => some (q (i + 6)))))))
  | 2 => .inl (c.2, 12, .inl (g 1))
  | 3 => .inl (c.2, 12, .inl (g 2))
  | 4 => .inl (c.2, 12, .inl (g 3))
  | 5 => .inl (c.2, 12, .inl (g 4))
  | n + 6 => .inr (0, ht_vf (g (5 + n)))
abbrev ht_w (c : ClassId × ClassId) (q : Nat → Nat) (g : ht_G) : va_W := mw 14 q (ht_cell c q g)
abbrev ht_ty (c : ClassId × ClassId) : List (ClassId × FieldType) := [(c.1, .object RV), (c.2, .int)]
theorem ht_atO {c : ClassId × ClassId} {q : Nat → Nat} {g : ht_G} : (ht_w c q g)[0]? = some (q 0, .inr (1, ht_of q (g 0 0) (g 0 1))) := mw_at (by decide)
theorem ht_atA {c : ClassId × ClassId} {q : Nat → Nat} {g : ht_G} : (ht_w c q g)[1]? = some (q 1, .inl (c.1, 8, .inr (.inr (.inr (.inr (fun i => some (q (i + 6)))))))) := mw_at (by decide)
theorem ht_atR {c : ClassId × ClassId} {q : Nat → Nat} {g : ht_G} {r : Nat} (h1 : 1 ≤ r) (h4 : r ≤ 4) : (ht_w c q g)[r + 1]? = some (q (r + 1), .inl (c.2, 12, .inl (g r))) := by
  rw [mw_at (by omega)]
  rcases (show r = 1 ∨ r = 2 ∨ r = 3 ∨ r = 4 by omega) with rfl | rfl | rfl | rfl <;> rfl
theorem ht_atV {c : ClassId × ClassId} {q : Nat → Nat} {g : ht_G} {j : Nat} (hj : j < 8) : (ht_w c q g)[j + 6]? = some (q (j + 6), .inr (0, ht_vf (g (5 + j)))) := mw_at (by omega)
theorem ht_vf_set (v : Nat → Int32) {K : Nat} (hK : K < 13) (x : Int32) : (ht_vf v).set K (.int x) = ht_vf (fun i => if i = K then x else v i) := by
  rcases (show K = 0 ∨ K = 1 ∨ K = 2 ∨ K = 3 ∨ K = 4 ∨ K = 5 ∨ K = 6 ∨ K = 7 ∨ K = 8 ∨ K = 9 ∨ K = 10 ∨ K = 11 ∨ K = 12 by omega) with rfl | rfl | rfl | rfl | rfl | rfl | rfl | rfl | rfl | rfl | rfl | rfl | rfl <;> rfl
theorem ht_cell_up {c : ClassId × ClassId} {q : Nat → Nat} {g : ht_G} {r k : Nat} {x : Int32} {m : Nat} (h0 : m = 0 → r ≠ 0) (h1 : ∀ a, 1 ≤ a → a ≤ 4 → m = a + 1 → r ≠ a) (h5 : ∀ a, m = a + 6 → r ≠ 5 + a) : ht_cell c q (ht_up g r k x) m = ht_cell c q g m := by
  match m, h0, h1, h5 with
  | 0, h0, _, _ => simp only [ht_cell, ht_up_row (fun e => h0 rfl e.symm)]
  | 1, _, _, _ => rfl
  | 2, _, h1, _ => simp only [ht_cell, ht_up_row (fun e => h1 1 (by decide) (by decide) rfl e.symm)]
  | 3, _, h1, _ => simp only [ht_cell, ht_up_row (fun e => h1 2 (by decide) (by decide) rfl e.symm)]
  | 4, _, h1, _ => simp only [ht_cell, ht_up_row (fun e => h1 3 (by decide) (by decide) rfl e.symm)]
  | 5, _, h1, _ => simp only [ht_cell, ht_up_row (fun e => h1 4 (by decide) (by decide) rfl e.symm)]
  | a + 6, _, _, h5 => simp only [ht_cell, ht_up_row (fun e => h5 a rfl e.symm)]
theorem ht_stV {c : ClassId × ClassId} {q : Nat → Nat} {g : ht_G} {j K : Nat} {x : Int32} (hj : j < 8) (hK : K < 13) : (ht_w c q g).set (j + 6) (q (j + 6), .inr (0, (ht_vf (g (5 + j))).set K (.int x))) = ht_w c q (ht_up g (5 + j) K x) := by
  refine mw_set (by omega) ?_ (fun m hm hne => ht_cell_up (by omega) (by omega) (by omega))
  rw [ht_vf_set _ hK]
  simp only [ht_cell]
  congr 3
  funext i
  simp [ht_up]
theorem ht_stR {c : ClassId × ClassId} {q : Nat → Nat} {g : ht_G} {r s : Nat} {x : Int32} (h1 : 1 ≤ r) (h4 : r ≤ 4) : (ht_w c q g).set (r + 1) (q (r + 1), .inl (c.2, 12, .inl (upd (g r) s x))) = ht_w c q (ht_up g r s x) := by
  refine mw_set (by omega) ?_ (fun m hm hne => ht_cell_up (by omega) (by omega) (by omega))
  have e : ht_up g r s x r = upd (g r) s x := by funext i; simp [ht_up, upd]
  rcases (show r = 1 ∨ r = 2 ∨ r = 3 ∨ r = 4 by omega) with rfl | rfl | rfl | rfl <;> simp only [ht_cell, e]
theorem ht_stC {c : ClassId × ClassId} {q : Nat → Nat} {g : ht_G} {x : Int32} : (ht_w c q g).set 0 (q 0, .inr (1, (ht_of q (g 0 0) (g 0 1)).set 1 (.int x))) = ht_w c q (ht_up g 0 0 x) := by
  refine mw_set (by omega) ?_ (fun m hm hne => ht_cell_up (by omega) (by omega) (by omega))
  simp [ht_cell, ht_up]
theorem ht_stT {c : ClassId × ClassId} {q : Nat → Nat} {g : ht_G} {x : Int32} : (ht_w c q g).set 0 (q 0, .inr (1, (ht_of q (g 0 0) (g 0 1)).set 2 (.int x))) = ht_w c q (ht_up g 0 1 x) := by
  refine mw_set (by omega) ?_ (fun m hm hne => ht_cell_up (by omega) (by omega) (by omega))
  simp [ht_cell, ht_up]
/-- what the world is at a state -/
def ht_I (D : va_G) (c : ClassId × ClassId) (q : Nat → Nat) (g : ht_G) (U : State) : Prop := va_P D ht_cl (ht_w c q g) U.heap ∧ va_K D ht_cl (ht_ty c) U ∧ ht_N U
theorem ht_Ic {D : va_G} {c : ClassId × ClassId} {q : Nat → Nat} {g : ht_G} {U : State} (f : JFrame) (mk : MethodId) (a : Array Value) (h : ht_I D c q g U) : ht_I D c q g (U.calling f mk a) :=
  ⟨h.1, va_K.moved (u := U) (U := U.calling f mk a) (Vm.Alike.refl U.vm) h.2.1, ht_N.same (u := U) (U := U.calling f mk a) rfl h.2.2⟩
theorem ht_Im {D : va_G} {c : ClassId × ClassId} {q : Nat → Nat} {g : ht_G} {s U : State} {H : Heap} (hP : va_P D ht_cl (ht_w c q g) H) (hK : va_K D ht_cl (ht_ty c) s) (hN : ht_N s) (hU : U.heap = H) (hW : s.WarmedH U.vm) : ht_I D c q g U := ⟨by rw [hU]; exact hP, va_K.moved hW.alike hK, ht_N.warm hW hN⟩
theorem ht_bl {D : va_G} {c : ClassId × ClassId} {q : Nat → Nat} {g : ht_G} {av : List Value} : FrameBlind (va_Pc av (ht_I D c q g)) := fun _ _ f mk h => ⟨h.1, ht_Ic f mk _ h.2⟩
theorem ht_bls {D : va_G} {c : ClassId × ClassId} {q : Nat → Nat} {g : ht_G} {av : List Value} {sz : Nat} : FrameBlind (va_Pc av (fun U => U.heap.size = sz ∧ ht_I D c q g U)) := fun _ _ f mk h => ⟨h.1, h.2.1, ht_Ic f mk _ h.2.2⟩
theorem ht_nb (p : Bool) : narrow .boolean (.int (ht_b p)) = .int (ht_b p) := by cases p <;> rfl
section HTR
variable {p : Program} {l : Launch} {e : Env} {R : Room} {s : State} {m : MethodId} {args : Array Value} {below : List Frame} {meth : Method} {c : Code} {H : Heap} {locs : List Loc} {cells slots : Nat} {Q : State → Prop}
variable {cc : ByteArray} {pc : Nat} {ls : Array Slot} {rest : List Value} {D : va_G} {A : Nat → Prop} {H0 : Heap} {cA : ClassId × ClassId} {q : Nat → Nat} {g : ht_G}
theorem ht_ldV (hexec : p.tables.exec = Jvm.exec) (hb : c.code = cc) (hK : va_K D ht_cl (ht_ty cA) s) (hP : va_P D ht_cl (ht_w cA q g) H) {j : Nat} {i : Int32} (hj : j < 8) (hi : i = nI j) (hdg : decode cc pc = .ok (.aaload, 1))
    (kk : W p l e R s m args below meth c H locs cells slots Q (F0 m (pc + 1) ls (.ref (q (j + 6)) :: rest))) : W p l e R s m args below meth c H locs cells slots Q (F0 m pc ls (.int i :: .ref (q 1) :: rest)) := by
  refine va_aldq hexec hb hK hP 1 0 ht_atA rfl (by rw [hi]; exact vp_in_nI hj (by decide)) hdg ?_
  rw [hi, nI_clamp (by omega)]
  exact kk
theorem ht_ldI (hexec : p.tables.exec = Jvm.exec) (hb : c.code = cc) (hK : va_K D ht_cl (ht_ty cA) s) (hP : va_P D ht_cl (ht_w cA q g) H) (r : Nat) {j : Nat} {i : Int32} (h1 : 1 ≤ r) (h4 : r ≤ 4) (hj : j < 12) (hi : i = nI j) (hdg : decode cc pc = .ok (.iaload, 1))
    (kk : W p l e R s m args below meth c H locs cells slots Q (F0 m (pc + 1) ls (.int (g r j) :: rest))) : W p l e R s m args below meth c H locs cells slots Q (F0 m pc ls (.int i :: .ref (q (r + 1)) :: rest)) := by
  refine va_iald hexec hb hK hP (r + 1) 1 (ht_atR h1 h4) rfl (by rw [hi]; exact vp_in_nI hj (by decide)) hdg ?_
  rw [hi, nI_clamp (by omega)]
  exact kk
theorem ht_stI (hexec : p.tables.exec = Jvm.exec) (hb : c.code = cc) (hK : va_K D ht_cl (ht_ty cA) s) (hP : va_P D ht_cl (ht_w cA q g) H) (hD : va_D A (ht_w cA q g)) (hS : va_S A H0 H locs) (r : Nat) {j : Nat} {i x : Int32} (h1 : 1 ≤ r) (h4 : r ≤ 4) (hj : j < 12) (hi : i = nI j) (hdg : decode cc pc = .ok (.iastore, 1))
    (kk : ∀ (H1 : Heap) (locs1 : List Loc), va_P D ht_cl (ht_w cA q (ht_up g r j x)) H1 → va_S A H0 H1 locs1 → W p l e R s m args below meth c H1 locs1 cells slots Q (F0 m (pc + 1) ls rest)) : W p l e R s m args below meth c H locs cells slots Q (F0 m pc ls (.int x :: .int i :: .ref (q (r + 1)) :: rest)) := by
  refine va_iast hexec hb hK hP hD hS (r + 1) 1 (ht_atR h1 h4) rfl (by rw [hi]; exact vp_in_nI hj (by decide)) hdg (fun H1 locs1 hP1 _ hS1 => ?_)
  rw [hi, nI_clamp (by omega), ht_stR h1 h4] at hP1
  exact kk H1 locs1 hP1 hS1
end HTR
