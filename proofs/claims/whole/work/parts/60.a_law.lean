def R_law : String := "HybridTrackLaw"
def lw_P (b : Addr) (xs : List Int32) (args : Array Value) (s : State) : Prop := args = #[.ref b] ∧ s.IntsAt b xs ∧ xs.length ≤ 1536 ∧ (Jvm.Cond.and given_1 narrow_1).before args s = true
def lw_Q (_ : Array Value) (s : State) (o : Outcome) (t : State) : Prop := o = .returned (some (.int 1)) ∧ Framed s o t [] 666454 7096741
def lw_Z (below : List Frame) (a : Array Value) (s : State) : State → Prop := fun t => ∃ o, t.status = .running ∧ Ended t below o ∧ lw_Q a s o t
/-- the law's own end, with 1 on the stack, nothing written that was there before, its room as the claim has it -/
theorem lw_ret {p : Program} {l : Launch} {e : Env} {s : State} {m : MethodId} {below : List Frame} {meth : Method} {c : Code} {b : Nat} (hx : p.tables.exec = Jvm.exec) (hb : c.code = code) (hr : meth.sig.returnType = ret) (hlocks : meth.locks = false) {pc : Nat} {H : Heap} {ls : Array Slot} (hdg : decode code pc = .ok (.ireturn, 1)) : W p l e room_1 s m #[Value.ref b] below meth c H [] 666454 7096741 (lw_Z below #[Value.ref b] s) (F0 m pc ls [.int 1]) := by
  intro T hT X
  obtain ⟨fs, hret, hrun, hended, hW, hframe⟩ := X.leave (v := some (.int 1)) (hlocks := hlocks) (fun h => by rw [hr] at h; cases h)
  have hmeth' : T.vm.method? m = some meth := X.method'
  refine ⟨T.setFrames fs, ?_, .returned (some (.int 1)), hrun, hended, rfl, ⟨_, rfl⟩, hW, hframe⟩
  jvm_step X.here [X.here.top, hx, hb, hdg, hmeth', hr, ret, narrow_b1]
  (try refine ⟨rfl, ?_⟩); (try refine ⟨rfl, ?_⟩)
  first | (intro acts; rw [hret _ acts rfl rfl rfl]) | rw [hret _ _ rfl rfl rfl]
  exact Steps.refl _
/-- what holds at the law's entry: the machine, the code, the tables' words (any of lw_tbl by 'hts w (by decide +kernel)'), the script of L ints xs at the cell b, what the Statement gives of the start (any of its parts by flat_of_before) -/
def lw_At (p : Program) (s : State) (m : MethodId) (meth : Method) (c : Code) (b L : Nat) (xs : Nat → Int32) : Prop :=
  p.tables.exec = Jvm.exec ∧ c.code = code ∧ meth.sig.returnType = ret ∧ c.maxLocals = 7 ∧ s.vm.findClass R_law = some m.cls ∧ (∀ w ∈ lw_tbl, w.before #[Value.ref b] s = true) ∧ va_X b L xs s s.heap ∧ b < s.heap.size ∧ meth.locks = false ∧ (Jvm.Cond.and given_1 narrow_1).before #[Value.ref b] s = true
theorem ht_gSW {own : String} {i : Nat} {y : MethodName} {w : Cond} (h1 : Cond.methodLink own i y ∈ ht_tb) (h2 : Cond.static y ∈ ht_tb) (h4 : Cond.initialized y.cls ∈ ht_tb) (h5 : w ∈ ht_tb) : GoodIn ht_tb (va_wsS own i y (w :: ht_tb)) := by
  intro z hz
  simp only [va_wsS, List.cons_append, List.nil_append, List.mem_cons] at hz
  rcases hz with rfl | rfl | rfl | rfl | hz <;> first | exact ht_gd h1 | exact ht_gd h2 | exact ht_gd h4 | exact ht_gd h5 | exact ht_gd hz
abbrev lx_A (s : State) : Nat → Prop := fun z => s.heap.size ≤ z
def lx (p : Program) (l : Launch) (s : State) (m : MethodId) (meth : Method) (c : Code) (b L : Nat) (xs : Nat → Int32) (D : va_G) (cA cB : ClassId × ClassId) (cJ : ClassId) (q q' : Nat → Nat) (ao : Nat) : Prop :=
  lw_At p s m meth c b L xs ∧ l.stackTraces = false ∧ va_K D ht_cl (ht_ty cA) s ∧ va_K D ht_cl (rf_ty cB) s ∧ va_K D ht_cl [(cJ, .long)] s ∧ ht_N s ∧ ht_X s ∧ ht_R s ∧ ht_C s ∧ ht_Z (lx_A s) s s.heap ∧ mw_J 14 q ∧ mw_J 17 q' ∧ (∀ i, i < 14 → s.heap.size ≤ q i) ∧ (∀ j, j < 17 → s.heap.size ≤ q' j) ∧ s.heap.size ≤ ao ∧ (∀ i j, i < 14 → j < 17 → q i ≠ q' j) ∧ (∀ i, i < 14 → ao ≠ q i) ∧ (∀ j, j < 17 → ao ≠ q' j)
def lx_P (D : va_G) (cA cB : ClassId × ClassId) (cJ : ClassId) (q q' : Nat → Nat) (ao : Nat) (g r : ht_G) (f : Nat → Int64) (H : Heap) : Prop := va_P D ht_cl (ht_w cA q g) H ∧ va_P D ht_cl (rf_w cB q' r) H ∧ va_P D ht_cl [(ao, .inl (cJ, 1, .inr (.inl f)))] H
theorem lx_E {D : va_G} {c : ClassId × ClassId} {q : Nat → Nat} {g : ht_G} {s U : State} {H : Heap} {locs : List Loc} (hP : va_P D ht_cl (ht_w c q g) H) (hK : va_K D ht_cl (ht_ty c) s) (hN : ht_N s) (hX : ht_X s) (hR : ht_R s) (hZ : ht_Z (lx_A s) s s.heap) (hS : va_S (lx_A s) s.heap H locs) (hq : ∀ i, i < 14 → s.heap.size ≤ q i) (hU : U.heap = H) (hW : s.WarmedH U.vm) : ht_E D c q g H.size U :=
  ⟨by rw [hU], ht_Im hP hK hN hU hW, ht_X.warm hW hX, ht_R.warm hW hR, by
    rw [hU]
    exact ht_Z.moved hW.alike (ht_Z.narrow (ht_Z.kept hZ (fun a h1 h2 => hS.2.1 a h1 h2)) (fun z h => h.elim (fun ⟨i, hi, e⟩ => by rw [e]; exact hq i hi) (fun h => Nat.le_trans hS.1 h)))⟩
theorem lx_bl {D : va_G} {c : ClassId × ClassId} {q : Nat → Nat} {g : ht_G} {av : List Value} {sz : Nat} {w : va_W} {ty : List (ClassId × FieldType)} : FrameBlind (va_Pc av (fun U => ht_E D c q g sz U ∧ va_P D ht_cl w U.heap ∧ va_K D ht_cl ty U ∧ ht_C U)) := fun a U f mk h =>
  ⟨h.1, (ht_ble (av := av) a U f mk ⟨h.1, h.2.1⟩).2, h.2.2.1, va_K.moved (u := U) (U := U.calling f mk a) (Vm.Alike.refl U.vm) h.2.2.2.1, ht_C.moved (u := U) (U := U.calling f mk a) (Vm.Alike.refl U.vm) h.2.2.2.2⟩
theorem lx_cmp {x y : Int64} (h : x = y) : lg_cmp x y = 0 := by
  subst h
  have : ¬ x < x := Int64.lt_irrefl
  simp [lg_cmp, this]
theorem lx_keep {D : va_G} {n : Nat} {q : Nat → Nat} {E : Nat → va_E} {H H1 : Heap} {A : Nat → Prop} (hP : va_P D ht_cl (mw n q E) H) (hk : ∀ z : Nat, z < H.size → ¬ A z → H1[z]? = H[z]?) (hA : ∀ i, i < n → q i < H.size → ¬ A (q i)) : va_P D ht_cl (mw n q E) H1 :=
  hP.kept (fun k x hx => by
    obtain ⟨h1, rfl⟩ := mw_of hx
    exact hk _ (hP k _ hx).lt (hA k h1 (hP k _ hx).lt))
theorem lx_keep1 {D : va_G} {a : Nat} {e : va_E} {H H1 : Heap} {A : Nat → Prop} (hP : va_P D ht_cl [(a, e)] H) (hk : ∀ z : Nat, z < H.size → ¬ A z → H1[z]? = H[z]?) (hA : a < H.size → ¬ A a) : va_P D ht_cl [(a, e)] H1 :=
  hP.kept (fun k x hx => by
    obtain ⟨h1, h2⟩ := ht_one1 hx
    subst h2
    exact hk _ (hP k _ hx).lt (hA (hP k _ hx).lt))
