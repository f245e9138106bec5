abbrev ht_nm : List String := ["java/lang/RuntimeException", "java/lang/Exception"]
abbrev EA : String := "java/lang/IllegalArgumentException"
abbrev ES : String := "java/lang/IllegalStateException"
abbrev EN : String := "java/util/NoSuchElementException"
abbrev ht_xw : List Cond := [Cond.castable EA EA, Cond.castable ES ES, Cond.castable EN EN, Jvm.Cond.declares ({ cls := "java/lang/RuntimeException", name := "<init>", desc := "()V" } : Jvm.MethodName), Jvm.Cond.declares ({ cls := "java/lang/RuntimeException", name := "<init>", desc := "(Ljava/lang/String;)V" } : Jvm.MethodName), Jvm.Cond.declares ({ cls := "java/lang/Exception", name := "<init>", desc := "()V" } : Jvm.MethodName), Jvm.Cond.declares ({ cls := "java/lang/Exception", name := "<init>", desc := "(Ljava/lang/String;)V" } : Jvm.MethodName), Jvm.Cond.declares ({ cls := "java/lang/Throwable", name := "<init>", desc := "()V" } : Jvm.MethodName), Jvm.Cond.declares ({ cls := "java/lang/Throwable", name := "<init>", desc := "(Ljava/lang/String;)V" } : Jvm.MethodName)]
set_option maxRecDepth 100000 in
theorem xg_A : ∀ w ∈ (vx_atS RH 40 EA ht_nm).filter goodWord, w ∈ ht_tb := by decide +kernel
set_option maxRecDepth 100000 in
theorem xb_A : ∀ w ∈ (vx_atS RH 40 EA ht_nm).filter (fun w => !goodWord w), w ∈ ht_xw := by decide +kernel
set_option maxRecDepth 100000 in
theorem xo_A : ∀ w ∈ Cond.classLink RH 36 EA :: Cond.initialized EA :: vx_atS RH 40 EA ht_nm, vx_ot w = true := by decide +kernel
set_option maxRecDepth 100000 in
theorem xg_S : ∀ w ∈ (vx_atS RH 49 ES ht_nm).filter goodWord, w ∈ ht_tb := by decide +kernel
set_option maxRecDepth 100000 in
theorem xb_S : ∀ w ∈ (vx_atS RH 49 ES ht_nm).filter (fun w => !goodWord w), w ∈ ht_xw := by decide +kernel
set_option maxRecDepth 100000 in
theorem xo_S : ∀ w ∈ Cond.classLink RH 45 ES :: Cond.initialized ES :: vx_atS RH 49 ES ht_nm, vx_ot w = true := by decide +kernel
set_option maxRecDepth 100000 in
theorem xg_N : ∀ w ∈ (hx_at RH 138 EN "java/lang/RuntimeException" ["java/lang/Exception"] 13).filter goodWord, w ∈ ht_tb := by decide +kernel
set_option maxRecDepth 100000 in
theorem xb_N : ∀ w ∈ (hx_at RH 138 EN "java/lang/RuntimeException" ["java/lang/Exception"] 13).filter (fun w => !goodWord w), w ∈ ht_xw := by decide +kernel
set_option maxRecDepth 100000 in
theorem xo_N : ∀ w ∈ Cond.classLink RH 134 EN :: Cond.initialized EN :: hx_at RH 138 EN "java/lang/RuntimeException" ["java/lang/Exception"] 13, vx_ot w = true := by decide +kernel
abbrev ht_ss : List (Nat × String) := [(38, "length not 1 .. 40"), (43, "not on the track"), (47, "8 vehicles came"), (54, "a vehicle stands there"), (64, "a train claims a section there"), (174, "no such train"), (77, "speed not 0 .. 9"), (90, "the train is mute or silent"), (102, "the train is silent"), (110, "n not 1 .. length less 1"), (125, "the train is whole, or was by its report"), (136, "no such wagon"), (142, "ticks not 1 .. 6"), (150, "section not 0 .. 11"), (152, "section not 0 .. 3"), (157, "no such vehicle"), (159, "what not 0 .. 5"), (161, "no train"), (172, "what not 0 .. 7")]
def ht_X (U : State) : Prop := ∀ w ∈ ht_xw, va_Nw w U
theorem ht_X.warm {s U : State} (hW : s.WarmedH U.vm) (h : ht_X s) : ht_X U := by
  intro w hw
  have h1 := h w hw
  simp only [ht_xw, List.mem_cons, List.not_mem_nil, or_false] at hw
  rcases hw with rfl | rfl | rfl | rfl | rfl | rfl | rfl | rfl | rfl <;> first | exact va_Nw.warmC hW h1 | exact va_Nw.warmD hW h1
theorem ht_X.on {w : Cond} (hw : w ∈ ht_xw) : w.onTables = true := by
  simp only [ht_xw, List.mem_cons, List.not_mem_nil, or_false] at hw
  rcases hw with rfl | rfl | rfl | rfl | rfl | rfl | rfl | rfl | rfl <;> rfl
theorem ht_X.same {u U : State} (hv : u.vm = U.vm) (h : ht_X u) : ht_X U := fun w hw => va_Nw.same (ht_X.on hw) hv (h w hw)
def ht_R (U : State) : Prop := ∀ x ∈ ht_ss, ∃ a, vk_R RH x.1 x.2 a U
theorem ht_R.warm {s U : State} (hW : s.WarmedH U.vm) (h : ht_R s) : ht_R U := fun x hx => let ⟨a, ha⟩ := h x hx; ⟨a, vk_R.warm hW ha⟩
theorem ht_R.same {u U : State} (hv : U.vm = u.vm) (h : ht_R u) : ht_R U := fun x hx => let ⟨a, ha⟩ := h x hx; ⟨a, vk_R.same hv ha⟩
def ht_Z (A : Nat → Prop) (U : State) (H : Heap) : Prop := vx_Zq Bundle.tN "UNASSIGNED_STACK" Bundle.steD A U H ∧ vx_Zq Bundle.tN "SUPPRESSED_SENTINEL" Bundle.listD A U H
theorem ht_Z.moved {A : Nat → Prop} {u U : State} {H : Heap} (hv : u.vm.Alike U.vm) (h : ht_Z A u H) : ht_Z A U H := ⟨vx_Zq.moved hv h.1, vx_Zq.moved hv h.2⟩
theorem ht_Z.kept {A : Nat → Prop} {U : State} {H H1 : Heap} (h : ht_Z A U H) (hq : ∀ a : Nat, a < H.size → ¬ A a → H1[a]? = H[a]?) : ht_Z A U H1 := ⟨vx_Zq.kept h.1 hq, vx_Zq.kept h.2 hq⟩
theorem ht_Z.narrow {A B : Nat → Prop} {U : State} {H : Heap} (h : ht_Z A U H) (hAB : ∀ q, B q → A q) : ht_Z B U H := ⟨vx_Zq.narrow h.1 hAB, vx_Zq.narrow h.2 hAB⟩
/-- the start of a method that may throw -/
def ht_E (D : va_G) (c : ClassId × ClassId) (q : Nat → Nat) (g : ht_G) (sz : Nat) (U : State) : Prop := U.heap.size = sz ∧ ht_I D c q g U ∧ ht_X U ∧ ht_R U ∧ ht_Z (mw_A 14 q sz) U U.heap
theorem ht_ble {D : va_G} {c : ClassId × ClassId} {q : Nat → Nat} {g : ht_G} {av : List Value} {sz : Nat} : FrameBlind (va_Pc av (ht_E D c q g sz)) := fun a U f mk h =>
  ⟨h.1, h.2.1, ht_Ic f mk _ h.2.2.1, ht_X.same (u := U) (U := U.calling f mk a) rfl h.2.2.2.1, ht_R.same (u := U) (U := U.calling f mk a) rfl h.2.2.2.2.1, ht_Z.moved (u := U) (U := U.calling f mk a) (Vm.Alike.refl U.vm) h.2.2.2.2.2⟩
theorem ht_Em {D : va_G} {c : ClassId × ClassId} {q : Nat → Nat} {g : ht_G} {s U : State} {H : Heap} {locs : List Loc} (hP : va_P D ht_cl (ht_w c q g) H) (hK : va_K D ht_cl (ht_ty c) s) (hN : ht_N s) (hX : ht_X s) (hR : ht_R s) (hZ : ht_Z (mw_A 14 q s.heap.size) s s.heap) (hS : va_S (mw_A 14 q s.heap.size) s.heap H locs) (hU : U.heap = H) (hW : s.WarmedH U.vm) : ht_E D c q g H.size U :=
  ⟨by rw [hU], ht_Im hP hK hN hU hW, ht_X.warm hW hX, ht_R.warm hW hR, by rw [hU]; exact ((hZ.kept hS.2.1).narrow (mw_AF hS.1)).moved hW.alike⟩
theorem ht_Fx {A : Nat → Prop} {s t : State} {H : Heap} {locs : List Loc} (hS : va_S A s.heap H locs) (h1 : H.size ≤ t.heap.size) (h2 : ∀ q : Nat, q < H.size → t.heap[q]? = H[q]?) : va_F A s t :=
  ⟨Nat.le_trans hS.1 h1, fun q hq ha => (h2 q (Nat.lt_of_lt_of_le hq hS.1)).trans (hS.2.1 q hq ha)⟩
theorem ht_Px {D : va_G} {c : ClassId × ClassId} {q : Nat → Nat} {g : ht_G} {t : State} {H : Heap} (hP : va_P D ht_cl (ht_w c q g) H) (h2 : ∀ q : Nat, q < H.size → t.heap[q]? = H[q]?) : va_P D ht_cl (ht_w c q g) t.heap := mw_kept hP (fun i hi => h2 _ (mw_lt hP hi))
section
variable {p : Program} {l : Launch} {e : Env} {R : Room} {s : State} {m : MethodId} {args : Array Value} {below : List Frame} {meth : Method} {c : Code} {H : Heap} {locs : List Loc} {cells slots : Nat} {Q : State → Prop}
variable {mc ms : Nat} {free : Addr → Prop} {A0 A1 : Nat → Prop} {H0 : Heap} {a : Array Value} {pc : Nat} {ls : Array Slot} {st0 rest : List Value}
theorem hx_callr {S SX : Type} {post : S → Prop} {px : SX → Prop} {B : S → Nat → State → Prop} {BX : String → SX → State → Prop} {AX : Nat → Prop} (hr : vx_Run p l e R s m args below meth c H locs cells slots mc ms (F0 m pc ls st0) rest (va_Qr post B A1 a) (vx_X px BX AX) free) (hS : va_S A0 H0 H locs) (hA : ∀ q, q < H.size → A1 q → A0 q) (hf : ∀ q, free q → A0 q) (hAX : ∀ q, q < H.size → AX q → A0 q)
    (kx : ∀ (E : String) (ce : Cell) (q9 : Addr) (u : SX) (t : State) (H1 : Heap) (locs1 : List Loc), t.heap = H1 → s.vm.Alike t.vm → px u → BX E u t → H.size ≤ H1.size → (∀ q : Nat, q < H.size → ¬ AX q → H1[q]? = H[q]?) → va_S A0 H0 H1 locs1 → H1[q9]? = some ce → ce.vm = .none → s.vm.findClass E = some ce.cls → vx_W p l e R s m args below meth c H1 locs1 (cells + mc) (slots + ms) Q (F0 m pc ls rest) q9)
    (kk : ∀ (u : S) (b : Nat) (t : State) (H1 : Heap) (locs1 : List Loc), t.heap = H1 → s.vm.Alike t.vm → post u → B u b t → H.size ≤ H1.size → (∀ q : Nat, q < H.size → ¬ A1 q → H1[q]? = H[q]?) → va_S A0 H0 H1 locs1 → W p l e R s m args below meth c H1 locs1 (cells + mc) (slots + ms) Q (F0 m (pc + 3) ls (.ref b :: rest))) : W p l e R s m args below meth c H locs cells slots Q (F0 m pc ls st0) := by
  intro T hT X
  rcases hr T hT X with ⟨v, st₀, t, T', L, h0, X', hL, e1, e2, ⟨⟨u, b, hv, hp, hb⟩, hF⟩, st⟩ | ⟨q, st₀, t, T', L, E, ce, h0, X', hL, e1, e2, ⟨u, hp, hb, hF⟩, hce, hcv, hcl, st⟩
  · cases hv
    obtain ⟨k1, k2, k3⟩ := vx_keep h0 e1 hS hA hf hL hF
    obtain ⟨t2, a1, b1⟩ := kk u b t T'.heap (locs ++ L) e1.symm (by rw [← e2]; exact X'.warmed.alike) hp hb k1 k2 k3 T' rfl X'
    exact ⟨t2, st t2 a1, b1⟩
  · obtain ⟨k1, k2, k3⟩ := vx_keep h0 e1 hS hAX hf hL hF
    obtain ⟨t2, a1, b1⟩ := kx E ce q u t T'.heap (locs ++ L) e1.symm (by rw [← e2]; exact X'.warmed.alike) hp hb k1 k2 k3 (by rw [e1]; exact hce) hcv hcl T' rfl X'
    exact ⟨t2, st.trans a1, b1⟩
end
def ht_tr (g : ht_G) (k : Nat) (x : Int32) : Bool := ht_on g k x && !decide (g (5 + x.toNatClampNeg) 0 = 0)
/-- a train's number -/
def ht_is (g : ht_G) (k : Nat) (x : Int32) (j : Nat) : Prop := j < k ∧ x = nI j ∧ x.toNatClampNeg = j ∧ ¬ g (5 + j) 1 = 0
theorem ht_on_is {g : ht_G} {k : Nat} (hk : k ≤ 8) {x : Int32} (h : ht_on g k x = true) : ht_is g k x x.toNatClampNeg := by
  simp only [ht_on, Bool.and_eq_true, Bool.not_eq_true', decide_eq_false_iff_not] at h
  obtain ⟨j, hjl, hxj, -, hxc, -⟩ := pk_mu h.1 h.2.1 (by omega)
  rw [hxc]
  exact ⟨hjl, hxj, hxc, by rw [← hxc]; exact h.2.2⟩
