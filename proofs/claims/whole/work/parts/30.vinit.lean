set_option maxHeartbeats 800000 in
set_option maxRecDepth 100000 in
theorem xV_init (l : Launch) (D : va_G) (h0 sz : Nat) (v : Nat → Int32) : Met l yV_init kV_init ({ frames := 1, cells := 0, slots := 0, locals := 20 }) (va_Pc [.ref h0] (fun U => U.heap.size = sz ∧ va_P D ht_cl [(h0, .inr (0, ht_vf v))] U.heap ∧ va_K D ht_cl [] U)) (va_Qv (fun _ : Unit => True) (fun _ t => va_P D ht_cl [(h0, .inr (0, ht_vf (fun _ => 0)))] t.heap) (fun z => z = h0 ∨ sz ≤ z)) 0 0 (fun z => z = h0 ∨ sz ≤ z) := by
  refine Met.ofW (cc := cV_init) (maxL := 1) (ret := none) (by decide) rfl ?_
  intro p e s m args below meth c s₁ B hml hv
  have hx := B.exec
  have hb := B.bytes
  have hr := B.returns
  have hts := fun w h => atoms_spec (ws := kV_init) B.pre w (List.mem_cons_of_mem _ h)
  have hown : s.vm.findClass RV = some m.cls := findClass_of_methodNamed B.named
  have hlocks := B.notSynchronized
  have hin : meth.name = "<init>" := (name_of_methodNamed B.named B.method).1
  obtain ⟨rfl, hsz, hP, hK⟩ := hv
  subst hsz
  have hS : va_S (fun z => z = h0 ∨ s.heap.size ≤ z) s.heap s.heap [] := va_S.rf
  have hD : ∀ fs, va_D (fun z => z = h0 ∨ s.heap.size ≤ z) [(h0, .inr (0, fs))] := fun fs => ht_D1 (Or.inl rfl)
  have hl := lv_entry ([.ref h0]) (n := 1) (Nat.le_of_ble_eq_true rfl)
  rw [lg_entry_eq]
  generalize (lg_sl ([.ref h0]) ++ List.replicate (1 - (lg_sl ([.ref h0])).length) Slot.unset).toArray = ls at hl ⊢
  have hl : lv_has ls 1 [(0, .ref h0)] := hl
  refine lv_aload_n hx hb dV_init_0 rfl (lv_at hl 0 rfl) ?_
  refine W.objInit hx hb hown (hts _ w24) (hts _ w16) (hts _ w17) rfl (by rw [hml]; exact hl.1) rfl dV_init_1 (Nat.le_of_ble_eq_true rfl) (Nat.le_of_ble_eq_true rfl) ?_
  refine W.eq (g2 := F0 m 4 ls []) rfl ?_
  refine lv_aload_n hx hb dV_init_4 rfl (lv_at hl 0 rfl) ?_
  refine lv_iconst (v := 0) hx hb dV_init_5 (by decide) ?_
  refine va_put (D := D) (ci := 0) (C := RV) (T := TV) (N := 13) (v := .int 0) (ty := .boolean) hx hb hts inV tyV tyV_ok nmV hown hK hP (hD _) hS 0 rfl rfl 0 (by decide) (hts _ w25) (fun _ h9 => h9) rfl rfl rfl rfl (Nat.le_of_ble_eq_true rfl) dV_init_6 (fun H locs hP _ hS => ?_)
  have hP : va_P D ht_cl [(h0, .inr (0, (ht_vf v).set 0 (.int 0)))] H := hP
  refine lv_aload_n hx hb dV_init_9 rfl (lv_at hl 0 rfl) ?_
  refine lv_iconst (v := 0) hx hb dV_init_10 (by decide) ?_
  refine va_put (D := D) (ci := 0) (C := RV) (T := TV) (N := 13) (v := .int 0) (ty := .boolean) hx hb hts inV tyV tyV_ok nmV hown hK hP (hD _) hS 0 rfl rfl 1 (by decide) (hts _ w27) (fun _ h9 => h9) rfl rfl rfl rfl (Nat.le_of_ble_eq_true rfl) dV_init_11 (fun H locs hP _ hS => ?_)
  have hP : va_P D ht_cl [(h0, .inr (0, ((ht_vf v).set 0 (.int 0)).set 1 (.int 0)))] H := hP
  refine lv_aload_n hx hb dV_init_14 rfl (lv_at hl 0 rfl) ?_
  refine lv_iconst (v := 0) hx hb dV_init_15 (by decide) ?_
  refine va_put (D := D) (ci := 0) (C := RV) (T := TV) (N := 13) (v := .int 0) (ty := .int) hx hb hts inV tyV tyV_ok nmV hown hK hP (hD _) hS 0 rfl rfl 2 (by decide) (hts _ w29) (fun _ h9 => h9) rfl rfl rfl rfl (Nat.le_of_ble_eq_true rfl) dV_init_16 (fun H locs hP _ hS => ?_)
  have hP : va_P D ht_cl [(h0, .inr (0, (((ht_vf v).set 0 (.int 0)).set 1 (.int 0)).set 2 (.int 0)))] H := hP
  refine lv_aload_n hx hb dV_init_19 rfl (lv_at hl 0 rfl) ?_
  refine lv_iconst (v := 0) hx hb dV_init_20 (by decide) ?_
  refine va_put (D := D) (ci := 0) (C := RV) (T := TV) (N := 13) (v := .int 0) (ty := .int) hx hb hts inV tyV tyV_ok nmV hown hK hP (hD _) hS 0 rfl rfl 3 (by decide) (hts _ w31) (fun _ h9 => h9) rfl rfl rfl rfl (Nat.le_of_ble_eq_true rfl) dV_init_21 (fun H locs hP _ hS => ?_)
  have hP : va_P D ht_cl [(h0, .inr (0, ((((ht_vf v).set 0 (.int 0)).set 1 (.int 0)).set 2 (.int 0)).set 3 (.int 0)))] H := hP
  refine lv_aload_n hx hb dV_init_24 rfl (lv_at hl 0 rfl) ?_
  refine lv_iconst (v := 0) hx hb dV_init_25 (by decide) ?_
  refine va_put (D := D) (ci := 0) (C := RV) (T := TV) (N := 13) (v := .int 0) (ty := .int) hx hb hts inV tyV tyV_ok nmV hown hK hP (hD _) hS 0 rfl rfl 4 (by decide) (hts _ w33) (fun _ h9 => h9) rfl rfl rfl rfl (Nat.le_of_ble_eq_true rfl) dV_init_26 (fun H locs hP _ hS => ?_)
  have hP : va_P D ht_cl [(h0, .inr (0, (((((ht_vf v).set 0 (.int 0)).set 1 (.int 0)).set 2 (.int 0)).set 3 (.int 0)).set 4 (.int 0)))] H := hP
  refine lv_aload_n hx hb dV_init_29 rfl (lv_at hl 0 rfl) ?_
  refine lv_iconst (v := 0) hx hb dV_init_30 (by decide) ?_
  refine va_put (D := D) (ci := 0) (C := RV) (T := TV) (N := 13) (v := .int 0) (ty := .int) hx hb hts inV tyV tyV_ok nmV hown hK hP (hD _) hS 0 rfl rfl 5 (by decide) (hts _ w35) (fun _ h9 => h9) rfl rfl rfl rfl (Nat.le_of_ble_eq_true rfl) dV_init_31 (fun H locs hP _ hS => ?_)
  have hP : va_P D ht_cl [(h0, .inr (0, ((((((ht_vf v).set 0 (.int 0)).set 1 (.int 0)).set 2 (.int 0)).set 3 (.int 0)).set 4 (.int 0)).set 5 (.int 0)))] H := hP
  refine lv_aload_n hx hb dV_init_34 rfl (lv_at hl 0 rfl) ?_
  refine lv_iconst (v := 0) hx hb dV_init_35 (by decide) ?_
  refine va_put (D := D) (ci := 0) (C := RV) (T := TV) (N := 13) (v := .int 0) (ty := .boolean) hx hb hts inV tyV tyV_ok nmV hown hK hP (hD _) hS 0 rfl rfl 6 (by decide) (hts _ w37) (fun _ h9 => h9) rfl rfl rfl rfl (Nat.le_of_ble_eq_true rfl) dV_init_36 (fun H locs hP _ hS => ?_)
  have hP : va_P D ht_cl [(h0, .inr (0, (((((((ht_vf v).set 0 (.int 0)).set 1 (.int 0)).set 2 (.int 0)).set 3 (.int 0)).set 4 (.int 0)).set 5 (.int 0)).set 6 (.int 0)))] H := hP
  refine lv_aload_n hx hb dV_init_39 rfl (lv_at hl 0 rfl) ?_
  refine lv_iconst (v := 0) hx hb dV_init_40 (by decide) ?_
  refine va_put (D := D) (ci := 0) (C := RV) (T := TV) (N := 13) (v := .int 0) (ty := .boolean) hx hb hts inV tyV tyV_ok nmV hown hK hP (hD _) hS 0 rfl rfl 7 (by decide) (hts _ w39) (fun _ h9 => h9) rfl rfl rfl rfl (Nat.le_of_ble_eq_true rfl) dV_init_41 (fun H locs hP _ hS => ?_)
  have hP : va_P D ht_cl [(h0, .inr (0, ((((((((ht_vf v).set 0 (.int 0)).set 1 (.int 0)).set 2 (.int 0)).set 3 (.int 0)).set 4 (.int 0)).set 5 (.int 0)).set 6 (.int 0)).set 7 (.int 0)))] H := hP
  refine lv_aload_n hx hb dV_init_44 rfl (lv_at hl 0 rfl) ?_
  refine lv_iconst (v := 0) hx hb dV_init_45 (by decide) ?_
  refine va_put (D := D) (ci := 0) (C := RV) (T := TV) (N := 13) (v := .int 0) (ty := .int) hx hb hts inV tyV tyV_ok nmV hown hK hP (hD _) hS 0 rfl rfl 8 (by decide) (hts _ w41) (fun _ h9 => h9) rfl rfl rfl rfl (Nat.le_of_ble_eq_true rfl) dV_init_46 (fun H locs hP _ hS => ?_)
  have hP : va_P D ht_cl [(h0, .inr (0, (((((((((ht_vf v).set 0 (.int 0)).set 1 (.int 0)).set 2 (.int 0)).set 3 (.int 0)).set 4 (.int 0)).set 5 (.int 0)).set 6 (.int 0)).set 7 (.int 0)).set 8 (.int 0)))] H := hP
  refine lv_aload_n hx hb dV_init_49 rfl (lv_at hl 0 rfl) ?_
  refine lv_iconst (v := 0) hx hb dV_init_50 (by decide) ?_
  refine va_put (D := D) (ci := 0) (C := RV) (T := TV) (N := 13) (v := .int 0) (ty := .int) hx hb hts inV tyV tyV_ok nmV hown hK hP (hD _) hS 0 rfl rfl 9 (by decide) (hts _ w43) (fun _ h9 => h9) rfl rfl rfl rfl (Nat.le_of_ble_eq_true rfl) dV_init_51 (fun H locs hP _ hS => ?_)
  have hP : va_P D ht_cl [(h0, .inr (0, ((((((((((ht_vf v).set 0 (.int 0)).set 1 (.int 0)).set 2 (.int 0)).set 3 (.int 0)).set 4 (.int 0)).set 5 (.int 0)).set 6 (.int 0)).set 7 (.int 0)).set 8 (.int 0)).set 9 (.int 0)))] H := hP
  refine lv_aload_n hx hb dV_init_54 rfl (lv_at hl 0 rfl) ?_
  refine lv_iconst (v := 0) hx hb dV_init_55 (by decide) ?_
  refine va_put (D := D) (ci := 0) (C := RV) (T := TV) (N := 13) (v := .int 0) (ty := .boolean) hx hb hts inV tyV tyV_ok nmV hown hK hP (hD _) hS 0 rfl rfl 10 (by decide) (hts _ w45) (fun _ h9 => h9) rfl rfl rfl rfl (Nat.le_of_ble_eq_true rfl) dV_init_56 (fun H locs hP _ hS => ?_)
  have hP : va_P D ht_cl [(h0, .inr (0, (((((((((((ht_vf v).set 0 (.int 0)).set 1 (.int 0)).set 2 (.int 0)).set 3 (.int 0)).set 4 (.int 0)).set 5 (.int 0)).set 6 (.int 0)).set 7 (.int 0)).set 8 (.int 0)).set 9 (.int 0)).set 10 (.int 0)))] H := hP
  refine lv_aload_n hx hb dV_init_59 rfl (lv_at hl 0 rfl) ?_
  refine lv_iconst (v := 0) hx hb dV_init_60 (by decide) ?_
  refine va_put (D := D) (ci := 0) (C := RV) (T := TV) (N := 13) (v := .int 0) (ty := .int) hx hb hts inV tyV tyV_ok nmV hown hK hP (hD _) hS 0 rfl rfl 11 (by decide) (hts _ w47) (fun _ h9 => h9) rfl rfl rfl rfl (Nat.le_of_ble_eq_true rfl) dV_init_61 (fun H locs hP _ hS => ?_)
  have hP : va_P D ht_cl [(h0, .inr (0, ((((((((((((ht_vf v).set 0 (.int 0)).set 1 (.int 0)).set 2 (.int 0)).set 3 (.int 0)).set 4 (.int 0)).set 5 (.int 0)).set 6 (.int 0)).set 7 (.int 0)).set 8 (.int 0)).set 9 (.int 0)).set 10 (.int 0)).set 11 (.int 0)))] H := hP
  refine lv_aload_n hx hb dV_init_64 rfl (lv_at hl 0 rfl) ?_
  refine lv_iconst (v := 0) hx hb dV_init_65 (by decide) ?_
  refine va_put (D := D) (ci := 0) (C := RV) (T := TV) (N := 13) (v := .int 0) (ty := .int) hx hb hts inV tyV tyV_ok nmV hown hK hP (hD _) hS 0 rfl rfl 12 (by decide) (hts _ w48) (fun _ h9 => h9) rfl rfl rfl rfl (Nat.le_of_ble_eq_true rfl) dV_init_66 (fun H locs hP _ hS => ?_)
  have hP : va_P D ht_cl [(h0, .inr (0, (((((((((((((ht_vf v).set 0 (.int 0)).set 1 (.int 0)).set 2 (.int 0)).set 3 (.int 0)).set 4 (.int 0)).set 5 (.int 0)).set 6 (.int 0)).set 7 (.int 0)).set 8 (.int 0)).set 9 (.int 0)).set 10 (.int 0)).set 11 (.int 0)).set 12 (.int 0)))] H := hP
  have hP : va_P D ht_cl [(h0, .inr (0, ht_vf (fun _ => 0)))] H := hP
  exact W.vret hx hb hr (fun t ht hW => ⟨⟨(), rfl, trivial, by show va_P D ht_cl [(h0, .inr (0, ht_vf (fun _ => 0)))] t.heap; rw [ht]; exact hP⟩, hS.F ht⟩) hS.2.2 dV_init_69
