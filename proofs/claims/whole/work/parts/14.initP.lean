abbrev rm_Pl_init : Room := { frames := 1, cells := 8, slots := 416, locals := 12 }
abbrev q_Pl_init (D : va_G) (cI cL : ClassId) (A : Nat → Prop) (p : Nat) : Array Value → State → Outcome → State → Prop := va_Qv (S := Nat × Nat × Nat × Nat × Nat × Nat × Nat × Nat) (fun (u : Nat × Nat × Nat × Nat × Nat × Nat × Nat × Nat) => match u with | (pX, pY, pF, pC, pA, pB, pR, pK) => True) (sw_R D A (fun (u : Nat × Nat × Nat × Nat × Nat × Nat × Nat × Nat) => match u with | (pX, pY, pF, pC, pA, pB, pR, pK) => [(p, .inr (1, [.ref pX, .ref pY, .ref pF, .ref pC, .ref pA, .ref pB, .ref pR, .ref pK, .int 0, .int 0, .int 0])), (pX, .inl (cI, 64, .inl (fun _ => 0))), (pY, .inl (cI, 64, .inl (fun _ => 0))), (pF, .inl (cI, 16, .inl (fun _ => 0))), (pC, .inl (cI, 16, .inl (fun _ => 0))), (pA, .inl (cI, 64, .inl (fun _ => 0))), (pB, .inl (cI, 64, .inl (fun _ => 0))), (pR, .inl (cI, 64, .inl (fun _ => 0))), (pK, .inl (cI, 64, .inl (fun _ => 0)))])) A
set_option maxHeartbeats 200000 in
set_option maxRecDepth 100000 in
theorem c_Pl_init (l : Launch) (D : va_G) (cI cL : ClassId) (tq sz : Nat) (p : Nat) : Met l y_Pl_init w_Pl_init rm_Pl_init (va_Pc [.ref p] (sw_B D cI cL tq sz [(p, .inr (1, [.null, .null, .null, .null, .null, .null, .null, .null, .int 0, .int 0, .int 0]))])) (q_Pl_init D cI cL (va_A [(p, .inr (1, [.null, .null, .null, .null, .null, .null, .null, .null, .int 0, .int 0, .int 0]))] sz) p) 8 416 (va_A [(p, .inr (1, [.null, .null, .null, .null, .null, .null, .null, .null, .int 0, .int 0, .int 0]))] sz) := by
  refine Met.ofW (cc := b_Pl_init) (maxL := 1) (ret := none) (by decide) rfl ?_
  intro mp me s mm args below meth mk s₁ B hml hv
  obtain ⟨rfl, hsz, hP, hK, hD0, hG⟩ := hv
  have hx := B.exec
  have hb := B.bytes
  have hr := B.returns
  have hts := atoms_spec (ws := w_Pl_init) B.pre
  have hw : ∀ w ∈ sw_words, w.before _ s = true := fun w h => hts w (List.mem_cons_of_mem _ h)
  have hown : s.vm.findClass R_Pl = some mm.cls := findClass_of_methodNamed B.named
  have hlocks := B.notSynchronized
  have hin : meth.name = "<init>" := (name_of_methodNamed B.named B.method).1
  subst hsz
  have hD := hD0.self (sz := s.heap.size)
  generalize hAe : va_A [(p, .inr (1, [.null, .null, .null, .null, .null, .null, .null, .null, .int 0, .int 0, .int 0]))] s.heap.size = A at hD hG ⊢
  have hA : ∀ q : Nat, s.heap.size ≤ q → A q := fun q h => by rw [← hAe]; exact Or.inr h
  have hS : va_S A s.heap s.heap [] := va_S.rf
  have hl := lv_entry ([.ref p]) (n := 1) (Nat.le_of_ble_eq_true rfl)
  rw [lg_entry_eq]
  generalize (lg_sl ([.ref p]) ++ List.replicate (1 - (lg_sl ([.ref p])).length) Slot.unset).toArray = ls at hl ⊢
  have hl : lv_has ls 1 [(0, .ref p)] := hl
  refine lv_aload_n hx hb d_Pl_init_0 rfl (lv_at hl 0 rfl) ?_
  refine W.objInit hx hb hown (hw _ kw_87d24af8) (hw _ kw_004f8c6f) (hw _ kc_objectInit) rfl (by rw [hml]; exact hl.1) rfl d_Pl_init_1 (Nat.le_of_ble_eq_true rfl) (Nat.le_of_ble_eq_true rfl) ?_
  refine W.eq (g2 := F0 mm 4 ls []) rfl ?_
  refine lv_aload_n hx hb d_Pl_init_4 rfl (lv_at hl 0 rfl) ?_
  refine lv_bipush (v := 64) hx hb d_Pl_init_5 (by decide) ?_
  have hq1 : 0 + 1 ≤ 8 := by decide
  have hq2 : 0 + 64 ≤ 416 := by decide
  refine va_newa (atype := .int) (a0 := (64, .inl (fun _ => 0))) (N' := 64) hx hb (hw _ kw_2e6385fb) rfl hK hP hD hS hA (fun _ => rfl) (by decide) (by decide) (by decide) hq1 hq2 d_Pl_init_7 (fun q7 cA H hKn hP hD hS => ?_)
  obtain rfl : cI = cA := sw_uni hKn
  replace hP : va_P D sw_cl [(p, .inr (1, [.null, .null, .null, .null, .null, .null, .null, .null, .int 0, .int 0, .int 0])), (q7, .inl (cI, 64, .inl (fun _ => 0)))] H := hP
  replace hD : va_D A [(p, .inr (1, [.null, .null, .null, .null, .null, .null, .null, .null, .int 0, .int 0, .int 0])), (q7, .inl (cI, 64, .inl (fun _ => 0)))] := hD
  refine W.widen (k := 1) (n := 64) (by decide) (by decide) ?_
  refine va_putF (D := D) (ci := 1) (v := .ref q7) (ty := t_Pl 0) (C := R_Pl) (T := F_Pl) (N := 11) hx hb hw ku_Pl t_Pl t_Pl_ok n_Pl hown hK hP hD hS 0 rfl rfl 0 (by decide) (hw _ kw_8234c2ed) (fun _ h9 => h9) rfl hin rfl (t_Pl_ok 0 (by decide)) rfl rfl (Nat.le_of_ble_eq_true rfl) d_Pl_init_9 (fun H locs hP hD hS => ?_)
  replace hP : va_P D sw_cl [(p, .inr (1, [.ref q7, .null, .null, .null, .null, .null, .null, .null, .int 0, .int 0, .int 0])), (q7, .inl (cI, 64, .inl (fun _ => 0)))] H := hP
  replace hD : va_D A [(p, .inr (1, [.ref q7, .null, .null, .null, .null, .null, .null, .null, .int 0, .int 0, .int 0])), (q7, .inl (cI, 64, .inl (fun _ => 0)))] := hD
  refine lv_aload_n hx hb d_Pl_init_12 rfl (lv_at hl 0 rfl) ?_
  refine lv_bipush (v := 64) hx hb d_Pl_init_13 (by decide) ?_
  have hq1 : 1 + 1 ≤ 8 := by decide
  have hq2 : 64 + 64 ≤ 416 := by decide
  refine va_newa (atype := .int) (a0 := (64, .inl (fun _ => 0))) (N' := 64) hx hb (hw _ kw_2e6385fb) rfl hK hP hD hS hA (fun _ => rfl) (by decide) (by decide) (by decide) hq1 hq2 d_Pl_init_15 (fun q15 cA H hKn hP hD hS => ?_)
  obtain rfl : cI = cA := sw_uni hKn
  replace hP : va_P D sw_cl [(p, .inr (1, [.ref q7, .null, .null, .null, .null, .null, .null, .null, .int 0, .int 0, .int 0])), (q7, .inl (cI, 64, .inl (fun _ => 0))), (q15, .inl (cI, 64, .inl (fun _ => 0)))] H := hP
  replace hD : va_D A [(p, .inr (1, [.ref q7, .null, .null, .null, .null, .null, .null, .null, .int 0, .int 0, .int 0])), (q7, .inl (cI, 64, .inl (fun _ => 0))), (q15, .inl (cI, 64, .inl (fun _ => 0)))] := hD
  refine W.widen (k := 2) (n := 128) (by decide) (by decide) ?_
  refine va_putF (D := D) (ci := 1) (v := .ref q15) (ty := t_Pl 1) (C := R_Pl) (T := F_Pl) (N := 11) hx hb hw ku_Pl t_Pl t_Pl_ok n_Pl hown hK hP hD hS 0 rfl rfl 1 (by decide) (hw _ kw_c8115e4c) (fun _ h9 => h9) rfl hin rfl (t_Pl_ok 1 (by decide)) rfl rfl (Nat.le_of_ble_eq_true rfl) d_Pl_init_17 (fun H locs hP hD hS => ?_)
  replace hP : va_P D sw_cl [(p, .inr (1, [.ref q7, .ref q15, .null, .null, .null, .null, .null, .null, .int 0, .int 0, .int 0])), (q7, .inl (cI, 64, .inl (fun _ => 0))), (q15, .inl (cI, 64, .inl (fun _ => 0)))] H := hP
  replace hD : va_D A [(p, .inr (1, [.ref q7, .ref q15, .null, .null, .null, .null, .null, .null, .int 0, .int 0, .int 0])), (q7, .inl (cI, 64, .inl (fun _ => 0))), (q15, .inl (cI, 64, .inl (fun _ => 0)))] := hD
  refine lv_aload_n hx hb d_Pl_init_20 rfl (lv_at hl 0 rfl) ?_
  refine lv_bipush (v := 16) hx hb d_Pl_init_21 (by decide) ?_
  have hq1 : 2 + 1 ≤ 8 := by decide
  have hq2 : 128 + 16 ≤ 416 := by decide
  refine va_newa (atype := .int) (a0 := (16, .inl (fun _ => 0))) (N' := 16) hx hb (hw _ kw_2e6385fb) rfl hK hP hD hS hA (fun _ => rfl) (by decide) (by decide) (by decide) hq1 hq2 d_Pl_init_23 (fun q23 cA H hKn hP hD hS => ?_)
  obtain rfl : cI = cA := sw_uni hKn
  replace hP : va_P D sw_cl [(p, .inr (1, [.ref q7, .ref q15, .null, .null, .null, .null, .null, .null, .int 0, .int 0, .int 0])), (q7, .inl (cI, 64, .inl (fun _ => 0))), (q15, .inl (cI, 64, .inl (fun _ => 0))), (q23, .inl (cI, 16, .inl (fun _ => 0)))] H := hP
  replace hD : va_D A [(p, .inr (1, [.ref q7, .ref q15, .null, .null, .null, .null, .null, .null, .int 0, .int 0, .int 0])), (q7, .inl (cI, 64, .inl (fun _ => 0))), (q15, .inl (cI, 64, .inl (fun _ => 0))), (q23, .inl (cI, 16, .inl (fun _ => 0)))] := hD
  refine W.widen (k := 3) (n := 144) (by decide) (by decide) ?_
  refine va_putF (D := D) (ci := 1) (v := .ref q23) (ty := t_Pl 2) (C := R_Pl) (T := F_Pl) (N := 11) hx hb hw ku_Pl t_Pl t_Pl_ok n_Pl hown hK hP hD hS 0 rfl rfl 2 (by decide) (hw _ kw_27d57bb8) (fun _ h9 => h9) rfl hin rfl (t_Pl_ok 2 (by decide)) rfl rfl (Nat.le_of_ble_eq_true rfl) d_Pl_init_25 (fun H locs hP hD hS => ?_)
  replace hP : va_P D sw_cl [(p, .inr (1, [.ref q7, .ref q15, .ref q23, .null, .null, .null, .null, .null, .int 0, .int 0, .int 0])), (q7, .inl (cI, 64, .inl (fun _ => 0))), (q15, .inl (cI, 64, .inl (fun _ => 0))), (q23, .inl (cI, 16, .inl (fun _ => 0)))] H := hP
  replace hD : va_D A [(p, .inr (1, [.ref q7, .ref q15, .ref q23, .null, .null, .null, .null, .null, .int 0, .int 0, .int 0])), (q7, .inl (cI, 64, .inl (fun _ => 0))), (q15, .inl (cI, 64, .inl (fun _ => 0))), (q23, .inl (cI, 16, .inl (fun _ => 0)))] := hD
  refine lv_aload_n hx hb d_Pl_init_28 rfl (lv_at hl 0 rfl) ?_
  refine lv_bipush (v := 16) hx hb d_Pl_init_29 (by decide) ?_
  have hq1 : 3 + 1 ≤ 8 := by decide
  have hq2 : 144 + 16 ≤ 416 := by decide
  refine va_newa (atype := .int) (a0 := (16, .inl (fun _ => 0))) (N' := 16) hx hb (hw _ kw_2e6385fb) rfl hK hP hD hS hA (fun _ => rfl) (by decide) (by decide) (by decide) hq1 hq2 d_Pl_init_31 (fun q31 cA H hKn hP hD hS => ?_)
  obtain rfl : cI = cA := sw_uni hKn
  replace hP : va_P D sw_cl [(p, .inr (1, [.ref q7, .ref q15, .ref q23, .null, .null, .null, .null, .null, .int 0, .int 0, .int 0])), (q7, .inl (cI, 64, .inl (fun _ => 0))), (q15, .inl (cI, 64, .inl (fun _ => 0))), (q23, .inl (cI, 16, .inl (fun _ => 0))), (q31, .inl (cI, 16, .inl (fun _ => 0)))] H := hP
  replace hD : va_D A [(p, .inr (1, [.ref q7, .ref q15, .ref q23, .null, .null, .null, .null, .null, .int 0, .int 0, .int 0])), (q7, .inl (cI, 64, .inl (fun _ => 0))), (q15, .inl (cI, 64, .inl (fun _ => 0))), (q23, .inl (cI, 16, .inl (fun _ => 0))), (q31, .inl (cI, 16, .inl (fun _ => 0)))] := hD
  refine W.widen (k := 4) (n := 160) (by decide) (by decide) ?_
  refine va_putF (D := D) (ci := 1) (v := .ref q31) (ty := t_Pl 3) (C := R_Pl) (T := F_Pl) (N := 11) hx hb hw ku_Pl t_Pl t_Pl_ok n_Pl hown hK hP hD hS 0 rfl rfl 3 (by decide) (hw _ kw_65f1a660) (fun _ h9 => h9) rfl hin rfl (t_Pl_ok 3 (by decide)) rfl rfl (Nat.le_of_ble_eq_true rfl) d_Pl_init_33 (fun H locs hP hD hS => ?_)
  replace hP : va_P D sw_cl [(p, .inr (1, [.ref q7, .ref q15, .ref q23, .ref q31, .null, .null, .null, .null, .int 0, .int 0, .int 0])), (q7, .inl (cI, 64, .inl (fun _ => 0))), (q15, .inl (cI, 64, .inl (fun _ => 0))), (q23, .inl (cI, 16, .inl (fun _ => 0))), (q31, .inl (cI, 16, .inl (fun _ => 0)))] H := hP
  replace hD : va_D A [(p, .inr (1, [.ref q7, .ref q15, .ref q23, .ref q31, .null, .null, .null, .null, .int 0, .int 0, .int 0])), (q7, .inl (cI, 64, .inl (fun _ => 0))), (q15, .inl (cI, 64, .inl (fun _ => 0))), (q23, .inl (cI, 16, .inl (fun _ => 0))), (q31, .inl (cI, 16, .inl (fun _ => 0)))] := hD
  refine lv_aload_n hx hb d_Pl_init_36 rfl (lv_at hl 0 rfl) ?_
  refine lv_bipush (v := 64) hx hb d_Pl_init_37 (by decide) ?_
  have hq1 : 4 + 1 ≤ 8 := by decide
  have hq2 : 160 + 64 ≤ 416 := by decide
  refine va_newa (atype := .int) (a0 := (64, .inl (fun _ => 0))) (N' := 64) hx hb (hw _ kw_2e6385fb) rfl hK hP hD hS hA (fun _ => rfl) (by decide) (by decide) (by decide) hq1 hq2 d_Pl_init_39 (fun q39 cA H hKn hP hD hS => ?_)
  obtain rfl : cI = cA := sw_uni hKn
  replace hP : va_P D sw_cl [(p, .inr (1, [.ref q7, .ref q15, .ref q23, .ref q31, .null, .null, .null, .null, .int 0, .int 0, .int 0])), (q7, .inl (cI, 64, .inl (fun _ => 0))), (q15, .inl (cI, 64, .inl (fun _ => 0))), (q23, .inl (cI, 16, .inl (fun _ => 0))), (q31, .inl (cI, 16, .inl (fun _ => 0))), (q39, .inl (cI, 64, .inl (fun _ => 0)))] H := hP
  replace hD : va_D A [(p, .inr (1, [.ref q7, .ref q15, .ref q23, .ref q31, .null, .null, .null, .null, .int 0, .int 0, .int 0])), (q7, .inl (cI, 64, .inl (fun _ => 0))), (q15, .inl (cI, 64, .inl (fun _ => 0))), (q23, .inl (cI, 16, .inl (fun _ => 0))), (q31, .inl (cI, 16, .inl (fun _ => 0))), (q39, .inl (cI, 64, .inl (fun _ => 0)))] := hD
  refine W.widen (k := 5) (n := 224) (by decide) (by decide) ?_
  refine va_putF (D := D) (ci := 1) (v := .ref q39) (ty := t_Pl 4) (C := R_Pl) (T := F_Pl) (N := 11) hx hb hw ku_Pl t_Pl t_Pl_ok n_Pl hown hK hP hD hS 0 rfl rfl 4 (by decide) (hw _ kw_8b810f0c) (fun _ h9 => h9) rfl hin rfl (t_Pl_ok 4 (by decide)) rfl rfl (Nat.le_of_ble_eq_true rfl) d_Pl_init_41 (fun H locs hP hD hS => ?_)
  replace hP : va_P D sw_cl [(p, .inr (1, [.ref q7, .ref q15, .ref q23, .ref q31, .ref q39, .null, .null, .null, .int 0, .int 0, .int 0])), (q7, .inl (cI, 64, .inl (fun _ => 0))), (q15, .inl (cI, 64, .inl (fun _ => 0))), (q23, .inl (cI, 16, .inl (fun _ => 0))), (q31, .inl (cI, 16, .inl (fun _ => 0))), (q39, .inl (cI, 64, .inl (fun _ => 0)))] H := hP
  replace hD : va_D A [(p, .inr (1, [.ref q7, .ref q15, .ref q23, .ref q31, .ref q39, .null, .null, .null, .int 0, .int 0, .int 0])), (q7, .inl (cI, 64, .inl (fun _ => 0))), (q15, .inl (cI, 64, .inl (fun _ => 0))), (q23, .inl (cI, 16, .inl (fun _ => 0))), (q31, .inl (cI, 16, .inl (fun _ => 0))), (q39, .inl (cI, 64, .inl (fun _ => 0)))] := hD
  refine lv_aload_n hx hb d_Pl_init_44 rfl (lv_at hl 0 rfl) ?_
  refine lv_bipush (v := 64) hx hb d_Pl_init_45 (by decide) ?_
  have hq1 : 5 + 1 ≤ 8 := by decide
  have hq2 : 224 + 64 ≤ 416 := by decide
  refine va_newa (atype := .int) (a0 := (64, .inl (fun _ => 0))) (N' := 64) hx hb (hw _ kw_2e6385fb) rfl hK hP hD hS hA (fun _ => rfl) (by decide) (by decide) (by decide) hq1 hq2 d_Pl_init_47 (fun q47 cA H hKn hP hD hS => ?_)
  obtain rfl : cI = cA := sw_uni hKn
  replace hP : va_P D sw_cl [(p, .inr (1, [.ref q7, .ref q15, .ref q23, .ref q31, .ref q39, .null, .null, .null, .int 0, .int 0, .int 0])), (q7, .inl (cI, 64, .inl (fun _ => 0))), (q15, .inl (cI, 64, .inl (fun _ => 0))), (q23, .inl (cI, 16, .inl (fun _ => 0))), (q31, .inl (cI, 16, .inl (fun _ => 0))), (q39, .inl (cI, 64, .inl (fun _ => 0))), (q47, .inl (cI, 64, .inl (fun _ => 0)))] H := hP
  replace hD : va_D A [(p, .inr (1, [.ref q7, .ref q15, .ref q23, .ref q31, .ref q39, .null, .null, .null, .int 0, .int 0, .int 0])), (q7, .inl (cI, 64, .inl (fun _ => 0))), (q15, .inl (cI, 64, .inl (fun _ => 0))), (q23, .inl (cI, 16, .inl (fun _ => 0))), (q31, .inl (cI, 16, .inl (fun _ => 0))), (q39, .inl (cI, 64, .inl (fun _ => 0))), (q47, .inl (cI, 64, .inl (fun _ => 0)))] := hD
  refine W.widen (k := 6) (n := 288) (by decide) (by decide) ?_
  refine va_putF (D := D) (ci := 1) (v := .ref q47) (ty := t_Pl 5) (C := R_Pl) (T := F_Pl) (N := 11) hx hb hw ku_Pl t_Pl t_Pl_ok n_Pl hown hK hP hD hS 0 rfl rfl 5 (by decide) (hw _ kw_1e4d1ebb) (fun _ h9 => h9) rfl hin rfl (t_Pl_ok 5 (by decide)) rfl rfl (Nat.le_of_ble_eq_true rfl) d_Pl_init_49 (fun H locs hP hD hS => ?_)
  replace hP : va_P D sw_cl [(p, .inr (1, [.ref q7, .ref q15, .ref q23, .ref q31, .ref q39, .ref q47, .null, .null, .int 0, .int 0, .int 0])), (q7, .inl (cI, 64, .inl (fun _ => 0))), (q15, .inl (cI, 64, .inl (fun _ => 0))), (q23, .inl (cI, 16, .inl (fun _ => 0))), (q31, .inl (cI, 16, .inl (fun _ => 0))), (q39, .inl (cI, 64, .inl (fun _ => 0))), (q47, .inl (cI, 64, .inl (fun _ => 0)))] H := hP
  replace hD : va_D A [(p, .inr (1, [.ref q7, .ref q15, .ref q23, .ref q31, .ref q39, .ref q47, .null, .null, .int 0, .int 0, .int 0])), (q7, .inl (cI, 64, .inl (fun _ => 0))), (q15, .inl (cI, 64, .inl (fun _ => 0))), (q23, .inl (cI, 16, .inl (fun _ => 0))), (q31, .inl (cI, 16, .inl (fun _ => 0))), (q39, .inl (cI, 64, .inl (fun _ => 0))), (q47, .inl (cI, 64, .inl (fun _ => 0)))] := hD
  refine lv_aload_n hx hb d_Pl_init_52 rfl (lv_at hl 0 rfl) ?_
  refine lv_bipush (v := 64) hx hb d_Pl_init_53 (by decide) ?_
  have hq1 : 6 + 1 ≤ 8 := by decide
  have hq2 : 288 + 64 ≤ 416 := by decide
  refine va_newa (atype := .int) (a0 := (64, .inl (fun _ => 0))) (N' := 64) hx hb (hw _ kw_2e6385fb) rfl hK hP hD hS hA (fun _ => rfl) (by decide) (by decide) (by decide) hq1 hq2 d_Pl_init_55 (fun q55 cA H hKn hP hD hS => ?_)
  obtain rfl : cI = cA := sw_uni hKn
  replace hP : va_P D sw_cl [(p, .inr (1, [.ref q7, .ref q15, .ref q23, .ref q31, .ref q39, .ref q47, .null, .null, .int 0, .int 0, .int 0])), (q7, .inl (cI, 64, .inl (fun _ => 0))), (q15, .inl (cI, 64, .inl (fun _ => 0))), (q23, .inl (cI, 16, .inl (fun _ => 0))), (q31, .inl (cI, 16, .inl (fun _ => 0))), (q39, .inl (cI, 64, .inl (fun _ => 0))), (q47, .inl (cI, 64, .inl (fun _ => 0))), (q55, .inl (cI, 64, .inl (fun _ => 0)))] H := hP
  replace hD : va_D A [(p, .inr (1, [.ref q7, .ref q15, .ref q23, .ref q31, .ref q39, .ref q47, .null, .null, .int 0, .int 0, .int 0])), (q7, .inl (cI, 64, .inl (fun _ => 0))), (q15, .inl (cI, 64, .inl (fun _ => 0))), (q23, .inl (cI, 16, .inl (fun _ => 0))), (q31, .inl (cI, 16, .inl (fun _ => 0))), (q39, .inl (cI, 64, .inl (fun _ => 0))), (q47, .inl (cI, 64, .inl (fun _ => 0))), (q55, .inl (cI, 64, .inl (fun _ => 0)))] := hD
  refine W.widen (k := 7) (n := 352) (by decide) (by decide) ?_
  refine va_putF (D := D) (ci := 1) (v := .ref q55) (ty := t_Pl 6) (C := R_Pl) (T := F_Pl) (N := 11) hx hb hw ku_Pl t_Pl t_Pl_ok n_Pl hown hK hP hD hS 0 rfl rfl 6 (by decide) (hw _ kw_3f39eaf5) (fun _ h9 => h9) rfl hin rfl (t_Pl_ok 6 (by decide)) rfl rfl (Nat.le_of_ble_eq_true rfl) d_Pl_init_57 (fun H locs hP hD hS => ?_)
  replace hP : va_P D sw_cl [(p, .inr (1, [.ref q7, .ref q15, .ref q23, .ref q31, .ref q39, .ref q47, .ref q55, .null, .int 0, .int 0, .int 0])), (q7, .inl (cI, 64, .inl (fun _ => 0))), (q15, .inl (cI, 64, .inl (fun _ => 0))), (q23, .inl (cI, 16, .inl (fun _ => 0))), (q31, .inl (cI, 16, .inl (fun _ => 0))), (q39, .inl (cI, 64, .inl (fun _ => 0))), (q47, .inl (cI, 64, .inl (fun _ => 0))), (q55, .inl (cI, 64, .inl (fun _ => 0)))] H := hP
  replace hD : va_D A [(p, .inr (1, [.ref q7, .ref q15, .ref q23, .ref q31, .ref q39, .ref q47, .ref q55, .null, .int 0, .int 0, .int 0])), (q7, .inl (cI, 64, .inl (fun _ => 0))), (q15, .inl (cI, 64, .inl (fun _ => 0))), (q23, .inl (cI, 16, .inl (fun _ => 0))), (q31, .inl (cI, 16, .inl (fun _ => 0))), (q39, .inl (cI, 64, .inl (fun _ => 0))), (q47, .inl (cI, 64, .inl (fun _ => 0))), (q55, .inl (cI, 64, .inl (fun _ => 0)))] := hD
  refine lv_aload_n hx hb d_Pl_init_60 rfl (lv_at hl 0 rfl) ?_
  refine lv_bipush (v := 64) hx hb d_Pl_init_61 (by decide) ?_
  have hq1 : 7 + 1 ≤ 8 := by decide
  have hq2 : 352 + 64 ≤ 416 := by decide
  refine va_newa (atype := .int) (a0 := (64, .inl (fun _ => 0))) (N' := 64) hx hb (hw _ kw_2e6385fb) rfl hK hP hD hS hA (fun _ => rfl) (by decide) (by decide) (by decide) hq1 hq2 d_Pl_init_63 (fun q63 cA H hKn hP hD hS => ?_)
  obtain rfl : cI = cA := sw_uni hKn
  replace hP : va_P D sw_cl [(p, .inr (1, [.ref q7, .ref q15, .ref q23, .ref q31, .ref q39, .ref q47, .ref q55, .null, .int 0, .int 0, .int 0])), (q7, .inl (cI, 64, .inl (fun _ => 0))), (q15, .inl (cI, 64, .inl (fun _ => 0))), (q23, .inl (cI, 16, .inl (fun _ => 0))), (q31, .inl (cI, 16, .inl (fun _ => 0))), (q39, .inl (cI, 64, .inl (fun _ => 0))), (q47, .inl (cI, 64, .inl (fun _ => 0))), (q55, .inl (cI, 64, .inl (fun _ => 0))), (q63, .inl (cI, 64, .inl (fun _ => 0)))] H := hP
  replace hD : va_D A [(p, .inr (1, [.ref q7, .ref q15, .ref q23, .ref q31, .ref q39, .ref q47, .ref q55, .null, .int 0, .int 0, .int 0])), (q7, .inl (cI, 64, .inl (fun _ => 0))), (q15, .inl (cI, 64, .inl (fun _ => 0))), (q23, .inl (cI, 16, .inl (fun _ => 0))), (q31, .inl (cI, 16, .inl (fun _ => 0))), (q39, .inl (cI, 64, .inl (fun _ => 0))), (q47, .inl (cI, 64, .inl (fun _ => 0))), (q55, .inl (cI, 64, .inl (fun _ => 0))), (q63, .inl (cI, 64, .inl (fun _ => 0)))] := hD
  refine W.widen (k := 8) (n := 416) (by decide) (by decide) ?_
  refine va_putF (D := D) (ci := 1) (v := .ref q63) (ty := t_Pl 7) (C := R_Pl) (T := F_Pl) (N := 11) hx hb hw ku_Pl t_Pl t_Pl_ok n_Pl hown hK hP hD hS 0 rfl rfl 7 (by decide) (hw _ kw_fa356e2a) (fun _ h9 => h9) rfl hin rfl (t_Pl_ok 7 (by decide)) rfl rfl (Nat.le_of_ble_eq_true rfl) d_Pl_init_65 (fun H locs hP hD hS => ?_)
  replace hP : va_P D sw_cl [(p, .inr (1, [.ref q7, .ref q15, .ref q23, .ref q31, .ref q39, .ref q47, .ref q55, .ref q63, .int 0, .int 0, .int 0])), (q7, .inl (cI, 64, .inl (fun _ => 0))), (q15, .inl (cI, 64, .inl (fun _ => 0))), (q23, .inl (cI, 16, .inl (fun _ => 0))), (q31, .inl (cI, 16, .inl (fun _ => 0))), (q39, .inl (cI, 64, .inl (fun _ => 0))), (q47, .inl (cI, 64, .inl (fun _ => 0))), (q55, .inl (cI, 64, .inl (fun _ => 0))), (q63, .inl (cI, 64, .inl (fun _ => 0)))] H := hP
  replace hD : va_D A [(p, .inr (1, [.ref q7, .ref q15, .ref q23, .ref q31, .ref q39, .ref q47, .ref q55, .ref q63, .int 0, .int 0, .int 0])), (q7, .inl (cI, 64, .inl (fun _ => 0))), (q15, .inl (cI, 64, .inl (fun _ => 0))), (q23, .inl (cI, 16, .inl (fun _ => 0))), (q31, .inl (cI, 16, .inl (fun _ => 0))), (q39, .inl (cI, 64, .inl (fun _ => 0))), (q47, .inl (cI, 64, .inl (fun _ => 0))), (q55, .inl (cI, 64, .inl (fun _ => 0))), (q63, .inl (cI, 64, .inl (fun _ => 0)))] := hD
  have hP9 := hP.sub (ws' := [(p, .inr (1, [.ref q7, .ref q15, .ref q23, .ref q31, .ref q39, .ref q47, .ref q55, .ref q63, .int 0, .int 0, .int 0])), (q7, .inl (cI, 64, .inl (fun _ => 0))), (q15, .inl (cI, 64, .inl (fun _ => 0))), (q23, .inl (cI, 16, .inl (fun _ => 0))), (q31, .inl (cI, 16, .inl (fun _ => 0))), (q39, .inl (cI, 64, .inl (fun _ => 0))), (q47, .inl (cI, 64, .inl (fun _ => 0))), (q55, .inl (cI, 64, .inl (fun _ => 0))), (q63, .inl (cI, 64, .inl (fun _ => 0)))]) [0, 1, 2, 3, 4, 5, 6, 7, 8] rfl
  have hD9 := hD.sub (ws' := [(p, .inr (1, [.ref q7, .ref q15, .ref q23, .ref q31, .ref q39, .ref q47, .ref q55, .ref q63, .int 0, .int 0, .int 0])), (q7, .inl (cI, 64, .inl (fun _ => 0))), (q15, .inl (cI, 64, .inl (fun _ => 0))), (q23, .inl (cI, 16, .inl (fun _ => 0))), (q31, .inl (cI, 16, .inl (fun _ => 0))), (q39, .inl (cI, 64, .inl (fun _ => 0))), (q47, .inl (cI, 64, .inl (fun _ => 0))), (q55, .inl (cI, 64, .inl (fun _ => 0))), (q63, .inl (cI, 64, .inl (fun _ => 0)))]) [0, 1, 2, 3, 4, 5, 6, 7, 8] (by decide) rfl
  exact W.vret hx hb hr (fun T9 hT9 hW9 => ⟨⟨(q7, q15, q23, q31, q39, q47, q55, q63), rfl, by first | trivial | (simp []), by rw [hT9]; exact hP9, hD9⟩, hS.F hT9⟩) hS.2.2 d_Pl_init_68
