abbrev rm_St_init : Room := { frames := 1, cells := 0, slots := 0, locals := 12 }
abbrev q_St_init (D : va_G) (cI cL : ClassId) (A : Nat → Prop) (o : Nat) (ox : Int32) (oy : Int32) (oa : Int32) (os : Int32) : Array Value → State → Outcome → State → Prop := va_Qv (S := Unit) (fun (_ : Unit) => True) (sw_R D A (fun (_ : Unit) => [(o, .inr (3, [.int ox, .int oy, .int oa, .int os]))])) A
set_option maxHeartbeats 200000 in
set_option maxRecDepth 100000 in
theorem c_St_init (l : Launch) (D : va_G) (cI cL : ClassId) (tq sz : Nat) (o : Nat) (ox : Int32) (oy : Int32) (oa : Int32) (os : Int32) : Met l y_St_init w_St_init rm_St_init (va_Pc [.ref o] (sw_B D cI cL tq sz [(o, .inr (3, [.int ox, .int oy, .int oa, .int os]))])) (q_St_init D cI cL (va_A [(o, .inr (3, [.int ox, .int oy, .int oa, .int os]))] sz) o ox oy oa os) 0 0 (va_A [(o, .inr (3, [.int ox, .int oy, .int oa, .int os]))] sz) := by
  refine Met.ofW (cc := b_St_init) (maxL := 1) (ret := none) (by decide) rfl ?_
  intro mp me s mm args below meth mk s₁ B hml hv
  obtain ⟨rfl, hsz, hP, hK, hD0, hG⟩ := hv
  have hx := B.exec
  have hb := B.bytes
  have hr := B.returns
  have hts := atoms_spec (ws := w_St_init) B.pre
  have hw : ∀ w ∈ sw_words, w.before _ s = true := fun w h => hts w (List.mem_cons_of_mem _ h)
  have hown : s.vm.findClass R_St = some mm.cls := findClass_of_methodNamed B.named
  have hlocks := B.notSynchronized
  have hin : meth.name = "<init>" := (name_of_methodNamed B.named B.method).1
  subst hsz
  have hD := hD0.self (sz := s.heap.size)
  generalize hAe : va_A [(o, .inr (3, [.int ox, .int oy, .int oa, .int os]))] s.heap.size = A at hD hG ⊢
  have hA : ∀ q : Nat, s.heap.size ≤ q → A q := fun q h => by rw [← hAe]; exact Or.inr h
  have hS : va_S A s.heap s.heap [] := va_S.rf
  have hl := lv_entry ([.ref o]) (n := 1) (Nat.le_of_ble_eq_true rfl)
  rw [lg_entry_eq]
  generalize (lg_sl ([.ref o]) ++ List.replicate (1 - (lg_sl ([.ref o])).length) Slot.unset).toArray = ls at hl ⊢
  have hl : lv_has ls 1 [(0, .ref o)] := hl
  refine lv_aload_n hx hb d_St_init_0 rfl (lv_at hl 0 rfl) ?_
  refine W.objInit hx hb hown (hw _ kw_2f7f9c44) (hw _ kw_004f8c6f) (hw _ kc_objectInit) rfl (by rw [hml]; exact hl.1) rfl d_St_init_1 (Nat.le_of_ble_eq_true rfl) (Nat.le_of_ble_eq_true rfl) ?_
  refine W.eq (g2 := F0 mm 4 ls []) rfl ?_
  have hP9 := hP.sub (ws' := [(o, .inr (3, [.int ox, .int oy, .int oa, .int os]))]) [0] rfl
  have hD9 := hD.sub (ws' := [(o, .inr (3, [.int ox, .int oy, .int oa, .int os]))]) [0] (by decide) rfl
  exact W.vret hx hb hr (fun T9 hT9 hW9 => ⟨⟨(), rfl, by first | trivial | (simp []), by rw [hT9]; exact hP9, hD9⟩, hS.F hT9⟩) hS.2.2 d_St_init_4

abbrev rm_Ta_init : Room := { frames := 1, cells := 3, slots := 768, locals := 12 }
abbrev q_Ta_init (D : va_G) (cI cL : ClassId) (A : Nat → Prop) (t : Nat) : Array Value → State → Outcome → State → Prop := va_Qv (S := Nat × Nat × Nat) (fun (u : Nat × Nat × Nat) => match u with | (t1, t2, t3) => True) (sw_R D A (fun (u : Nat × Nat × Nat) => match u with | (t1, t2, t3) => [(t, .inr (2, [.ref t1, .ref t2, .ref t3, .int 0])), (t1, .inl (cI, 256, .inl (fun _ => 0))), (t2, .inl (cI, 256, .inl (fun _ => 0))), (t3, .inl (cI, 256, .inl (fun _ => 0)))])) A
set_option maxHeartbeats 200000 in
set_option maxRecDepth 100000 in
theorem c_Ta_init (l : Launch) (D : va_G) (cI cL : ClassId) (tq sz : Nat) (t : Nat) : Met l y_Ta_init w_Ta_init rm_Ta_init (va_Pc [.ref t] (sw_B D cI cL tq sz [(t, .inr (2, [.null, .null, .null, .int 0]))])) (q_Ta_init D cI cL (va_A [(t, .inr (2, [.null, .null, .null, .int 0]))] sz) t) 3 768 (va_A [(t, .inr (2, [.null, .null, .null, .int 0]))] sz) := by
  refine Met.ofW (cc := b_Ta_init) (maxL := 1) (ret := none) (by decide) rfl ?_
  intro mp me s mm args below meth mk s₁ B hml hv
  obtain ⟨rfl, hsz, hP, hK, hD0, hG⟩ := hv
  have hx := B.exec
  have hb := B.bytes
  have hr := B.returns
  have hts := atoms_spec (ws := w_Ta_init) B.pre
  have hw : ∀ w ∈ sw_words, w.before _ s = true := fun w h => hts w (List.mem_cons_of_mem _ h)
  have hown : s.vm.findClass R_Ta = some mm.cls := findClass_of_methodNamed B.named
  have hlocks := B.notSynchronized
  have hin : meth.name = "<init>" := (name_of_methodNamed B.named B.method).1
  subst hsz
  have hD := hD0.self (sz := s.heap.size)
  generalize hAe : va_A [(t, .inr (2, [.null, .null, .null, .int 0]))] s.heap.size = A at hD hG ⊢
  have hA : ∀ q : Nat, s.heap.size ≤ q → A q := fun q h => by rw [← hAe]; exact Or.inr h
  have hS : va_S A s.heap s.heap [] := va_S.rf
  have hl := lv_entry ([.ref t]) (n := 1) (Nat.le_of_ble_eq_true rfl)
  rw [lg_entry_eq]
  generalize (lg_sl ([.ref t]) ++ List.replicate (1 - (lg_sl ([.ref t])).length) Slot.unset).toArray = ls at hl ⊢
  have hl : lv_has ls 1 [(0, .ref t)] := hl
  refine lv_aload_n hx hb d_Ta_init_0 rfl (lv_at hl 0 rfl) ?_
  refine W.objInit hx hb hown (hw _ kw_ba545fc0) (hw _ kw_004f8c6f) (hw _ kc_objectInit) rfl (by rw [hml]; exact hl.1) rfl d_Ta_init_1 (Nat.le_of_ble_eq_true rfl) (Nat.le_of_ble_eq_true rfl) ?_
  refine W.eq (g2 := F0 mm 4 ls []) rfl ?_
  refine lv_aload_n hx hb d_Ta_init_4 rfl (lv_at hl 0 rfl) ?_
  refine lv_sipush (v := 256) hx hb d_Ta_init_5 (by decide) ?_
  have hq1 : 0 + 1 ≤ 3 := by decide
  have hq2 : 0 + 256 ≤ 768 := by decide
  refine va_newa (atype := .int) (a0 := (256, .inl (fun _ => 0))) (N' := 256) hx hb (hw _ kw_2e6385fb) rfl hK hP hD hS hA (fun _ => rfl) (by decide) (by decide) (by decide) hq1 hq2 d_Ta_init_8 (fun q8 cA H hKn hP hD hS => ?_)
  obtain rfl : cI = cA := sw_uni hKn
  replace hP : va_P D sw_cl [(t, .inr (2, [.null, .null, .null, .int 0])), (q8, .inl (cI, 256, .inl (fun _ => 0)))] H := hP
  replace hD : va_D A [(t, .inr (2, [.null, .null, .null, .int 0])), (q8, .inl (cI, 256, .inl (fun _ => 0)))] := hD
  refine W.widen (k := 1) (n := 256) (by decide) (by decide) ?_
  refine va_putF (D := D) (ci := 2) (v := .ref q8) (ty := t_Ta 0) (C := R_Ta) (T := F_Ta) (N := 4) hx hb hw ku_Ta t_Ta t_Ta_ok n_Ta hown hK hP hD hS 0 rfl rfl 0 (by decide) (hw _ kw_a5894e3b) (fun _ h9 => h9) rfl hin rfl (t_Ta_ok 0 (by decide)) rfl rfl (Nat.le_of_ble_eq_true rfl) d_Ta_init_10 (fun H locs hP hD hS => ?_)
  replace hP : va_P D sw_cl [(t, .inr (2, [.ref q8, .null, .null, .int 0])), (q8, .inl (cI, 256, .inl (fun _ => 0)))] H := hP
  replace hD : va_D A [(t, .inr (2, [.ref q8, .null, .null, .int 0])), (q8, .inl (cI, 256, .inl (fun _ => 0)))] := hD
  refine lv_aload_n hx hb d_Ta_init_13 rfl (lv_at hl 0 rfl) ?_
  refine lv_sipush (v := 256) hx hb d_Ta_init_14 (by decide) ?_
  have hq1 : 1 + 1 ≤ 3 := by decide
  have hq2 : 256 + 256 ≤ 768 := by decide
  refine va_newa (atype := .int) (a0 := (256, .inl (fun _ => 0))) (N' := 256) hx hb (hw _ kw_2e6385fb) rfl hK hP hD hS hA (fun _ => rfl) (by decide) (by decide) (by decide) hq1 hq2 d_Ta_init_17 (fun q17 cA H hKn hP hD hS => ?_)
  obtain rfl : cI = cA := sw_uni hKn
  replace hP : va_P D sw_cl [(t, .inr (2, [.ref q8, .null, .null, .int 0])), (q8, .inl (cI, 256, .inl (fun _ => 0))), (q17, .inl (cI, 256, .inl (fun _ => 0)))] H := hP
  replace hD : va_D A [(t, .inr (2, [.ref q8, .null, .null, .int 0])), (q8, .inl (cI, 256, .inl (fun _ => 0))), (q17, .inl (cI, 256, .inl (fun _ => 0)))] := hD
  refine W.widen (k := 2) (n := 512) (by decide) (by decide) ?_
  refine va_putF (D := D) (ci := 2) (v := .ref q17) (ty := t_Ta 1) (C := R_Ta) (T := F_Ta) (N := 4) hx hb hw ku_Ta t_Ta t_Ta_ok n_Ta hown hK hP hD hS 0 rfl rfl 1 (by decide) (hw _ kw_0dba980b) (fun _ h9 => h9) rfl hin rfl (t_Ta_ok 1 (by decide)) rfl rfl (Nat.le_of_ble_eq_true rfl) d_Ta_init_19 (fun H locs hP hD hS => ?_)
  replace hP : va_P D sw_cl [(t, .inr (2, [.ref q8, .ref q17, .null, .int 0])), (q8, .inl (cI, 256, .inl (fun _ => 0))), (q17, .inl (cI, 256, .inl (fun _ => 0)))] H := hP
  replace hD : va_D A [(t, .inr (2, [.ref q8, .ref q17, .null, .int 0])), (q8, .inl (cI, 256, .inl (fun _ => 0))), (q17, .inl (cI, 256, .inl (fun _ => 0)))] := hD
  refine lv_aload_n hx hb d_Ta_init_22 rfl (lv_at hl 0 rfl) ?_
  refine lv_sipush (v := 256) hx hb d_Ta_init_23 (by decide) ?_
  have hq1 : 2 + 1 ≤ 3 := by decide
  have hq2 : 512 + 256 ≤ 768 := by decide
  refine va_newa (atype := .int) (a0 := (256, .inl (fun _ => 0))) (N' := 256) hx hb (hw _ kw_2e6385fb) rfl hK hP hD hS hA (fun _ => rfl) (by decide) (by decide) (by decide) hq1 hq2 d_Ta_init_26 (fun q26 cA H hKn hP hD hS => ?_)
  obtain rfl : cI = cA := sw_uni hKn
  replace hP : va_P D sw_cl [(t, .inr (2, [.ref q8, .ref q17, .null, .int 0])), (q8, .inl (cI, 256, .inl (fun _ => 0))), (q17, .inl (cI, 256, .inl (fun _ => 0))), (q26, .inl (cI, 256, .inl (fun _ => 0)))] H := hP
  replace hD : va_D A [(t, .inr (2, [.ref q8, .ref q17, .null, .int 0])), (q8, .inl (cI, 256, .inl (fun _ => 0))), (q17, .inl (cI, 256, .inl (fun _ => 0))), (q26, .inl (cI, 256, .inl (fun _ => 0)))] := hD
  refine W.widen (k := 3) (n := 768) (by decide) (by decide) ?_
  refine va_putF (D := D) (ci := 2) (v := .ref q26) (ty := t_Ta 2) (C := R_Ta) (T := F_Ta) (N := 4) hx hb hw ku_Ta t_Ta t_Ta_ok n_Ta hown hK hP hD hS 0 rfl rfl 2 (by decide) (hw _ kw_96c33365) (fun _ h9 => h9) rfl hin rfl (t_Ta_ok 2 (by decide)) rfl rfl (Nat.le_of_ble_eq_true rfl) d_Ta_init_28 (fun H locs hP hD hS => ?_)
  replace hP : va_P D sw_cl [(t, .inr (2, [.ref q8, .ref q17, .ref q26, .int 0])), (q8, .inl (cI, 256, .inl (fun _ => 0))), (q17, .inl (cI, 256, .inl (fun _ => 0))), (q26, .inl (cI, 256, .inl (fun _ => 0)))] H := hP
  replace hD : va_D A [(t, .inr (2, [.ref q8, .ref q17, .ref q26, .int 0])), (q8, .inl (cI, 256, .inl (fun _ => 0))), (q17, .inl (cI, 256, .inl (fun _ => 0))), (q26, .inl (cI, 256, .inl (fun _ => 0)))] := hD
  have hP9 := hP.sub (ws' := [(t, .inr (2, [.ref q8, .ref q17, .ref q26, .int 0])), (q8, .inl (cI, 256, .inl (fun _ => 0))), (q17, .inl (cI, 256, .inl (fun _ => 0))), (q26, .inl (cI, 256, .inl (fun _ => 0)))]) [0, 1, 2, 3] rfl
  have hD9 := hD.sub (ws' := [(t, .inr (2, [.ref q8, .ref q17, .ref q26, .int 0])), (q8, .inl (cI, 256, .inl (fun _ => 0))), (q17, .inl (cI, 256, .inl (fun _ => 0))), (q26, .inl (cI, 256, .inl (fun _ => 0)))]) [0, 1, 2, 3] (by decide) rfl
  exact W.vret hx hb hr (fun T9 hT9 hW9 => ⟨⟨(q8, q17, q26), rfl, by first | trivial | (simp []), by rw [hT9]; exact hP9, hD9⟩, hS.F hT9⟩) hS.2.2 d_Ta_init_31

abbrev rm_Cr_init : Room := { frames := 1, cells := 3, slots := 192, locals := 12 }
abbrev q_Cr_init (D : va_G) (cI cL : ClassId) (A : Nat → Prop) (k : Nat) : Array Value → State → Outcome → State → Prop := va_Qv (S := Nat × Nat × Nat) (fun (u : Nat × Nat × Nat) => match u with | (k1, k2, k3) => True) (sw_R D A (fun (u : Nat × Nat × Nat) => match u with | (k1, k2, k3) => [(k, .inr (4, [.ref k1, .ref k2, .ref k3, .int 0, .int (-1)])), (k1, .inl (cI, 64, .inl (fun _ => 0))), (k2, .inl (cI, 64, .inl (fun _ => 0))), (k3, .inl (cI, 64, .inl (fun _ => 0)))])) A
set_option maxHeartbeats 200000 in
set_option maxRecDepth 100000 in
theorem c_Cr_init (l : Launch) (D : va_G) (cI cL : ClassId) (tq sz : Nat) (k : Nat) : Met l y_Cr_init w_Cr_init rm_Cr_init (va_Pc [.ref k] (sw_B D cI cL tq sz [(k, .inr (4, [.null, .null, .null, .int 0, .int 0]))])) (q_Cr_init D cI cL (va_A [(k, .inr (4, [.null, .null, .null, .int 0, .int 0]))] sz) k) 3 192 (va_A [(k, .inr (4, [.null, .null, .null, .int 0, .int 0]))] sz) := by
  refine Met.ofW (cc := b_Cr_init) (maxL := 1) (ret := none) (by decide) rfl ?_
  intro mp me s mm args below meth mk s₁ B hml hv
  obtain ⟨rfl, hsz, hP, hK, hD0, hG⟩ := hv
  have hx := B.exec
  have hb := B.bytes
  have hr := B.returns
  have hts := atoms_spec (ws := w_Cr_init) B.pre
  have hw : ∀ w ∈ sw_words, w.before _ s = true := fun w h => hts w (List.mem_cons_of_mem _ h)
  have hown : s.vm.findClass R_Cr = some mm.cls := findClass_of_methodNamed B.named
  have hlocks := B.notSynchronized
  have hin : meth.name = "<init>" := (name_of_methodNamed B.named B.method).1
  subst hsz
  have hD := hD0.self (sz := s.heap.size)
  generalize hAe : va_A [(k, .inr (4, [.null, .null, .null, .int 0, .int 0]))] s.heap.size = A at hD hG ⊢
  have hA : ∀ q : Nat, s.heap.size ≤ q → A q := fun q h => by rw [← hAe]; exact Or.inr h
  have hS : va_S A s.heap s.heap [] := va_S.rf
  have hl := lv_entry ([.ref k]) (n := 1) (Nat.le_of_ble_eq_true rfl)
  rw [lg_entry_eq]
  generalize (lg_sl ([.ref k]) ++ List.replicate (1 - (lg_sl ([.ref k])).length) Slot.unset).toArray = ls at hl ⊢
  have hl : lv_has ls 1 [(0, .ref k)] := hl
  refine lv_aload_n hx hb d_Cr_init_0 rfl (lv_at hl 0 rfl) ?_
  refine W.objInit hx hb hown (hw _ kw_7fe4d622) (hw _ kw_004f8c6f) (hw _ kc_objectInit) rfl (by rw [hml]; exact hl.1) rfl d_Cr_init_1 (Nat.le_of_ble_eq_true rfl) (Nat.le_of_ble_eq_true rfl) ?_
  refine W.eq (g2 := F0 mm 4 ls []) rfl ?_
  refine lv_aload_n hx hb d_Cr_init_4 rfl (lv_at hl 0 rfl) ?_
  refine lv_bipush (v := 64) hx hb d_Cr_init_5 (by decide) ?_
  have hq1 : 0 + 1 ≤ 3 := by decide
  have hq2 : 0 + 64 ≤ 192 := by decide
  refine va_newa (atype := .int) (a0 := (64, .inl (fun _ => 0))) (N' := 64) hx hb (hw _ kw_2e6385fb) rfl hK hP hD hS hA (fun _ => rfl) (by decide) (by decide) (by decide) hq1 hq2 d_Cr_init_7 (fun q7 cA H hKn hP hD hS => ?_)
  obtain rfl : cI = cA := sw_uni hKn
  replace hP : va_P D sw_cl [(k, .inr (4, [.null, .null, .null, .int 0, .int 0])), (q7, .inl (cI, 64, .inl (fun _ => 0)))] H := hP
  replace hD : va_D A [(k, .inr (4, [.null, .null, .null, .int 0, .int 0])), (q7, .inl (cI, 64, .inl (fun _ => 0)))] := hD
  refine W.widen (k := 1) (n := 64) (by decide) (by decide) ?_
  refine va_putF (D := D) (ci := 4) (v := .ref q7) (ty := t_Cr 0) (C := R_Cr) (T := F_Cr) (N := 5) hx hb hw ku_Cr t_Cr t_Cr_ok n_Cr hown hK hP hD hS 0 rfl rfl 0 (by decide) (hw _ kw_053bb905) (fun _ h9 => h9) rfl hin rfl (t_Cr_ok 0 (by decide)) rfl rfl (Nat.le_of_ble_eq_true rfl) d_Cr_init_9 (fun H locs hP hD hS => ?_)
  replace hP : va_P D sw_cl [(k, .inr (4, [.ref q7, .null, .null, .int 0, .int 0])), (q7, .inl (cI, 64, .inl (fun _ => 0)))] H := hP
  replace hD : va_D A [(k, .inr (4, [.ref q7, .null, .null, .int 0, .int 0])), (q7, .inl (cI, 64, .inl (fun _ => 0)))] := hD
  refine lv_aload_n hx hb d_Cr_init_12 rfl (lv_at hl 0 rfl) ?_
  refine lv_bipush (v := 64) hx hb d_Cr_init_13 (by decide) ?_
  have hq1 : 1 + 1 ≤ 3 := by decide
  have hq2 : 64 + 64 ≤ 192 := by decide
  refine va_newa (atype := .int) (a0 := (64, .inl (fun _ => 0))) (N' := 64) hx hb (hw _ kw_2e6385fb) rfl hK hP hD hS hA (fun _ => rfl) (by decide) (by decide) (by decide) hq1 hq2 d_Cr_init_15 (fun q15 cA H hKn hP hD hS => ?_)
  obtain rfl : cI = cA := sw_uni hKn
  replace hP : va_P D sw_cl [(k, .inr (4, [.ref q7, .null, .null, .int 0, .int 0])), (q7, .inl (cI, 64, .inl (fun _ => 0))), (q15, .inl (cI, 64, .inl (fun _ => 0)))] H := hP
  replace hD : va_D A [(k, .inr (4, [.ref q7, .null, .null, .int 0, .int 0])), (q7, .inl (cI, 64, .inl (fun _ => 0))), (q15, .inl (cI, 64, .inl (fun _ => 0)))] := hD
  refine W.widen (k := 2) (n := 128) (by decide) (by decide) ?_
  refine va_putF (D := D) (ci := 4) (v := .ref q15) (ty := t_Cr 1) (C := R_Cr) (T := F_Cr) (N := 5) hx hb hw ku_Cr t_Cr t_Cr_ok n_Cr hown hK hP hD hS 0 rfl rfl 1 (by decide) (hw _ kw_600bd2b2) (fun _ h9 => h9) rfl hin rfl (t_Cr_ok 1 (by decide)) rfl rfl (Nat.le_of_ble_eq_true rfl) d_Cr_init_17 (fun H locs hP hD hS => ?_)
  replace hP : va_P D sw_cl [(k, .inr (4, [.ref q7, .ref q15, .null, .int 0, .int 0])), (q7, .inl (cI, 64, .inl (fun _ => 0))), (q15, .inl (cI, 64, .inl (fun _ => 0)))] H := hP
  replace hD : va_D A [(k, .inr (4, [.ref q7, .ref q15, .null, .int 0, .int 0])), (q7, .inl (cI, 64, .inl (fun _ => 0))), (q15, .inl (cI, 64, .inl (fun _ => 0)))] := hD
  refine lv_aload_n hx hb d_Cr_init_20 rfl (lv_at hl 0 rfl) ?_
  refine lv_bipush (v := 64) hx hb d_Cr_init_21 (by decide) ?_
  have hq1 : 2 + 1 ≤ 3 := by decide
  have hq2 : 128 + 64 ≤ 192 := by decide
  refine va_newa (atype := .int) (a0 := (64, .inl (fun _ => 0))) (N' := 64) hx hb (hw _ kw_2e6385fb) rfl hK hP hD hS hA (fun _ => rfl) (by decide) (by decide) (by decide) hq1 hq2 d_Cr_init_23 (fun q23 cA H hKn hP hD hS => ?_)
  obtain rfl : cI = cA := sw_uni hKn
  replace hP : va_P D sw_cl [(k, .inr (4, [.ref q7, .ref q15, .null, .int 0, .int 0])), (q7, .inl (cI, 64, .inl (fun _ => 0))), (q15, .inl (cI, 64, .inl (fun _ => 0))), (q23, .inl (cI, 64, .inl (fun _ => 0)))] H := hP
  replace hD : va_D A [(k, .inr (4, [.ref q7, .ref q15, .null, .int 0, .int 0])), (q7, .inl (cI, 64, .inl (fun _ => 0))), (q15, .inl (cI, 64, .inl (fun _ => 0))), (q23, .inl (cI, 64, .inl (fun _ => 0)))] := hD
  refine W.widen (k := 3) (n := 192) (by decide) (by decide) ?_
  refine va_putF (D := D) (ci := 4) (v := .ref q23) (ty := t_Cr 2) (C := R_Cr) (T := F_Cr) (N := 5) hx hb hw ku_Cr t_Cr t_Cr_ok n_Cr hown hK hP hD hS 0 rfl rfl 2 (by decide) (hw _ kw_47a18be0) (fun _ h9 => h9) rfl hin rfl (t_Cr_ok 2 (by decide)) rfl rfl (Nat.le_of_ble_eq_true rfl) d_Cr_init_25 (fun H locs hP hD hS => ?_)
  replace hP : va_P D sw_cl [(k, .inr (4, [.ref q7, .ref q15, .ref q23, .int 0, .int 0])), (q7, .inl (cI, 64, .inl (fun _ => 0))), (q15, .inl (cI, 64, .inl (fun _ => 0))), (q23, .inl (cI, 64, .inl (fun _ => 0)))] H := hP
  replace hD : va_D A [(k, .inr (4, [.ref q7, .ref q15, .ref q23, .int 0, .int 0])), (q7, .inl (cI, 64, .inl (fun _ => 0))), (q15, .inl (cI, 64, .inl (fun _ => 0))), (q23, .inl (cI, 64, .inl (fun _ => 0)))] := hD
  refine lv_aload_n hx hb d_Cr_init_28 rfl (lv_at hl 0 rfl) ?_
  refine lv_iconst (v := 0) hx hb d_Cr_init_29 (by decide) ?_
  refine va_put (D := D) (ci := 4) (v := .int 0) (ty := t_Cr 3) (C := R_Cr) (T := F_Cr) (N := 5) hx hb hw ku_Cr t_Cr t_Cr_ok n_Cr hown hK hP hD hS 0 rfl rfl 3 (by decide) (hw _ kw_7f5cc8e8) (fun _ h9 => h9) rfl (t_Cr_ok 3 (by decide)) rfl rfl (Nat.le_of_ble_eq_true rfl) d_Cr_init_30 (fun H locs hP hD hS => ?_)
  replace hP : va_P D sw_cl [(k, .inr (4, [.ref q7, .ref q15, .ref q23, .int 0, .int 0])), (q7, .inl (cI, 64, .inl (fun _ => 0))), (q15, .inl (cI, 64, .inl (fun _ => 0))), (q23, .inl (cI, 64, .inl (fun _ => 0)))] H := hP
  replace hD : va_D A [(k, .inr (4, [.ref q7, .ref q15, .ref q23, .int 0, .int 0])), (q7, .inl (cI, 64, .inl (fun _ => 0))), (q15, .inl (cI, 64, .inl (fun _ => 0))), (q23, .inl (cI, 64, .inl (fun _ => 0)))] := hD
  refine lv_aload_n hx hb d_Cr_init_33 rfl (lv_at hl 0 rfl) ?_
  refine lv_iconst (v := (-1)) hx hb d_Cr_init_34 (by decide) ?_
  refine va_put (D := D) (ci := 4) (v := .int (-1)) (ty := t_Cr 4) (C := R_Cr) (T := F_Cr) (N := 5) hx hb hw ku_Cr t_Cr t_Cr_ok n_Cr hown hK hP hD hS 0 rfl rfl 4 (by decide) (hw _ kw_767774d4) (fun _ h9 => h9) rfl (t_Cr_ok 4 (by decide)) rfl rfl (Nat.le_of_ble_eq_true rfl) d_Cr_init_35 (fun H locs hP hD hS => ?_)
  replace hP : va_P D sw_cl [(k, .inr (4, [.ref q7, .ref q15, .ref q23, .int 0, .int (-1)])), (q7, .inl (cI, 64, .inl (fun _ => 0))), (q15, .inl (cI, 64, .inl (fun _ => 0))), (q23, .inl (cI, 64, .inl (fun _ => 0)))] H := hP
  replace hD : va_D A [(k, .inr (4, [.ref q7, .ref q15, .ref q23, .int 0, .int (-1)])), (q7, .inl (cI, 64, .inl (fun _ => 0))), (q15, .inl (cI, 64, .inl (fun _ => 0))), (q23, .inl (cI, 64, .inl (fun _ => 0)))] := hD
  have hP9 := hP.sub (ws' := [(k, .inr (4, [.ref q7, .ref q15, .ref q23, .int 0, .int (-1)])), (q7, .inl (cI, 64, .inl (fun _ => 0))), (q15, .inl (cI, 64, .inl (fun _ => 0))), (q23, .inl (cI, 64, .inl (fun _ => 0)))]) [0, 1, 2, 3] rfl
  have hD9 := hD.sub (ws' := [(k, .inr (4, [.ref q7, .ref q15, .ref q23, .int 0, .int (-1)])), (q7, .inl (cI, 64, .inl (fun _ => 0))), (q15, .inl (cI, 64, .inl (fun _ => 0))), (q23, .inl (cI, 64, .inl (fun _ => 0)))]) [0, 1, 2, 3] (by decide) rfl
  exact W.vret hx hb hr (fun T9 hT9 hW9 => ⟨⟨(q7, q15, q23), rfl, by first | trivial | (simp []), by rw [hT9]; exact hP9, hD9⟩, hS.F hT9⟩) hS.2.2 d_Cr_init_38
