abbrev rm_Pl_addVertex : Room := { frames := 1, cells := 0, slots := 0, locals := 23 }
abbrev q_Pl_addVertex (D : va_G) (cI cL : ClassId) (A : Nat → Prop) (p : Nat) (x : Int32) (y : Int32) (pX : Nat) (pY : Nat) (pF : Nat) (pC : Nat) (pA : Nat) (pB : Nat) (pR : Nat) (pK : Nat) (nv : Int32) (ns : Int32) (nw : Int32) (vx : Nat → Int32) (vy : Nat → Int32) : Array Value → State → Outcome → State → Prop := va_Qi (S := Int32 × (Nat → Int32) × (Nat → Int32)) (fun (r : Int32) => fun (u : Int32 × (Nat → Int32) × (Nat → Int32)) => match u with | (nv2, vx2, vy2) => r = (if sw_avb nv vx vy x y = true then nv else -1) ∧ nv2 = (if sw_avb nv vx vy x y = true then nv + 1 else nv) ∧ vx2 = (if sw_avb nv vx vy x y = true then upd vx nv.toNatClampNeg x else vx) ∧ vy2 = (if sw_avb nv vx vy x y = true then upd vy nv.toNatClampNeg y else vy)) (sw_R D A (fun (u : Int32 × (Nat → Int32) × (Nat → Int32)) => match u with | (nv2, vx2, vy2) => [(p, .inr (1, [.ref pX, .ref pY, .ref pF, .ref pC, .ref pA, .ref pB, .ref pR, .ref pK, .int nv2, .int ns, .int nw])), (pX, .inl (cI, 64, .inl vx2)), (pY, .inl (cI, 64, .inl vy2))])) A
set_option maxHeartbeats 4000000 in
set_option maxRecDepth 100000 in
theorem c_Pl_addVertex (l : Launch) (D : va_G) (cI cL : ClassId) (tq sz : Nat) (p : Nat) (x : Int32) (y : Int32) (pX : Nat) (pY : Nat) (pF : Nat) (pC : Nat) (pA : Nat) (pB : Nat) (pR : Nat) (pK : Nat) (nv : Int32) (ns : Int32) (nw : Int32) (vx : Nat → Int32) (vy : Nat → Int32) (hn : sw_ok nv 64) : Met l y_Pl_addVertex w_Pl_addVertex rm_Pl_addVertex (va_Pc [.ref p, .int x, .int y] (sw_B D cI cL tq sz [(p, .inr (1, [.ref pX, .ref pY, .ref pF, .ref pC, .ref pA, .ref pB, .ref pR, .ref pK, .int nv, .int ns, .int nw])), (pX, .inl (cI, 64, .inl vx)), (pY, .inl (cI, 64, .inl vy))])) (q_Pl_addVertex D cI cL (va_A [(p, .inr (1, [.ref pX, .ref pY, .ref pF, .ref pC, .ref pA, .ref pB, .ref pR, .ref pK, .int nv, .int ns, .int nw])), (pX, .inl (cI, 64, .inl vx)), (pY, .inl (cI, 64, .inl vy))] sz) p x y pX pY pF pC pA pB pR pK nv ns nw vx vy) 0 0 (va_A [(p, .inr (1, [.ref pX, .ref pY, .ref pF, .ref pC, .ref pA, .ref pB, .ref pR, .ref pK, .int nv, .int ns, .int nw])), (pX, .inl (cI, 64, .inl vx)), (pY, .inl (cI, 64, .inl vy))] sz) := by
  refine Met.ofW (cc := b_Pl_addVertex) (maxL := 3) (ret := (some .int)) (by decide) rfl ?_
  intro mp me s mm args below meth mk s₁ B hml hv
  obtain ⟨rfl, hsz, hP, hK, hD0, hG⟩ := hv
  have hx := B.exec
  have hb := B.bytes
  have hr := B.returns
  have hts := atoms_spec (ws := w_Pl_addVertex) B.pre
  have hw : ∀ w ∈ sw_words, w.before _ s = true := fun w h => hts w (List.mem_cons_of_mem _ h)
  have hown : s.vm.findClass R_Pl = some mm.cls := findClass_of_methodNamed B.named
  have hlocks := B.notSynchronized
  subst hsz
  have hD := hD0.self (sz := s.heap.size)
  generalize hAe : va_A [(p, .inr (1, [.ref pX, .ref pY, .ref pF, .ref pC, .ref pA, .ref pB, .ref pR, .ref pK, .int nv, .int ns, .int nw])), (pX, .inl (cI, 64, .inl vx)), (pY, .inl (cI, 64, .inl vy))] s.heap.size = A at hD hG ⊢
  have hA : ∀ q : Nat, s.heap.size ≤ q → A q := fun q h => by rw [← hAe]; exact Or.inr h
  have hS : va_S A s.heap s.heap [] := va_S.rf
  have hl := lv_entry ([.ref p, .int x, .int y]) (n := 3) (Nat.le_of_ble_eq_true rfl)
  rw [lg_entry_eq]
  generalize (lg_sl ([.ref p, .int x, .int y]) ++ List.replicate (3 - (lg_sl ([.ref p, .int x, .int y])).length) Slot.unset).toArray = ls at hl ⊢
  have hl : lv_has ls 3 [(0, .ref p), (1, .int x), (2, .int y)] := hl
  refine lv_aload_n hx hb d_Pl_addVertex_0 rfl (lv_at hl 0 rfl) ?_
  refine va_get (D := D) (ci := 1) (v := .int nv) (C := R_Pl) (T := F_Pl) (N := 11) hx hb hw ku_Pl hown hK hP 0 rfl rfl 8 (by decide) (hw _ kw_ae77367f) (fun _ h9 => h9) rfl d_Pl_addVertex_1 ?_
  refine lv_bipush (v := 64) hx hb d_Pl_addVertex_4 (by decide) ?_
  refine lv_icmp_ge (tgt := 18) hx hb d_Pl_addVertex_6 (by decide) (fun c_6 => ?_) (fun c_6 => ?_)
  · skip
    refine lv_iconst (v := (-1)) hx hb d_Pl_addVertex_18 (by decide) ?_
    have hP9 := hP.sub (ws' := [(p, .inr (1, [.ref pX, .ref pY, .ref pF, .ref pC, .ref pA, .ref pB, .ref pR, .ref pK, .int nv, .int ns, .int nw])), (pX, .inl (cI, 64, .inl vx)), (pY, .inl (cI, 64, .inl vy))]) [0, 1, 2] rfl
    have hD9 := hD.sub (ws' := [(p, .inr (1, [.ref pX, .ref pY, .ref pF, .ref pC, .ref pA, .ref pB, .ref pR, .ref pK, .int nv, .int ns, .int nw])), (pX, .inl (cI, 64, .inl vx)), (pY, .inl (cI, 64, .inl vy))]) [0, 1, 2] (by decide) rfl
    exact W.iret (v := (-1)) hx hb hr (fun T9 hT9 hW9 => ⟨⟨(-1), (nv, vx, vy), rfl, by simp [sw_avb, c_6], by rw [hT9]; exact hP9, hD9⟩, hS.F hT9⟩) hS.2.2 d_Pl_addVertex_19
  · skip
    refine lv_aload_n hx hb d_Pl_addVertex_9 rfl (lv_at hl 0 rfl) ?_
    refine lv_iload_n hx hb d_Pl_addVertex_10 rfl (lv_at hl 1 rfl) ?_
    refine lv_iload_n hx hb d_Pl_addVertex_11 rfl (lv_at hl 2 rfl) ?_
    refine sw_ki0 (wr := []) (va_runV (As := [.int x, .int y]) (rest := []) ⟨hx, hb, hml, hown, hw⟩ (c_Pl_isTaken l D cI cL tq _ p x y pX pY pF pC pA pB pR pK nv ns nw vx vy (by assumption)) (cwV 2 hw (sw_gV kw_54bbef87 kw_6e4e60b1 kw_7eb65973 kw_e4821dd4 kc_Pl_isTaken) rfl rfl rfl ⟨rfl, yd_Pl_isTaken⟩ ⟨Nat.le_of_ble_eq_true rfl, Nat.le_of_ble_eq_true rfl⟩) (sw_preV hK hP hD hS hA hG [0, 1, 2] rfl (by decide) 1 0 rfl rfl) rfl rfl hl.1 rfl (lv_room (Nat.le_of_ble_eq_true rfl)) d_Pl_addVertex_12 ⟨Nat.le_of_ble_eq_true rfl, Nat.le_of_ble_eq_true rfl⟩) hP hD hS hA [0, 1, 2] [] rfl rfl (by decide) (by decide) (fun r_12 _ H locs hp_12 hP hD hS => ?_)
    replace hP : va_P D sw_cl [(p, .inr (1, [.ref pX, .ref pY, .ref pF, .ref pC, .ref pA, .ref pB, .ref pR, .ref pK, .int nv, .int ns, .int nw])), (pX, .inl (cI, 64, .inl vx)), (pY, .inl (cI, 64, .inl vy))] H := hP
    replace hD : va_D A [(p, .inr (1, [.ref pX, .ref pY, .ref pF, .ref pC, .ref pA, .ref pB, .ref pR, .ref pK, .int nv, .int ns, .int nw])), (pX, .inl (cI, 64, .inl vx)), (pY, .inl (cI, 64, .inl vy))] := hD
    try dsimp only at hp_12
    subst hp_12
    refine lv_if_eq (tgt := 20) hx hb d_Pl_addVertex_15 (by decide) (fun c_15 => ?_) (fun c_15 => ?_)
    · skip
      replace c_15 := sw_b0.mp c_15
      have hin1 : vp_in nv 64 := sw_okin hn c_6
      refine lv_aload_n hx hb d_Pl_addVertex_20 rfl (lv_at hl 0 rfl) ?_
      refine va_get (D := D) (ci := 1) (v := .ref pX) (C := R_Pl) (T := F_Pl) (N := 11) hx hb hw ku_Pl hown hK hP 0 rfl rfl 0 (by decide) (hw _ kw_8234c2ed) (fun _ h9 => h9) rfl d_Pl_addVertex_21 ?_
      refine lv_aload_n hx hb d_Pl_addVertex_24 rfl (lv_at hl 0 rfl) ?_
      refine va_get (D := D) (ci := 1) (v := .int nv) (C := R_Pl) (T := F_Pl) (N := 11) hx hb hw ku_Pl hown hK hP 0 rfl rfl 8 (by decide) (hw _ kw_ae77367f) (fun _ h9 => h9) rfl d_Pl_addVertex_25 ?_
      refine lv_iload_n hx hb d_Pl_addVertex_28 rfl (lv_at hl 1 rfl) ?_
      refine va_iast hx hb hK hP hD hS 1 0 rfl rfl (by assumption) d_Pl_addVertex_29 (fun H locs hP hD hS => ?_)
      replace hP : va_P D sw_cl [(p, .inr (1, [.ref pX, .ref pY, .ref pF, .ref pC, .ref pA, .ref pB, .ref pR, .ref pK, .int nv, .int ns, .int nw])), (pX, .inl (cI, 64, .inl (upd vx nv.toNatClampNeg x))), (pY, .inl (cI, 64, .inl vy))] H := hP
      replace hD : va_D A [(p, .inr (1, [.ref pX, .ref pY, .ref pF, .ref pC, .ref pA, .ref pB, .ref pR, .ref pK, .int nv, .int ns, .int nw])), (pX, .inl (cI, 64, .inl (upd vx nv.toNatClampNeg x))), (pY, .inl (cI, 64, .inl vy))] := hD
      refine lv_aload_n hx hb d_Pl_addVertex_30 rfl (lv_at hl 0 rfl) ?_
      refine va_get (D := D) (ci := 1) (v := .ref pY) (C := R_Pl) (T := F_Pl) (N := 11) hx hb hw ku_Pl hown hK hP 0 rfl rfl 1 (by decide) (hw _ kw_c8115e4c) (fun _ h9 => h9) rfl d_Pl_addVertex_31 ?_
      refine lv_aload_n hx hb d_Pl_addVertex_34 rfl (lv_at hl 0 rfl) ?_
      refine va_get (D := D) (ci := 1) (v := .int nv) (C := R_Pl) (T := F_Pl) (N := 11) hx hb hw ku_Pl hown hK hP 0 rfl rfl 8 (by decide) (hw _ kw_ae77367f) (fun _ h9 => h9) rfl d_Pl_addVertex_35 ?_
      refine lv_iload_n hx hb d_Pl_addVertex_38 rfl (lv_at hl 2 rfl) ?_
      refine va_iast hx hb hK hP hD hS 2 0 rfl rfl (by assumption) d_Pl_addVertex_39 (fun H locs hP hD hS => ?_)
      replace hP : va_P D sw_cl [(p, .inr (1, [.ref pX, .ref pY, .ref pF, .ref pC, .ref pA, .ref pB, .ref pR, .ref pK, .int nv, .int ns, .int nw])), (pX, .inl (cI, 64, .inl (upd vx nv.toNatClampNeg x))), (pY, .inl (cI, 64, .inl (upd vy nv.toNatClampNeg y)))] H := hP
      replace hD : va_D A [(p, .inr (1, [.ref pX, .ref pY, .ref pF, .ref pC, .ref pA, .ref pB, .ref pR, .ref pK, .int nv, .int ns, .int nw])), (pX, .inl (cI, 64, .inl (upd vx nv.toNatClampNeg x))), (pY, .inl (cI, 64, .inl (upd vy nv.toNatClampNeg y)))] := hD
      refine lv_aload_n hx hb d_Pl_addVertex_40 rfl (lv_at hl 0 rfl) ?_
      refine lv_dup hx hb d_Pl_addVertex_41 rfl ?_
      refine va_get (D := D) (ci := 1) (v := .int nv) (C := R_Pl) (T := F_Pl) (N := 11) hx hb hw ku_Pl hown hK hP 0 rfl rfl 8 (by decide) (hw _ kw_ae77367f) (fun _ h9 => h9) rfl d_Pl_addVertex_42 ?_
      refine lv_dup_x1 hx hb d_Pl_addVertex_45 rfl rfl ?_
      refine lv_iconst (v := 1) hx hb d_Pl_addVertex_46 (by decide) ?_
      refine lv_iadd hx hb d_Pl_addVertex_47 ?_
      refine va_put (D := D) (ci := 1) (v := .int (nv + 1)) (ty := t_Pl 8) (C := R_Pl) (T := F_Pl) (N := 11) hx hb hw ku_Pl t_Pl t_Pl_ok n_Pl hown hK hP hD hS 0 rfl rfl 8 (by decide) (hw _ kw_ae77367f) (fun _ h9 => h9) rfl (t_Pl_ok 8 (by decide)) rfl rfl (Nat.le_of_ble_eq_true rfl) d_Pl_addVertex_48 (fun H locs hP hD hS => ?_)
      replace hP : va_P D sw_cl [(p, .inr (1, [.ref pX, .ref pY, .ref pF, .ref pC, .ref pA, .ref pB, .ref pR, .ref pK, .int (nv + 1), .int ns, .int nw])), (pX, .inl (cI, 64, .inl (upd vx nv.toNatClampNeg x))), (pY, .inl (cI, 64, .inl (upd vy nv.toNatClampNeg y)))] H := hP
      replace hD : va_D A [(p, .inr (1, [.ref pX, .ref pY, .ref pF, .ref pC, .ref pA, .ref pB, .ref pR, .ref pK, .int (nv + 1), .int ns, .int nw])), (pX, .inl (cI, 64, .inl (upd vx nv.toNatClampNeg x))), (pY, .inl (cI, 64, .inl (upd vy nv.toNatClampNeg y)))] := hD
      have hP9 := hP.sub (ws' := [(p, .inr (1, [.ref pX, .ref pY, .ref pF, .ref pC, .ref pA, .ref pB, .ref pR, .ref pK, .int (nv + 1), .int ns, .int nw])), (pX, .inl (cI, 64, .inl (upd vx nv.toNatClampNeg x))), (pY, .inl (cI, 64, .inl (upd vy nv.toNatClampNeg y)))]) [0, 1, 2] rfl
      have hD9 := hD.sub (ws' := [(p, .inr (1, [.ref pX, .ref pY, .ref pF, .ref pC, .ref pA, .ref pB, .ref pR, .ref pK, .int (nv + 1), .int ns, .int nw])), (pX, .inl (cI, 64, .inl (upd vx nv.toNatClampNeg x))), (pY, .inl (cI, 64, .inl (upd vy nv.toNatClampNeg y)))]) [0, 1, 2] (by decide) rfl
      exact W.iret (v := nv) hx hb hr (fun T9 hT9 hW9 => ⟨⟨nv, (nv + 1, upd vx nv.toNatClampNeg x, upd vy nv.toNatClampNeg y), rfl, by simp [sw_avb, c_6, c_15], by rw [hT9]; exact hP9, hD9⟩, hS.F hT9⟩) hS.2.2 d_Pl_addVertex_51
    · skip
      replace c_15 := sw_bn.mp c_15
      refine lv_iconst (v := (-1)) hx hb d_Pl_addVertex_18 (by decide) ?_
      have hP9 := hP.sub (ws' := [(p, .inr (1, [.ref pX, .ref pY, .ref pF, .ref pC, .ref pA, .ref pB, .ref pR, .ref pK, .int nv, .int ns, .int nw])), (pX, .inl (cI, 64, .inl vx)), (pY, .inl (cI, 64, .inl vy))]) [0, 1, 2] rfl
      have hD9 := hD.sub (ws' := [(p, .inr (1, [.ref pX, .ref pY, .ref pF, .ref pC, .ref pA, .ref pB, .ref pR, .ref pK, .int nv, .int ns, .int nw])), (pX, .inl (cI, 64, .inl vx)), (pY, .inl (cI, 64, .inl vy))]) [0, 1, 2] (by decide) rfl
      exact W.iret (v := (-1)) hx hb hr (fun T9 hT9 hW9 => ⟨⟨(-1), (nv, vx, vy), rfl, by simp [sw_avb, c_6, c_15], by rw [hT9]; exact hP9, hD9⟩, hS.F hT9⟩) hS.2.2 d_Pl_addVertex_19

abbrev rm_Pl_addSector : Room := { frames := 0, cells := 0, slots := 0, locals := 0 }
abbrev q_Pl_addSector (D : va_G) (cI cL : ClassId) (A : Nat → Prop) (p : Nat) (x : Int32) (y : Int32) (pX : Nat) (pY : Nat) (pF : Nat) (pC : Nat) (pA : Nat) (pB : Nat) (pR : Nat) (pK : Nat) (nv : Int32) (ns : Int32) (nw : Int32) (fl : Nat → Int32) (ce : Nat → Int32) : Array Value → State → Outcome → State → Prop := va_Qi (S := Int32 × (Nat → Int32) × (Nat → Int32)) (fun (r : Int32) => fun (u : Int32 × (Nat → Int32) × (Nat → Int32)) => match u with | (ns2, fl2, ce2) => r = (if decide (ns < 16) = true then ns else -1) ∧ ns2 = (if decide (ns < 16) = true then ns + 1 else ns) ∧ fl2 = (if decide (ns < 16) = true then upd fl ns.toNatClampNeg x else fl) ∧ ce2 = (if decide (ns < 16) = true then upd ce ns.toNatClampNeg y else ce)) (sw_R D A (fun (u : Int32 × (Nat → Int32) × (Nat → Int32)) => match u with | (ns2, fl2, ce2) => [(p, .inr (1, [.ref pX, .ref pY, .ref pF, .ref pC, .ref pA, .ref pB, .ref pR, .ref pK, .int nv, .int ns2, .int nw])), (pF, .inl (cI, 16, .inl fl2)), (pC, .inl (cI, 16, .inl ce2))])) A
set_option maxHeartbeats 4000000 in
set_option maxRecDepth 100000 in
theorem c_Pl_addSector (l : Launch) (D : va_G) (cI cL : ClassId) (tq sz : Nat) (p : Nat) (x : Int32) (y : Int32) (pX : Nat) (pY : Nat) (pF : Nat) (pC : Nat) (pA : Nat) (pB : Nat) (pR : Nat) (pK : Nat) (nv : Int32) (ns : Int32) (nw : Int32) (fl : Nat → Int32) (ce : Nat → Int32) (hn : sw_ok ns 16) : Met l y_Pl_addSector w_Pl_addSector rm_Pl_addSector (va_Pc [.ref p, .int x, .int y] (sw_B D cI cL tq sz [(p, .inr (1, [.ref pX, .ref pY, .ref pF, .ref pC, .ref pA, .ref pB, .ref pR, .ref pK, .int nv, .int ns, .int nw])), (pF, .inl (cI, 16, .inl fl)), (pC, .inl (cI, 16, .inl ce))])) (q_Pl_addSector D cI cL (va_A [(p, .inr (1, [.ref pX, .ref pY, .ref pF, .ref pC, .ref pA, .ref pB, .ref pR, .ref pK, .int nv, .int ns, .int nw])), (pF, .inl (cI, 16, .inl fl)), (pC, .inl (cI, 16, .inl ce))] sz) p x y pX pY pF pC pA pB pR pK nv ns nw fl ce) 0 0 (va_A [(p, .inr (1, [.ref pX, .ref pY, .ref pF, .ref pC, .ref pA, .ref pB, .ref pR, .ref pK, .int nv, .int ns, .int nw])), (pF, .inl (cI, 16, .inl fl)), (pC, .inl (cI, 16, .inl ce))] sz) := by
  refine Met.ofW (cc := b_Pl_addSector) (maxL := 3) (ret := (some .int)) (by decide) rfl ?_
  intro mp me s mm args below meth mk s₁ B hml hv
  obtain ⟨rfl, hsz, hP, hK, hD0, hG⟩ := hv
  have hx := B.exec
  have hb := B.bytes
  have hr := B.returns
  have hts := atoms_spec (ws := w_Pl_addSector) B.pre
  have hw : ∀ w ∈ sw_words, w.before _ s = true := fun w h => hts w (List.mem_cons_of_mem _ h)
  have hown : s.vm.findClass R_Pl = some mm.cls := findClass_of_methodNamed B.named
  have hlocks := B.notSynchronized
  subst hsz
  have hD := hD0.self (sz := s.heap.size)
  generalize hAe : va_A [(p, .inr (1, [.ref pX, .ref pY, .ref pF, .ref pC, .ref pA, .ref pB, .ref pR, .ref pK, .int nv, .int ns, .int nw])), (pF, .inl (cI, 16, .inl fl)), (pC, .inl (cI, 16, .inl ce))] s.heap.size = A at hD hG ⊢
  have hA : ∀ q : Nat, s.heap.size ≤ q → A q := fun q h => by rw [← hAe]; exact Or.inr h
  have hS : va_S A s.heap s.heap [] := va_S.rf
  have hl := lv_entry ([.ref p, .int x, .int y]) (n := 3) (Nat.le_of_ble_eq_true rfl)
  rw [lg_entry_eq]
  generalize (lg_sl ([.ref p, .int x, .int y]) ++ List.replicate (3 - (lg_sl ([.ref p, .int x, .int y])).length) Slot.unset).toArray = ls at hl ⊢
  have hl : lv_has ls 3 [(0, .ref p), (1, .int x), (2, .int y)] := hl
  refine lv_aload_n hx hb d_Pl_addSector_0 rfl (lv_at hl 0 rfl) ?_
  refine va_get (D := D) (ci := 1) (v := .int ns) (C := R_Pl) (T := F_Pl) (N := 11) hx hb hw ku_Pl hown hK hP 0 rfl rfl 9 (by decide) (hw _ kw_8591057a) (fun _ h9 => h9) rfl d_Pl_addSector_1 ?_
  refine lv_bipush (v := 16) hx hb d_Pl_addSector_4 (by decide) ?_
  refine lv_icmp_lt (tgt := 11) hx hb d_Pl_addSector_6 (by decide) (fun c_6 => ?_) (fun c_6 => ?_)
  · skip
    have hin1 : vp_in ns 16 := sw_okin2 hn c_6
    refine lv_aload_n hx hb d_Pl_addSector_11 rfl (lv_at hl 0 rfl) ?_
    refine va_get (D := D) (ci := 1) (v := .ref pF) (C := R_Pl) (T := F_Pl) (N := 11) hx hb hw ku_Pl hown hK hP 0 rfl rfl 2 (by decide) (hw _ kw_27d57bb8) (fun _ h9 => h9) rfl d_Pl_addSector_12 ?_
    refine lv_aload_n hx hb d_Pl_addSector_15 rfl (lv_at hl 0 rfl) ?_
    refine va_get (D := D) (ci := 1) (v := .int ns) (C := R_Pl) (T := F_Pl) (N := 11) hx hb hw ku_Pl hown hK hP 0 rfl rfl 9 (by decide) (hw _ kw_8591057a) (fun _ h9 => h9) rfl d_Pl_addSector_16 ?_
    refine lv_iload_n hx hb d_Pl_addSector_19 rfl (lv_at hl 1 rfl) ?_
    refine va_iast hx hb hK hP hD hS 1 0 rfl rfl (by assumption) d_Pl_addSector_20 (fun H locs hP hD hS => ?_)
    replace hP : va_P D sw_cl [(p, .inr (1, [.ref pX, .ref pY, .ref pF, .ref pC, .ref pA, .ref pB, .ref pR, .ref pK, .int nv, .int ns, .int nw])), (pF, .inl (cI, 16, .inl (upd fl ns.toNatClampNeg x))), (pC, .inl (cI, 16, .inl ce))] H := hP
    replace hD : va_D A [(p, .inr (1, [.ref pX, .ref pY, .ref pF, .ref pC, .ref pA, .ref pB, .ref pR, .ref pK, .int nv, .int ns, .int nw])), (pF, .inl (cI, 16, .inl (upd fl ns.toNatClampNeg x))), (pC, .inl (cI, 16, .inl ce))] := hD
    refine lv_aload_n hx hb d_Pl_addSector_21 rfl (lv_at hl 0 rfl) ?_
    refine va_get (D := D) (ci := 1) (v := .ref pC) (C := R_Pl) (T := F_Pl) (N := 11) hx hb hw ku_Pl hown hK hP 0 rfl rfl 3 (by decide) (hw _ kw_65f1a660) (fun _ h9 => h9) rfl d_Pl_addSector_22 ?_
    refine lv_aload_n hx hb d_Pl_addSector_25 rfl (lv_at hl 0 rfl) ?_
    refine va_get (D := D) (ci := 1) (v := .int ns) (C := R_Pl) (T := F_Pl) (N := 11) hx hb hw ku_Pl hown hK hP 0 rfl rfl 9 (by decide) (hw _ kw_8591057a) (fun _ h9 => h9) rfl d_Pl_addSector_26 ?_
    refine lv_iload_n hx hb d_Pl_addSector_29 rfl (lv_at hl 2 rfl) ?_
    refine va_iast hx hb hK hP hD hS 2 0 rfl rfl (by assumption) d_Pl_addSector_30 (fun H locs hP hD hS => ?_)
    replace hP : va_P D sw_cl [(p, .inr (1, [.ref pX, .ref pY, .ref pF, .ref pC, .ref pA, .ref pB, .ref pR, .ref pK, .int nv, .int ns, .int nw])), (pF, .inl (cI, 16, .inl (upd fl ns.toNatClampNeg x))), (pC, .inl (cI, 16, .inl (upd ce ns.toNatClampNeg y)))] H := hP
    replace hD : va_D A [(p, .inr (1, [.ref pX, .ref pY, .ref pF, .ref pC, .ref pA, .ref pB, .ref pR, .ref pK, .int nv, .int ns, .int nw])), (pF, .inl (cI, 16, .inl (upd fl ns.toNatClampNeg x))), (pC, .inl (cI, 16, .inl (upd ce ns.toNatClampNeg y)))] := hD
    refine lv_aload_n hx hb d_Pl_addSector_31 rfl (lv_at hl 0 rfl) ?_
    refine lv_dup hx hb d_Pl_addSector_32 rfl ?_
    refine va_get (D := D) (ci := 1) (v := .int ns) (C := R_Pl) (T := F_Pl) (N := 11) hx hb hw ku_Pl hown hK hP 0 rfl rfl 9 (by decide) (hw _ kw_8591057a) (fun _ h9 => h9) rfl d_Pl_addSector_33 ?_
    refine lv_dup_x1 hx hb d_Pl_addSector_36 rfl rfl ?_
    refine lv_iconst (v := 1) hx hb d_Pl_addSector_37 (by decide) ?_
    refine lv_iadd hx hb d_Pl_addSector_38 ?_
    refine va_put (D := D) (ci := 1) (v := .int (ns + 1)) (ty := t_Pl 9) (C := R_Pl) (T := F_Pl) (N := 11) hx hb hw ku_Pl t_Pl t_Pl_ok n_Pl hown hK hP hD hS 0 rfl rfl 9 (by decide) (hw _ kw_8591057a) (fun _ h9 => h9) rfl (t_Pl_ok 9 (by decide)) rfl rfl (Nat.le_of_ble_eq_true rfl) d_Pl_addSector_39 (fun H locs hP hD hS => ?_)
    replace hP : va_P D sw_cl [(p, .inr (1, [.ref pX, .ref pY, .ref pF, .ref pC, .ref pA, .ref pB, .ref pR, .ref pK, .int nv, .int (ns + 1), .int nw])), (pF, .inl (cI, 16, .inl (upd fl ns.toNatClampNeg x))), (pC, .inl (cI, 16, .inl (upd ce ns.toNatClampNeg y)))] H := hP
    replace hD : va_D A [(p, .inr (1, [.ref pX, .ref pY, .ref pF, .ref pC, .ref pA, .ref pB, .ref pR, .ref pK, .int nv, .int (ns + 1), .int nw])), (pF, .inl (cI, 16, .inl (upd fl ns.toNatClampNeg x))), (pC, .inl (cI, 16, .inl (upd ce ns.toNatClampNeg y)))] := hD
    have hP9 := hP.sub (ws' := [(p, .inr (1, [.ref pX, .ref pY, .ref pF, .ref pC, .ref pA, .ref pB, .ref pR, .ref pK, .int nv, .int (ns + 1), .int nw])), (pF, .inl (cI, 16, .inl (upd fl ns.toNatClampNeg x))), (pC, .inl (cI, 16, .inl (upd ce ns.toNatClampNeg y)))]) [0, 1, 2] rfl
    have hD9 := hD.sub (ws' := [(p, .inr (1, [.ref pX, .ref pY, .ref pF, .ref pC, .ref pA, .ref pB, .ref pR, .ref pK, .int nv, .int (ns + 1), .int nw])), (pF, .inl (cI, 16, .inl (upd fl ns.toNatClampNeg x))), (pC, .inl (cI, 16, .inl (upd ce ns.toNatClampNeg y)))]) [0, 1, 2] (by decide) rfl
    exact W.iret (v := ns) hx hb hr (fun T9 hT9 hW9 => ⟨⟨ns, (ns + 1, upd fl ns.toNatClampNeg x, upd ce ns.toNatClampNeg y), rfl, by simp [c_6], by rw [hT9]; exact hP9, hD9⟩, hS.F hT9⟩) hS.2.2 d_Pl_addSector_42
  · skip
    refine lv_iconst (v := (-1)) hx hb d_Pl_addSector_9 (by decide) ?_
    have hP9 := hP.sub (ws' := [(p, .inr (1, [.ref pX, .ref pY, .ref pF, .ref pC, .ref pA, .ref pB, .ref pR, .ref pK, .int nv, .int ns, .int nw])), (pF, .inl (cI, 16, .inl fl)), (pC, .inl (cI, 16, .inl ce))]) [0, 1, 2] rfl
    have hD9 := hD.sub (ws' := [(p, .inr (1, [.ref pX, .ref pY, .ref pF, .ref pC, .ref pA, .ref pB, .ref pR, .ref pK, .int nv, .int ns, .int nw])), (pF, .inl (cI, 16, .inl fl)), (pC, .inl (cI, 16, .inl ce))]) [0, 1, 2] (by decide) rfl
    exact W.iret (v := (-1)) hx hb hr (fun T9 hT9 hW9 => ⟨⟨(-1), (ns, fl, ce), rfl, by simp [c_6], by rw [hT9]; exact hP9, hD9⟩, hS.F hT9⟩) hS.2.2 d_Pl_addSector_10

abbrev rm_Pl_addWall : Room := { frames := 0, cells := 0, slots := 0, locals := 0 }
abbrev q_Pl_addWall (D : va_G) (cI cL : ClassId) (A : Nat → Prop) (p : Nat) (x : Int32) (y : Int32) (z : Int32) (v : Int32) (pX : Nat) (pY : Nat) (pF : Nat) (pC : Nat) (pA : Nat) (pB : Nat) (pR : Nat) (pK : Nat) (nv : Int32) (ns : Int32) (nw : Int32) (fa : Nat → Int32) (tb : Nat → Int32) (fr : Nat → Int32) (bk : Nat → Int32) : Array Value → State → Outcome → State → Prop := va_Qi (S := Int32 × (Nat → Int32) × (Nat → Int32) × (Nat → Int32) × (Nat → Int32)) (fun (r : Int32) => fun (u : Int32 × (Nat → Int32) × (Nat → Int32) × (Nat → Int32) × (Nat → Int32)) => match u with | (nw2, fa2, tb2, fr2, bk2) => r = (if decide (nw < 64) = true then nw else -1) ∧ nw2 = (if decide (nw < 64) = true then nw + 1 else nw) ∧ fa2 = (if decide (nw < 64) = true then upd fa nw.toNatClampNeg x else fa) ∧ tb2 = (if decide (nw < 64) = true then upd tb nw.toNatClampNeg y else tb) ∧ fr2 = (if decide (nw < 64) = true then upd fr nw.toNatClampNeg z else fr) ∧ bk2 = (if decide (nw < 64) = true then upd bk nw.toNatClampNeg v else bk)) (sw_R D A (fun (u : Int32 × (Nat → Int32) × (Nat → Int32) × (Nat → Int32) × (Nat → Int32)) => match u with | (nw2, fa2, tb2, fr2, bk2) => [(p, .inr (1, [.ref pX, .ref pY, .ref pF, .ref pC, .ref pA, .ref pB, .ref pR, .ref pK, .int nv, .int ns, .int nw2])), (pA, .inl (cI, 64, .inl fa2)), (pB, .inl (cI, 64, .inl tb2)), (pR, .inl (cI, 64, .inl fr2)), (pK, .inl (cI, 64, .inl bk2))])) A
set_option maxHeartbeats 4000000 in
set_option maxRecDepth 100000 in
theorem c_Pl_addWall (l : Launch) (D : va_G) (cI cL : ClassId) (tq sz : Nat) (p : Nat) (x : Int32) (y : Int32) (z : Int32) (v : Int32) (pX : Nat) (pY : Nat) (pF : Nat) (pC : Nat) (pA : Nat) (pB : Nat) (pR : Nat) (pK : Nat) (nv : Int32) (ns : Int32) (nw : Int32) (fa : Nat → Int32) (tb : Nat → Int32) (fr : Nat → Int32) (bk : Nat → Int32) (hn : sw_ok nw 64) : Met l y_Pl_addWall w_Pl_addWall rm_Pl_addWall (va_Pc [.ref p, .int x, .int y, .int z, .int v] (sw_B D cI cL tq sz [(p, .inr (1, [.ref pX, .ref pY, .ref pF, .ref pC, .ref pA, .ref pB, .ref pR, .ref pK, .int nv, .int ns, .int nw])), (pA, .inl (cI, 64, .inl fa)), (pB, .inl (cI, 64, .inl tb)), (pR, .inl (cI, 64, .inl fr)), (pK, .inl (cI, 64, .inl bk))])) (q_Pl_addWall D cI cL (va_A [(p, .inr (1, [.ref pX, .ref pY, .ref pF, .ref pC, .ref pA, .ref pB, .ref pR, .ref pK, .int nv, .int ns, .int nw])), (pA, .inl (cI, 64, .inl fa)), (pB, .inl (cI, 64, .inl tb)), (pR, .inl (cI, 64, .inl fr)), (pK, .inl (cI, 64, .inl bk))] sz) p x y z v pX pY pF pC pA pB pR pK nv ns nw fa tb fr bk) 0 0 (va_A [(p, .inr (1, [.ref pX, .ref pY, .ref pF, .ref pC, .ref pA, .ref pB, .ref pR, .ref pK, .int nv, .int ns, .int nw])), (pA, .inl (cI, 64, .inl fa)), (pB, .inl (cI, 64, .inl tb)), (pR, .inl (cI, 64, .inl fr)), (pK, .inl (cI, 64, .inl bk))] sz) := by
  refine Met.ofW (cc := b_Pl_addWall) (maxL := 5) (ret := (some .int)) (by decide) rfl ?_
  intro mp me s mm args below meth mk s₁ B hml hv
  obtain ⟨rfl, hsz, hP, hK, hD0, hG⟩ := hv
  have hx := B.exec
  have hb := B.bytes
  have hr := B.returns
  have hts := atoms_spec (ws := w_Pl_addWall) B.pre
  have hw : ∀ w ∈ sw_words, w.before _ s = true := fun w h => hts w (List.mem_cons_of_mem _ h)
  have hown : s.vm.findClass R_Pl = some mm.cls := findClass_of_methodNamed B.named
  have hlocks := B.notSynchronized
  subst hsz
  have hD := hD0.self (sz := s.heap.size)
  generalize hAe : va_A [(p, .inr (1, [.ref pX, .ref pY, .ref pF, .ref pC, .ref pA, .ref pB, .ref pR, .ref pK, .int nv, .int ns, .int nw])), (pA, .inl (cI, 64, .inl fa)), (pB, .inl (cI, 64, .inl tb)), (pR, .inl (cI, 64, .inl fr)), (pK, .inl (cI, 64, .inl bk))] s.heap.size = A at hD hG ⊢
  have hA : ∀ q : Nat, s.heap.size ≤ q → A q := fun q h => by rw [← hAe]; exact Or.inr h
  have hS : va_S A s.heap s.heap [] := va_S.rf
  have hl := lv_entry ([.ref p, .int x, .int y, .int z, .int v]) (n := 5) (Nat.le_of_ble_eq_true rfl)
  rw [lg_entry_eq]
  generalize (lg_sl ([.ref p, .int x, .int y, .int z, .int v]) ++ List.replicate (5 - (lg_sl ([.ref p, .int x, .int y, .int z, .int v])).length) Slot.unset).toArray = ls at hl ⊢
  have hl : lv_has ls 5 [(0, .ref p), (1, .int x), (2, .int y), (3, .int z), (4, .int v)] := hl
  refine lv_aload_n hx hb d_Pl_addWall_0 rfl (lv_at hl 0 rfl) ?_
  refine va_get (D := D) (ci := 1) (v := .int nw) (C := R_Pl) (T := F_Pl) (N := 11) hx hb hw ku_Pl hown hK hP 0 rfl rfl 10 (by decide) (hw _ kw_733d4839) (fun _ h9 => h9) rfl d_Pl_addWall_1 ?_
  refine lv_bipush (v := 64) hx hb d_Pl_addWall_4 (by decide) ?_
  refine lv_icmp_lt (tgt := 11) hx hb d_Pl_addWall_6 (by decide) (fun c_6 => ?_) (fun c_6 => ?_)
  · skip
    have hin1 : vp_in nw 64 := sw_okin2 hn c_6
    refine lv_aload_n hx hb d_Pl_addWall_11 rfl (lv_at hl 0 rfl) ?_
    refine va_get (D := D) (ci := 1) (v := .ref pA) (C := R_Pl) (T := F_Pl) (N := 11) hx hb hw ku_Pl hown hK hP 0 rfl rfl 4 (by decide) (hw _ kw_8b810f0c) (fun _ h9 => h9) rfl d_Pl_addWall_12 ?_
    refine lv_aload_n hx hb d_Pl_addWall_15 rfl (lv_at hl 0 rfl) ?_
    refine va_get (D := D) (ci := 1) (v := .int nw) (C := R_Pl) (T := F_Pl) (N := 11) hx hb hw ku_Pl hown hK hP 0 rfl rfl 10 (by decide) (hw _ kw_733d4839) (fun _ h9 => h9) rfl d_Pl_addWall_16 ?_
    refine lv_iload_n hx hb d_Pl_addWall_19 rfl (lv_at hl 1 rfl) ?_
    refine va_iast hx hb hK hP hD hS 1 0 rfl rfl (by assumption) d_Pl_addWall_20 (fun H locs hP hD hS => ?_)
    replace hP : va_P D sw_cl [(p, .inr (1, [.ref pX, .ref pY, .ref pF, .ref pC, .ref pA, .ref pB, .ref pR, .ref pK, .int nv, .int ns, .int nw])), (pA, .inl (cI, 64, .inl (upd fa nw.toNatClampNeg x))), (pB, .inl (cI, 64, .inl tb)), (pR, .inl (cI, 64, .inl fr)), (pK, .inl (cI, 64, .inl bk))] H := hP
    replace hD : va_D A [(p, .inr (1, [.ref pX, .ref pY, .ref pF, .ref pC, .ref pA, .ref pB, .ref pR, .ref pK, .int nv, .int ns, .int nw])), (pA, .inl (cI, 64, .inl (upd fa nw.toNatClampNeg x))), (pB, .inl (cI, 64, .inl tb)), (pR, .inl (cI, 64, .inl fr)), (pK, .inl (cI, 64, .inl bk))] := hD
    refine lv_aload_n hx hb d_Pl_addWall_21 rfl (lv_at hl 0 rfl) ?_
    refine va_get (D := D) (ci := 1) (v := .ref pB) (C := R_Pl) (T := F_Pl) (N := 11) hx hb hw ku_Pl hown hK hP 0 rfl rfl 5 (by decide) (hw _ kw_1e4d1ebb) (fun _ h9 => h9) rfl d_Pl_addWall_22 ?_
    refine lv_aload_n hx hb d_Pl_addWall_25 rfl (lv_at hl 0 rfl) ?_
    refine va_get (D := D) (ci := 1) (v := .int nw) (C := R_Pl) (T := F_Pl) (N := 11) hx hb hw ku_Pl hown hK hP 0 rfl rfl 10 (by decide) (hw _ kw_733d4839) (fun _ h9 => h9) rfl d_Pl_addWall_26 ?_
    refine lv_iload_n hx hb d_Pl_addWall_29 rfl (lv_at hl 2 rfl) ?_
    refine va_iast hx hb hK hP hD hS 2 0 rfl rfl (by assumption) d_Pl_addWall_30 (fun H locs hP hD hS => ?_)
    replace hP : va_P D sw_cl [(p, .inr (1, [.ref pX, .ref pY, .ref pF, .ref pC, .ref pA, .ref pB, .ref pR, .ref pK, .int nv, .int ns, .int nw])), (pA, .inl (cI, 64, .inl (upd fa nw.toNatClampNeg x))), (pB, .inl (cI, 64, .inl (upd tb nw.toNatClampNeg y))), (pR, .inl (cI, 64, .inl fr)), (pK, .inl (cI, 64, .inl bk))] H := hP
    replace hD : va_D A [(p, .inr (1, [.ref pX, .ref pY, .ref pF, .ref pC, .ref pA, .ref pB, .ref pR, .ref pK, .int nv, .int ns, .int nw])), (pA, .inl (cI, 64, .inl (upd fa nw.toNatClampNeg x))), (pB, .inl (cI, 64, .inl (upd tb nw.toNatClampNeg y))), (pR, .inl (cI, 64, .inl fr)), (pK, .inl (cI, 64, .inl bk))] := hD
    refine lv_aload_n hx hb d_Pl_addWall_31 rfl (lv_at hl 0 rfl) ?_
    refine va_get (D := D) (ci := 1) (v := .ref pR) (C := R_Pl) (T := F_Pl) (N := 11) hx hb hw ku_Pl hown hK hP 0 rfl rfl 6 (by decide) (hw _ kw_3f39eaf5) (fun _ h9 => h9) rfl d_Pl_addWall_32 ?_
    refine lv_aload_n hx hb d_Pl_addWall_35 rfl (lv_at hl 0 rfl) ?_
    refine va_get (D := D) (ci := 1) (v := .int nw) (C := R_Pl) (T := F_Pl) (N := 11) hx hb hw ku_Pl hown hK hP 0 rfl rfl 10 (by decide) (hw _ kw_733d4839) (fun _ h9 => h9) rfl d_Pl_addWall_36 ?_
    refine lv_iload_n hx hb d_Pl_addWall_39 rfl (lv_at hl 3 rfl) ?_
    refine va_iast hx hb hK hP hD hS 3 0 rfl rfl (by assumption) d_Pl_addWall_40 (fun H locs hP hD hS => ?_)
    replace hP : va_P D sw_cl [(p, .inr (1, [.ref pX, .ref pY, .ref pF, .ref pC, .ref pA, .ref pB, .ref pR, .ref pK, .int nv, .int ns, .int nw])), (pA, .inl (cI, 64, .inl (upd fa nw.toNatClampNeg x))), (pB, .inl (cI, 64, .inl (upd tb nw.toNatClampNeg y))), (pR, .inl (cI, 64, .inl (upd fr nw.toNatClampNeg z))), (pK, .inl (cI, 64, .inl bk))] H := hP
    replace hD : va_D A [(p, .inr (1, [.ref pX, .ref pY, .ref pF, .ref pC, .ref pA, .ref pB, .ref pR, .ref pK, .int nv, .int ns, .int nw])), (pA, .inl (cI, 64, .inl (upd fa nw.toNatClampNeg x))), (pB, .inl (cI, 64, .inl (upd tb nw.toNatClampNeg y))), (pR, .inl (cI, 64, .inl (upd fr nw.toNatClampNeg z))), (pK, .inl (cI, 64, .inl bk))] := hD
    refine lv_aload_n hx hb d_Pl_addWall_41 rfl (lv_at hl 0 rfl) ?_
    refine va_get (D := D) (ci := 1) (v := .ref pK) (C := R_Pl) (T := F_Pl) (N := 11) hx hb hw ku_Pl hown hK hP 0 rfl rfl 7 (by decide) (hw _ kw_fa356e2a) (fun _ h9 => h9) rfl d_Pl_addWall_42 ?_
    refine lv_aload_n hx hb d_Pl_addWall_45 rfl (lv_at hl 0 rfl) ?_
    refine va_get (D := D) (ci := 1) (v := .int nw) (C := R_Pl) (T := F_Pl) (N := 11) hx hb hw ku_Pl hown hK hP 0 rfl rfl 10 (by decide) (hw _ kw_733d4839) (fun _ h9 => h9) rfl d_Pl_addWall_46 ?_
    refine lv_iload hx hb d_Pl_addWall_49 (lv_at hl 4 rfl) ?_
    refine va_iast hx hb hK hP hD hS 4 0 rfl rfl (by assumption) d_Pl_addWall_51 (fun H locs hP hD hS => ?_)
    replace hP : va_P D sw_cl [(p, .inr (1, [.ref pX, .ref pY, .ref pF, .ref pC, .ref pA, .ref pB, .ref pR, .ref pK, .int nv, .int ns, .int nw])), (pA, .inl (cI, 64, .inl (upd fa nw.toNatClampNeg x))), (pB, .inl (cI, 64, .inl (upd tb nw.toNatClampNeg y))), (pR, .inl (cI, 64, .inl (upd fr nw.toNatClampNeg z))), (pK, .inl (cI, 64, .inl (upd bk nw.toNatClampNeg v)))] H := hP
    replace hD : va_D A [(p, .inr (1, [.ref pX, .ref pY, .ref pF, .ref pC, .ref pA, .ref pB, .ref pR, .ref pK, .int nv, .int ns, .int nw])), (pA, .inl (cI, 64, .inl (upd fa nw.toNatClampNeg x))), (pB, .inl (cI, 64, .inl (upd tb nw.toNatClampNeg y))), (pR, .inl (cI, 64, .inl (upd fr nw.toNatClampNeg z))), (pK, .inl (cI, 64, .inl (upd bk nw.toNatClampNeg v)))] := hD
    refine lv_aload_n hx hb d_Pl_addWall_52 rfl (lv_at hl 0 rfl) ?_
    refine lv_dup hx hb d_Pl_addWall_53 rfl ?_
    refine va_get (D := D) (ci := 1) (v := .int nw) (C := R_Pl) (T := F_Pl) (N := 11) hx hb hw ku_Pl hown hK hP 0 rfl rfl 10 (by decide) (hw _ kw_733d4839) (fun _ h9 => h9) rfl d_Pl_addWall_54 ?_
    refine lv_dup_x1 hx hb d_Pl_addWall_57 rfl rfl ?_
    refine lv_iconst (v := 1) hx hb d_Pl_addWall_58 (by decide) ?_
    refine lv_iadd hx hb d_Pl_addWall_59 ?_
    refine va_put (D := D) (ci := 1) (v := .int (nw + 1)) (ty := t_Pl 10) (C := R_Pl) (T := F_Pl) (N := 11) hx hb hw ku_Pl t_Pl t_Pl_ok n_Pl hown hK hP hD hS 0 rfl rfl 10 (by decide) (hw _ kw_733d4839) (fun _ h9 => h9) rfl (t_Pl_ok 10 (by decide)) rfl rfl (Nat.le_of_ble_eq_true rfl) d_Pl_addWall_60 (fun H locs hP hD hS => ?_)
    replace hP : va_P D sw_cl [(p, .inr (1, [.ref pX, .ref pY, .ref pF, .ref pC, .ref pA, .ref pB, .ref pR, .ref pK, .int nv, .int ns, .int (nw + 1)])), (pA, .inl (cI, 64, .inl (upd fa nw.toNatClampNeg x))), (pB, .inl (cI, 64, .inl (upd tb nw.toNatClampNeg y))), (pR, .inl (cI, 64, .inl (upd fr nw.toNatClampNeg z))), (pK, .inl (cI, 64, .inl (upd bk nw.toNatClampNeg v)))] H := hP
    replace hD : va_D A [(p, .inr (1, [.ref pX, .ref pY, .ref pF, .ref pC, .ref pA, .ref pB, .ref pR, .ref pK, .int nv, .int ns, .int (nw + 1)])), (pA, .inl (cI, 64, .inl (upd fa nw.toNatClampNeg x))), (pB, .inl (cI, 64, .inl (upd tb nw.toNatClampNeg y))), (pR, .inl (cI, 64, .inl (upd fr nw.toNatClampNeg z))), (pK, .inl (cI, 64, .inl (upd bk nw.toNatClampNeg v)))] := hD
    have hP9 := hP.sub (ws' := [(p, .inr (1, [.ref pX, .ref pY, .ref pF, .ref pC, .ref pA, .ref pB, .ref pR, .ref pK, .int nv, .int ns, .int (nw + 1)])), (pA, .inl (cI, 64, .inl (upd fa nw.toNatClampNeg x))), (pB, .inl (cI, 64, .inl (upd tb nw.toNatClampNeg y))), (pR, .inl (cI, 64, .inl (upd fr nw.toNatClampNeg z))), (pK, .inl (cI, 64, .inl (upd bk nw.toNatClampNeg v)))]) [0, 1, 2, 3, 4] rfl
    have hD9 := hD.sub (ws' := [(p, .inr (1, [.ref pX, .ref pY, .ref pF, .ref pC, .ref pA, .ref pB, .ref pR, .ref pK, .int nv, .int ns, .int (nw + 1)])), (pA, .inl (cI, 64, .inl (upd fa nw.toNatClampNeg x))), (pB, .inl (cI, 64, .inl (upd tb nw.toNatClampNeg y))), (pR, .inl (cI, 64, .inl (upd fr nw.toNatClampNeg z))), (pK, .inl (cI, 64, .inl (upd bk nw.toNatClampNeg v)))]) [0, 1, 2, 3, 4] (by decide) rfl
    exact W.iret (v := nw) hx hb hr (fun T9 hT9 hW9 => ⟨⟨nw, (nw + 1, upd fa nw.toNatClampNeg x, upd tb nw.toNatClampNeg y, upd fr nw.toNatClampNeg z, upd bk nw.toNatClampNeg v), rfl, by simp [c_6], by rw [hT9]; exact hP9, hD9⟩, hS.F hT9⟩) hS.2.2 d_Pl_addWall_63
  · skip
    refine lv_iconst (v := (-1)) hx hb d_Pl_addWall_9 (by decide) ?_
    have hP9 := hP.sub (ws' := [(p, .inr (1, [.ref pX, .ref pY, .ref pF, .ref pC, .ref pA, .ref pB, .ref pR, .ref pK, .int nv, .int ns, .int nw])), (pA, .inl (cI, 64, .inl fa)), (pB, .inl (cI, 64, .inl tb)), (pR, .inl (cI, 64, .inl fr)), (pK, .inl (cI, 64, .inl bk))]) [0, 1, 2, 3, 4] rfl
    have hD9 := hD.sub (ws' := [(p, .inr (1, [.ref pX, .ref pY, .ref pF, .ref pC, .ref pA, .ref pB, .ref pR, .ref pK, .int nv, .int ns, .int nw])), (pA, .inl (cI, 64, .inl fa)), (pB, .inl (cI, 64, .inl tb)), (pR, .inl (cI, 64, .inl fr)), (pK, .inl (cI, 64, .inl bk))]) [0, 1, 2, 3, 4] (by decide) rfl
    exact W.iret (v := (-1)) hx hb hr (fun T9 hT9 hW9 => ⟨⟨(-1), (nw, fa, tb, fr, bk), rfl, by simp [c_6], by rw [hT9]; exact hP9, hD9⟩, hS.F hT9⟩) hS.2.2 d_Pl_addWall_10

abbrev rm_Pl_removeLastWall : Room := { frames := 0, cells := 0, slots := 0, locals := 0 }
abbrev q_Pl_removeLastWall (D : va_G) (cI cL : ClassId) (A : Nat → Prop) (p : Nat) (pX : Nat) (pY : Nat) (pF : Nat) (pC : Nat) (pA : Nat) (pB : Nat) (pR : Nat) (pK : Nat) (nv : Int32) (ns : Int32) (nw : Int32) : Array Value → State → Outcome → State → Prop := va_Qi (S := Int32) (fun (r : Int32) => fun (nw2 : Int32) => r = (sw_b (!(decide (nw = 0)))) ∧ nw2 = (if nw = 0 then nw else nw - 1)) (sw_R D A (fun (nw2 : Int32) => [(p, .inr (1, [.ref pX, .ref pY, .ref pF, .ref pC, .ref pA, .ref pB, .ref pR, .ref pK, .int nv, .int ns, .int nw2]))])) A
set_option maxHeartbeats 4000000 in
set_option maxRecDepth 100000 in
theorem c_Pl_removeLastWall (l : Launch) (D : va_G) (cI cL : ClassId) (tq sz : Nat) (p : Nat) (pX : Nat) (pY : Nat) (pF : Nat) (pC : Nat) (pA : Nat) (pB : Nat) (pR : Nat) (pK : Nat) (nv : Int32) (ns : Int32) (nw : Int32) : Met l y_Pl_removeLastWall w_Pl_removeLastWall rm_Pl_removeLastWall (va_Pc [.ref p] (sw_B D cI cL tq sz [(p, .inr (1, [.ref pX, .ref pY, .ref pF, .ref pC, .ref pA, .ref pB, .ref pR, .ref pK, .int nv, .int ns, .int nw]))])) (q_Pl_removeLastWall D cI cL (va_A [(p, .inr (1, [.ref pX, .ref pY, .ref pF, .ref pC, .ref pA, .ref pB, .ref pR, .ref pK, .int nv, .int ns, .int nw]))] sz) p pX pY pF pC pA pB pR pK nv ns nw) 0 0 (va_A [(p, .inr (1, [.ref pX, .ref pY, .ref pF, .ref pC, .ref pA, .ref pB, .ref pR, .ref pK, .int nv, .int ns, .int nw]))] sz) := by
  refine Met.ofW (cc := b_Pl_removeLastWall) (maxL := 1) (ret := (some .boolean)) (by decide) rfl ?_
  intro mp me s mm args below meth mk s₁ B hml hv
  obtain ⟨rfl, hsz, hP, hK, hD0, hG⟩ := hv
  have hx := B.exec
  have hb := B.bytes
  have hr := B.returns
  have hts := atoms_spec (ws := w_Pl_removeLastWall) B.pre
  have hw : ∀ w ∈ sw_words, w.before _ s = true := fun w h => hts w (List.mem_cons_of_mem _ h)
  have hown : s.vm.findClass R_Pl = some mm.cls := findClass_of_methodNamed B.named
  have hlocks := B.notSynchronized
  subst hsz
  have hD := hD0.self (sz := s.heap.size)
  generalize hAe : va_A [(p, .inr (1, [.ref pX, .ref pY, .ref pF, .ref pC, .ref pA, .ref pB, .ref pR, .ref pK, .int nv, .int ns, .int nw]))] s.heap.size = A at hD hG ⊢
  have hA : ∀ q : Nat, s.heap.size ≤ q → A q := fun q h => by rw [← hAe]; exact Or.inr h
  have hS : va_S A s.heap s.heap [] := va_S.rf
  have hl := lv_entry ([.ref p]) (n := 1) (Nat.le_of_ble_eq_true rfl)
  rw [lg_entry_eq]
  generalize (lg_sl ([.ref p]) ++ List.replicate (1 - (lg_sl ([.ref p])).length) Slot.unset).toArray = ls at hl ⊢
  have hl : lv_has ls 1 [(0, .ref p)] := hl
  refine lv_aload_n hx hb d_Pl_removeLastWall_0 rfl (lv_at hl 0 rfl) ?_
  refine va_get (D := D) (ci := 1) (v := .int nw) (C := R_Pl) (T := F_Pl) (N := 11) hx hb hw ku_Pl hown hK hP 0 rfl rfl 10 (by decide) (hw _ kw_733d4839) (fun _ h9 => h9) rfl d_Pl_removeLastWall_1 ?_
  refine lv_if_ne (tgt := 9) hx hb d_Pl_removeLastWall_4 (by decide) (fun c_4 => ?_) (fun c_4 => ?_)
  · skip
    refine lv_aload_n hx hb d_Pl_removeLastWall_9 rfl (lv_at hl 0 rfl) ?_
    refine lv_dup hx hb d_Pl_removeLastWall_10 rfl ?_
    refine va_get (D := D) (ci := 1) (v := .int nw) (C := R_Pl) (T := F_Pl) (N := 11) hx hb hw ku_Pl hown hK hP 0 rfl rfl 10 (by decide) (hw _ kw_733d4839) (fun _ h9 => h9) rfl d_Pl_removeLastWall_11 ?_
    refine lv_iconst (v := 1) hx hb d_Pl_removeLastWall_14 (by decide) ?_
    refine lv_isub hx hb d_Pl_removeLastWall_15 ?_
    refine va_put (D := D) (ci := 1) (v := .int (nw - 1)) (ty := t_Pl 10) (C := R_Pl) (T := F_Pl) (N := 11) hx hb hw ku_Pl t_Pl t_Pl_ok n_Pl hown hK hP hD hS 0 rfl rfl 10 (by decide) (hw _ kw_733d4839) (fun _ h9 => h9) rfl (t_Pl_ok 10 (by decide)) rfl rfl (Nat.le_of_ble_eq_true rfl) d_Pl_removeLastWall_16 (fun H locs hP hD hS => ?_)
    replace hP : va_P D sw_cl [(p, .inr (1, [.ref pX, .ref pY, .ref pF, .ref pC, .ref pA, .ref pB, .ref pR, .ref pK, .int nv, .int ns, .int (nw - 1)]))] H := hP
    replace hD : va_D A [(p, .inr (1, [.ref pX, .ref pY, .ref pF, .ref pC, .ref pA, .ref pB, .ref pR, .ref pK, .int nv, .int ns, .int (nw - 1)]))] := hD
    refine lv_iconst (v := 1) hx hb d_Pl_removeLastWall_19 (by decide) ?_
    have hP9 := hP.sub (ws' := [(p, .inr (1, [.ref pX, .ref pY, .ref pF, .ref pC, .ref pA, .ref pB, .ref pR, .ref pK, .int nv, .int ns, .int (nw - 1)]))]) [0] rfl
    have hD9 := hD.sub (ws' := [(p, .inr (1, [.ref pX, .ref pY, .ref pF, .ref pC, .ref pA, .ref pB, .ref pR, .ref pK, .int nv, .int ns, .int (nw - 1)]))]) [0] (by decide) rfl
    exact W.zret (ty := .boolean) (v := 1) hx hb hr (rfl) (fun T9 hT9 hW9 => ⟨⟨1, (nw - 1), rfl, by simp [sw_b, c_4], by rw [hT9]; exact hP9, hD9⟩, hS.F hT9⟩) hS.2.2 d_Pl_removeLastWall_20
  · skip
    refine lv_iconst (v := 0) hx hb d_Pl_removeLastWall_7 (by decide) ?_
    have hP9 := hP.sub (ws' := [(p, .inr (1, [.ref pX, .ref pY, .ref pF, .ref pC, .ref pA, .ref pB, .ref pR, .ref pK, .int nv, .int ns, .int nw]))]) [0] rfl
    have hD9 := hD.sub (ws' := [(p, .inr (1, [.ref pX, .ref pY, .ref pF, .ref pC, .ref pA, .ref pB, .ref pR, .ref pK, .int nv, .int ns, .int nw]))]) [0] (by decide) rfl
    exact W.zret (ty := .boolean) (v := 0) hx hb hr (rfl) (fun T9 hT9 hW9 => ⟨⟨0, nw, rfl, by simp [sw_b, c_4], by rw [hT9]; exact hP9, hD9⟩, hS.F hT9⟩) hS.2.2 d_Pl_removeLastWall_8

abbrev rm_Pl_makeEmpty : Room := { frames := 0, cells := 0, slots := 0, locals := 0 }
abbrev q_Pl_makeEmpty (D : va_G) (cI cL : ClassId) (A : Nat → Prop) (p : Nat) (pX : Nat) (pY : Nat) (pF : Nat) (pC : Nat) (pA : Nat) (pB : Nat) (pR : Nat) (pK : Nat) (nv : Int32) (ns : Int32) (nw : Int32) : Array Value → State → Outcome → State → Prop := va_Qv (S := Unit) (fun (_ : Unit) => True) (sw_R D A (fun (_ : Unit) => [(p, .inr (1, [.ref pX, .ref pY, .ref pF, .ref pC, .ref pA, .ref pB, .ref pR, .ref pK, .int 0, .int 0, .int 0]))])) A
set_option maxHeartbeats 4000000 in
set_option maxRecDepth 100000 in
theorem c_Pl_makeEmpty (l : Launch) (D : va_G) (cI cL : ClassId) (tq sz : Nat) (p : Nat) (pX : Nat) (pY : Nat) (pF : Nat) (pC : Nat) (pA : Nat) (pB : Nat) (pR : Nat) (pK : Nat) (nv : Int32) (ns : Int32) (nw : Int32) : Met l y_Pl_makeEmpty w_Pl_makeEmpty rm_Pl_makeEmpty (va_Pc [.ref p] (sw_B D cI cL tq sz [(p, .inr (1, [.ref pX, .ref pY, .ref pF, .ref pC, .ref pA, .ref pB, .ref pR, .ref pK, .int nv, .int ns, .int nw]))])) (q_Pl_makeEmpty D cI cL (va_A [(p, .inr (1, [.ref pX, .ref pY, .ref pF, .ref pC, .ref pA, .ref pB, .ref pR, .ref pK, .int nv, .int ns, .int nw]))] sz) p pX pY pF pC pA pB pR pK nv ns nw) 0 0 (va_A [(p, .inr (1, [.ref pX, .ref pY, .ref pF, .ref pC, .ref pA, .ref pB, .ref pR, .ref pK, .int nv, .int ns, .int nw]))] sz) := by
  refine Met.ofW (cc := b_Pl_makeEmpty) (maxL := 1) (ret := none) (by decide) rfl ?_
  intro mp me s mm args below meth mk s₁ B hml hv
  obtain ⟨rfl, hsz, hP, hK, hD0, hG⟩ := hv
  have hx := B.exec
  have hb := B.bytes
  have hr := B.returns
  have hts := atoms_spec (ws := w_Pl_makeEmpty) B.pre
  have hw : ∀ w ∈ sw_words, w.before _ s = true := fun w h => hts w (List.mem_cons_of_mem _ h)
  have hown : s.vm.findClass R_Pl = some mm.cls := findClass_of_methodNamed B.named
  have hlocks := B.notSynchronized
  subst hsz
  have hD := hD0.self (sz := s.heap.size)
  generalize hAe : va_A [(p, .inr (1, [.ref pX, .ref pY, .ref pF, .ref pC, .ref pA, .ref pB, .ref pR, .ref pK, .int nv, .int ns, .int nw]))] s.heap.size = A at hD hG ⊢
  have hA : ∀ q : Nat, s.heap.size ≤ q → A q := fun q h => by rw [← hAe]; exact Or.inr h
  have hS : va_S A s.heap s.heap [] := va_S.rf
  have hl := lv_entry ([.ref p]) (n := 1) (Nat.le_of_ble_eq_true rfl)
  rw [lg_entry_eq]
  generalize (lg_sl ([.ref p]) ++ List.replicate (1 - (lg_sl ([.ref p])).length) Slot.unset).toArray = ls at hl ⊢
  have hl : lv_has ls 1 [(0, .ref p)] := hl
  refine lv_aload_n hx hb d_Pl_makeEmpty_0 rfl (lv_at hl 0 rfl) ?_
  refine lv_iconst (v := 0) hx hb d_Pl_makeEmpty_1 (by decide) ?_
  refine va_put (D := D) (ci := 1) (v := .int 0) (ty := t_Pl 8) (C := R_Pl) (T := F_Pl) (N := 11) hx hb hw ku_Pl t_Pl t_Pl_ok n_Pl hown hK hP hD hS 0 rfl rfl 8 (by decide) (hw _ kw_ae77367f) (fun _ h9 => h9) rfl (t_Pl_ok 8 (by decide)) rfl rfl (Nat.le_of_ble_eq_true rfl) d_Pl_makeEmpty_2 (fun H locs hP hD hS => ?_)
  replace hP : va_P D sw_cl [(p, .inr (1, [.ref pX, .ref pY, .ref pF, .ref pC, .ref pA, .ref pB, .ref pR, .ref pK, .int 0, .int ns, .int nw]))] H := hP
  replace hD : va_D A [(p, .inr (1, [.ref pX, .ref pY, .ref pF, .ref pC, .ref pA, .ref pB, .ref pR, .ref pK, .int 0, .int ns, .int nw]))] := hD
  refine lv_aload_n hx hb d_Pl_makeEmpty_5 rfl (lv_at hl 0 rfl) ?_
  refine lv_iconst (v := 0) hx hb d_Pl_makeEmpty_6 (by decide) ?_
  refine va_put (D := D) (ci := 1) (v := .int 0) (ty := t_Pl 9) (C := R_Pl) (T := F_Pl) (N := 11) hx hb hw ku_Pl t_Pl t_Pl_ok n_Pl hown hK hP hD hS 0 rfl rfl 9 (by decide) (hw _ kw_8591057a) (fun _ h9 => h9) rfl (t_Pl_ok 9 (by decide)) rfl rfl (Nat.le_of_ble_eq_true rfl) d_Pl_makeEmpty_7 (fun H locs hP hD hS => ?_)
  replace hP : va_P D sw_cl [(p, .inr (1, [.ref pX, .ref pY, .ref pF, .ref pC, .ref pA, .ref pB, .ref pR, .ref pK, .int 0, .int 0, .int nw]))] H := hP
  replace hD : va_D A [(p, .inr (1, [.ref pX, .ref pY, .ref pF, .ref pC, .ref pA, .ref pB, .ref pR, .ref pK, .int 0, .int 0, .int nw]))] := hD
  refine lv_aload_n hx hb d_Pl_makeEmpty_10 rfl (lv_at hl 0 rfl) ?_
  refine lv_iconst (v := 0) hx hb d_Pl_makeEmpty_11 (by decide) ?_
  refine va_put (D := D) (ci := 1) (v := .int 0) (ty := t_Pl 10) (C := R_Pl) (T := F_Pl) (N := 11) hx hb hw ku_Pl t_Pl t_Pl_ok n_Pl hown hK hP hD hS 0 rfl rfl 10 (by decide) (hw _ kw_733d4839) (fun _ h9 => h9) rfl (t_Pl_ok 10 (by decide)) rfl rfl (Nat.le_of_ble_eq_true rfl) d_Pl_makeEmpty_12 (fun H locs hP hD hS => ?_)
  replace hP : va_P D sw_cl [(p, .inr (1, [.ref pX, .ref pY, .ref pF, .ref pC, .ref pA, .ref pB, .ref pR, .ref pK, .int 0, .int 0, .int 0]))] H := hP
  replace hD : va_D A [(p, .inr (1, [.ref pX, .ref pY, .ref pF, .ref pC, .ref pA, .ref pB, .ref pR, .ref pK, .int 0, .int 0, .int 0]))] := hD
  have hP9 := hP.sub (ws' := [(p, .inr (1, [.ref pX, .ref pY, .ref pF, .ref pC, .ref pA, .ref pB, .ref pR, .ref pK, .int 0, .int 0, .int 0]))]) [0] rfl
  have hD9 := hD.sub (ws' := [(p, .inr (1, [.ref pX, .ref pY, .ref pF, .ref pC, .ref pA, .ref pB, .ref pR, .ref pK, .int 0, .int 0, .int 0]))]) [0] (by decide) rfl
  exact W.vret hx hb hr (fun T9 hT9 hW9 => ⟨⟨(), rfl, by first | trivial | (simp []), by rw [hT9]; exact hP9, hD9⟩, hS.F hT9⟩) hS.2.2 d_Pl_makeEmpty_15

abbrev rm_Pl_becomeCopyOf : Room := { frames := 1, cells := 0, slots := 0, locals := 18 }
abbrev q_Pl_becomeCopyOf (D : va_G) (cI cL : ClassId) (A : Nat → Prop) (p : Nat) (o : Nat) (pX : Nat) (pY : Nat) (pF : Nat) (pC : Nat) (pA : Nat) (pB : Nat) (pR : Nat) (pK : Nat) (nv : Int32) (ns : Int32) (nw : Int32) (vx : Nat → Int32) (vy : Nat → Int32) (fl : Nat → Int32) (ce : Nat → Int32) (fa : Nat → Int32) (tb : Nat → Int32) (fr : Nat → Int32) (bk : Nat → Int32) (oX : Nat) (oY : Nat) (oF : Nat) (oC : Nat) (oA : Nat) (oB : Nat) (oR : Nat) (oK : Nat) (onv : Int32) (ons : Int32) (onw : Int32) (ovx : Nat → Int32) (ovy : Nat → Int32) (ofl : Nat → Int32) (oce : Nat → Int32) (ofa : Nat → Int32) (otb : Nat → Int32) (ofr : Nat → Int32) (obk : Nat → Int32) : Array Value → State → Outcome → State → Prop := va_Qv (S := Unit) (fun (_ : Unit) => True) (sw_R D A (fun (_ : Unit) => [(p, .inr (1, [.ref pX, .ref pY, .ref pF, .ref pC, .ref pA, .ref pB, .ref pR, .ref pK, .int onv, .int ons, .int onw])), (pX, .inl (cI, 64, .inl (va_cpy ovx vx (0 : Int32).toNatClampNeg (0 : Int32).toNatClampNeg (64 : Int32).toNatClampNeg))), (pY, .inl (cI, 64, .inl (va_cpy ovy vy (0 : Int32).toNatClampNeg (0 : Int32).toNatClampNeg (64 : Int32).toNatClampNeg))), (pF, .inl (cI, 16, .inl (va_cpy ofl fl (0 : Int32).toNatClampNeg (0 : Int32).toNatClampNeg (16 : Int32).toNatClampNeg))), (pC, .inl (cI, 16, .inl (va_cpy oce ce (0 : Int32).toNatClampNeg (0 : Int32).toNatClampNeg (16 : Int32).toNatClampNeg))), (pA, .inl (cI, 64, .inl (va_cpy ofa fa (0 : Int32).toNatClampNeg (0 : Int32).toNatClampNeg (64 : Int32).toNatClampNeg))), (pB, .inl (cI, 64, .inl (va_cpy otb tb (0 : Int32).toNatClampNeg (0 : Int32).toNatClampNeg (64 : Int32).toNatClampNeg))), (pR, .inl (cI, 64, .inl (va_cpy ofr fr (0 : Int32).toNatClampNeg (0 : Int32).toNatClampNeg (64 : Int32).toNatClampNeg))), (pK, .inl (cI, 64, .inl (va_cpy obk bk (0 : Int32).toNatClampNeg (0 : Int32).toNatClampNeg (64 : Int32).toNatClampNeg))), (o, .inr (1, [.ref oX, .ref oY, .ref oF, .ref oC, .ref oA, .ref oB, .ref oR, .ref oK, .int onv, .int ons, .int onw])), (oX, .inl (cI, 64, .inl ovx)), (oY, .inl (cI, 64, .inl ovy)), (oF, .inl (cI, 16, .inl ofl)), (oC, .inl (cI, 16, .inl oce)), (oA, .inl (cI, 64, .inl ofa)), (oB, .inl (cI, 64, .inl otb)), (oR, .inl (cI, 64, .inl ofr)), (oK, .inl (cI, 64, .inl obk))])) A
set_option maxHeartbeats 4000000 in
set_option maxRecDepth 100000 in
theorem c_Pl_becomeCopyOf (l : Launch) (D : va_G) (cI cL : ClassId) (tq sz : Nat) (p : Nat) (o : Nat) (pX : Nat) (pY : Nat) (pF : Nat) (pC : Nat) (pA : Nat) (pB : Nat) (pR : Nat) (pK : Nat) (nv : Int32) (ns : Int32) (nw : Int32) (vx : Nat → Int32) (vy : Nat → Int32) (fl : Nat → Int32) (ce : Nat → Int32) (fa : Nat → Int32) (tb : Nat → Int32) (fr : Nat → Int32) (bk : Nat → Int32) (oX : Nat) (oY : Nat) (oF : Nat) (oC : Nat) (oA : Nat) (oB : Nat) (oR : Nat) (oK : Nat) (onv : Int32) (ons : Int32) (onw : Int32) (ovx : Nat → Int32) (ovy : Nat → Int32) (ofl : Nat → Int32) (oce : Nat → Int32) (ofa : Nat → Int32) (otb : Nat → Int32) (ofr : Nat → Int32) (obk : Nat → Int32) : Met l y_Pl_becomeCopyOf w_Pl_becomeCopyOf rm_Pl_becomeCopyOf (va_Pc [.ref p, .ref o] (sw_B D cI cL tq sz [(p, .inr (1, [.ref pX, .ref pY, .ref pF, .ref pC, .ref pA, .ref pB, .ref pR, .ref pK, .int nv, .int ns, .int nw])), (pX, .inl (cI, 64, .inl vx)), (pY, .inl (cI, 64, .inl vy)), (pF, .inl (cI, 16, .inl fl)), (pC, .inl (cI, 16, .inl ce)), (pA, .inl (cI, 64, .inl fa)), (pB, .inl (cI, 64, .inl tb)), (pR, .inl (cI, 64, .inl fr)), (pK, .inl (cI, 64, .inl bk)), (o, .inr (1, [.ref oX, .ref oY, .ref oF, .ref oC, .ref oA, .ref oB, .ref oR, .ref oK, .int onv, .int ons, .int onw])), (oX, .inl (cI, 64, .inl ovx)), (oY, .inl (cI, 64, .inl ovy)), (oF, .inl (cI, 16, .inl ofl)), (oC, .inl (cI, 16, .inl oce)), (oA, .inl (cI, 64, .inl ofa)), (oB, .inl (cI, 64, .inl otb)), (oR, .inl (cI, 64, .inl ofr)), (oK, .inl (cI, 64, .inl obk))])) (q_Pl_becomeCopyOf D cI cL (va_A [(p, .inr (1, [.ref pX, .ref pY, .ref pF, .ref pC, .ref pA, .ref pB, .ref pR, .ref pK, .int nv, .int ns, .int nw])), (pX, .inl (cI, 64, .inl vx)), (pY, .inl (cI, 64, .inl vy)), (pF, .inl (cI, 16, .inl fl)), (pC, .inl (cI, 16, .inl ce)), (pA, .inl (cI, 64, .inl fa)), (pB, .inl (cI, 64, .inl tb)), (pR, .inl (cI, 64, .inl fr)), (pK, .inl (cI, 64, .inl bk)), (o, .inr (1, [.ref oX, .ref oY, .ref oF, .ref oC, .ref oA, .ref oB, .ref oR, .ref oK, .int onv, .int ons, .int onw])), (oX, .inl (cI, 64, .inl ovx)), (oY, .inl (cI, 64, .inl ovy)), (oF, .inl (cI, 16, .inl ofl)), (oC, .inl (cI, 16, .inl oce)), (oA, .inl (cI, 64, .inl ofa)), (oB, .inl (cI, 64, .inl otb)), (oR, .inl (cI, 64, .inl ofr)), (oK, .inl (cI, 64, .inl obk))] sz) p o pX pY pF pC pA pB pR pK nv ns nw vx vy fl ce fa tb fr bk oX oY oF oC oA oB oR oK onv ons onw ovx ovy ofl oce ofa otb ofr obk) 0 0 (va_A [(p, .inr (1, [.ref pX, .ref pY, .ref pF, .ref pC, .ref pA, .ref pB, .ref pR, .ref pK, .int nv, .int ns, .int nw])), (pX, .inl (cI, 64, .inl vx)), (pY, .inl (cI, 64, .inl vy)), (pF, .inl (cI, 16, .inl fl)), (pC, .inl (cI, 16, .inl ce)), (pA, .inl (cI, 64, .inl fa)), (pB, .inl (cI, 64, .inl tb)), (pR, .inl (cI, 64, .inl fr)), (pK, .inl (cI, 64, .inl bk)), (o, .inr (1, [.ref oX, .ref oY, .ref oF, .ref oC, .ref oA, .ref oB, .ref oR, .ref oK, .int onv, .int ons, .int onw])), (oX, .inl (cI, 64, .inl ovx)), (oY, .inl (cI, 64, .inl ovy)), (oF, .inl (cI, 16, .inl ofl)), (oC, .inl (cI, 16, .inl oce)), (oA, .inl (cI, 64, .inl ofa)), (oB, .inl (cI, 64, .inl otb)), (oR, .inl (cI, 64, .inl ofr)), (oK, .inl (cI, 64, .inl obk))] sz) := by
  refine Met.ofW (cc := b_Pl_becomeCopyOf) (maxL := 2) (ret := none) (by decide) rfl ?_
  intro mp me s mm args below meth mk s₁ B hml hv
  obtain ⟨rfl, hsz, hP, hK, hD0, hG⟩ := hv
  have hx := B.exec
  have hb := B.bytes
  have hr := B.returns
  have hts := atoms_spec (ws := w_Pl_becomeCopyOf) B.pre
  have hw : ∀ w ∈ sw_words, w.before _ s = true := fun w h => hts w (List.mem_cons_of_mem _ h)
  have hown : s.vm.findClass R_Pl = some mm.cls := findClass_of_methodNamed B.named
  have hlocks := B.notSynchronized
  subst hsz
  have hD := hD0.self (sz := s.heap.size)
  generalize hAe : va_A [(p, .inr (1, [.ref pX, .ref pY, .ref pF, .ref pC, .ref pA, .ref pB, .ref pR, .ref pK, .int nv, .int ns, .int nw])), (pX, .inl (cI, 64, .inl vx)), (pY, .inl (cI, 64, .inl vy)), (pF, .inl (cI, 16, .inl fl)), (pC, .inl (cI, 16, .inl ce)), (pA, .inl (cI, 64, .inl fa)), (pB, .inl (cI, 64, .inl tb)), (pR, .inl (cI, 64, .inl fr)), (pK, .inl (cI, 64, .inl bk)), (o, .inr (1, [.ref oX, .ref oY, .ref oF, .ref oC, .ref oA, .ref oB, .ref oR, .ref oK, .int onv, .int ons, .int onw])), (oX, .inl (cI, 64, .inl ovx)), (oY, .inl (cI, 64, .inl ovy)), (oF, .inl (cI, 16, .inl ofl)), (oC, .inl (cI, 16, .inl oce)), (oA, .inl (cI, 64, .inl ofa)), (oB, .inl (cI, 64, .inl otb)), (oR, .inl (cI, 64, .inl ofr)), (oK, .inl (cI, 64, .inl obk))] s.heap.size = A at hD hG ⊢
  have hA : ∀ q : Nat, s.heap.size ≤ q → A q := fun q h => by rw [← hAe]; exact Or.inr h
  have hS : va_S A s.heap s.heap [] := va_S.rf
  have hl := lv_entry ([.ref p, .ref o]) (n := 2) (Nat.le_of_ble_eq_true rfl)
  rw [lg_entry_eq]
  generalize (lg_sl ([.ref p, .ref o]) ++ List.replicate (2 - (lg_sl ([.ref p, .ref o])).length) Slot.unset).toArray = ls at hl ⊢
  have hl : lv_has ls 2 [(0, .ref p), (1, .ref o)] := hl
  refine lv_aload_n hx hb d_Pl_becomeCopyOf_0 rfl (lv_at hl 1 rfl) ?_
  refine va_get (D := D) (ci := 1) (v := .ref oX) (C := R_Pl) (T := F_Pl) (N := 11) hx hb hw ku_Pl hown hK hP 9 rfl rfl 0 (by decide) (hw _ kw_8234c2ed) (fun _ h9 => h9) rfl d_Pl_becomeCopyOf_1 ?_
  refine lv_iconst (v := 0) hx hb d_Pl_becomeCopyOf_4 (by decide) ?_
  refine lv_aload_n hx hb d_Pl_becomeCopyOf_5 rfl (lv_at hl 0 rfl) ?_
  refine va_get (D := D) (ci := 1) (v := .ref pX) (C := R_Pl) (T := F_Pl) (N := 11) hx hb hw ku_Pl hown hK hP 0 rfl rfl 0 (by decide) (hw _ kw_8234c2ed) (fun _ h9 => h9) rfl d_Pl_becomeCopyOf_6 ?_
  refine lv_iconst (v := 0) hx hb d_Pl_becomeCopyOf_9 (by decide) ?_
  refine lv_bipush (v := 64) hx hb d_Pl_becomeCopyOf_10 (by decide) ?_
  refine va_copyi hx hb (hml.trans hl.1.symm) hown (hw _ kw_d7e310f2) (hw _ kw_b3787360) (hw _ kw_4da6e29e) (hw _ kw_3dc9bfbd) hK hP hD hS 10 1 0 0 rfl rfl rfl rfl rfl (by decide) (by decide) (by decide) (by decide) (by decide) (fun _ _ => rfl) (Nat.le_of_ble_eq_true rfl) (by decide) d_Pl_becomeCopyOf_12 (fun H locs hP hD hS => ?_)
  replace hP : va_P D sw_cl [(p, .inr (1, [.ref pX, .ref pY, .ref pF, .ref pC, .ref pA, .ref pB, .ref pR, .ref pK, .int nv, .int ns, .int nw])), (pX, .inl (cI, 64, .inl (va_cpy ovx vx (0 : Int32).toNatClampNeg (0 : Int32).toNatClampNeg (64 : Int32).toNatClampNeg))), (pY, .inl (cI, 64, .inl vy)), (pF, .inl (cI, 16, .inl fl)), (pC, .inl (cI, 16, .inl ce)), (pA, .inl (cI, 64, .inl fa)), (pB, .inl (cI, 64, .inl tb)), (pR, .inl (cI, 64, .inl fr)), (pK, .inl (cI, 64, .inl bk)), (o, .inr (1, [.ref oX, .ref oY, .ref oF, .ref oC, .ref oA, .ref oB, .ref oR, .ref oK, .int onv, .int ons, .int onw])), (oX, .inl (cI, 64, .inl ovx)), (oY, .inl (cI, 64, .inl ovy)), (oF, .inl (cI, 16, .inl ofl)), (oC, .inl (cI, 16, .inl oce)), (oA, .inl (cI, 64, .inl ofa)), (oB, .inl (cI, 64, .inl otb)), (oR, .inl (cI, 64, .inl ofr)), (oK, .inl (cI, 64, .inl obk))] H := hP
  replace hD : va_D A [(p, .inr (1, [.ref pX, .ref pY, .ref pF, .ref pC, .ref pA, .ref pB, .ref pR, .ref pK, .int nv, .int ns, .int nw])), (pX, .inl (cI, 64, .inl (va_cpy ovx vx (0 : Int32).toNatClampNeg (0 : Int32).toNatClampNeg (64 : Int32).toNatClampNeg))), (pY, .inl (cI, 64, .inl vy)), (pF, .inl (cI, 16, .inl fl)), (pC, .inl (cI, 16, .inl ce)), (pA, .inl (cI, 64, .inl fa)), (pB, .inl (cI, 64, .inl tb)), (pR, .inl (cI, 64, .inl fr)), (pK, .inl (cI, 64, .inl bk)), (o, .inr (1, [.ref oX, .ref oY, .ref oF, .ref oC, .ref oA, .ref oB, .ref oR, .ref oK, .int onv, .int ons, .int onw])), (oX, .inl (cI, 64, .inl ovx)), (oY, .inl (cI, 64, .inl ovy)), (oF, .inl (cI, 16, .inl ofl)), (oC, .inl (cI, 16, .inl oce)), (oA, .inl (cI, 64, .inl ofa)), (oB, .inl (cI, 64, .inl otb)), (oR, .inl (cI, 64, .inl ofr)), (oK, .inl (cI, 64, .inl obk))] := hD
  refine lv_aload_n hx hb d_Pl_becomeCopyOf_15 rfl (lv_at hl 1 rfl) ?_
  refine va_get (D := D) (ci := 1) (v := .ref oY) (C := R_Pl) (T := F_Pl) (N := 11) hx hb hw ku_Pl hown hK hP 9 rfl rfl 1 (by decide) (hw _ kw_c8115e4c) (fun _ h9 => h9) rfl d_Pl_becomeCopyOf_16 ?_
  refine lv_iconst (v := 0) hx hb d_Pl_becomeCopyOf_19 (by decide) ?_
  refine lv_aload_n hx hb d_Pl_becomeCopyOf_20 rfl (lv_at hl 0 rfl) ?_
  refine va_get (D := D) (ci := 1) (v := .ref pY) (C := R_Pl) (T := F_Pl) (N := 11) hx hb hw ku_Pl hown hK hP 0 rfl rfl 1 (by decide) (hw _ kw_c8115e4c) (fun _ h9 => h9) rfl d_Pl_becomeCopyOf_21 ?_
  refine lv_iconst (v := 0) hx hb d_Pl_becomeCopyOf_24 (by decide) ?_
  refine lv_bipush (v := 64) hx hb d_Pl_becomeCopyOf_25 (by decide) ?_
  refine va_copyi hx hb (hml.trans hl.1.symm) hown (hw _ kw_d7e310f2) (hw _ kw_b3787360) (hw _ kw_4da6e29e) (hw _ kw_3dc9bfbd) hK hP hD hS 11 2 0 0 rfl rfl rfl rfl rfl (by decide) (by decide) (by decide) (by decide) (by decide) (fun _ _ => rfl) (Nat.le_of_ble_eq_true rfl) (by decide) d_Pl_becomeCopyOf_27 (fun H locs hP hD hS => ?_)
  replace hP : va_P D sw_cl [(p, .inr (1, [.ref pX, .ref pY, .ref pF, .ref pC, .ref pA, .ref pB, .ref pR, .ref pK, .int nv, .int ns, .int nw])), (pX, .inl (cI, 64, .inl (va_cpy ovx vx (0 : Int32).toNatClampNeg (0 : Int32).toNatClampNeg (64 : Int32).toNatClampNeg))), (pY, .inl (cI, 64, .inl (va_cpy ovy vy (0 : Int32).toNatClampNeg (0 : Int32).toNatClampNeg (64 : Int32).toNatClampNeg))), (pF, .inl (cI, 16, .inl fl)), (pC, .inl (cI, 16, .inl ce)), (pA, .inl (cI, 64, .inl fa)), (pB, .inl (cI, 64, .inl tb)), (pR, .inl (cI, 64, .inl fr)), (pK, .inl (cI, 64, .inl bk)), (o, .inr (1, [.ref oX, .ref oY, .ref oF, .ref oC, .ref oA, .ref oB, .ref oR, .ref oK, .int onv, .int ons, .int onw])), (oX, .inl (cI, 64, .inl ovx)), (oY, .inl (cI, 64, .inl ovy)), (oF, .inl (cI, 16, .inl ofl)), (oC, .inl (cI, 16, .inl oce)), (oA, .inl (cI, 64, .inl ofa)), (oB, .inl (cI, 64, .inl otb)), (oR, .inl (cI, 64, .inl ofr)), (oK, .inl (cI, 64, .inl obk))] H := hP
  replace hD : va_D A [(p, .inr (1, [.ref pX, .ref pY, .ref pF, .ref pC, .ref pA, .ref pB, .ref pR, .ref pK, .int nv, .int ns, .int nw])), (pX, .inl (cI, 64, .inl (va_cpy ovx vx (0 : Int32).toNatClampNeg (0 : Int32).toNatClampNeg (64 : Int32).toNatClampNeg))), (pY, .inl (cI, 64, .inl (va_cpy ovy vy (0 : Int32).toNatClampNeg (0 : Int32).toNatClampNeg (64 : Int32).toNatClampNeg))), (pF, .inl (cI, 16, .inl fl)), (pC, .inl (cI, 16, .inl ce)), (pA, .inl (cI, 64, .inl fa)), (pB, .inl (cI, 64, .inl tb)), (pR, .inl (cI, 64, .inl fr)), (pK, .inl (cI, 64, .inl bk)), (o, .inr (1, [.ref oX, .ref oY, .ref oF, .ref oC, .ref oA, .ref oB, .ref oR, .ref oK, .int onv, .int ons, .int onw])), (oX, .inl (cI, 64, .inl ovx)), (oY, .inl (cI, 64, .inl ovy)), (oF, .inl (cI, 16, .inl ofl)), (oC, .inl (cI, 16, .inl oce)), (oA, .inl (cI, 64, .inl ofa)), (oB, .inl (cI, 64, .inl otb)), (oR, .inl (cI, 64, .inl ofr)), (oK, .inl (cI, 64, .inl obk))] := hD
  refine lv_aload_n hx hb d_Pl_becomeCopyOf_30 rfl (lv_at hl 1 rfl) ?_
  refine va_get (D := D) (ci := 1) (v := .ref oF) (C := R_Pl) (T := F_Pl) (N := 11) hx hb hw ku_Pl hown hK hP 9 rfl rfl 2 (by decide) (hw _ kw_27d57bb8) (fun _ h9 => h9) rfl d_Pl_becomeCopyOf_31 ?_
  refine lv_iconst (v := 0) hx hb d_Pl_becomeCopyOf_34 (by decide) ?_
  refine lv_aload_n hx hb d_Pl_becomeCopyOf_35 rfl (lv_at hl 0 rfl) ?_
  refine va_get (D := D) (ci := 1) (v := .ref pF) (C := R_Pl) (T := F_Pl) (N := 11) hx hb hw ku_Pl hown hK hP 0 rfl rfl 2 (by decide) (hw _ kw_27d57bb8) (fun _ h9 => h9) rfl d_Pl_becomeCopyOf_36 ?_
  refine lv_iconst (v := 0) hx hb d_Pl_becomeCopyOf_39 (by decide) ?_
  refine lv_bipush (v := 16) hx hb d_Pl_becomeCopyOf_40 (by decide) ?_
  refine va_copyi hx hb (hml.trans hl.1.symm) hown (hw _ kw_d7e310f2) (hw _ kw_b3787360) (hw _ kw_4da6e29e) (hw _ kw_3dc9bfbd) hK hP hD hS 12 3 0 0 rfl rfl rfl rfl rfl (by decide) (by decide) (by decide) (by decide) (by decide) (fun _ _ => rfl) (Nat.le_of_ble_eq_true rfl) (by decide) d_Pl_becomeCopyOf_42 (fun H locs hP hD hS => ?_)
  replace hP : va_P D sw_cl [(p, .inr (1, [.ref pX, .ref pY, .ref pF, .ref pC, .ref pA, .ref pB, .ref pR, .ref pK, .int nv, .int ns, .int nw])), (pX, .inl (cI, 64, .inl (va_cpy ovx vx (0 : Int32).toNatClampNeg (0 : Int32).toNatClampNeg (64 : Int32).toNatClampNeg))), (pY, .inl (cI, 64, .inl (va_cpy ovy vy (0 : Int32).toNatClampNeg (0 : Int32).toNatClampNeg (64 : Int32).toNatClampNeg))), (pF, .inl (cI, 16, .inl (va_cpy ofl fl (0 : Int32).toNatClampNeg (0 : Int32).toNatClampNeg (16 : Int32).toNatClampNeg))), (pC, .inl (cI, 16, .inl ce)), (pA, .inl (cI, 64, .inl fa)), (pB, .inl (cI, 64, .inl tb)), (pR, .inl (cI, 64, .inl fr)), (pK, .inl (cI, 64, .inl bk)), (o, .inr (1, [.ref oX, .ref oY, .ref oF, .ref oC, .ref oA, .ref oB, .ref oR, .ref oK, .int onv, .int ons, .int onw])), (oX, .inl (cI, 64, .inl ovx)), (oY, .inl (cI, 64, .inl ovy)), (oF, .inl (cI, 16, .inl ofl)), (oC, .inl (cI, 16, .inl oce)), (oA, .inl (cI, 64, .inl ofa)), (oB, .inl (cI, 64, .inl otb)), (oR, .inl (cI, 64, .inl ofr)), (oK, .inl (cI, 64, .inl obk))] H := hP
  replace hD : va_D A [(p, .inr (1, [.ref pX, .ref pY, .ref pF, .ref pC, .ref pA, .ref pB, .ref pR, .ref pK, .int nv, .int ns, .int nw])), (pX, .inl (cI, 64, .inl (va_cpy ovx vx (0 : Int32).toNatClampNeg (0 : Int32).toNatClampNeg (64 : Int32).toNatClampNeg))), (pY, .inl (cI, 64, .inl (va_cpy ovy vy (0 : Int32).toNatClampNeg (0 : Int32).toNatClampNeg (64 : Int32).toNatClampNeg))), (pF, .inl (cI, 16, .inl (va_cpy ofl fl (0 : Int32).toNatClampNeg (0 : Int32).toNatClampNeg (16 : Int32).toNatClampNeg))), (pC, .inl (cI, 16, .inl ce)), (pA, .inl (cI, 64, .inl fa)), (pB, .inl (cI, 64, .inl tb)), (pR, .inl (cI, 64, .inl fr)), (pK, .inl (cI, 64, .inl bk)), (o, .inr (1, [.ref oX, .ref oY, .ref oF, .ref oC, .ref oA, .ref oB, .ref oR, .ref oK, .int onv, .int ons, .int onw])), (oX, .inl (cI, 64, .inl ovx)), (oY, .inl (cI, 64, .inl ovy)), (oF, .inl (cI, 16, .inl ofl)), (oC, .inl (cI, 16, .inl oce)), (oA, .inl (cI, 64, .inl ofa)), (oB, .inl (cI, 64, .inl otb)), (oR, .inl (cI, 64, .inl ofr)), (oK, .inl (cI, 64, .inl obk))] := hD
  refine lv_aload_n hx hb d_Pl_becomeCopyOf_45 rfl (lv_at hl 1 rfl) ?_
  refine va_get (D := D) (ci := 1) (v := .ref oC) (C := R_Pl) (T := F_Pl) (N := 11) hx hb hw ku_Pl hown hK hP 9 rfl rfl 3 (by decide) (hw _ kw_65f1a660) (fun _ h9 => h9) rfl d_Pl_becomeCopyOf_46 ?_
  refine lv_iconst (v := 0) hx hb d_Pl_becomeCopyOf_49 (by decide) ?_
  refine lv_aload_n hx hb d_Pl_becomeCopyOf_50 rfl (lv_at hl 0 rfl) ?_
  refine va_get (D := D) (ci := 1) (v := .ref pC) (C := R_Pl) (T := F_Pl) (N := 11) hx hb hw ku_Pl hown hK hP 0 rfl rfl 3 (by decide) (hw _ kw_65f1a660) (fun _ h9 => h9) rfl d_Pl_becomeCopyOf_51 ?_
  refine lv_iconst (v := 0) hx hb d_Pl_becomeCopyOf_54 (by decide) ?_
  refine lv_bipush (v := 16) hx hb d_Pl_becomeCopyOf_55 (by decide) ?_
  refine va_copyi hx hb (hml.trans hl.1.symm) hown (hw _ kw_d7e310f2) (hw _ kw_b3787360) (hw _ kw_4da6e29e) (hw _ kw_3dc9bfbd) hK hP hD hS 13 4 0 0 rfl rfl rfl rfl rfl (by decide) (by decide) (by decide) (by decide) (by decide) (fun _ _ => rfl) (Nat.le_of_ble_eq_true rfl) (by decide) d_Pl_becomeCopyOf_57 (fun H locs hP hD hS => ?_)
  replace hP : va_P D sw_cl [(p, .inr (1, [.ref pX, .ref pY, .ref pF, .ref pC, .ref pA, .ref pB, .ref pR, .ref pK, .int nv, .int ns, .int nw])), (pX, .inl (cI, 64, .inl (va_cpy ovx vx (0 : Int32).toNatClampNeg (0 : Int32).toNatClampNeg (64 : Int32).toNatClampNeg))), (pY, .inl (cI, 64, .inl (va_cpy ovy vy (0 : Int32).toNatClampNeg (0 : Int32).toNatClampNeg (64 : Int32).toNatClampNeg))), (pF, .inl (cI, 16, .inl (va_cpy ofl fl (0 : Int32).toNatClampNeg (0 : Int32).toNatClampNeg (16 : Int32).toNatClampNeg))), (pC, .inl (cI, 16, .inl (va_cpy oce ce (0 : Int32).toNatClampNeg (0 : Int32).toNatClampNeg (16 : Int32).toNatClampNeg))), (pA, .inl (cI, 64, .inl fa)), (pB, .inl (cI, 64, .inl tb)), (pR, .inl (cI, 64, .inl fr)), (pK, .inl (cI, 64, .inl bk)), (o, .inr (1, [.ref oX, .ref oY, .ref oF, .ref oC, .ref oA, .ref oB, .ref oR, .ref oK, .int onv, .int ons, .int onw])), (oX, .inl (cI, 64, .inl ovx)), (oY, .inl (cI, 64, .inl ovy)), (oF, .inl (cI, 16, .inl ofl)), (oC, .inl (cI, 16, .inl oce)), (oA, .inl (cI, 64, .inl ofa)), (oB, .inl (cI, 64, .inl otb)), (oR, .inl (cI, 64, .inl ofr)), (oK, .inl (cI, 64, .inl obk))] H := hP
  replace hD : va_D A [(p, .inr (1, [.ref pX, .ref pY, .ref pF, .ref pC, .ref pA, .ref pB, .ref pR, .ref pK, .int nv, .int ns, .int nw])), (pX, .inl (cI, 64, .inl (va_cpy ovx vx (0 : Int32).toNatClampNeg (0 : Int32).toNatClampNeg (64 : Int32).toNatClampNeg))), (pY, .inl (cI, 64, .inl (va_cpy ovy vy (0 : Int32).toNatClampNeg (0 : Int32).toNatClampNeg (64 : Int32).toNatClampNeg))), (pF, .inl (cI, 16, .inl (va_cpy ofl fl (0 : Int32).toNatClampNeg (0 : Int32).toNatClampNeg (16 : Int32).toNatClampNeg))), (pC, .inl (cI, 16, .inl (va_cpy oce ce (0 : Int32).toNatClampNeg (0 : Int32).toNatClampNeg (16 : Int32).toNatClampNeg))), (pA, .inl (cI, 64, .inl fa)), (pB, .inl (cI, 64, .inl tb)), (pR, .inl (cI, 64, .inl fr)), (pK, .inl (cI, 64, .inl bk)), (o, .inr (1, [.ref oX, .ref oY, .ref oF, .ref oC, .ref oA, .ref oB, .ref oR, .ref oK, .int onv, .int ons, .int onw])), (oX, .inl (cI, 64, .inl ovx)), (oY, .inl (cI, 64, .inl ovy)), (oF, .inl (cI, 16, .inl ofl)), (oC, .inl (cI, 16, .inl oce)), (oA, .inl (cI, 64, .inl ofa)), (oB, .inl (cI, 64, .inl otb)), (oR, .inl (cI, 64, .inl ofr)), (oK, .inl (cI, 64, .inl obk))] := hD
  refine lv_aload_n hx hb d_Pl_becomeCopyOf_60 rfl (lv_at hl 1 rfl) ?_
  refine va_get (D := D) (ci := 1) (v := .ref oA) (C := R_Pl) (T := F_Pl) (N := 11) hx hb hw ku_Pl hown hK hP 9 rfl rfl 4 (by decide) (hw _ kw_8b810f0c) (fun _ h9 => h9) rfl d_Pl_becomeCopyOf_61 ?_
  refine lv_iconst (v := 0) hx hb d_Pl_becomeCopyOf_64 (by decide) ?_
  refine lv_aload_n hx hb d_Pl_becomeCopyOf_65 rfl (lv_at hl 0 rfl) ?_
  refine va_get (D := D) (ci := 1) (v := .ref pA) (C := R_Pl) (T := F_Pl) (N := 11) hx hb hw ku_Pl hown hK hP 0 rfl rfl 4 (by decide) (hw _ kw_8b810f0c) (fun _ h9 => h9) rfl d_Pl_becomeCopyOf_66 ?_
  refine lv_iconst (v := 0) hx hb d_Pl_becomeCopyOf_69 (by decide) ?_
  refine lv_bipush (v := 64) hx hb d_Pl_becomeCopyOf_70 (by decide) ?_
  refine va_copyi hx hb (hml.trans hl.1.symm) hown (hw _ kw_d7e310f2) (hw _ kw_b3787360) (hw _ kw_4da6e29e) (hw _ kw_3dc9bfbd) hK hP hD hS 14 5 0 0 rfl rfl rfl rfl rfl (by decide) (by decide) (by decide) (by decide) (by decide) (fun _ _ => rfl) (Nat.le_of_ble_eq_true rfl) (by decide) d_Pl_becomeCopyOf_72 (fun H locs hP hD hS => ?_)
  replace hP : va_P D sw_cl [(p, .inr (1, [.ref pX, .ref pY, .ref pF, .ref pC, .ref pA, .ref pB, .ref pR, .ref pK, .int nv, .int ns, .int nw])), (pX, .inl (cI, 64, .inl (va_cpy ovx vx (0 : Int32).toNatClampNeg (0 : Int32).toNatClampNeg (64 : Int32).toNatClampNeg))), (pY, .inl (cI, 64, .inl (va_cpy ovy vy (0 : Int32).toNatClampNeg (0 : Int32).toNatClampNeg (64 : Int32).toNatClampNeg))), (pF, .inl (cI, 16, .inl (va_cpy ofl fl (0 : Int32).toNatClampNeg (0 : Int32).toNatClampNeg (16 : Int32).toNatClampNeg))), (pC, .inl (cI, 16, .inl (va_cpy oce ce (0 : Int32).toNatClampNeg (0 : Int32).toNatClampNeg (16 : Int32).toNatClampNeg))), (pA, .inl (cI, 64, .inl (va_cpy ofa fa (0 : Int32).toNatClampNeg (0 : Int32).toNatClampNeg (64 : Int32).toNatClampNeg))), (pB, .inl (cI, 64, .inl tb)), (pR, .inl (cI, 64, .inl fr)), (pK, .inl (cI, 64, .inl bk)), (o, .inr (1, [.ref oX, .ref oY, .ref oF, .ref oC, .ref oA, .ref oB, .ref oR, .ref oK, .int onv, .int ons, .int onw])), (oX, .inl (cI, 64, .inl ovx)), (oY, .inl (cI, 64, .inl ovy)), (oF, .inl (cI, 16, .inl ofl)), (oC, .inl (cI, 16, .inl oce)), (oA, .inl (cI, 64, .inl ofa)), (oB, .inl (cI, 64, .inl otb)), (oR, .inl (cI, 64, .inl ofr)), (oK, .inl (cI, 64, .inl obk))] H := hP
  replace hD : va_D A [(p, .inr (1, [.ref pX, .ref pY, .ref pF, .ref pC, .ref pA, .ref pB, .ref pR, .ref pK, .int nv, .int ns, .int nw])), (pX, .inl (cI, 64, .inl (va_cpy ovx vx (0 : Int32).toNatClampNeg (0 : Int32).toNatClampNeg (64 : Int32).toNatClampNeg))), (pY, .inl (cI, 64, .inl (va_cpy ovy vy (0 : Int32).toNatClampNeg (0 : Int32).toNatClampNeg (64 : Int32).toNatClampNeg))), (pF, .inl (cI, 16, .inl (va_cpy ofl fl (0 : Int32).toNatClampNeg (0 : Int32).toNatClampNeg (16 : Int32).toNatClampNeg))), (pC, .inl (cI, 16, .inl (va_cpy oce ce (0 : Int32).toNatClampNeg (0 : Int32).toNatClampNeg (16 : Int32).toNatClampNeg))), (pA, .inl (cI, 64, .inl (va_cpy ofa fa (0 : Int32).toNatClampNeg (0 : Int32).toNatClampNeg (64 : Int32).toNatClampNeg))), (pB, .inl (cI, 64, .inl tb)), (pR, .inl (cI, 64, .inl fr)), (pK, .inl (cI, 64, .inl bk)), (o, .inr (1, [.ref oX, .ref oY, .ref oF, .ref oC, .ref oA, .ref oB, .ref oR, .ref oK, .int onv, .int ons, .int onw])), (oX, .inl (cI, 64, .inl ovx)), (oY, .inl (cI, 64, .inl ovy)), (oF, .inl (cI, 16, .inl ofl)), (oC, .inl (cI, 16, .inl oce)), (oA, .inl (cI, 64, .inl ofa)), (oB, .inl (cI, 64, .inl otb)), (oR, .inl (cI, 64, .inl ofr)), (oK, .inl (cI, 64, .inl obk))] := hD
  refine lv_aload_n hx hb d_Pl_becomeCopyOf_75 rfl (lv_at hl 1 rfl) ?_
  refine va_get (D := D) (ci := 1) (v := .ref oB) (C := R_Pl) (T := F_Pl) (N := 11) hx hb hw ku_Pl hown hK hP 9 rfl rfl 5 (by decide) (hw _ kw_1e4d1ebb) (fun _ h9 => h9) rfl d_Pl_becomeCopyOf_76 ?_
  refine lv_iconst (v := 0) hx hb d_Pl_becomeCopyOf_79 (by decide) ?_
  refine lv_aload_n hx hb d_Pl_becomeCopyOf_80 rfl (lv_at hl 0 rfl) ?_
  refine va_get (D := D) (ci := 1) (v := .ref pB) (C := R_Pl) (T := F_Pl) (N := 11) hx hb hw ku_Pl hown hK hP 0 rfl rfl 5 (by decide) (hw _ kw_1e4d1ebb) (fun _ h9 => h9) rfl d_Pl_becomeCopyOf_81 ?_
  refine lv_iconst (v := 0) hx hb d_Pl_becomeCopyOf_84 (by decide) ?_
  refine lv_bipush (v := 64) hx hb d_Pl_becomeCopyOf_85 (by decide) ?_
  refine va_copyi hx hb (hml.trans hl.1.symm) hown (hw _ kw_d7e310f2) (hw _ kw_b3787360) (hw _ kw_4da6e29e) (hw _ kw_3dc9bfbd) hK hP hD hS 15 6 0 0 rfl rfl rfl rfl rfl (by decide) (by decide) (by decide) (by decide) (by decide) (fun _ _ => rfl) (Nat.le_of_ble_eq_true rfl) (by decide) d_Pl_becomeCopyOf_87 (fun H locs hP hD hS => ?_)
  replace hP : va_P D sw_cl [(p, .inr (1, [.ref pX, .ref pY, .ref pF, .ref pC, .ref pA, .ref pB, .ref pR, .ref pK, .int nv, .int ns, .int nw])), (pX, .inl (cI, 64, .inl (va_cpy ovx vx (0 : Int32).toNatClampNeg (0 : Int32).toNatClampNeg (64 : Int32).toNatClampNeg))), (pY, .inl (cI, 64, .inl (va_cpy ovy vy (0 : Int32).toNatClampNeg (0 : Int32).toNatClampNeg (64 : Int32).toNatClampNeg))), (pF, .inl (cI, 16, .inl (va_cpy ofl fl (0 : Int32).toNatClampNeg (0 : Int32).toNatClampNeg (16 : Int32).toNatClampNeg))), (pC, .inl (cI, 16, .inl (va_cpy oce ce (0 : Int32).toNatClampNeg (0 : Int32).toNatClampNeg (16 : Int32).toNatClampNeg))), (pA, .inl (cI, 64, .inl (va_cpy ofa fa (0 : Int32).toNatClampNeg (0 : Int32).toNatClampNeg (64 : Int32).toNatClampNeg))), (pB, .inl (cI, 64, .inl (va_cpy otb tb (0 : Int32).toNatClampNeg (0 : Int32).toNatClampNeg (64 : Int32).toNatClampNeg))), (pR, .inl (cI, 64, .inl fr)), (pK, .inl (cI, 64, .inl bk)), (o, .inr (1, [.ref oX, .ref oY, .ref oF, .ref oC, .ref oA, .ref oB, .ref oR, .ref oK, .int onv, .int ons, .int onw])), (oX, .inl (cI, 64, .inl ovx)), (oY, .inl (cI, 64, .inl ovy)), (oF, .inl (cI, 16, .inl ofl)), (oC, .inl (cI, 16, .inl oce)), (oA, .inl (cI, 64, .inl ofa)), (oB, .inl (cI, 64, .inl otb)), (oR, .inl (cI, 64, .inl ofr)), (oK, .inl (cI, 64, .inl obk))] H := hP
  replace hD : va_D A [(p, .inr (1, [.ref pX, .ref pY, .ref pF, .ref pC, .ref pA, .ref pB, .ref pR, .ref pK, .int nv, .int ns, .int nw])), (pX, .inl (cI, 64, .inl (va_cpy ovx vx (0 : Int32).toNatClampNeg (0 : Int32).toNatClampNeg (64 : Int32).toNatClampNeg))), (pY, .inl (cI, 64, .inl (va_cpy ovy vy (0 : Int32).toNatClampNeg (0 : Int32).toNatClampNeg (64 : Int32).toNatClampNeg))), (pF, .inl (cI, 16, .inl (va_cpy ofl fl (0 : Int32).toNatClampNeg (0 : Int32).toNatClampNeg (16 : Int32).toNatClampNeg))), (pC, .inl (cI, 16, .inl (va_cpy oce ce (0 : Int32).toNatClampNeg (0 : Int32).toNatClampNeg (16 : Int32).toNatClampNeg))), (pA, .inl (cI, 64, .inl (va_cpy ofa fa (0 : Int32).toNatClampNeg (0 : Int32).toNatClampNeg (64 : Int32).toNatClampNeg))), (pB, .inl (cI, 64, .inl (va_cpy otb tb (0 : Int32).toNatClampNeg (0 : Int32).toNatClampNeg (64 : Int32).toNatClampNeg))), (pR, .inl (cI, 64, .inl fr)), (pK, .inl (cI, 64, .inl bk)), (o, .inr (1, [.ref oX, .ref oY, .ref oF, .ref oC, .ref oA, .ref oB, .ref oR, .ref oK, .int onv, .int ons, .int onw])), (oX, .inl (cI, 64, .inl ovx)), (oY, .inl (cI, 64, .inl ovy)), (oF, .inl (cI, 16, .inl ofl)), (oC, .inl (cI, 16, .inl oce)), (oA, .inl (cI, 64, .inl ofa)), (oB, .inl (cI, 64, .inl otb)), (oR, .inl (cI, 64, .inl ofr)), (oK, .inl (cI, 64, .inl obk))] := hD
  refine lv_aload_n hx hb d_Pl_becomeCopyOf_90 rfl (lv_at hl 1 rfl) ?_
  refine va_get (D := D) (ci := 1) (v := .ref oR) (C := R_Pl) (T := F_Pl) (N := 11) hx hb hw ku_Pl hown hK hP 9 rfl rfl 6 (by decide) (hw _ kw_3f39eaf5) (fun _ h9 => h9) rfl d_Pl_becomeCopyOf_91 ?_
  refine lv_iconst (v := 0) hx hb d_Pl_becomeCopyOf_94 (by decide) ?_
  refine lv_aload_n hx hb d_Pl_becomeCopyOf_95 rfl (lv_at hl 0 rfl) ?_
  refine va_get (D := D) (ci := 1) (v := .ref pR) (C := R_Pl) (T := F_Pl) (N := 11) hx hb hw ku_Pl hown hK hP 0 rfl rfl 6 (by decide) (hw _ kw_3f39eaf5) (fun _ h9 => h9) rfl d_Pl_becomeCopyOf_96 ?_
  refine lv_iconst (v := 0) hx hb d_Pl_becomeCopyOf_99 (by decide) ?_
  refine lv_bipush (v := 64) hx hb d_Pl_becomeCopyOf_100 (by decide) ?_
  refine va_copyi hx hb (hml.trans hl.1.symm) hown (hw _ kw_d7e310f2) (hw _ kw_b3787360) (hw _ kw_4da6e29e) (hw _ kw_3dc9bfbd) hK hP hD hS 16 7 0 0 rfl rfl rfl rfl rfl (by decide) (by decide) (by decide) (by decide) (by decide) (fun _ _ => rfl) (Nat.le_of_ble_eq_true rfl) (by decide) d_Pl_becomeCopyOf_102 (fun H locs hP hD hS => ?_)
  replace hP : va_P D sw_cl [(p, .inr (1, [.ref pX, .ref pY, .ref pF, .ref pC, .ref pA, .ref pB, .ref pR, .ref pK, .int nv, .int ns, .int nw])), (pX, .inl (cI, 64, .inl (va_cpy ovx vx (0 : Int32).toNatClampNeg (0 : Int32).toNatClampNeg (64 : Int32).toNatClampNeg))), (pY, .inl (cI, 64, .inl (va_cpy ovy vy (0 : Int32).toNatClampNeg (0 : Int32).toNatClampNeg (64 : Int32).toNatClampNeg))), (pF, .inl (cI, 16, .inl (va_cpy ofl fl (0 : Int32).toNatClampNeg (0 : Int32).toNatClampNeg (16 : Int32).toNatClampNeg))), (pC, .inl (cI, 16, .inl (va_cpy oce ce (0 : Int32).toNatClampNeg (0 : Int32).toNatClampNeg (16 : Int32).toNatClampNeg))), (pA, .inl (cI, 64, .inl (va_cpy ofa fa (0 : Int32).toNatClampNeg (0 : Int32).toNatClampNeg (64 : Int32).toNatClampNeg))), (pB, .inl (cI, 64, .inl (va_cpy otb tb (0 : Int32).toNatClampNeg (0 : Int32).toNatClampNeg (64 : Int32).toNatClampNeg))), (pR, .inl (cI, 64, .inl (va_cpy ofr fr (0 : Int32).toNatClampNeg (0 : Int32).toNatClampNeg (64 : Int32).toNatClampNeg))), (pK, .inl (cI, 64, .inl bk)), (o, .inr (1, [.ref oX, .ref oY, .ref oF, .ref oC, .ref oA, .ref oB, .ref oR, .ref oK, .int onv, .int ons, .int onw])), (oX, .inl (cI, 64, .inl ovx)), (oY, .inl (cI, 64, .inl ovy)), (oF, .inl (cI, 16, .inl ofl)), (oC, .inl (cI, 16, .inl oce)), (oA, .inl (cI, 64, .inl ofa)), (oB, .inl (cI, 64, .inl otb)), (oR, .inl (cI, 64, .inl ofr)), (oK, .inl (cI, 64, .inl obk))] H := hP
  replace hD : va_D A [(p, .inr (1, [.ref pX, .ref pY, .ref pF, .ref pC, .ref pA, .ref pB, .ref pR, .ref pK, .int nv, .int ns, .int nw])), (pX, .inl (cI, 64, .inl (va_cpy ovx vx (0 : Int32).toNatClampNeg (0 : Int32).toNatClampNeg (64 : Int32).toNatClampNeg))), (pY, .inl (cI, 64, .inl (va_cpy ovy vy (0 : Int32).toNatClampNeg (0 : Int32).toNatClampNeg (64 : Int32).toNatClampNeg))), (pF, .inl (cI, 16, .inl (va_cpy ofl fl (0 : Int32).toNatClampNeg (0 : Int32).toNatClampNeg (16 : Int32).toNatClampNeg))), (pC, .inl (cI, 16, .inl (va_cpy oce ce (0 : Int32).toNatClampNeg (0 : Int32).toNatClampNeg (16 : Int32).toNatClampNeg))), (pA, .inl (cI, 64, .inl (va_cpy ofa fa (0 : Int32).toNatClampNeg (0 : Int32).toNatClampNeg (64 : Int32).toNatClampNeg))), (pB, .inl (cI, 64, .inl (va_cpy otb tb (0 : Int32).toNatClampNeg (0 : Int32).toNatClampNeg (64 : Int32).toNatClampNeg))), (pR, .inl (cI, 64, .inl (va_cpy ofr fr (0 : Int32).toNatClampNeg (0 : Int32).toNatClampNeg (64 : Int32).toNatClampNeg))), (pK, .inl (cI, 64, .inl bk)), (o, .inr (1, [.ref oX, .ref oY, .ref oF, .ref oC, .ref oA, .ref oB, .ref oR, .ref oK, .int onv, .int ons, .int onw])), (oX, .inl (cI, 64, .inl ovx)), (oY, .inl (cI, 64, .inl ovy)), (oF, .inl (cI, 16, .inl ofl)), (oC, .inl (cI, 16, .inl oce)), (oA, .inl (cI, 64, .inl ofa)), (oB, .inl (cI, 64, .inl otb)), (oR, .inl (cI, 64, .inl ofr)), (oK, .inl (cI, 64, .inl obk))] := hD
  refine lv_aload_n hx hb d_Pl_becomeCopyOf_105 rfl (lv_at hl 1 rfl) ?_
  refine va_get (D := D) (ci := 1) (v := .ref oK) (C := R_Pl) (T := F_Pl) (N := 11) hx hb hw ku_Pl hown hK hP 9 rfl rfl 7 (by decide) (hw _ kw_fa356e2a) (fun _ h9 => h9) rfl d_Pl_becomeCopyOf_106 ?_
  refine lv_iconst (v := 0) hx hb d_Pl_becomeCopyOf_109 (by decide) ?_
  refine lv_aload_n hx hb d_Pl_becomeCopyOf_110 rfl (lv_at hl 0 rfl) ?_
  refine va_get (D := D) (ci := 1) (v := .ref pK) (C := R_Pl) (T := F_Pl) (N := 11) hx hb hw ku_Pl hown hK hP 0 rfl rfl 7 (by decide) (hw _ kw_fa356e2a) (fun _ h9 => h9) rfl d_Pl_becomeCopyOf_111 ?_
  refine lv_iconst (v := 0) hx hb d_Pl_becomeCopyOf_114 (by decide) ?_
  refine lv_bipush (v := 64) hx hb d_Pl_becomeCopyOf_115 (by decide) ?_
  refine va_copyi hx hb (hml.trans hl.1.symm) hown (hw _ kw_d7e310f2) (hw _ kw_b3787360) (hw _ kw_4da6e29e) (hw _ kw_3dc9bfbd) hK hP hD hS 17 8 0 0 rfl rfl rfl rfl rfl (by decide) (by decide) (by decide) (by decide) (by decide) (fun _ _ => rfl) (Nat.le_of_ble_eq_true rfl) (by decide) d_Pl_becomeCopyOf_117 (fun H locs hP hD hS => ?_)
  replace hP : va_P D sw_cl [(p, .inr (1, [.ref pX, .ref pY, .ref pF, .ref pC, .ref pA, .ref pB, .ref pR, .ref pK, .int nv, .int ns, .int nw])), (pX, .inl (cI, 64, .inl (va_cpy ovx vx (0 : Int32).toNatClampNeg (0 : Int32).toNatClampNeg (64 : Int32).toNatClampNeg))), (pY, .inl (cI, 64, .inl (va_cpy ovy vy (0 : Int32).toNatClampNeg (0 : Int32).toNatClampNeg (64 : Int32).toNatClampNeg))), (pF, .inl (cI, 16, .inl (va_cpy ofl fl (0 : Int32).toNatClampNeg (0 : Int32).toNatClampNeg (16 : Int32).toNatClampNeg))), (pC, .inl (cI, 16, .inl (va_cpy oce ce (0 : Int32).toNatClampNeg (0 : Int32).toNatClampNeg (16 : Int32).toNatClampNeg))), (pA, .inl (cI, 64, .inl (va_cpy ofa fa (0 : Int32).toNatClampNeg (0 : Int32).toNatClampNeg (64 : Int32).toNatClampNeg))), (pB, .inl (cI, 64, .inl (va_cpy otb tb (0 : Int32).toNatClampNeg (0 : Int32).toNatClampNeg (64 : Int32).toNatClampNeg))), (pR, .inl (cI, 64, .inl (va_cpy ofr fr (0 : Int32).toNatClampNeg (0 : Int32).toNatClampNeg (64 : Int32).toNatClampNeg))), (pK, .inl (cI, 64, .inl (va_cpy obk bk (0 : Int32).toNatClampNeg (0 : Int32).toNatClampNeg (64 : Int32).toNatClampNeg))), (o, .inr (1, [.ref oX, .ref oY, .ref oF, .ref oC, .ref oA, .ref oB, .ref oR, .ref oK, .int onv, .int ons, .int onw])), (oX, .inl (cI, 64, .inl ovx)), (oY, .inl (cI, 64, .inl ovy)), (oF, .inl (cI, 16, .inl ofl)), (oC, .inl (cI, 16, .inl oce)), (oA, .inl (cI, 64, .inl ofa)), (oB, .inl (cI, 64, .inl otb)), (oR, .inl (cI, 64, .inl ofr)), (oK, .inl (cI, 64, .inl obk))] H := hP
  replace hD : va_D A [(p, .inr (1, [.ref pX, .ref pY, .ref pF, .ref pC, .ref pA, .ref pB, .ref pR, .ref pK, .int nv, .int ns, .int nw])), (pX, .inl (cI, 64, .inl (va_cpy ovx vx (0 : Int32).toNatClampNeg (0 : Int32).toNatClampNeg (64 : Int32).toNatClampNeg))), (pY, .inl (cI, 64, .inl (va_cpy ovy vy (0 : Int32).toNatClampNeg (0 : Int32).toNatClampNeg (64 : Int32).toNatClampNeg))), (pF, .inl (cI, 16, .inl (va_cpy ofl fl (0 : Int32).toNatClampNeg (0 : Int32).toNatClampNeg (16 : Int32).toNatClampNeg))), (pC, .inl (cI, 16, .inl (va_cpy oce ce (0 : Int32).toNatClampNeg (0 : Int32).toNatClampNeg (16 : Int32).toNatClampNeg))), (pA, .inl (cI, 64, .inl (va_cpy ofa fa (0 : Int32).toNatClampNeg (0 : Int32).toNatClampNeg (64 : Int32).toNatClampNeg))), (pB, .inl (cI, 64, .inl (va_cpy otb tb (0 : Int32).toNatClampNeg (0 : Int32).toNatClampNeg (64 : Int32).toNatClampNeg))), (pR, .inl (cI, 64, .inl (va_cpy ofr fr (0 : Int32).toNatClampNeg (0 : Int32).toNatClampNeg (64 : Int32).toNatClampNeg))), (pK, .inl (cI, 64, .inl (va_cpy obk bk (0 : Int32).toNatClampNeg (0 : Int32).toNatClampNeg (64 : Int32).toNatClampNeg))), (o, .inr (1, [.ref oX, .ref oY, .ref oF, .ref oC, .ref oA, .ref oB, .ref oR, .ref oK, .int onv, .int ons, .int onw])), (oX, .inl (cI, 64, .inl ovx)), (oY, .inl (cI, 64, .inl ovy)), (oF, .inl (cI, 16, .inl ofl)), (oC, .inl (cI, 16, .inl oce)), (oA, .inl (cI, 64, .inl ofa)), (oB, .inl (cI, 64, .inl otb)), (oR, .inl (cI, 64, .inl ofr)), (oK, .inl (cI, 64, .inl obk))] := hD
  refine lv_aload_n hx hb d_Pl_becomeCopyOf_120 rfl (lv_at hl 0 rfl) ?_
  refine lv_aload_n hx hb d_Pl_becomeCopyOf_121 rfl (lv_at hl 1 rfl) ?_
  refine va_get (D := D) (ci := 1) (v := .int onv) (C := R_Pl) (T := F_Pl) (N := 11) hx hb hw ku_Pl hown hK hP 9 rfl rfl 8 (by decide) (hw _ kw_ae77367f) (fun _ h9 => h9) rfl d_Pl_becomeCopyOf_122 ?_
  refine va_put (D := D) (ci := 1) (v := .int onv) (ty := t_Pl 8) (C := R_Pl) (T := F_Pl) (N := 11) hx hb hw ku_Pl t_Pl t_Pl_ok n_Pl hown hK hP hD hS 0 rfl rfl 8 (by decide) (hw _ kw_ae77367f) (fun _ h9 => h9) rfl (t_Pl_ok 8 (by decide)) rfl rfl (Nat.le_of_ble_eq_true rfl) d_Pl_becomeCopyOf_125 (fun H locs hP hD hS => ?_)
  replace hP : va_P D sw_cl [(p, .inr (1, [.ref pX, .ref pY, .ref pF, .ref pC, .ref pA, .ref pB, .ref pR, .ref pK, .int onv, .int ns, .int nw])), (pX, .inl (cI, 64, .inl (va_cpy ovx vx (0 : Int32).toNatClampNeg (0 : Int32).toNatClampNeg (64 : Int32).toNatClampNeg))), (pY, .inl (cI, 64, .inl (va_cpy ovy vy (0 : Int32).toNatClampNeg (0 : Int32).toNatClampNeg (64 : Int32).toNatClampNeg))), (pF, .inl (cI, 16, .inl (va_cpy ofl fl (0 : Int32).toNatClampNeg (0 : Int32).toNatClampNeg (16 : Int32).toNatClampNeg))), (pC, .inl (cI, 16, .inl (va_cpy oce ce (0 : Int32).toNatClampNeg (0 : Int32).toNatClampNeg (16 : Int32).toNatClampNeg))), (pA, .inl (cI, 64, .inl (va_cpy ofa fa (0 : Int32).toNatClampNeg (0 : Int32).toNatClampNeg (64 : Int32).toNatClampNeg))), (pB, .inl (cI, 64, .inl (va_cpy otb tb (0 : Int32).toNatClampNeg (0 : Int32).toNatClampNeg (64 : Int32).toNatClampNeg))), (pR, .inl (cI, 64, .inl (va_cpy ofr fr (0 : Int32).toNatClampNeg (0 : Int32).toNatClampNeg (64 : Int32).toNatClampNeg))), (pK, .inl (cI, 64, .inl (va_cpy obk bk (0 : Int32).toNatClampNeg (0 : Int32).toNatClampNeg (64 : Int32).toNatClampNeg))), (o, .inr (1, [.ref oX, .ref oY, .ref oF, .ref oC, .ref oA, .ref oB, .ref oR, .ref oK, .int onv, .int ons, .int onw])), (oX, .inl (cI, 64, .inl ovx)), (oY, .inl (cI, 64, .inl ovy)), (oF, .inl (cI, 16, .inl ofl)), (oC, .inl (cI, 16, .inl oce)), (oA, .inl (cI, 64, .inl ofa)), (oB, .inl (cI, 64, .inl otb)), (oR, .inl (cI, 64, .inl ofr)), (oK, .inl (cI, 64, .inl obk))] H := hP
  replace hD : va_D A [(p, .inr (1, [.ref pX, .ref pY, .ref pF, .ref pC, .ref pA, .ref pB, .ref pR, .ref pK, .int onv, .int ns, .int nw])), (pX, .inl (cI, 64, .inl (va_cpy ovx vx (0 : Int32).toNatClampNeg (0 : Int32).toNatClampNeg (64 : Int32).toNatClampNeg))), (pY, .inl (cI, 64, .inl (va_cpy ovy vy (0 : Int32).toNatClampNeg (0 : Int32).toNatClampNeg (64 : Int32).toNatClampNeg))), (pF, .inl (cI, 16, .inl (va_cpy ofl fl (0 : Int32).toNatClampNeg (0 : Int32).toNatClampNeg (16 : Int32).toNatClampNeg))), (pC, .inl (cI, 16, .inl (va_cpy oce ce (0 : Int32).toNatClampNeg (0 : Int32).toNatClampNeg (16 : Int32).toNatClampNeg))), (pA, .inl (cI, 64, .inl (va_cpy ofa fa (0 : Int32).toNatClampNeg (0 : Int32).toNatClampNeg (64 : Int32).toNatClampNeg))), (pB, .inl (cI, 64, .inl (va_cpy otb tb (0 : Int32).toNatClampNeg (0 : Int32).toNatClampNeg (64 : Int32).toNatClampNeg))), (pR, .inl (cI, 64, .inl (va_cpy ofr fr (0 : Int32).toNatClampNeg (0 : Int32).toNatClampNeg (64 : Int32).toNatClampNeg))), (pK, .inl (cI, 64, .inl (va_cpy obk bk (0 : Int32).toNatClampNeg (0 : Int32).toNatClampNeg (64 : Int32).toNatClampNeg))), (o, .inr (1, [.ref oX, .ref oY, .ref oF, .ref oC, .ref oA, .ref oB, .ref oR, .ref oK, .int onv, .int ons, .int onw])), (oX, .inl (cI, 64, .inl ovx)), (oY, .inl (cI, 64, .inl ovy)), (oF, .inl (cI, 16, .inl ofl)), (oC, .inl (cI, 16, .inl oce)), (oA, .inl (cI, 64, .inl ofa)), (oB, .inl (cI, 64, .inl otb)), (oR, .inl (cI, 64, .inl ofr)), (oK, .inl (cI, 64, .inl obk))] := hD
  refine lv_aload_n hx hb d_Pl_becomeCopyOf_128 rfl (lv_at hl 0 rfl) ?_
  refine lv_aload_n hx hb d_Pl_becomeCopyOf_129 rfl (lv_at hl 1 rfl) ?_
  refine va_get (D := D) (ci := 1) (v := .int ons) (C := R_Pl) (T := F_Pl) (N := 11) hx hb hw ku_Pl hown hK hP 9 rfl rfl 9 (by decide) (hw _ kw_8591057a) (fun _ h9 => h9) rfl d_Pl_becomeCopyOf_130 ?_
  refine va_put (D := D) (ci := 1) (v := .int ons) (ty := t_Pl 9) (C := R_Pl) (T := F_Pl) (N := 11) hx hb hw ku_Pl t_Pl t_Pl_ok n_Pl hown hK hP hD hS 0 rfl rfl 9 (by decide) (hw _ kw_8591057a) (fun _ h9 => h9) rfl (t_Pl_ok 9 (by decide)) rfl rfl (Nat.le_of_ble_eq_true rfl) d_Pl_becomeCopyOf_133 (fun H locs hP hD hS => ?_)
  replace hP : va_P D sw_cl [(p, .inr (1, [.ref pX, .ref pY, .ref pF, .ref pC, .ref pA, .ref pB, .ref pR, .ref pK, .int onv, .int ons, .int nw])), (pX, .inl (cI, 64, .inl (va_cpy ovx vx (0 : Int32).toNatClampNeg (0 : Int32).toNatClampNeg (64 : Int32).toNatClampNeg))), (pY, .inl (cI, 64, .inl (va_cpy ovy vy (0 : Int32).toNatClampNeg (0 : Int32).toNatClampNeg (64 : Int32).toNatClampNeg))), (pF, .inl (cI, 16, .inl (va_cpy ofl fl (0 : Int32).toNatClampNeg (0 : Int32).toNatClampNeg (16 : Int32).toNatClampNeg))), (pC, .inl (cI, 16, .inl (va_cpy oce ce (0 : Int32).toNatClampNeg (0 : Int32).toNatClampNeg (16 : Int32).toNatClampNeg))), (pA, .inl (cI, 64, .inl (va_cpy ofa fa (0 : Int32).toNatClampNeg (0 : Int32).toNatClampNeg (64 : Int32).toNatClampNeg))), (pB, .inl (cI, 64, .inl (va_cpy otb tb (0 : Int32).toNatClampNeg (0 : Int32).toNatClampNeg (64 : Int32).toNatClampNeg))), (pR, .inl (cI, 64, .inl (va_cpy ofr fr (0 : Int32).toNatClampNeg (0 : Int32).toNatClampNeg (64 : Int32).toNatClampNeg))), (pK, .inl (cI, 64, .inl (va_cpy obk bk (0 : Int32).toNatClampNeg (0 : Int32).toNatClampNeg (64 : Int32).toNatClampNeg))), (o, .inr (1, [.ref oX, .ref oY, .ref oF, .ref oC, .ref oA, .ref oB, .ref oR, .ref oK, .int onv, .int ons, .int onw])), (oX, .inl (cI, 64, .inl ovx)), (oY, .inl (cI, 64, .inl ovy)), (oF, .inl (cI, 16, .inl ofl)), (oC, .inl (cI, 16, .inl oce)), (oA, .inl (cI, 64, .inl ofa)), (oB, .inl (cI, 64, .inl otb)), (oR, .inl (cI, 64, .inl ofr)), (oK, .inl (cI, 64, .inl obk))] H := hP
  replace hD : va_D A [(p, .inr (1, [.ref pX, .ref pY, .ref pF, .ref pC, .ref pA, .ref pB, .ref pR, .ref pK, .int onv, .int ons, .int nw])), (pX, .inl (cI, 64, .inl (va_cpy ovx vx (0 : Int32).toNatClampNeg (0 : Int32).toNatClampNeg (64 : Int32).toNatClampNeg))), (pY, .inl (cI, 64, .inl (va_cpy ovy vy (0 : Int32).toNatClampNeg (0 : Int32).toNatClampNeg (64 : Int32).toNatClampNeg))), (pF, .inl (cI, 16, .inl (va_cpy ofl fl (0 : Int32).toNatClampNeg (0 : Int32).toNatClampNeg (16 : Int32).toNatClampNeg))), (pC, .inl (cI, 16, .inl (va_cpy oce ce (0 : Int32).toNatClampNeg (0 : Int32).toNatClampNeg (16 : Int32).toNatClampNeg))), (pA, .inl (cI, 64, .inl (va_cpy ofa fa (0 : Int32).toNatClampNeg (0 : Int32).toNatClampNeg (64 : Int32).toNatClampNeg))), (pB, .inl (cI, 64, .inl (va_cpy otb tb (0 : Int32).toNatClampNeg (0 : Int32).toNatClampNeg (64 : Int32).toNatClampNeg))), (pR, .inl (cI, 64, .inl (va_cpy ofr fr (0 : Int32).toNatClampNeg (0 : Int32).toNatClampNeg (64 : Int32).toNatClampNeg))), (pK, .inl (cI, 64, .inl (va_cpy obk bk (0 : Int32).toNatClampNeg (0 : Int32).toNatClampNeg (64 : Int32).toNatClampNeg))), (o, .inr (1, [.ref oX, .ref oY, .ref oF, .ref oC, .ref oA, .ref oB, .ref oR, .ref oK, .int onv, .int ons, .int onw])), (oX, .inl (cI, 64, .inl ovx)), (oY, .inl (cI, 64, .inl ovy)), (oF, .inl (cI, 16, .inl ofl)), (oC, .inl (cI, 16, .inl oce)), (oA, .inl (cI, 64, .inl ofa)), (oB, .inl (cI, 64, .inl otb)), (oR, .inl (cI, 64, .inl ofr)), (oK, .inl (cI, 64, .inl obk))] := hD
  refine lv_aload_n hx hb d_Pl_becomeCopyOf_136 rfl (lv_at hl 0 rfl) ?_
  refine lv_aload_n hx hb d_Pl_becomeCopyOf_137 rfl (lv_at hl 1 rfl) ?_
  refine va_get (D := D) (ci := 1) (v := .int onw) (C := R_Pl) (T := F_Pl) (N := 11) hx hb hw ku_Pl hown hK hP 9 rfl rfl 10 (by decide) (hw _ kw_733d4839) (fun _ h9 => h9) rfl d_Pl_becomeCopyOf_138 ?_
  refine va_put (D := D) (ci := 1) (v := .int onw) (ty := t_Pl 10) (C := R_Pl) (T := F_Pl) (N := 11) hx hb hw ku_Pl t_Pl t_Pl_ok n_Pl hown hK hP hD hS 0 rfl rfl 10 (by decide) (hw _ kw_733d4839) (fun _ h9 => h9) rfl (t_Pl_ok 10 (by decide)) rfl rfl (Nat.le_of_ble_eq_true rfl) d_Pl_becomeCopyOf_141 (fun H locs hP hD hS => ?_)
  replace hP : va_P D sw_cl [(p, .inr (1, [.ref pX, .ref pY, .ref pF, .ref pC, .ref pA, .ref pB, .ref pR, .ref pK, .int onv, .int ons, .int onw])), (pX, .inl (cI, 64, .inl (va_cpy ovx vx (0 : Int32).toNatClampNeg (0 : Int32).toNatClampNeg (64 : Int32).toNatClampNeg))), (pY, .inl (cI, 64, .inl (va_cpy ovy vy (0 : Int32).toNatClampNeg (0 : Int32).toNatClampNeg (64 : Int32).toNatClampNeg))), (pF, .inl (cI, 16, .inl (va_cpy ofl fl (0 : Int32).toNatClampNeg (0 : Int32).toNatClampNeg (16 : Int32).toNatClampNeg))), (pC, .inl (cI, 16, .inl (va_cpy oce ce (0 : Int32).toNatClampNeg (0 : Int32).toNatClampNeg (16 : Int32).toNatClampNeg))), (pA, .inl (cI, 64, .inl (va_cpy ofa fa (0 : Int32).toNatClampNeg (0 : Int32).toNatClampNeg (64 : Int32).toNatClampNeg))), (pB, .inl (cI, 64, .inl (va_cpy otb tb (0 : Int32).toNatClampNeg (0 : Int32).toNatClampNeg (64 : Int32).toNatClampNeg))), (pR, .inl (cI, 64, .inl (va_cpy ofr fr (0 : Int32).toNatClampNeg (0 : Int32).toNatClampNeg (64 : Int32).toNatClampNeg))), (pK, .inl (cI, 64, .inl (va_cpy obk bk (0 : Int32).toNatClampNeg (0 : Int32).toNatClampNeg (64 : Int32).toNatClampNeg))), (o, .inr (1, [.ref oX, .ref oY, .ref oF, .ref oC, .ref oA, .ref oB, .ref oR, .ref oK, .int onv, .int ons, .int onw])), (oX, .inl (cI, 64, .inl ovx)), (oY, .inl (cI, 64, .inl ovy)), (oF, .inl (cI, 16, .inl ofl)), (oC, .inl (cI, 16, .inl oce)), (oA, .inl (cI, 64, .inl ofa)), (oB, .inl (cI, 64, .inl otb)), (oR, .inl (cI, 64, .inl ofr)), (oK, .inl (cI, 64, .inl obk))] H := hP
  replace hD : va_D A [(p, .inr (1, [.ref pX, .ref pY, .ref pF, .ref pC, .ref pA, .ref pB, .ref pR, .ref pK, .int onv, .int ons, .int onw])), (pX, .inl (cI, 64, .inl (va_cpy ovx vx (0 : Int32).toNatClampNeg (0 : Int32).toNatClampNeg (64 : Int32).toNatClampNeg))), (pY, .inl (cI, 64, .inl (va_cpy ovy vy (0 : Int32).toNatClampNeg (0 : Int32).toNatClampNeg (64 : Int32).toNatClampNeg))), (pF, .inl (cI, 16, .inl (va_cpy ofl fl (0 : Int32).toNatClampNeg (0 : Int32).toNatClampNeg (16 : Int32).toNatClampNeg))), (pC, .inl (cI, 16, .inl (va_cpy oce ce (0 : Int32).toNatClampNeg (0 : Int32).toNatClampNeg (16 : Int32).toNatClampNeg))), (pA, .inl (cI, 64, .inl (va_cpy ofa fa (0 : Int32).toNatClampNeg (0 : Int32).toNatClampNeg (64 : Int32).toNatClampNeg))), (pB, .inl (cI, 64, .inl (va_cpy otb tb (0 : Int32).toNatClampNeg (0 : Int32).toNatClampNeg (64 : Int32).toNatClampNeg))), (pR, .inl (cI, 64, .inl (va_cpy ofr fr (0 : Int32).toNatClampNeg (0 : Int32).toNatClampNeg (64 : Int32).toNatClampNeg))), (pK, .inl (cI, 64, .inl (va_cpy obk bk (0 : Int32).toNatClampNeg (0 : Int32).toNatClampNeg (64 : Int32).toNatClampNeg))), (o, .inr (1, [.ref oX, .ref oY, .ref oF, .ref oC, .ref oA, .ref oB, .ref oR, .ref oK, .int onv, .int ons, .int onw])), (oX, .inl (cI, 64, .inl ovx)), (oY, .inl (cI, 64, .inl ovy)), (oF, .inl (cI, 16, .inl ofl)), (oC, .inl (cI, 16, .inl oce)), (oA, .inl (cI, 64, .inl ofa)), (oB, .inl (cI, 64, .inl otb)), (oR, .inl (cI, 64, .inl ofr)), (oK, .inl (cI, 64, .inl obk))] := hD
  have hP9 := hP.sub (ws' := [(p, .inr (1, [.ref pX, .ref pY, .ref pF, .ref pC, .ref pA, .ref pB, .ref pR, .ref pK, .int onv, .int ons, .int onw])), (pX, .inl (cI, 64, .inl (va_cpy ovx vx (0 : Int32).toNatClampNeg (0 : Int32).toNatClampNeg (64 : Int32).toNatClampNeg))), (pY, .inl (cI, 64, .inl (va_cpy ovy vy (0 : Int32).toNatClampNeg (0 : Int32).toNatClampNeg (64 : Int32).toNatClampNeg))), (pF, .inl (cI, 16, .inl (va_cpy ofl fl (0 : Int32).toNatClampNeg (0 : Int32).toNatClampNeg (16 : Int32).toNatClampNeg))), (pC, .inl (cI, 16, .inl (va_cpy oce ce (0 : Int32).toNatClampNeg (0 : Int32).toNatClampNeg (16 : Int32).toNatClampNeg))), (pA, .inl (cI, 64, .inl (va_cpy ofa fa (0 : Int32).toNatClampNeg (0 : Int32).toNatClampNeg (64 : Int32).toNatClampNeg))), (pB, .inl (cI, 64, .inl (va_cpy otb tb (0 : Int32).toNatClampNeg (0 : Int32).toNatClampNeg (64 : Int32).toNatClampNeg))), (pR, .inl (cI, 64, .inl (va_cpy ofr fr (0 : Int32).toNatClampNeg (0 : Int32).toNatClampNeg (64 : Int32).toNatClampNeg))), (pK, .inl (cI, 64, .inl (va_cpy obk bk (0 : Int32).toNatClampNeg (0 : Int32).toNatClampNeg (64 : Int32).toNatClampNeg))), (o, .inr (1, [.ref oX, .ref oY, .ref oF, .ref oC, .ref oA, .ref oB, .ref oR, .ref oK, .int onv, .int ons, .int onw])), (oX, .inl (cI, 64, .inl ovx)), (oY, .inl (cI, 64, .inl ovy)), (oF, .inl (cI, 16, .inl ofl)), (oC, .inl (cI, 16, .inl oce)), (oA, .inl (cI, 64, .inl ofa)), (oB, .inl (cI, 64, .inl otb)), (oR, .inl (cI, 64, .inl ofr)), (oK, .inl (cI, 64, .inl obk))]) [0, 1, 2, 3, 4, 5, 6, 7, 8, 9, 10, 11, 12, 13, 14, 15, 16, 17] rfl
  have hD9 := hD.sub (ws' := [(p, .inr (1, [.ref pX, .ref pY, .ref pF, .ref pC, .ref pA, .ref pB, .ref pR, .ref pK, .int onv, .int ons, .int onw])), (pX, .inl (cI, 64, .inl (va_cpy ovx vx (0 : Int32).toNatClampNeg (0 : Int32).toNatClampNeg (64 : Int32).toNatClampNeg))), (pY, .inl (cI, 64, .inl (va_cpy ovy vy (0 : Int32).toNatClampNeg (0 : Int32).toNatClampNeg (64 : Int32).toNatClampNeg))), (pF, .inl (cI, 16, .inl (va_cpy ofl fl (0 : Int32).toNatClampNeg (0 : Int32).toNatClampNeg (16 : Int32).toNatClampNeg))), (pC, .inl (cI, 16, .inl (va_cpy oce ce (0 : Int32).toNatClampNeg (0 : Int32).toNatClampNeg (16 : Int32).toNatClampNeg))), (pA, .inl (cI, 64, .inl (va_cpy ofa fa (0 : Int32).toNatClampNeg (0 : Int32).toNatClampNeg (64 : Int32).toNatClampNeg))), (pB, .inl (cI, 64, .inl (va_cpy otb tb (0 : Int32).toNatClampNeg (0 : Int32).toNatClampNeg (64 : Int32).toNatClampNeg))), (pR, .inl (cI, 64, .inl (va_cpy ofr fr (0 : Int32).toNatClampNeg (0 : Int32).toNatClampNeg (64 : Int32).toNatClampNeg))), (pK, .inl (cI, 64, .inl (va_cpy obk bk (0 : Int32).toNatClampNeg (0 : Int32).toNatClampNeg (64 : Int32).toNatClampNeg))), (o, .inr (1, [.ref oX, .ref oY, .ref oF, .ref oC, .ref oA, .ref oB, .ref oR, .ref oK, .int onv, .int ons, .int onw])), (oX, .inl (cI, 64, .inl ovx)), (oY, .inl (cI, 64, .inl ovy)), (oF, .inl (cI, 16, .inl ofl)), (oC, .inl (cI, 16, .inl oce)), (oA, .inl (cI, 64, .inl ofa)), (oB, .inl (cI, 64, .inl otb)), (oR, .inl (cI, 64, .inl ofr)), (oK, .inl (cI, 64, .inl obk))]) [0, 1, 2, 3, 4, 5, 6, 7, 8, 9, 10, 11, 12, 13, 14, 15, 16, 17] (by decide) rfl
  exact W.vret hx hb hr (fun T9 hT9 hW9 => ⟨⟨(), rfl, by first | trivial | (simp []), by rw [hT9]; exact hP9, hD9⟩, hS.F hT9⟩) hS.2.2 d_Pl_becomeCopyOf_144

abbrev rm_Ta_append : Room := { frames := 0, cells := 0, slots := 0, locals := 0 }
abbrev q_Ta_append (D : va_G) (cI cL : ClassId) (A : Nat → Prop) (t : Nat) (x : Int32) (y : Int32) (z : Int32) (t1 : Nat) (t2 : Nat) (t3 : Nat) (nt : Int32) (ia : Nat → Int32) (ib : Nat → Int32) (ic : Nat → Int32) : Array Value → State → Outcome → State → Prop := va_Qi (S := Int32 × (Nat → Int32) × (Nat → Int32) × (Nat → Int32)) (fun (r : Int32) => fun (u : Int32 × (Nat → Int32) × (Nat → Int32) × (Nat → Int32)) => match u with | (nt2, ia2, ib2, ic2) => r = (if decide (nt < 256) = true then nt + 1 else -1) ∧ nt2 = (if decide (nt < 256) = true then nt + 1 else nt) ∧ ia2 = (if decide (nt < 256) = true then upd ia nt.toNatClampNeg x else ia) ∧ ib2 = (if decide (nt < 256) = true then upd ib nt.toNatClampNeg y else ib) ∧ ic2 = (if decide (nt < 256) = true then upd ic nt.toNatClampNeg z else ic)) (sw_R D A (fun (u : Int32 × (Nat → Int32) × (Nat → Int32) × (Nat → Int32)) => match u with | (nt2, ia2, ib2, ic2) => [(t, .inr (2, [.ref t1, .ref t2, .ref t3, .int nt2])), (t1, .inl (cI, 256, .inl ia2)), (t2, .inl (cI, 256, .inl ib2)), (t3, .inl (cI, 256, .inl ic2))])) A
set_option maxHeartbeats 4000000 in
set_option maxRecDepth 100000 in
theorem c_Ta_append (l : Launch) (D : va_G) (cI cL : ClassId) (tq sz : Nat) (t : Nat) (x : Int32) (y : Int32) (z : Int32) (t1 : Nat) (t2 : Nat) (t3 : Nat) (nt : Int32) (ia : Nat → Int32) (ib : Nat → Int32) (ic : Nat → Int32) (hn : sw_ok nt 256) : Met l y_Ta_append w_Ta_append rm_Ta_append (va_Pc [.ref t, .int x, .int y, .int z] (sw_B D cI cL tq sz [(t, .inr (2, [.ref t1, .ref t2, .ref t3, .int nt])), (t1, .inl (cI, 256, .inl ia)), (t2, .inl (cI, 256, .inl ib)), (t3, .inl (cI, 256, .inl ic))])) (q_Ta_append D cI cL (va_A [(t, .inr (2, [.ref t1, .ref t2, .ref t3, .int nt])), (t1, .inl (cI, 256, .inl ia)), (t2, .inl (cI, 256, .inl ib)), (t3, .inl (cI, 256, .inl ic))] sz) t x y z t1 t2 t3 nt ia ib ic) 0 0 (va_A [(t, .inr (2, [.ref t1, .ref t2, .ref t3, .int nt])), (t1, .inl (cI, 256, .inl ia)), (t2, .inl (cI, 256, .inl ib)), (t3, .inl (cI, 256, .inl ic))] sz) := by
  refine Met.ofW (cc := b_Ta_append) (maxL := 4) (ret := (some .int)) (by decide) rfl ?_
  intro mp me s mm args below meth mk s₁ B hml hv
  obtain ⟨rfl, hsz, hP, hK, hD0, hG⟩ := hv
  have hx := B.exec
  have hb := B.bytes
  have hr := B.returns
  have hts := atoms_spec (ws := w_Ta_append) B.pre
  have hw : ∀ w ∈ sw_words, w.before _ s = true := fun w h => hts w (List.mem_cons_of_mem _ h)
  have hown : s.vm.findClass R_Ta = some mm.cls := findClass_of_methodNamed B.named
  have hlocks := B.notSynchronized
  subst hsz
  have hD := hD0.self (sz := s.heap.size)
  generalize hAe : va_A [(t, .inr (2, [.ref t1, .ref t2, .ref t3, .int nt])), (t1, .inl (cI, 256, .inl ia)), (t2, .inl (cI, 256, .inl ib)), (t3, .inl (cI, 256, .inl ic))] s.heap.size = A at hD hG ⊢
  have hA : ∀ q : Nat, s.heap.size ≤ q → A q := fun q h => by rw [← hAe]; exact Or.inr h
  have hS : va_S A s.heap s.heap [] := va_S.rf
  have hl := lv_entry ([.ref t, .int x, .int y, .int z]) (n := 4) (Nat.le_of_ble_eq_true rfl)
  rw [lg_entry_eq]
  generalize (lg_sl ([.ref t, .int x, .int y, .int z]) ++ List.replicate (4 - (lg_sl ([.ref t, .int x, .int y, .int z])).length) Slot.unset).toArray = ls at hl ⊢
  have hl : lv_has ls 4 [(0, .ref t), (1, .int x), (2, .int y), (3, .int z)] := hl
  refine lv_aload_n hx hb d_Ta_append_0 rfl (lv_at hl 0 rfl) ?_
  refine va_get (D := D) (ci := 2) (v := .int nt) (C := R_Ta) (T := F_Ta) (N := 4) hx hb hw ku_Ta hown hK hP 0 rfl rfl 3 (by decide) (hw _ kw_8163ed3a) (fun _ h9 => h9) rfl d_Ta_append_1 ?_
  refine lv_sipush (v := 256) hx hb d_Ta_append_4 (by decide) ?_
  refine lv_icmp_lt (tgt := 12) hx hb d_Ta_append_7 (by decide) (fun c_7 => ?_) (fun c_7 => ?_)
  · skip
    have hin1 : vp_in nt 256 := sw_okin2 hn c_7
    refine lv_aload_n hx hb d_Ta_append_12 rfl (lv_at hl 0 rfl) ?_
    refine va_get (D := D) (ci := 2) (v := .ref t1) (C := R_Ta) (T := F_Ta) (N := 4) hx hb hw ku_Ta hown hK hP 0 rfl rfl 0 (by decide) (hw _ kw_a5894e3b) (fun _ h9 => h9) rfl d_Ta_append_13 ?_
    refine lv_aload_n hx hb d_Ta_append_16 rfl (lv_at hl 0 rfl) ?_
    refine va_get (D := D) (ci := 2) (v := .int nt) (C := R_Ta) (T := F_Ta) (N := 4) hx hb hw ku_Ta hown hK hP 0 rfl rfl 3 (by decide) (hw _ kw_8163ed3a) (fun _ h9 => h9) rfl d_Ta_append_17 ?_
    refine lv_iload_n hx hb d_Ta_append_20 rfl (lv_at hl 1 rfl) ?_
    refine va_iast hx hb hK hP hD hS 1 0 rfl rfl (by assumption) d_Ta_append_21 (fun H locs hP hD hS => ?_)
    replace hP : va_P D sw_cl [(t, .inr (2, [.ref t1, .ref t2, .ref t3, .int nt])), (t1, .inl (cI, 256, .inl (upd ia nt.toNatClampNeg x))), (t2, .inl (cI, 256, .inl ib)), (t3, .inl (cI, 256, .inl ic))] H := hP
    replace hD : va_D A [(t, .inr (2, [.ref t1, .ref t2, .ref t3, .int nt])), (t1, .inl (cI, 256, .inl (upd ia nt.toNatClampNeg x))), (t2, .inl (cI, 256, .inl ib)), (t3, .inl (cI, 256, .inl ic))] := hD
    refine lv_aload_n hx hb d_Ta_append_22 rfl (lv_at hl 0 rfl) ?_
    refine va_get (D := D) (ci := 2) (v := .ref t2) (C := R_Ta) (T := F_Ta) (N := 4) hx hb hw ku_Ta hown hK hP 0 rfl rfl 1 (by decide) (hw _ kw_0dba980b) (fun _ h9 => h9) rfl d_Ta_append_23 ?_
    refine lv_aload_n hx hb d_Ta_append_26 rfl (lv_at hl 0 rfl) ?_
    refine va_get (D := D) (ci := 2) (v := .int nt) (C := R_Ta) (T := F_Ta) (N := 4) hx hb hw ku_Ta hown hK hP 0 rfl rfl 3 (by decide) (hw _ kw_8163ed3a) (fun _ h9 => h9) rfl d_Ta_append_27 ?_
    refine lv_iload_n hx hb d_Ta_append_30 rfl (lv_at hl 2 rfl) ?_
    refine va_iast hx hb hK hP hD hS 2 0 rfl rfl (by assumption) d_Ta_append_31 (fun H locs hP hD hS => ?_)
    replace hP : va_P D sw_cl [(t, .inr (2, [.ref t1, .ref t2, .ref t3, .int nt])), (t1, .inl (cI, 256, .inl (upd ia nt.toNatClampNeg x))), (t2, .inl (cI, 256, .inl (upd ib nt.toNatClampNeg y))), (t3, .inl (cI, 256, .inl ic))] H := hP
    replace hD : va_D A [(t, .inr (2, [.ref t1, .ref t2, .ref t3, .int nt])), (t1, .inl (cI, 256, .inl (upd ia nt.toNatClampNeg x))), (t2, .inl (cI, 256, .inl (upd ib nt.toNatClampNeg y))), (t3, .inl (cI, 256, .inl ic))] := hD
    refine lv_aload_n hx hb d_Ta_append_32 rfl (lv_at hl 0 rfl) ?_
    refine va_get (D := D) (ci := 2) (v := .ref t3) (C := R_Ta) (T := F_Ta) (N := 4) hx hb hw ku_Ta hown hK hP 0 rfl rfl 2 (by decide) (hw _ kw_96c33365) (fun _ h9 => h9) rfl d_Ta_append_33 ?_
    refine lv_aload_n hx hb d_Ta_append_36 rfl (lv_at hl 0 rfl) ?_
    refine va_get (D := D) (ci := 2) (v := .int nt) (C := R_Ta) (T := F_Ta) (N := 4) hx hb hw ku_Ta hown hK hP 0 rfl rfl 3 (by decide) (hw _ kw_8163ed3a) (fun _ h9 => h9) rfl d_Ta_append_37 ?_
    refine lv_iload_n hx hb d_Ta_append_40 rfl (lv_at hl 3 rfl) ?_
    refine va_iast hx hb hK hP hD hS 3 0 rfl rfl (by assumption) d_Ta_append_41 (fun H locs hP hD hS => ?_)
    replace hP : va_P D sw_cl [(t, .inr (2, [.ref t1, .ref t2, .ref t3, .int nt])), (t1, .inl (cI, 256, .inl (upd ia nt.toNatClampNeg x))), (t2, .inl (cI, 256, .inl (upd ib nt.toNatClampNeg y))), (t3, .inl (cI, 256, .inl (upd ic nt.toNatClampNeg z)))] H := hP
    replace hD : va_D A [(t, .inr (2, [.ref t1, .ref t2, .ref t3, .int nt])), (t1, .inl (cI, 256, .inl (upd ia nt.toNatClampNeg x))), (t2, .inl (cI, 256, .inl (upd ib nt.toNatClampNeg y))), (t3, .inl (cI, 256, .inl (upd ic nt.toNatClampNeg z)))] := hD
    refine lv_aload_n hx hb d_Ta_append_42 rfl (lv_at hl 0 rfl) ?_
    refine lv_dup hx hb d_Ta_append_43 rfl ?_
    refine va_get (D := D) (ci := 2) (v := .int nt) (C := R_Ta) (T := F_Ta) (N := 4) hx hb hw ku_Ta hown hK hP 0 rfl rfl 3 (by decide) (hw _ kw_8163ed3a) (fun _ h9 => h9) rfl d_Ta_append_44 ?_
    refine lv_iconst (v := 1) hx hb d_Ta_append_47 (by decide) ?_
    refine lv_iadd hx hb d_Ta_append_48 ?_
    refine va_put (D := D) (ci := 2) (v := .int (nt + 1)) (ty := t_Ta 3) (C := R_Ta) (T := F_Ta) (N := 4) hx hb hw ku_Ta t_Ta t_Ta_ok n_Ta hown hK hP hD hS 0 rfl rfl 3 (by decide) (hw _ kw_8163ed3a) (fun _ h9 => h9) rfl (t_Ta_ok 3 (by decide)) rfl rfl (Nat.le_of_ble_eq_true rfl) d_Ta_append_49 (fun H locs hP hD hS => ?_)
    replace hP : va_P D sw_cl [(t, .inr (2, [.ref t1, .ref t2, .ref t3, .int (nt + 1)])), (t1, .inl (cI, 256, .inl (upd ia nt.toNatClampNeg x))), (t2, .inl (cI, 256, .inl (upd ib nt.toNatClampNeg y))), (t3, .inl (cI, 256, .inl (upd ic nt.toNatClampNeg z)))] H := hP
    replace hD : va_D A [(t, .inr (2, [.ref t1, .ref t2, .ref t3, .int (nt + 1)])), (t1, .inl (cI, 256, .inl (upd ia nt.toNatClampNeg x))), (t2, .inl (cI, 256, .inl (upd ib nt.toNatClampNeg y))), (t3, .inl (cI, 256, .inl (upd ic nt.toNatClampNeg z)))] := hD
    refine lv_aload_n hx hb d_Ta_append_52 rfl (lv_at hl 0 rfl) ?_
    refine va_get (D := D) (ci := 2) (v := .int (nt + 1)) (C := R_Ta) (T := F_Ta) (N := 4) hx hb hw ku_Ta hown hK hP 0 rfl rfl 3 (by decide) (hw _ kw_8163ed3a) (fun _ h9 => h9) rfl d_Ta_append_53 ?_
    have hP9 := hP.sub (ws' := [(t, .inr (2, [.ref t1, .ref t2, .ref t3, .int (nt + 1)])), (t1, .inl (cI, 256, .inl (upd ia nt.toNatClampNeg x))), (t2, .inl (cI, 256, .inl (upd ib nt.toNatClampNeg y))), (t3, .inl (cI, 256, .inl (upd ic nt.toNatClampNeg z)))]) [0, 1, 2, 3] rfl
    have hD9 := hD.sub (ws' := [(t, .inr (2, [.ref t1, .ref t2, .ref t3, .int (nt + 1)])), (t1, .inl (cI, 256, .inl (upd ia nt.toNatClampNeg x))), (t2, .inl (cI, 256, .inl (upd ib nt.toNatClampNeg y))), (t3, .inl (cI, 256, .inl (upd ic nt.toNatClampNeg z)))]) [0, 1, 2, 3] (by decide) rfl
    exact W.iret (v := nt + 1) hx hb hr (fun T9 hT9 hW9 => ⟨⟨nt + 1, (nt + 1, upd ia nt.toNatClampNeg x, upd ib nt.toNatClampNeg y, upd ic nt.toNatClampNeg z), rfl, by simp [c_7], by rw [hT9]; exact hP9, hD9⟩, hS.F hT9⟩) hS.2.2 d_Ta_append_56
  · skip
    refine lv_iconst (v := (-1)) hx hb d_Ta_append_10 (by decide) ?_
    have hP9 := hP.sub (ws' := [(t, .inr (2, [.ref t1, .ref t2, .ref t3, .int nt])), (t1, .inl (cI, 256, .inl ia)), (t2, .inl (cI, 256, .inl ib)), (t3, .inl (cI, 256, .inl ic))]) [0, 1, 2, 3] rfl
    have hD9 := hD.sub (ws' := [(t, .inr (2, [.ref t1, .ref t2, .ref t3, .int nt])), (t1, .inl (cI, 256, .inl ia)), (t2, .inl (cI, 256, .inl ib)), (t3, .inl (cI, 256, .inl ic))]) [0, 1, 2, 3] (by decide) rfl
    exact W.iret (v := (-1)) hx hb hr (fun T9 hT9 hW9 => ⟨⟨(-1), (nt, ia, ib, ic), rfl, by simp [c_7], by rw [hT9]; exact hP9, hD9⟩, hS.F hT9⟩) hS.2.2 d_Ta_append_11

abbrev rm_Ta_removeLast : Room := { frames := 0, cells := 0, slots := 0, locals := 0 }
abbrev q_Ta_removeLast (D : va_G) (cI cL : ClassId) (A : Nat → Prop) (t : Nat) (x : Int32) (t1 : Nat) (t2 : Nat) (t3 : Nat) (nt : Int32) : Array Value → State → Outcome → State → Prop := va_Qi (S := Int32) (fun (r : Int32) => fun (nt2 : Int32) => r = (sw_b (!(decide (x < 0)) && decide (x ≤ nt))) ∧ nt2 = (if (!(decide (x < 0)) && decide (x ≤ nt)) = true then nt - x else nt)) (sw_R D A (fun (nt2 : Int32) => [(t, .inr (2, [.ref t1, .ref t2, .ref t3, .int nt2]))])) A
set_option maxHeartbeats 4000000 in
set_option maxRecDepth 100000 in
theorem c_Ta_removeLast (l : Launch) (D : va_G) (cI cL : ClassId) (tq sz : Nat) (t : Nat) (x : Int32) (t1 : Nat) (t2 : Nat) (t3 : Nat) (nt : Int32) : Met l y_Ta_removeLast w_Ta_removeLast rm_Ta_removeLast (va_Pc [.ref t, .int x] (sw_B D cI cL tq sz [(t, .inr (2, [.ref t1, .ref t2, .ref t3, .int nt]))])) (q_Ta_removeLast D cI cL (va_A [(t, .inr (2, [.ref t1, .ref t2, .ref t3, .int nt]))] sz) t x t1 t2 t3 nt) 0 0 (va_A [(t, .inr (2, [.ref t1, .ref t2, .ref t3, .int nt]))] sz) := by
  refine Met.ofW (cc := b_Ta_removeLast) (maxL := 2) (ret := (some .boolean)) (by decide) rfl ?_
  intro mp me s mm args below meth mk s₁ B hml hv
  obtain ⟨rfl, hsz, hP, hK, hD0, hG⟩ := hv
  have hx := B.exec
  have hb := B.bytes
  have hr := B.returns
  have hts := atoms_spec (ws := w_Ta_removeLast) B.pre
  have hw : ∀ w ∈ sw_words, w.before _ s = true := fun w h => hts w (List.mem_cons_of_mem _ h)
  have hown : s.vm.findClass R_Ta = some mm.cls := findClass_of_methodNamed B.named
  have hlocks := B.notSynchronized
  subst hsz
  have hD := hD0.self (sz := s.heap.size)
  generalize hAe : va_A [(t, .inr (2, [.ref t1, .ref t2, .ref t3, .int nt]))] s.heap.size = A at hD hG ⊢
  have hA : ∀ q : Nat, s.heap.size ≤ q → A q := fun q h => by rw [← hAe]; exact Or.inr h
  have hS : va_S A s.heap s.heap [] := va_S.rf
  have hl := lv_entry ([.ref t, .int x]) (n := 2) (Nat.le_of_ble_eq_true rfl)
  rw [lg_entry_eq]
  generalize (lg_sl ([.ref t, .int x]) ++ List.replicate (2 - (lg_sl ([.ref t, .int x])).length) Slot.unset).toArray = ls at hl ⊢
  have hl : lv_has ls 2 [(0, .ref t), (1, .int x)] := hl
  refine lv_iload_n hx hb d_Ta_removeLast_0 rfl (lv_at hl 1 rfl) ?_
  refine lv_if_lt (tgt := 12) hx hb d_Ta_removeLast_1 (by decide) (fun c_1 => ?_) (fun c_1 => ?_)
  · skip
    refine lv_iconst (v := 0) hx hb d_Ta_removeLast_12 (by decide) ?_
    have hP9 := hP.sub (ws' := [(t, .inr (2, [.ref t1, .ref t2, .ref t3, .int nt]))]) [0] rfl
    have hD9 := hD.sub (ws' := [(t, .inr (2, [.ref t1, .ref t2, .ref t3, .int nt]))]) [0] (by decide) rfl
    exact W.zret (ty := .boolean) (v := 0) hx hb hr (rfl) (fun T9 hT9 hW9 => ⟨⟨0, nt, rfl, by simp [sw_b, c_1], by rw [hT9]; exact hP9, hD9⟩, hS.F hT9⟩) hS.2.2 d_Ta_removeLast_13
  · skip
    refine lv_iload_n hx hb d_Ta_removeLast_4 rfl (lv_at hl 1 rfl) ?_
    refine lv_aload_n hx hb d_Ta_removeLast_5 rfl (lv_at hl 0 rfl) ?_
    refine va_get (D := D) (ci := 2) (v := .int nt) (C := R_Ta) (T := F_Ta) (N := 4) hx hb hw ku_Ta hown hK hP 0 rfl rfl 3 (by decide) (hw _ kw_8163ed3a) (fun _ h9 => h9) rfl d_Ta_removeLast_6 ?_
    refine lv_icmp_le (tgt := 14) hx hb d_Ta_removeLast_9 (by decide) (fun c_9 => ?_) (fun c_9 => ?_)
    · skip
      refine lv_aload_n hx hb d_Ta_removeLast_14 rfl (lv_at hl 0 rfl) ?_
      refine lv_dup hx hb d_Ta_removeLast_15 rfl ?_
      refine va_get (D := D) (ci := 2) (v := .int nt) (C := R_Ta) (T := F_Ta) (N := 4) hx hb hw ku_Ta hown hK hP 0 rfl rfl 3 (by decide) (hw _ kw_8163ed3a) (fun _ h9 => h9) rfl d_Ta_removeLast_16 ?_
      refine lv_iload_n hx hb d_Ta_removeLast_19 rfl (lv_at hl 1 rfl) ?_
      refine lv_isub hx hb d_Ta_removeLast_20 ?_
      refine va_put (D := D) (ci := 2) (v := .int (nt - x)) (ty := t_Ta 3) (C := R_Ta) (T := F_Ta) (N := 4) hx hb hw ku_Ta t_Ta t_Ta_ok n_Ta hown hK hP hD hS 0 rfl rfl 3 (by decide) (hw _ kw_8163ed3a) (fun _ h9 => h9) rfl (t_Ta_ok 3 (by decide)) rfl rfl (Nat.le_of_ble_eq_true rfl) d_Ta_removeLast_21 (fun H locs hP hD hS => ?_)
      replace hP : va_P D sw_cl [(t, .inr (2, [.ref t1, .ref t2, .ref t3, .int (nt - x)]))] H := hP
      replace hD : va_D A [(t, .inr (2, [.ref t1, .ref t2, .ref t3, .int (nt - x)]))] := hD
      refine lv_iconst (v := 1) hx hb d_Ta_removeLast_24 (by decide) ?_
      have hP9 := hP.sub (ws' := [(t, .inr (2, [.ref t1, .ref t2, .ref t3, .int (nt - x)]))]) [0] rfl
      have hD9 := hD.sub (ws' := [(t, .inr (2, [.ref t1, .ref t2, .ref t3, .int (nt - x)]))]) [0] (by decide) rfl
      exact W.zret (ty := .boolean) (v := 1) hx hb hr (rfl) (fun T9 hT9 hW9 => ⟨⟨1, (nt - x), rfl, by simp [sw_b, c_1, c_9], by rw [hT9]; exact hP9, hD9⟩, hS.F hT9⟩) hS.2.2 d_Ta_removeLast_25
    · skip
      refine lv_iconst (v := 0) hx hb d_Ta_removeLast_12 (by decide) ?_
      have hP9 := hP.sub (ws' := [(t, .inr (2, [.ref t1, .ref t2, .ref t3, .int nt]))]) [0] rfl
      have hD9 := hD.sub (ws' := [(t, .inr (2, [.ref t1, .ref t2, .ref t3, .int nt]))]) [0] (by decide) rfl
      exact W.zret (ty := .boolean) (v := 0) hx hb hr (rfl) (fun T9 hT9 hW9 => ⟨⟨0, nt, rfl, by simp [sw_b, c_1, c_9], by rw [hT9]; exact hP9, hD9⟩, hS.F hT9⟩) hS.2.2 d_Ta_removeLast_13

abbrev rm_St_becomeCopyOf : Room := { frames := 0, cells := 0, slots := 0, locals := 0 }
abbrev q_St_becomeCopyOf (D : va_G) (cI cL : ClassId) (A : Nat → Prop) (w : Nat) (o : Nat) (wx : Int32) (wy : Int32) (wa : Int32) (ws : Int32) (ox : Int32) (oy : Int32) (oa : Int32) (os : Int32) : Array Value → State → Outcome → State → Prop := va_Qv (S := Unit) (fun (_ : Unit) => True) (sw_R D A (fun (_ : Unit) => [(w, .inr (3, [.int ox, .int oy, .int oa, .int os])), (o, .inr (3, [.int ox, .int oy, .int oa, .int os]))])) A
set_option maxHeartbeats 4000000 in
set_option maxRecDepth 100000 in
theorem c_St_becomeCopyOf (l : Launch) (D : va_G) (cI cL : ClassId) (tq sz : Nat) (w : Nat) (o : Nat) (wx : Int32) (wy : Int32) (wa : Int32) (ws : Int32) (ox : Int32) (oy : Int32) (oa : Int32) (os : Int32) : Met l y_St_becomeCopyOf w_St_becomeCopyOf rm_St_becomeCopyOf (va_Pc [.ref w, .ref o] (sw_B D cI cL tq sz [(w, .inr (3, [.int wx, .int wy, .int wa, .int ws])), (o, .inr (3, [.int ox, .int oy, .int oa, .int os]))])) (q_St_becomeCopyOf D cI cL (va_A [(w, .inr (3, [.int wx, .int wy, .int wa, .int ws])), (o, .inr (3, [.int ox, .int oy, .int oa, .int os]))] sz) w o wx wy wa ws ox oy oa os) 0 0 (va_A [(w, .inr (3, [.int wx, .int wy, .int wa, .int ws])), (o, .inr (3, [.int ox, .int oy, .int oa, .int os]))] sz) := by
  refine Met.ofW (cc := b_St_becomeCopyOf) (maxL := 2) (ret := none) (by decide) rfl ?_
  intro mp me s mm args below meth mk s₁ B hml hv
  obtain ⟨rfl, hsz, hP, hK, hD0, hG⟩ := hv
  have hx := B.exec
  have hb := B.bytes
  have hr := B.returns
  have hts := atoms_spec (ws := w_St_becomeCopyOf) B.pre
  have hw : ∀ w ∈ sw_words, w.before _ s = true := fun w h => hts w (List.mem_cons_of_mem _ h)
  have hown : s.vm.findClass R_St = some mm.cls := findClass_of_methodNamed B.named
  have hlocks := B.notSynchronized
  subst hsz
  have hD := hD0.self (sz := s.heap.size)
  generalize hAe : va_A [(w, .inr (3, [.int wx, .int wy, .int wa, .int ws])), (o, .inr (3, [.int ox, .int oy, .int oa, .int os]))] s.heap.size = A at hD hG ⊢
  have hA : ∀ q : Nat, s.heap.size ≤ q → A q := fun q h => by rw [← hAe]; exact Or.inr h
  have hS : va_S A s.heap s.heap [] := va_S.rf
  have hl := lv_entry ([.ref w, .ref o]) (n := 2) (Nat.le_of_ble_eq_true rfl)
  rw [lg_entry_eq]
  generalize (lg_sl ([.ref w, .ref o]) ++ List.replicate (2 - (lg_sl ([.ref w, .ref o])).length) Slot.unset).toArray = ls at hl ⊢
  have hl : lv_has ls 2 [(0, .ref w), (1, .ref o)] := hl
  refine lv_aload_n hx hb d_St_becomeCopyOf_0 rfl (lv_at hl 0 rfl) ?_
  refine lv_aload_n hx hb d_St_becomeCopyOf_1 rfl (lv_at hl 1 rfl) ?_
  refine va_get (D := D) (ci := 3) (v := .int ox) (C := R_St) (T := F_St) (N := 4) hx hb hw ku_St hown hK hP 1 rfl rfl 0 (by decide) (hw _ kw_a3309d6b) (fun _ h9 => h9) rfl d_St_becomeCopyOf_2 ?_
  refine va_put (D := D) (ci := 3) (v := .int ox) (ty := t_St 0) (C := R_St) (T := F_St) (N := 4) hx hb hw ku_St t_St t_St_ok n_St hown hK hP hD hS 0 rfl rfl 0 (by decide) (hw _ kw_a3309d6b) (fun _ h9 => h9) rfl (t_St_ok 0 (by decide)) rfl rfl (Nat.le_of_ble_eq_true rfl) d_St_becomeCopyOf_5 (fun H locs hP hD hS => ?_)
  replace hP : va_P D sw_cl [(w, .inr (3, [.int ox, .int wy, .int wa, .int ws])), (o, .inr (3, [.int ox, .int oy, .int oa, .int os]))] H := hP
  replace hD : va_D A [(w, .inr (3, [.int ox, .int wy, .int wa, .int ws])), (o, .inr (3, [.int ox, .int oy, .int oa, .int os]))] := hD
  refine lv_aload_n hx hb d_St_becomeCopyOf_8 rfl (lv_at hl 0 rfl) ?_
  refine lv_aload_n hx hb d_St_becomeCopyOf_9 rfl (lv_at hl 1 rfl) ?_
  refine va_get (D := D) (ci := 3) (v := .int oy) (C := R_St) (T := F_St) (N := 4) hx hb hw ku_St hown hK hP 1 rfl rfl 1 (by decide) (hw _ kw_ea0b02d1) (fun _ h9 => h9) rfl d_St_becomeCopyOf_10 ?_
  refine va_put (D := D) (ci := 3) (v := .int oy) (ty := t_St 1) (C := R_St) (T := F_St) (N := 4) hx hb hw ku_St t_St t_St_ok n_St hown hK hP hD hS 0 rfl rfl 1 (by decide) (hw _ kw_ea0b02d1) (fun _ h9 => h9) rfl (t_St_ok 1 (by decide)) rfl rfl (Nat.le_of_ble_eq_true rfl) d_St_becomeCopyOf_13 (fun H locs hP hD hS => ?_)
  replace hP : va_P D sw_cl [(w, .inr (3, [.int ox, .int oy, .int wa, .int ws])), (o, .inr (3, [.int ox, .int oy, .int oa, .int os]))] H := hP
  replace hD : va_D A [(w, .inr (3, [.int ox, .int oy, .int wa, .int ws])), (o, .inr (3, [.int ox, .int oy, .int oa, .int os]))] := hD
  refine lv_aload_n hx hb d_St_becomeCopyOf_16 rfl (lv_at hl 0 rfl) ?_
  refine lv_aload_n hx hb d_St_becomeCopyOf_17 rfl (lv_at hl 1 rfl) ?_
  refine va_get (D := D) (ci := 3) (v := .int oa) (C := R_St) (T := F_St) (N := 4) hx hb hw ku_St hown hK hP 1 rfl rfl 2 (by decide) (hw _ kw_bbaea129) (fun _ h9 => h9) rfl d_St_becomeCopyOf_18 ?_
  refine va_put (D := D) (ci := 3) (v := .int oa) (ty := t_St 2) (C := R_St) (T := F_St) (N := 4) hx hb hw ku_St t_St t_St_ok n_St hown hK hP hD hS 0 rfl rfl 2 (by decide) (hw _ kw_bbaea129) (fun _ h9 => h9) rfl (t_St_ok 2 (by decide)) rfl rfl (Nat.le_of_ble_eq_true rfl) d_St_becomeCopyOf_21 (fun H locs hP hD hS => ?_)
  replace hP : va_P D sw_cl [(w, .inr (3, [.int ox, .int oy, .int oa, .int ws])), (o, .inr (3, [.int ox, .int oy, .int oa, .int os]))] H := hP
  replace hD : va_D A [(w, .inr (3, [.int ox, .int oy, .int oa, .int ws])), (o, .inr (3, [.int ox, .int oy, .int oa, .int os]))] := hD
  refine lv_aload_n hx hb d_St_becomeCopyOf_24 rfl (lv_at hl 0 rfl) ?_
  refine lv_aload_n hx hb d_St_becomeCopyOf_25 rfl (lv_at hl 1 rfl) ?_
  refine va_get (D := D) (ci := 3) (v := .int os) (C := R_St) (T := F_St) (N := 4) hx hb hw ku_St hown hK hP 1 rfl rfl 3 (by decide) (hw _ kw_ef274c34) (fun _ h9 => h9) rfl d_St_becomeCopyOf_26 ?_
  refine va_put (D := D) (ci := 3) (v := .int os) (ty := t_St 3) (C := R_St) (T := F_St) (N := 4) hx hb hw ku_St t_St t_St_ok n_St hown hK hP hD hS 0 rfl rfl 3 (by decide) (hw _ kw_ef274c34) (fun _ h9 => h9) rfl (t_St_ok 3 (by decide)) rfl rfl (Nat.le_of_ble_eq_true rfl) d_St_becomeCopyOf_29 (fun H locs hP hD hS => ?_)
  replace hP : va_P D sw_cl [(w, .inr (3, [.int ox, .int oy, .int oa, .int os])), (o, .inr (3, [.int ox, .int oy, .int oa, .int os]))] H := hP
  replace hD : va_D A [(w, .inr (3, [.int ox, .int oy, .int oa, .int os])), (o, .inr (3, [.int ox, .int oy, .int oa, .int os]))] := hD
  have hP9 := hP.sub (ws' := [(w, .inr (3, [.int ox, .int oy, .int oa, .int os])), (o, .inr (3, [.int ox, .int oy, .int oa, .int os]))]) [0, 1] rfl
  have hD9 := hD.sub (ws' := [(w, .inr (3, [.int ox, .int oy, .int oa, .int os])), (o, .inr (3, [.int ox, .int oy, .int oa, .int os]))]) [0, 1] (by decide) rfl
  exact W.vret hx hb hr (fun T9 hT9 hW9 => ⟨⟨(), rfl, by first | trivial | (simp []), by rw [hT9]; exact hP9, hD9⟩, hS.F hT9⟩) hS.2.2 d_St_becomeCopyOf_32

abbrev rm_Cr_forget : Room := { frames := 0, cells := 0, slots := 0, locals := 0 }
abbrev q_Cr_forget (D : va_G) (cI cL : ClassId) (A : Nat → Prop) (k : Nat) (k1 : Nat) (k2 : Nat) (k3 : Nat) (nk : Int32) (fs : Int32) : Array Value → State → Outcome → State → Prop := va_Qv (S := Unit) (fun (_ : Unit) => True) (sw_R D A (fun (_ : Unit) => [(k, .inr (4, [.ref k1, .ref k2, .ref k3, .int 0, .int (-1)]))])) A
set_option maxHeartbeats 4000000 in
set_option maxRecDepth 100000 in
theorem c_Cr_forget (l : Launch) (D : va_G) (cI cL : ClassId) (tq sz : Nat) (k : Nat) (k1 : Nat) (k2 : Nat) (k3 : Nat) (nk : Int32) (fs : Int32) : Met l y_Cr_forget w_Cr_forget rm_Cr_forget (va_Pc [.ref k] (sw_B D cI cL tq sz [(k, .inr (4, [.ref k1, .ref k2, .ref k3, .int nk, .int fs]))])) (q_Cr_forget D cI cL (va_A [(k, .inr (4, [.ref k1, .ref k2, .ref k3, .int nk, .int fs]))] sz) k k1 k2 k3 nk fs) 0 0 (va_A [(k, .inr (4, [.ref k1, .ref k2, .ref k3, .int nk, .int fs]))] sz) := by
  refine Met.ofW (cc := b_Cr_forget) (maxL := 1) (ret := none) (by decide) rfl ?_
  intro mp me s mm args below meth mk s₁ B hml hv
  obtain ⟨rfl, hsz, hP, hK, hD0, hG⟩ := hv
  have hx := B.exec
  have hb := B.bytes
  have hr := B.returns
  have hts := atoms_spec (ws := w_Cr_forget) B.pre
  have hw : ∀ w ∈ sw_words, w.before _ s = true := fun w h => hts w (List.mem_cons_of_mem _ h)
  have hown : s.vm.findClass R_Cr = some mm.cls := findClass_of_methodNamed B.named
  have hlocks := B.notSynchronized
  subst hsz
  have hD := hD0.self (sz := s.heap.size)
  generalize hAe : va_A [(k, .inr (4, [.ref k1, .ref k2, .ref k3, .int nk, .int fs]))] s.heap.size = A at hD hG ⊢
  have hA : ∀ q : Nat, s.heap.size ≤ q → A q := fun q h => by rw [← hAe]; exact Or.inr h
  have hS : va_S A s.heap s.heap [] := va_S.rf
  have hl := lv_entry ([.ref k]) (n := 1) (Nat.le_of_ble_eq_true rfl)
  rw [lg_entry_eq]
  generalize (lg_sl ([.ref k]) ++ List.replicate (1 - (lg_sl ([.ref k])).length) Slot.unset).toArray = ls at hl ⊢
  have hl : lv_has ls 1 [(0, .ref k)] := hl
  refine lv_aload_n hx hb d_Cr_forget_0 rfl (lv_at hl 0 rfl) ?_
  refine lv_iconst (v := 0) hx hb d_Cr_forget_1 (by decide) ?_
  refine va_put (D := D) (ci := 4) (v := .int 0) (ty := t_Cr 3) (C := R_Cr) (T := F_Cr) (N := 5) hx hb hw ku_Cr t_Cr t_Cr_ok n_Cr hown hK hP hD hS 0 rfl rfl 3 (by decide) (hw _ kw_7f5cc8e8) (fun _ h9 => h9) rfl (t_Cr_ok 3 (by decide)) rfl rfl (Nat.le_of_ble_eq_true rfl) d_Cr_forget_2 (fun H locs hP hD hS => ?_)
  replace hP : va_P D sw_cl [(k, .inr (4, [.ref k1, .ref k2, .ref k3, .int 0, .int fs]))] H := hP
  replace hD : va_D A [(k, .inr (4, [.ref k1, .ref k2, .ref k3, .int 0, .int fs]))] := hD
  refine lv_aload_n hx hb d_Cr_forget_5 rfl (lv_at hl 0 rfl) ?_
  refine lv_iconst (v := (-1)) hx hb d_Cr_forget_6 (by decide) ?_
  refine va_put (D := D) (ci := 4) (v := .int (-1)) (ty := t_Cr 4) (C := R_Cr) (T := F_Cr) (N := 5) hx hb hw ku_Cr t_Cr t_Cr_ok n_Cr hown hK hP hD hS 0 rfl rfl 4 (by decide) (hw _ kw_767774d4) (fun _ h9 => h9) rfl (t_Cr_ok 4 (by decide)) rfl rfl (Nat.le_of_ble_eq_true rfl) d_Cr_forget_7 (fun H locs hP hD hS => ?_)
  replace hP : va_P D sw_cl [(k, .inr (4, [.ref k1, .ref k2, .ref k3, .int 0, .int (-1)]))] H := hP
  replace hD : va_D A [(k, .inr (4, [.ref k1, .ref k2, .ref k3, .int 0, .int (-1)]))] := hD
  have hP9 := hP.sub (ws' := [(k, .inr (4, [.ref k1, .ref k2, .ref k3, .int 0, .int (-1)]))]) [0] rfl
  have hD9 := hD.sub (ws' := [(k, .inr (4, [.ref k1, .ref k2, .ref k3, .int 0, .int (-1)]))]) [0] (by decide) rfl
  exact W.vret hx hb hr (fun T9 hT9 hW9 => ⟨⟨(), rfl, by first | trivial | (simp []), by rw [hT9]; exact hP9, hD9⟩, hS.F hT9⟩) hS.2.2 d_Cr_forget_10
