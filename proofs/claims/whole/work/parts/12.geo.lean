abbrev rm_Pl_side : Room := { frames := 1, cells := 0, slots := 0, locals := 23 }
abbrev q_Pl_side (D : va_G) (cI cL : ClassId) (A : Nat → Prop) (p : Nat) (x : Int32) (y : Int32) (z : Int32) (pX : Nat) (pY : Nat) (pF : Nat) (pC : Nat) (pA : Nat) (pB : Nat) (pR : Nat) (pK : Nat) (nv : Int32) (ns : Int32) (nw : Int32) (vx : Nat → Int32) (vy : Nat → Int32) : Array Value → State → Outcome → State → Prop := va_Qi (S := Unit) (fun (r : Int32) => fun (_ : Unit) => r = sw_side vx vy x.toNatClampNeg y.toNatClampNeg z.toNatClampNeg) (sw_R D A (fun (_ : Unit) => [(p, .inr (1, [.ref pX, .ref pY, .ref pF, .ref pC, .ref pA, .ref pB, .ref pR, .ref pK, .int nv, .int ns, .int nw])), (pX, .inl (cI, 64, .inl vx)), (pY, .inl (cI, 64, .inl vy))])) A
set_option maxHeartbeats 4000000 in
set_option maxRecDepth 100000 in
theorem c_Pl_side (l : Launch) (D : va_G) (cI cL : ClassId) (tq sz : Nat) (p : Nat) (x : Int32) (y : Int32) (z : Int32) (pX : Nat) (pY : Nat) (pF : Nat) (pC : Nat) (pA : Nat) (pB : Nat) (pR : Nat) (pK : Nat) (nv : Int32) (ns : Int32) (nw : Int32) (vx : Nat → Int32) (vy : Nat → Int32) (ix : vp_in x 64) (iy : vp_in y 64) (iz : vp_in z 64) : Met l y_Pl_side w_Pl_side rm_Pl_side (va_Pc [.ref p, .int x, .int y, .int z] (sw_B D cI cL tq sz [(p, .inr (1, [.ref pX, .ref pY, .ref pF, .ref pC, .ref pA, .ref pB, .ref pR, .ref pK, .int nv, .int ns, .int nw])), (pX, .inl (cI, 64, .inl vx)), (pY, .inl (cI, 64, .inl vy))])) (q_Pl_side D cI cL (va_A [(p, .inr (1, [.ref pX, .ref pY, .ref pF, .ref pC, .ref pA, .ref pB, .ref pR, .ref pK, .int nv, .int ns, .int nw])), (pX, .inl (cI, 64, .inl vx)), (pY, .inl (cI, 64, .inl vy))] sz) p x y z pX pY pF pC pA pB pR pK nv ns nw vx vy) 0 0 (va_A [(p, .inr (1, [.ref pX, .ref pY, .ref pF, .ref pC, .ref pA, .ref pB, .ref pR, .ref pK, .int nv, .int ns, .int nw])), (pX, .inl (cI, 64, .inl vx)), (pY, .inl (cI, 64, .inl vy))] sz) := by
  refine Met.ofW (cc := b_Pl_side) (maxL := 4) (ret := (some .int)) (by decide) rfl ?_
  intro mp me s mm args below meth mk s₁ B hml hv
  obtain ⟨rfl, hsz, hP, hK, hD0, hG⟩ := hv
  have hx := B.exec
  have hb := B.bytes
  have hr := B.returns
  have hts := atoms_spec (ws := w_Pl_side) B.pre
  have hw : ∀ w ∈ sw_words, w.before _ s = true := fun w h => hts w (List.mem_cons_of_mem _ h)
  have hown : s.vm.findClass R_Pl = some mm.cls := findClass_of_methodNamed B.named
  have hlocks := B.notSynchronized
  subst hsz
  have hD := hD0.self (sz := s.heap.size)
  generalize hAe : va_A [(p, .inr (1, [.ref pX, .ref pY, .ref pF, .ref pC, .ref pA, .ref pB, .ref pR, .ref pK, .int nv, .int ns, .int nw])), (pX, .inl (cI, 64, .inl vx)), (pY, .inl (cI, 64, .inl vy))] s.heap.size = A at hD hG ⊢
  have hA : ∀ q : Nat, s.heap.size ≤ q → A q := fun q h => by rw [← hAe]; exact Or.inr h
  have hS : va_S A s.heap s.heap [] := va_S.rf
  have hl := lv_entry ([.ref p, .int x, .int y, .int z]) (n := 4) (Nat.le_of_ble_eq_true rfl)
  rw [lg_entry_eq]
  generalize (lg_sl ([.ref p, .int x, .int y, .int z]) ++ List.replicate (4 - (lg_sl ([.ref p, .int x, .int y, .int z])).length) Slot.unset).toArray = ls at hl ⊢
  have hl : lv_has ls 4 [(0, .ref p), (1, .int x), (2, .int y), (3, .int z)] := hl
  refine lv_aload_n hx hb d_Pl_side_0 rfl (lv_at hl 0 rfl) ?_
  refine va_get (D := D) (ci := 1) (v := .ref pX) (C := R_Pl) (T := F_Pl) (N := 11) hx hb hw ku_Pl hown hK hP 0 rfl rfl 0 (by decide) (hw _ kw_8234c2ed) (fun _ h9 => h9) rfl d_Pl_side_1 ?_
  refine lv_iload_n hx hb d_Pl_side_4 rfl (lv_at hl 2 rfl) ?_
  refine va_iald hx hb hK hP 1 0 rfl rfl (by assumption) d_Pl_side_5 ?_
  refine lv_aload_n hx hb d_Pl_side_6 rfl (lv_at hl 0 rfl) ?_
  refine va_get (D := D) (ci := 1) (v := .ref pX) (C := R_Pl) (T := F_Pl) (N := 11) hx hb hw ku_Pl hown hK hP 0 rfl rfl 0 (by decide) (hw _ kw_8234c2ed) (fun _ h9 => h9) rfl d_Pl_side_7 ?_
  refine lv_iload_n hx hb d_Pl_side_10 rfl (lv_at hl 1 rfl) ?_
  refine va_iald hx hb hK hP 1 0 rfl rfl (by assumption) d_Pl_side_11 ?_
  refine lv_isub hx hb d_Pl_side_12 ?_
  refine lv_aload_n hx hb d_Pl_side_13 rfl (lv_at hl 0 rfl) ?_
  refine va_get (D := D) (ci := 1) (v := .ref pY) (C := R_Pl) (T := F_Pl) (N := 11) hx hb hw ku_Pl hown hK hP 0 rfl rfl 1 (by decide) (hw _ kw_c8115e4c) (fun _ h9 => h9) rfl d_Pl_side_14 ?_
  refine lv_iload_n hx hb d_Pl_side_17 rfl (lv_at hl 2 rfl) ?_
  refine va_iald hx hb hK hP 2 0 rfl rfl (by assumption) d_Pl_side_18 ?_
  refine lv_aload_n hx hb d_Pl_side_19 rfl (lv_at hl 0 rfl) ?_
  refine va_get (D := D) (ci := 1) (v := .ref pY) (C := R_Pl) (T := F_Pl) (N := 11) hx hb hw ku_Pl hown hK hP 0 rfl rfl 1 (by decide) (hw _ kw_c8115e4c) (fun _ h9 => h9) rfl d_Pl_side_20 ?_
  refine lv_iload_n hx hb d_Pl_side_23 rfl (lv_at hl 1 rfl) ?_
  refine va_iald hx hb hK hP 2 0 rfl rfl (by assumption) d_Pl_side_24 ?_
  refine lv_isub hx hb d_Pl_side_25 ?_
  refine lv_aload_n hx hb d_Pl_side_26 rfl (lv_at hl 0 rfl) ?_
  refine va_get (D := D) (ci := 1) (v := .ref pX) (C := R_Pl) (T := F_Pl) (N := 11) hx hb hw ku_Pl hown hK hP 0 rfl rfl 0 (by decide) (hw _ kw_8234c2ed) (fun _ h9 => h9) rfl d_Pl_side_27 ?_
  refine lv_iload_n hx hb d_Pl_side_30 rfl (lv_at hl 3 rfl) ?_
  refine va_iald hx hb hK hP 1 0 rfl rfl (by assumption) d_Pl_side_31 ?_
  refine lv_aload_n hx hb d_Pl_side_32 rfl (lv_at hl 0 rfl) ?_
  refine va_get (D := D) (ci := 1) (v := .ref pX) (C := R_Pl) (T := F_Pl) (N := 11) hx hb hw ku_Pl hown hK hP 0 rfl rfl 0 (by decide) (hw _ kw_8234c2ed) (fun _ h9 => h9) rfl d_Pl_side_33 ?_
  refine lv_iload_n hx hb d_Pl_side_36 rfl (lv_at hl 1 rfl) ?_
  refine va_iald hx hb hK hP 1 0 rfl rfl (by assumption) d_Pl_side_37 ?_
  refine lv_isub hx hb d_Pl_side_38 ?_
  refine lv_aload_n hx hb d_Pl_side_39 rfl (lv_at hl 0 rfl) ?_
  refine va_get (D := D) (ci := 1) (v := .ref pY) (C := R_Pl) (T := F_Pl) (N := 11) hx hb hw ku_Pl hown hK hP 0 rfl rfl 1 (by decide) (hw _ kw_c8115e4c) (fun _ h9 => h9) rfl d_Pl_side_40 ?_
  refine lv_iload_n hx hb d_Pl_side_43 rfl (lv_at hl 3 rfl) ?_
  refine va_iald hx hb hK hP 2 0 rfl rfl (by assumption) d_Pl_side_44 ?_
  refine lv_aload_n hx hb d_Pl_side_45 rfl (lv_at hl 0 rfl) ?_
  refine va_get (D := D) (ci := 1) (v := .ref pY) (C := R_Pl) (T := F_Pl) (N := 11) hx hb hw ku_Pl hown hK hP 0 rfl rfl 1 (by decide) (hw _ kw_c8115e4c) (fun _ h9 => h9) rfl d_Pl_side_46 ?_
  refine lv_iload_n hx hb d_Pl_side_49 rfl (lv_at hl 1 rfl) ?_
  refine va_iald hx hb hK hP 2 0 rfl rfl (by assumption) d_Pl_side_50 ?_
  refine lv_isub hx hb d_Pl_side_51 ?_
  refine sw_ki0 (wr := [(p, .inr (1, [.ref pX, .ref pY, .ref pF, .ref pC, .ref pA, .ref pB, .ref pR, .ref pK, .int nv, .int ns, .int nw])), (pX, .inl (cI, 64, .inl vx)), (pY, .inl (cI, 64, .inl vy))]) (va_runSN (host := "SectorWalk") (As := [.int ((vx y.toNatClampNeg) - (vx x.toNatClampNeg)), .int ((vy y.toNatClampNeg) - (vy x.toNatClampNeg)), .int ((vx z.toNatClampNeg) - (vx x.toNatClampNeg)), .int ((vy z.toNatClampNeg) - (vy x.toNatClampNeg))]) (rest := []) ⟨hx, hb, hml, hown, hw⟩ (c_SW_cross l D cI cL tq _ ((vx y.toNatClampNeg) - (vx x.toNatClampNeg)) ((vy y.toNatClampNeg) - (vy x.toNatClampNeg)) ((vx z.toNatClampNeg) - (vx x.toNatClampNeg)) ((vy z.toNatClampNeg) - (vy x.toNatClampNeg))) ⟨va_cnB 4 hw (sw_gN kc_SW_cross) rfl rfl rfl (hG.nest (by decide +kernel)) (hw _ kw_7ea4a733) yd_SW_cross ⟨Nat.le_of_ble_eq_true rfl, Nat.le_of_ble_eq_true rfl⟩, hw _ kw_b1bc16be, trivial⟩ (sw_preS hK hP hD hS hA hG [] rfl (by decide)) rfl rfl hl.1 rfl (lv_room (Nat.le_of_ble_eq_true rfl)) d_Pl_side_52 ⟨Nat.le_of_ble_eq_true rfl, Nat.le_of_ble_eq_true rfl⟩) hP hD hS hA [] [0, 1, 2] rfl rfl (by decide) (by decide) (fun r_52 _ H locs hp_52 hP hD hS => ?_)
  replace hP : va_P D sw_cl [(p, .inr (1, [.ref pX, .ref pY, .ref pF, .ref pC, .ref pA, .ref pB, .ref pR, .ref pK, .int nv, .int ns, .int nw])), (pX, .inl (cI, 64, .inl vx)), (pY, .inl (cI, 64, .inl vy))] H := hP
  replace hD : va_D A [(p, .inr (1, [.ref pX, .ref pY, .ref pF, .ref pC, .ref pA, .ref pB, .ref pR, .ref pK, .int nv, .int ns, .int nw])), (pX, .inl (cI, 64, .inl vx)), (pY, .inl (cI, 64, .inl vy))] := hD
  try dsimp only at hp_52
  subst hp_52
  have hP9 := hP.sub (ws' := [(p, .inr (1, [.ref pX, .ref pY, .ref pF, .ref pC, .ref pA, .ref pB, .ref pR, .ref pK, .int nv, .int ns, .int nw])), (pX, .inl (cI, 64, .inl vx)), (pY, .inl (cI, 64, .inl vy))]) [0, 1, 2] rfl
  have hD9 := hD.sub (ws' := [(p, .inr (1, [.ref pX, .ref pY, .ref pF, .ref pC, .ref pA, .ref pB, .ref pR, .ref pK, .int nv, .int ns, .int nw])), (pX, .inl (cI, 64, .inl vx)), (pY, .inl (cI, 64, .inl vy))]) [0, 1, 2] (by decide) rfl
  exact W.iret (v := ((vx y.toNatClampNeg) - (vx x.toNatClampNeg)) * ((vy z.toNatClampNeg) - (vy x.toNatClampNeg)) - ((vy y.toNatClampNeg) - (vy x.toNatClampNeg)) * ((vx z.toNatClampNeg) - (vx x.toNatClampNeg))) hx hb hr (fun T9 hT9 hW9 => ⟨⟨((vx y.toNatClampNeg) - (vx x.toNatClampNeg)) * ((vy z.toNatClampNeg) - (vy x.toNatClampNeg)) - ((vy y.toNatClampNeg) - (vy x.toNatClampNeg)) * ((vx z.toNatClampNeg) - (vx x.toNatClampNeg)), (), rfl, by rfl, by rw [hT9]; exact hP9, hD9⟩, hS.F hT9⟩) hS.2.2 d_Pl_side_55

abbrev rm_Pl_straddles : Room := { frames := 2, cells := 0, slots := 0, locals := 46 }
abbrev q_Pl_straddles (D : va_G) (cI cL : ClassId) (A : Nat → Prop) (p : Nat) (x : Int32) (y : Int32) (z : Int32) (v : Int32) (pX : Nat) (pY : Nat) (pF : Nat) (pC : Nat) (pA : Nat) (pB : Nat) (pR : Nat) (pK : Nat) (nv : Int32) (ns : Int32) (nw : Int32) (vx : Nat → Int32) (vy : Nat → Int32) : Array Value → State → Outcome → State → Prop := va_Qi (S := Unit) (fun (r : Int32) => fun (_ : Unit) => r = sw_b (sw_str (sw_side vx vy x.toNatClampNeg y.toNatClampNeg z.toNatClampNeg) (sw_side vx vy x.toNatClampNeg y.toNatClampNeg v.toNatClampNeg))) (sw_R D A (fun (_ : Unit) => [(p, .inr (1, [.ref pX, .ref pY, .ref pF, .ref pC, .ref pA, .ref pB, .ref pR, .ref pK, .int nv, .int ns, .int nw])), (pX, .inl (cI, 64, .inl vx)), (pY, .inl (cI, 64, .inl vy))])) A
set_option maxHeartbeats 4000000 in
set_option maxRecDepth 100000 in
theorem c_Pl_straddles (l : Launch) (D : va_G) (cI cL : ClassId) (tq sz : Nat) (p : Nat) (x : Int32) (y : Int32) (z : Int32) (v : Int32) (pX : Nat) (pY : Nat) (pF : Nat) (pC : Nat) (pA : Nat) (pB : Nat) (pR : Nat) (pK : Nat) (nv : Int32) (ns : Int32) (nw : Int32) (vx : Nat → Int32) (vy : Nat → Int32) (ix : vp_in x 64) (iy : vp_in y 64) (iz : vp_in z 64) (iv : vp_in v 64) : Met l y_Pl_straddles w_Pl_straddles rm_Pl_straddles (va_Pc [.ref p, .int x, .int y, .int z, .int v] (sw_B D cI cL tq sz [(p, .inr (1, [.ref pX, .ref pY, .ref pF, .ref pC, .ref pA, .ref pB, .ref pR, .ref pK, .int nv, .int ns, .int nw])), (pX, .inl (cI, 64, .inl vx)), (pY, .inl (cI, 64, .inl vy))])) (q_Pl_straddles D cI cL (va_A [(p, .inr (1, [.ref pX, .ref pY, .ref pF, .ref pC, .ref pA, .ref pB, .ref pR, .ref pK, .int nv, .int ns, .int nw])), (pX, .inl (cI, 64, .inl vx)), (pY, .inl (cI, 64, .inl vy))] sz) p x y z v pX pY pF pC pA pB pR pK nv ns nw vx vy) 0 0 (va_A [(p, .inr (1, [.ref pX, .ref pY, .ref pF, .ref pC, .ref pA, .ref pB, .ref pR, .ref pK, .int nv, .int ns, .int nw])), (pX, .inl (cI, 64, .inl vx)), (pY, .inl (cI, 64, .inl vy))] sz) := by
  refine Met.ofW (cc := b_Pl_straddles) (maxL := 7) (ret := (some .boolean)) (by decide) rfl ?_
  intro mp me s mm args below meth mk s₁ B hml hv
  obtain ⟨rfl, hsz, hP, hK, hD0, hG⟩ := hv
  have hx := B.exec
  have hb := B.bytes
  have hr := B.returns
  have hts := atoms_spec (ws := w_Pl_straddles) B.pre
  have hw : ∀ w ∈ sw_words, w.before _ s = true := fun w h => hts w (List.mem_cons_of_mem _ h)
  have hown : s.vm.findClass R_Pl = some mm.cls := findClass_of_methodNamed B.named
  have hlocks := B.notSynchronized
  subst hsz
  have hD := hD0.self (sz := s.heap.size)
  generalize hAe : va_A [(p, .inr (1, [.ref pX, .ref pY, .ref pF, .ref pC, .ref pA, .ref pB, .ref pR, .ref pK, .int nv, .int ns, .int nw])), (pX, .inl (cI, 64, .inl vx)), (pY, .inl (cI, 64, .inl vy))] s.heap.size = A at hD hG ⊢
  have hA : ∀ q : Nat, s.heap.size ≤ q → A q := fun q h => by rw [← hAe]; exact Or.inr h
  have hS : va_S A s.heap s.heap [] := va_S.rf
  have hl := lv_entry ([.ref p, .int x, .int y, .int z, .int v]) (n := 7) (Nat.le_of_ble_eq_true rfl)
  rw [lg_entry_eq]
  generalize (lg_sl ([.ref p, .int x, .int y, .int z, .int v]) ++ List.replicate (7 - (lg_sl ([.ref p, .int x, .int y, .int z, .int v])).length) Slot.unset).toArray = ls at hl ⊢
  have hl : lv_has ls 7 [(0, .ref p), (1, .int x), (2, .int y), (3, .int z), (4, .int v)] := hl
  refine lv_aload_n hx hb d_Pl_straddles_0 rfl (lv_at hl 0 rfl) ?_
  refine lv_iload_n hx hb d_Pl_straddles_1 rfl (lv_at hl 1 rfl) ?_
  refine lv_iload_n hx hb d_Pl_straddles_2 rfl (lv_at hl 2 rfl) ?_
  refine lv_iload_n hx hb d_Pl_straddles_3 rfl (lv_at hl 3 rfl) ?_
  refine sw_ki0 (wr := []) (va_runV (As := [.int x, .int y, .int z]) (rest := []) ⟨hx, hb, hml, hown, hw⟩ (c_Pl_side l D cI cL tq _ p x y z pX pY pF pC pA pB pR pK nv ns nw vx vy (by assumption) (by assumption) (by assumption)) (cwV 3 hw (sw_gV kw_9cbdf2ed kw_98fa46ae kw_6ad6a552 kw_e4821dd4 kc_Pl_side) rfl rfl rfl ⟨rfl, yd_Pl_side⟩ ⟨Nat.le_of_ble_eq_true rfl, Nat.le_of_ble_eq_true rfl⟩) (sw_preV hK hP hD hS hA hG [0, 1, 2] rfl (by decide) 1 0 rfl rfl) rfl rfl hl.1 rfl (lv_room (Nat.le_of_ble_eq_true rfl)) d_Pl_straddles_4 ⟨Nat.le_of_ble_eq_true rfl, Nat.le_of_ble_eq_true rfl⟩) hP hD hS hA [0, 1, 2] [] rfl rfl (by decide) (by decide) (fun r_4 _ H locs hp_4 hP hD hS => ?_)
  replace hP : va_P D sw_cl [(p, .inr (1, [.ref pX, .ref pY, .ref pF, .ref pC, .ref pA, .ref pB, .ref pR, .ref pK, .int nv, .int ns, .int nw])), (pX, .inl (cI, 64, .inl vx)), (pY, .inl (cI, 64, .inl vy))] H := hP
  replace hD : va_D A [(p, .inr (1, [.ref pX, .ref pY, .ref pF, .ref pC, .ref pA, .ref pB, .ref pR, .ref pK, .int nv, .int ns, .int nw])), (pX, .inl (cI, 64, .inl vx)), (pY, .inl (cI, 64, .inl vy))] := hD
  try dsimp only at hp_4
  subst hp_4
  refine lv_istore (lv' := [(5, .int (sw_side vx vy x.toNatClampNeg y.toNatClampNeg z.toNatClampNeg)), (0, .ref p), (1, .int x), (2, .int y), (3, .int z), (4, .int v)]) hx hb d_Pl_straddles_7 hl (by decide) rfl (fun ls hl => ?_)
  refine lv_aload_n hx hb d_Pl_straddles_9 rfl (lv_at hl 1 rfl) ?_
  refine lv_iload_n hx hb d_Pl_straddles_10 rfl (lv_at hl 2 rfl) ?_
  refine lv_iload_n hx hb d_Pl_straddles_11 rfl (lv_at hl 3 rfl) ?_
  refine lv_iload hx hb d_Pl_straddles_12 (lv_at hl 5 rfl) ?_
  refine sw_ki0 (wr := []) (va_runV (As := [.int x, .int y, .int v]) (rest := []) ⟨hx, hb, hml, hown, hw⟩ (c_Pl_side l D cI cL tq _ p x y v pX pY pF pC pA pB pR pK nv ns nw vx vy (by assumption) (by assumption) (by assumption)) (cwV 3 hw (sw_gV kw_9cbdf2ed kw_98fa46ae kw_6ad6a552 kw_e4821dd4 kc_Pl_side) rfl rfl rfl ⟨rfl, yd_Pl_side⟩ ⟨Nat.le_of_ble_eq_true rfl, Nat.le_of_ble_eq_true rfl⟩) (sw_preV hK hP hD hS hA hG [0, 1, 2] rfl (by decide) 1 0 rfl rfl) rfl rfl hl.1 rfl (lv_room (Nat.le_of_ble_eq_true rfl)) d_Pl_straddles_14 ⟨Nat.le_of_ble_eq_true rfl, Nat.le_of_ble_eq_true rfl⟩) hP hD hS hA [0, 1, 2] [] rfl rfl (by decide) (by decide) (fun r_14 _ H locs hp_14 hP hD hS => ?_)
  replace hP : va_P D sw_cl [(p, .inr (1, [.ref pX, .ref pY, .ref pF, .ref pC, .ref pA, .ref pB, .ref pR, .ref pK, .int nv, .int ns, .int nw])), (pX, .inl (cI, 64, .inl vx)), (pY, .inl (cI, 64, .inl vy))] H := hP
  replace hD : va_D A [(p, .inr (1, [.ref pX, .ref pY, .ref pF, .ref pC, .ref pA, .ref pB, .ref pR, .ref pK, .int nv, .int ns, .int nw])), (pX, .inl (cI, 64, .inl vx)), (pY, .inl (cI, 64, .inl vy))] := hD
  try dsimp only at hp_14
  subst hp_14
  refine lv_istore (lv' := [(6, .int (sw_side vx vy x.toNatClampNeg y.toNatClampNeg v.toNatClampNeg)), (5, .int (sw_side vx vy x.toNatClampNeg y.toNatClampNeg z.toNatClampNeg)), (0, .ref p), (1, .int x), (2, .int y), (3, .int z), (4, .int v)]) hx hb d_Pl_straddles_17 hl (by decide) rfl (fun ls hl => ?_)
  refine lv_iload hx hb d_Pl_straddles_19 (lv_at hl 1 rfl) ?_
  refine lv_if_le (tgt := 29) hx hb d_Pl_straddles_21 (by decide) (fun c_21 => ?_) (fun c_21 => ?_)
  · skip
    refine lv_iload hx hb d_Pl_straddles_29 (lv_at hl 1 rfl) ?_
    refine lv_if_ge (tgt := 39) hx hb d_Pl_straddles_31 (by decide) (fun c_31 => ?_) (fun c_31 => ?_)
    · skip
      refine lv_iconst (v := 1) hx hb d_Pl_straddles_39 (by decide) ?_
      refine lv_goto (tgt := 44) hx hb d_Pl_straddles_40 (by decide) ?_
      have hP9 := hP.sub (ws' := [(p, .inr (1, [.ref pX, .ref pY, .ref pF, .ref pC, .ref pA, .ref pB, .ref pR, .ref pK, .int nv, .int ns, .int nw])), (pX, .inl (cI, 64, .inl vx)), (pY, .inl (cI, 64, .inl vy))]) [0, 1, 2] rfl
      have hD9 := hD.sub (ws' := [(p, .inr (1, [.ref pX, .ref pY, .ref pF, .ref pC, .ref pA, .ref pB, .ref pR, .ref pK, .int nv, .int ns, .int nw])), (pX, .inl (cI, 64, .inl vx)), (pY, .inl (cI, 64, .inl vy))]) [0, 1, 2] (by decide) rfl
      exact W.zret (ty := .boolean) (v := 1) hx hb hr (rfl) (fun T9 hT9 hW9 => ⟨⟨1, (), rfl, by simp [sw_b, sw_str, c_21, c_31], by rw [hT9]; exact hP9, hD9⟩, hS.F hT9⟩) hS.2.2 d_Pl_straddles_44
    · skip
      refine lv_iload hx hb d_Pl_straddles_34 (lv_at hl 0 rfl) ?_
      refine lv_if_lt (tgt := 43) hx hb d_Pl_straddles_36 (by decide) (fun c_36 => ?_) (fun c_36 => ?_)
      · skip
        refine lv_iconst (v := 0) hx hb d_Pl_straddles_43 (by decide) ?_
        have hP9 := hP.sub (ws' := [(p, .inr (1, [.ref pX, .ref pY, .ref pF, .ref pC, .ref pA, .ref pB, .ref pR, .ref pK, .int nv, .int ns, .int nw])), (pX, .inl (cI, 64, .inl vx)), (pY, .inl (cI, 64, .inl vy))]) [0, 1, 2] rfl
        have hD9 := hD.sub (ws' := [(p, .inr (1, [.ref pX, .ref pY, .ref pF, .ref pC, .ref pA, .ref pB, .ref pR, .ref pK, .int nv, .int ns, .int nw])), (pX, .inl (cI, 64, .inl vx)), (pY, .inl (cI, 64, .inl vy))]) [0, 1, 2] (by decide) rfl
        exact W.zret (ty := .boolean) (v := 0) hx hb hr (rfl) (fun T9 hT9 hW9 => ⟨⟨0, (), rfl, by simp [sw_b, sw_str, c_21, c_31, c_36], by rw [hT9]; exact hP9, hD9⟩, hS.F hT9⟩) hS.2.2 d_Pl_straddles_44
      · skip
        refine lv_iconst (v := 1) hx hb d_Pl_straddles_39 (by decide) ?_
        refine lv_goto (tgt := 44) hx hb d_Pl_straddles_40 (by decide) ?_
        have hP9 := hP.sub (ws' := [(p, .inr (1, [.ref pX, .ref pY, .ref pF, .ref pC, .ref pA, .ref pB, .ref pR, .ref pK, .int nv, .int ns, .int nw])), (pX, .inl (cI, 64, .inl vx)), (pY, .inl (cI, 64, .inl vy))]) [0, 1, 2] rfl
        have hD9 := hD.sub (ws' := [(p, .inr (1, [.ref pX, .ref pY, .ref pF, .ref pC, .ref pA, .ref pB, .ref pR, .ref pK, .int nv, .int ns, .int nw])), (pX, .inl (cI, 64, .inl vx)), (pY, .inl (cI, 64, .inl vy))]) [0, 1, 2] (by decide) rfl
        exact W.zret (ty := .boolean) (v := 1) hx hb hr (rfl) (fun T9 hT9 hW9 => ⟨⟨1, (), rfl, by simp [sw_b, sw_str, c_21, c_31, c_36], by rw [hT9]; exact hP9, hD9⟩, hS.F hT9⟩) hS.2.2 d_Pl_straddles_44
  · skip
    refine lv_iload hx hb d_Pl_straddles_24 (lv_at hl 0 rfl) ?_
    refine lv_if_gt (tgt := 43) hx hb d_Pl_straddles_26 (by decide) (fun c_26 => ?_) (fun c_26 => ?_)
    · skip
      refine lv_iconst (v := 0) hx hb d_Pl_straddles_43 (by decide) ?_
      have hP9 := hP.sub (ws' := [(p, .inr (1, [.ref pX, .ref pY, .ref pF, .ref pC, .ref pA, .ref pB, .ref pR, .ref pK, .int nv, .int ns, .int nw])), (pX, .inl (cI, 64, .inl vx)), (pY, .inl (cI, 64, .inl vy))]) [0, 1, 2] rfl
      have hD9 := hD.sub (ws' := [(p, .inr (1, [.ref pX, .ref pY, .ref pF, .ref pC, .ref pA, .ref pB, .ref pR, .ref pK, .int nv, .int ns, .int nw])), (pX, .inl (cI, 64, .inl vx)), (pY, .inl (cI, 64, .inl vy))]) [0, 1, 2] (by decide) rfl
      exact W.zret (ty := .boolean) (v := 0) hx hb hr (rfl) (fun T9 hT9 hW9 => ⟨⟨0, (), rfl, by simp [sw_b, sw_str, c_21, c_26], by rw [hT9]; exact hP9, hD9⟩, hS.F hT9⟩) hS.2.2 d_Pl_straddles_44
    · skip
      refine lv_iload hx hb d_Pl_straddles_29 (lv_at hl 1 rfl) ?_
      refine lv_if_ge (tgt := 39) hx hb d_Pl_straddles_31 (by decide) (fun c_31 => ?_) (fun c_31 => ?_)
      · skip
        refine lv_iconst (v := 1) hx hb d_Pl_straddles_39 (by decide) ?_
        refine lv_goto (tgt := 44) hx hb d_Pl_straddles_40 (by decide) ?_
        have hP9 := hP.sub (ws' := [(p, .inr (1, [.ref pX, .ref pY, .ref pF, .ref pC, .ref pA, .ref pB, .ref pR, .ref pK, .int nv, .int ns, .int nw])), (pX, .inl (cI, 64, .inl vx)), (pY, .inl (cI, 64, .inl vy))]) [0, 1, 2] rfl
        have hD9 := hD.sub (ws' := [(p, .inr (1, [.ref pX, .ref pY, .ref pF, .ref pC, .ref pA, .ref pB, .ref pR, .ref pK, .int nv, .int ns, .int nw])), (pX, .inl (cI, 64, .inl vx)), (pY, .inl (cI, 64, .inl vy))]) [0, 1, 2] (by decide) rfl
        exact W.zret (ty := .boolean) (v := 1) hx hb hr (rfl) (fun T9 hT9 hW9 => ⟨⟨1, (), rfl, by simp [sw_b, sw_str, c_21, c_26, c_31], by rw [hT9]; exact hP9, hD9⟩, hS.F hT9⟩) hS.2.2 d_Pl_straddles_44
      · skip
        refine lv_iload hx hb d_Pl_straddles_34 (lv_at hl 0 rfl) ?_
        refine lv_if_lt (tgt := 43) hx hb d_Pl_straddles_36 (by decide) (fun c_36 => ?_) (fun c_36 => ?_)
        · skip
          refine lv_iconst (v := 0) hx hb d_Pl_straddles_43 (by decide) ?_
          have hP9 := hP.sub (ws' := [(p, .inr (1, [.ref pX, .ref pY, .ref pF, .ref pC, .ref pA, .ref pB, .ref pR, .ref pK, .int nv, .int ns, .int nw])), (pX, .inl (cI, 64, .inl vx)), (pY, .inl (cI, 64, .inl vy))]) [0, 1, 2] rfl
          have hD9 := hD.sub (ws' := [(p, .inr (1, [.ref pX, .ref pY, .ref pF, .ref pC, .ref pA, .ref pB, .ref pR, .ref pK, .int nv, .int ns, .int nw])), (pX, .inl (cI, 64, .inl vx)), (pY, .inl (cI, 64, .inl vy))]) [0, 1, 2] (by decide) rfl
          exact W.zret (ty := .boolean) (v := 0) hx hb hr (rfl) (fun T9 hT9 hW9 => ⟨⟨0, (), rfl, by simp [sw_b, sw_str, c_21, c_26, c_31, c_36], by rw [hT9]; exact hP9, hD9⟩, hS.F hT9⟩) hS.2.2 d_Pl_straddles_44
        · skip
          refine lv_iconst (v := 1) hx hb d_Pl_straddles_39 (by decide) ?_
          refine lv_goto (tgt := 44) hx hb d_Pl_straddles_40 (by decide) ?_
          have hP9 := hP.sub (ws' := [(p, .inr (1, [.ref pX, .ref pY, .ref pF, .ref pC, .ref pA, .ref pB, .ref pR, .ref pK, .int nv, .int ns, .int nw])), (pX, .inl (cI, 64, .inl vx)), (pY, .inl (cI, 64, .inl vy))]) [0, 1, 2] rfl
          have hD9 := hD.sub (ws' := [(p, .inr (1, [.ref pX, .ref pY, .ref pF, .ref pC, .ref pA, .ref pB, .ref pR, .ref pK, .int nv, .int ns, .int nw])), (pX, .inl (cI, 64, .inl vx)), (pY, .inl (cI, 64, .inl vy))]) [0, 1, 2] (by decide) rfl
          exact W.zret (ty := .boolean) (v := 1) hx hb hr (rfl) (fun T9 hT9 hW9 => ⟨⟨1, (), rfl, by simp [sw_b, sw_str, c_21, c_26, c_31, c_36], by rw [hT9]; exact hP9, hD9⟩, hS.F hT9⟩) hS.2.2 d_Pl_straddles_44

abbrev rm_Pl_leaveAlike : Room := { frames := 1, cells := 0, slots := 0, locals := 23 }
abbrev q_Pl_leaveAlike (D : va_G) (cI cL : ClassId) (A : Nat → Prop) (p : Nat) (x : Int32) (y : Int32) (z : Int32) (pX : Nat) (pY : Nat) (pF : Nat) (pC : Nat) (pA : Nat) (pB : Nat) (pR : Nat) (pK : Nat) (nv : Int32) (ns : Int32) (nw : Int32) (vx : Nat → Int32) (vy : Nat → Int32) : Array Value → State → Outcome → State → Prop := va_Qi (S := Unit) (fun (r : Int32) => fun (_ : Unit) => r = sw_b (sw_la vx vy x.toNatClampNeg y.toNatClampNeg z.toNatClampNeg)) (sw_R D A (fun (_ : Unit) => [(p, .inr (1, [.ref pX, .ref pY, .ref pF, .ref pC, .ref pA, .ref pB, .ref pR, .ref pK, .int nv, .int ns, .int nw])), (pX, .inl (cI, 64, .inl vx)), (pY, .inl (cI, 64, .inl vy))])) A
set_option maxHeartbeats 4000000 in
set_option maxRecDepth 100000 in
theorem c_Pl_leaveAlike (l : Launch) (D : va_G) (cI cL : ClassId) (tq sz : Nat) (p : Nat) (x : Int32) (y : Int32) (z : Int32) (pX : Nat) (pY : Nat) (pF : Nat) (pC : Nat) (pA : Nat) (pB : Nat) (pR : Nat) (pK : Nat) (nv : Int32) (ns : Int32) (nw : Int32) (vx : Nat → Int32) (vy : Nat → Int32) (ix : vp_in x 64) (iy : vp_in y 64) (iz : vp_in z 64) : Met l y_Pl_leaveAlike w_Pl_leaveAlike rm_Pl_leaveAlike (va_Pc [.ref p, .int x, .int y, .int z] (sw_B D cI cL tq sz [(p, .inr (1, [.ref pX, .ref pY, .ref pF, .ref pC, .ref pA, .ref pB, .ref pR, .ref pK, .int nv, .int ns, .int nw])), (pX, .inl (cI, 64, .inl vx)), (pY, .inl (cI, 64, .inl vy))])) (q_Pl_leaveAlike D cI cL (va_A [(p, .inr (1, [.ref pX, .ref pY, .ref pF, .ref pC, .ref pA, .ref pB, .ref pR, .ref pK, .int nv, .int ns, .int nw])), (pX, .inl (cI, 64, .inl vx)), (pY, .inl (cI, 64, .inl vy))] sz) p x y z pX pY pF pC pA pB pR pK nv ns nw vx vy) 0 0 (va_A [(p, .inr (1, [.ref pX, .ref pY, .ref pF, .ref pC, .ref pA, .ref pB, .ref pR, .ref pK, .int nv, .int ns, .int nw])), (pX, .inl (cI, 64, .inl vx)), (pY, .inl (cI, 64, .inl vy))] sz) := by
  refine Met.ofW (cc := b_Pl_leaveAlike) (maxL := 8) (ret := (some .boolean)) (by decide) rfl ?_
  intro mp me s mm args below meth mk s₁ B hml hv
  obtain ⟨rfl, hsz, hP, hK, hD0, hG⟩ := hv
  have hx := B.exec
  have hb := B.bytes
  have hr := B.returns
  have hts := atoms_spec (ws := w_Pl_leaveAlike) B.pre
  have hw : ∀ w ∈ sw_words, w.before _ s = true := fun w h => hts w (List.mem_cons_of_mem _ h)
  have hown : s.vm.findClass R_Pl = some mm.cls := findClass_of_methodNamed B.named
  have hlocks := B.notSynchronized
  subst hsz
  have hD := hD0.self (sz := s.heap.size)
  generalize hAe : va_A [(p, .inr (1, [.ref pX, .ref pY, .ref pF, .ref pC, .ref pA, .ref pB, .ref pR, .ref pK, .int nv, .int ns, .int nw])), (pX, .inl (cI, 64, .inl vx)), (pY, .inl (cI, 64, .inl vy))] s.heap.size = A at hD hG ⊢
  have hA : ∀ q : Nat, s.heap.size ≤ q → A q := fun q h => by rw [← hAe]; exact Or.inr h
  have hS : va_S A s.heap s.heap [] := va_S.rf
  have hl := lv_entry ([.ref p, .int x, .int y, .int z]) (n := 8) (Nat.le_of_ble_eq_true rfl)
  rw [lg_entry_eq]
  generalize (lg_sl ([.ref p, .int x, .int y, .int z]) ++ List.replicate (8 - (lg_sl ([.ref p, .int x, .int y, .int z])).length) Slot.unset).toArray = ls at hl ⊢
  have hl : lv_has ls 8 [(0, .ref p), (1, .int x), (2, .int y), (3, .int z)] := hl
  refine lv_aload_n hx hb d_Pl_leaveAlike_0 rfl (lv_at hl 0 rfl) ?_
  refine va_get (D := D) (ci := 1) (v := .ref pX) (C := R_Pl) (T := F_Pl) (N := 11) hx hb hw ku_Pl hown hK hP 0 rfl rfl 0 (by decide) (hw _ kw_8234c2ed) (fun _ h9 => h9) rfl d_Pl_leaveAlike_1 ?_
  refine lv_iload_n hx hb d_Pl_leaveAlike_4 rfl (lv_at hl 2 rfl) ?_
  refine va_iald hx hb hK hP 1 0 rfl rfl (by assumption) d_Pl_leaveAlike_5 ?_
  refine lv_aload_n hx hb d_Pl_leaveAlike_6 rfl (lv_at hl 0 rfl) ?_
  refine va_get (D := D) (ci := 1) (v := .ref pX) (C := R_Pl) (T := F_Pl) (N := 11) hx hb hw ku_Pl hown hK hP 0 rfl rfl 0 (by decide) (hw _ kw_8234c2ed) (fun _ h9 => h9) rfl d_Pl_leaveAlike_7 ?_
  refine lv_iload_n hx hb d_Pl_leaveAlike_10 rfl (lv_at hl 1 rfl) ?_
  refine va_iald hx hb hK hP 1 0 rfl rfl (by assumption) d_Pl_leaveAlike_11 ?_
  refine lv_isub hx hb d_Pl_leaveAlike_12 ?_
  refine lv_istore (lv' := [(4, .int ((vx y.toNatClampNeg) - (vx x.toNatClampNeg))), (0, .ref p), (1, .int x), (2, .int y), (3, .int z)]) hx hb d_Pl_leaveAlike_13 hl (by decide) rfl (fun ls hl => ?_)
  refine lv_aload_n hx hb d_Pl_leaveAlike_15 rfl (lv_at hl 1 rfl) ?_
  refine va_get (D := D) (ci := 1) (v := .ref pY) (C := R_Pl) (T := F_Pl) (N := 11) hx hb hw ku_Pl hown hK hP 0 rfl rfl 1 (by decide) (hw _ kw_c8115e4c) (fun _ h9 => h9) rfl d_Pl_leaveAlike_16 ?_
  refine lv_iload_n hx hb d_Pl_leaveAlike_19 rfl (lv_at hl 3 rfl) ?_
  refine va_iald hx hb hK hP 2 0 rfl rfl (by assumption) d_Pl_leaveAlike_20 ?_
  refine lv_aload_n hx hb d_Pl_leaveAlike_21 rfl (lv_at hl 1 rfl) ?_
  refine va_get (D := D) (ci := 1) (v := .ref pY) (C := R_Pl) (T := F_Pl) (N := 11) hx hb hw ku_Pl hown hK hP 0 rfl rfl 1 (by decide) (hw _ kw_c8115e4c) (fun _ h9 => h9) rfl d_Pl_leaveAlike_22 ?_
  refine lv_iload_n hx hb d_Pl_leaveAlike_25 rfl (lv_at hl 2 rfl) ?_
  refine va_iald hx hb hK hP 2 0 rfl rfl (by assumption) d_Pl_leaveAlike_26 ?_
  refine lv_isub hx hb d_Pl_leaveAlike_27 ?_
  refine lv_istore (lv' := [(5, .int ((vy y.toNatClampNeg) - (vy x.toNatClampNeg))), (4, .int ((vx y.toNatClampNeg) - (vx x.toNatClampNeg))), (0, .ref p), (1, .int x), (2, .int y), (3, .int z)]) hx hb d_Pl_leaveAlike_28 hl (by decide) rfl (fun ls hl => ?_)
  refine lv_aload_n hx hb d_Pl_leaveAlike_30 rfl (lv_at hl 2 rfl) ?_
  refine va_get (D := D) (ci := 1) (v := .ref pX) (C := R_Pl) (T := F_Pl) (N := 11) hx hb hw ku_Pl hown hK hP 0 rfl rfl 0 (by decide) (hw _ kw_8234c2ed) (fun _ h9 => h9) rfl d_Pl_leaveAlike_31 ?_
  refine lv_iload_n hx hb d_Pl_leaveAlike_34 rfl (lv_at hl 5 rfl) ?_
  refine va_iald hx hb hK hP 1 0 rfl rfl (by assumption) d_Pl_leaveAlike_35 ?_
  refine lv_aload_n hx hb d_Pl_leaveAlike_36 rfl (lv_at hl 2 rfl) ?_
  refine va_get (D := D) (ci := 1) (v := .ref pX) (C := R_Pl) (T := F_Pl) (N := 11) hx hb hw ku_Pl hown hK hP 0 rfl rfl 0 (by decide) (hw _ kw_8234c2ed) (fun _ h9 => h9) rfl d_Pl_leaveAlike_37 ?_
  refine lv_iload_n hx hb d_Pl_leaveAlike_40 rfl (lv_at hl 3 rfl) ?_
  refine va_iald hx hb hK hP 1 0 rfl rfl (by assumption) d_Pl_leaveAlike_41 ?_
  refine lv_isub hx hb d_Pl_leaveAlike_42 ?_
  refine lv_istore (lv' := [(6, .int ((vx z.toNatClampNeg) - (vx x.toNatClampNeg))), (5, .int ((vy y.toNatClampNeg) - (vy x.toNatClampNeg))), (4, .int ((vx y.toNatClampNeg) - (vx x.toNatClampNeg))), (0, .ref p), (1, .int x), (2, .int y), (3, .int z)]) hx hb d_Pl_leaveAlike_43 hl (by decide) rfl (fun ls hl => ?_)
  refine lv_aload_n hx hb d_Pl_leaveAlike_45 rfl (lv_at hl 3 rfl) ?_
  refine va_get (D := D) (ci := 1) (v := .ref pY) (C := R_Pl) (T := F_Pl) (N := 11) hx hb hw ku_Pl hown hK hP 0 rfl rfl 1 (by decide) (hw _ kw_c8115e4c) (fun _ h9 => h9) rfl d_Pl_leaveAlike_46 ?_
  refine lv_iload_n hx hb d_Pl_leaveAlike_49 rfl (lv_at hl 6 rfl) ?_
  refine va_iald hx hb hK hP 2 0 rfl rfl (by assumption) d_Pl_leaveAlike_50 ?_
  refine lv_aload_n hx hb d_Pl_leaveAlike_51 rfl (lv_at hl 3 rfl) ?_
  refine va_get (D := D) (ci := 1) (v := .ref pY) (C := R_Pl) (T := F_Pl) (N := 11) hx hb hw ku_Pl hown hK hP 0 rfl rfl 1 (by decide) (hw _ kw_c8115e4c) (fun _ h9 => h9) rfl d_Pl_leaveAlike_52 ?_
  refine lv_iload_n hx hb d_Pl_leaveAlike_55 rfl (lv_at hl 4 rfl) ?_
  refine va_iald hx hb hK hP 2 0 rfl rfl (by assumption) d_Pl_leaveAlike_56 ?_
  refine lv_isub hx hb d_Pl_leaveAlike_57 ?_
  refine lv_istore (lv' := [(7, .int ((vy z.toNatClampNeg) - (vy x.toNatClampNeg))), (6, .int ((vx z.toNatClampNeg) - (vx x.toNatClampNeg))), (5, .int ((vy y.toNatClampNeg) - (vy x.toNatClampNeg))), (4, .int ((vx y.toNatClampNeg) - (vx x.toNatClampNeg))), (0, .ref p), (1, .int x), (2, .int y), (3, .int z)]) hx hb d_Pl_leaveAlike_58 hl (by decide) rfl (fun ls hl => ?_)
  refine lv_iload hx hb d_Pl_leaveAlike_60 (lv_at hl 3 rfl) ?_
  refine lv_iload hx hb d_Pl_leaveAlike_62 (lv_at hl 2 rfl) ?_
  refine lv_iload hx hb d_Pl_leaveAlike_64 (lv_at hl 1 rfl) ?_
  refine lv_iload hx hb d_Pl_leaveAlike_66 (lv_at hl 0 rfl) ?_
  refine sw_ki0 (wr := [(p, .inr (1, [.ref pX, .ref pY, .ref pF, .ref pC, .ref pA, .ref pB, .ref pR, .ref pK, .int nv, .int ns, .int nw])), (pX, .inl (cI, 64, .inl vx)), (pY, .inl (cI, 64, .inl vy))]) (va_runSN (host := "SectorWalk") (As := [.int ((vx y.toNatClampNeg) - (vx x.toNatClampNeg)), .int ((vy y.toNatClampNeg) - (vy x.toNatClampNeg)), .int ((vx z.toNatClampNeg) - (vx x.toNatClampNeg)), .int ((vy z.toNatClampNeg) - (vy x.toNatClampNeg))]) (rest := []) ⟨hx, hb, hml, hown, hw⟩ (c_SW_cross l D cI cL tq _ ((vx y.toNatClampNeg) - (vx x.toNatClampNeg)) ((vy y.toNatClampNeg) - (vy x.toNatClampNeg)) ((vx z.toNatClampNeg) - (vx x.toNatClampNeg)) ((vy z.toNatClampNeg) - (vy x.toNatClampNeg))) ⟨va_cnB 4 hw (sw_gN kc_SW_cross) rfl rfl rfl (hG.nest (by decide +kernel)) (hw _ kw_7ea4a733) yd_SW_cross ⟨Nat.le_of_ble_eq_true rfl, Nat.le_of_ble_eq_true rfl⟩, hw _ kw_b1bc16be, trivial⟩ (sw_preS hK hP hD hS hA hG [] rfl (by decide)) rfl rfl hl.1 rfl (lv_room (Nat.le_of_ble_eq_true rfl)) d_Pl_leaveAlike_68 ⟨Nat.le_of_ble_eq_true rfl, Nat.le_of_ble_eq_true rfl⟩) hP hD hS hA [] [0, 1, 2] rfl rfl (by decide) (by decide) (fun r_68 _ H locs hp_68 hP hD hS => ?_)
  replace hP : va_P D sw_cl [(p, .inr (1, [.ref pX, .ref pY, .ref pF, .ref pC, .ref pA, .ref pB, .ref pR, .ref pK, .int nv, .int ns, .int nw])), (pX, .inl (cI, 64, .inl vx)), (pY, .inl (cI, 64, .inl vy))] H := hP
  replace hD : va_D A [(p, .inr (1, [.ref pX, .ref pY, .ref pF, .ref pC, .ref pA, .ref pB, .ref pR, .ref pK, .int nv, .int ns, .int nw])), (pX, .inl (cI, 64, .inl vx)), (pY, .inl (cI, 64, .inl vy))] := hD
  try dsimp only at hp_68
  subst hp_68
  refine lv_if_ne (tgt := 92) hx hb d_Pl_leaveAlike_71 (by decide) (fun c_71 => ?_) (fun c_71 => ?_)
  · skip
    refine lv_iconst (v := 0) hx hb d_Pl_leaveAlike_92 (by decide) ?_
    have hP9 := hP.sub (ws' := [(p, .inr (1, [.ref pX, .ref pY, .ref pF, .ref pC, .ref pA, .ref pB, .ref pR, .ref pK, .int nv, .int ns, .int nw])), (pX, .inl (cI, 64, .inl vx)), (pY, .inl (cI, 64, .inl vy))]) [0, 1, 2] rfl
    have hD9 := hD.sub (ws' := [(p, .inr (1, [.ref pX, .ref pY, .ref pF, .ref pC, .ref pA, .ref pB, .ref pR, .ref pK, .int nv, .int ns, .int nw])), (pX, .inl (cI, 64, .inl vx)), (pY, .inl (cI, 64, .inl vy))]) [0, 1, 2] (by decide) rfl
    exact W.zret (ty := .boolean) (v := 0) hx hb hr (rfl) (fun T9 hT9 hW9 => ⟨⟨0, (), rfl, by simp [sw_b, sw_la, c_71], by rw [hT9]; exact hP9, hD9⟩, hS.F hT9⟩) hS.2.2 d_Pl_leaveAlike_93
  · skip
    refine lv_iload hx hb d_Pl_leaveAlike_74 (lv_at hl 3 rfl) ?_
    refine lv_iload hx hb d_Pl_leaveAlike_76 (lv_at hl 1 rfl) ?_
    refine lv_imul hx hb d_Pl_leaveAlike_78 ?_
    refine lv_iload hx hb d_Pl_leaveAlike_79 (lv_at hl 2 rfl) ?_
    refine lv_iload hx hb d_Pl_leaveAlike_81 (lv_at hl 0 rfl) ?_
    refine lv_imul hx hb d_Pl_leaveAlike_83 ?_
    refine lv_iadd hx hb d_Pl_leaveAlike_84 ?_
    refine lv_if_le (tgt := 92) hx hb d_Pl_leaveAlike_85 (by decide) (fun c_85 => ?_) (fun c_85 => ?_)
    · skip
      refine lv_iconst (v := 0) hx hb d_Pl_leaveAlike_92 (by decide) ?_
      have hP9 := hP.sub (ws' := [(p, .inr (1, [.ref pX, .ref pY, .ref pF, .ref pC, .ref pA, .ref pB, .ref pR, .ref pK, .int nv, .int ns, .int nw])), (pX, .inl (cI, 64, .inl vx)), (pY, .inl (cI, 64, .inl vy))]) [0, 1, 2] rfl
      have hD9 := hD.sub (ws' := [(p, .inr (1, [.ref pX, .ref pY, .ref pF, .ref pC, .ref pA, .ref pB, .ref pR, .ref pK, .int nv, .int ns, .int nw])), (pX, .inl (cI, 64, .inl vx)), (pY, .inl (cI, 64, .inl vy))]) [0, 1, 2] (by decide) rfl
      exact W.zret (ty := .boolean) (v := 0) hx hb hr (rfl) (fun T9 hT9 hW9 => ⟨⟨0, (), rfl, by simp [sw_b, sw_la, c_71, c_85], by rw [hT9]; exact hP9, hD9⟩, hS.F hT9⟩) hS.2.2 d_Pl_leaveAlike_93
    · skip
      refine lv_iconst (v := 1) hx hb d_Pl_leaveAlike_88 (by decide) ?_
      refine lv_goto (tgt := 93) hx hb d_Pl_leaveAlike_89 (by decide) ?_
      have hP9 := hP.sub (ws' := [(p, .inr (1, [.ref pX, .ref pY, .ref pF, .ref pC, .ref pA, .ref pB, .ref pR, .ref pK, .int nv, .int ns, .int nw])), (pX, .inl (cI, 64, .inl vx)), (pY, .inl (cI, 64, .inl vy))]) [0, 1, 2] rfl
      have hD9 := hD.sub (ws' := [(p, .inr (1, [.ref pX, .ref pY, .ref pF, .ref pC, .ref pA, .ref pB, .ref pR, .ref pK, .int nv, .int ns, .int nw])), (pX, .inl (cI, 64, .inl vx)), (pY, .inl (cI, 64, .inl vy))]) [0, 1, 2] (by decide) rfl
      exact W.zret (ty := .boolean) (v := 1) hx hb hr (rfl) (fun T9 hT9 hW9 => ⟨⟨1, (), rfl, by simp [sw_b, sw_la, c_71, c_85], by rw [hT9]; exact hP9, hD9⟩, hS.F hT9⟩) hS.2.2 d_Pl_leaveAlike_93

abbrev rm_Pl_boxesMeet : Room := { frames := 1, cells := 0, slots := 0, locals := 14 }
abbrev q_Pl_boxesMeet (D : va_G) (cI cL : ClassId) (A : Nat → Prop) (f0 : Nat) (x : Int32) (y : Int32) (z : Int32) (v : Int32) (f : Nat → Int32) : Array Value → State → Outcome → State → Prop := va_Qi (S := Unit) (fun (r : Int32) => fun (_ : Unit) => r = sw_b (sw_bm f x.toNatClampNeg y.toNatClampNeg z.toNatClampNeg v.toNatClampNeg)) (sw_R D A (fun (_ : Unit) => [(f0, .inl (cI, 64, .inl f))])) A
set_option maxHeartbeats 4000000 in
set_option maxRecDepth 100000 in
theorem c_Pl_boxesMeet (l : Launch) (D : va_G) (cI cL : ClassId) (tq sz : Nat) (f0 : Nat) (x : Int32) (y : Int32) (z : Int32) (v : Int32) (f : Nat → Int32) (ix : vp_in x 64) (iy : vp_in y 64) (iz : vp_in z 64) (iv : vp_in v 64) : Met l y_Pl_boxesMeet w_Pl_boxesMeet rm_Pl_boxesMeet (va_Pc [.ref f0, .int x, .int y, .int z, .int v] (sw_B D cI cL tq sz [(f0, .inl (cI, 64, .inl f))])) (q_Pl_boxesMeet D cI cL (va_A [(f0, .inl (cI, 64, .inl f))] sz) f0 x y z v f) 0 0 (va_A [(f0, .inl (cI, 64, .inl f))] sz) := by
  refine Met.ofW (cc := b_Pl_boxesMeet) (maxL := 5) (ret := (some .boolean)) (by decide) rfl ?_
  intro mp me s mm args below meth mk s₁ B hml hv
  obtain ⟨rfl, hsz, hP, hK, hD0, hG⟩ := hv
  have hx := B.exec
  have hb := B.bytes
  have hr := B.returns
  have hts := atoms_spec (ws := w_Pl_boxesMeet) B.pre
  have hw : ∀ w ∈ sw_words, w.before _ s = true := fun w h => hts w (List.mem_cons_of_mem _ h)
  have hown : s.vm.findClass R_Pl = some mm.cls := findClass_of_methodNamed B.named
  have hlocks := B.notSynchronized
  subst hsz
  have hD := hD0.self (sz := s.heap.size)
  generalize hAe : va_A [(f0, .inl (cI, 64, .inl f))] s.heap.size = A at hD hG ⊢
  have hA : ∀ q : Nat, s.heap.size ≤ q → A q := fun q h => by rw [← hAe]; exact Or.inr h
  have hS : va_S A s.heap s.heap [] := va_S.rf
  have hl := lv_entry ([.ref f0, .int x, .int y, .int z, .int v]) (n := 5) (Nat.le_of_ble_eq_true rfl)
  rw [lg_entry_eq]
  generalize (lg_sl ([.ref f0, .int x, .int y, .int z, .int v]) ++ List.replicate (5 - (lg_sl ([.ref f0, .int x, .int y, .int z, .int v])).length) Slot.unset).toArray = ls at hl ⊢
  have hl : lv_has ls 5 [(0, .ref f0), (1, .int x), (2, .int y), (3, .int z), (4, .int v)] := hl
  refine lv_aload_n hx hb d_Pl_boxesMeet_0 rfl (lv_at hl 0 rfl) ?_
  refine lv_iload_n hx hb d_Pl_boxesMeet_1 rfl (lv_at hl 1 rfl) ?_
  refine va_iald hx hb hK hP 0 0 rfl rfl (by assumption) d_Pl_boxesMeet_2 ?_
  refine lv_aload_n hx hb d_Pl_boxesMeet_3 rfl (lv_at hl 0 rfl) ?_
  refine lv_iload_n hx hb d_Pl_boxesMeet_4 rfl (lv_at hl 2 rfl) ?_
  refine va_iald hx hb hK hP 0 0 rfl rfl (by assumption) d_Pl_boxesMeet_5 ?_
  refine va_mmax hx hb (hml.trans hl.1.symm) hown (hw _ kw_abc36f78) (hw _ kw_05e3ba51) (hw _ kw_0f7fb0a1) (hw _ kc_Math_max) (Nat.le_of_ble_eq_true rfl) (Nat.le_of_ble_eq_true rfl) (Nat.le_of_ble_eq_true rfl) (Nat.le_of_ble_eq_true rfl) d_Pl_boxesMeet_6 ?_
  refine lv_aload_n hx hb d_Pl_boxesMeet_9 rfl (lv_at hl 0 rfl) ?_
  refine lv_iload_n hx hb d_Pl_boxesMeet_10 rfl (lv_at hl 3 rfl) ?_
  refine va_iald hx hb hK hP 0 0 rfl rfl (by assumption) d_Pl_boxesMeet_11 ?_
  refine lv_aload_n hx hb d_Pl_boxesMeet_12 rfl (lv_at hl 0 rfl) ?_
  refine lv_iload hx hb d_Pl_boxesMeet_13 (lv_at hl 4 rfl) ?_
  refine va_iald hx hb hK hP 0 0 rfl rfl (by assumption) d_Pl_boxesMeet_15 ?_
  refine va_mmin hx hb (hml.trans hl.1.symm) hown (hw _ kw_d854bd5a) (hw _ kw_e38315b0) (hw _ kw_0f7fb0a1) (hw _ kc_Math_min) (Nat.le_of_ble_eq_true rfl) (Nat.le_of_ble_eq_true rfl) (Nat.le_of_ble_eq_true rfl) (Nat.le_of_ble_eq_true rfl) d_Pl_boxesMeet_16 ?_
  refine lv_icmp_lt (tgt := 48) hx hb d_Pl_boxesMeet_19 (by decide) (fun c_19 => ?_) (fun c_19 => ?_)
  · skip
    replace c_19 : ((sw_mx (f x.toNatClampNeg) (f y.toNatClampNeg)) < (sw_mn (f z.toNatClampNeg) (f v.toNatClampNeg))) := c_19
    refine lv_iconst (v := 0) hx hb d_Pl_boxesMeet_48 (by decide) ?_
    have hP9 := hP.sub (ws' := [(f0, .inl (cI, 64, .inl f))]) [0] rfl
    have hD9 := hD.sub (ws' := [(f0, .inl (cI, 64, .inl f))]) [0] (by decide) rfl
    exact W.zret (ty := .boolean) (v := 0) hx hb hr (rfl) (fun T9 hT9 hW9 => ⟨⟨0, (), rfl, by simp [sw_b, sw_bm, c_19], by rw [hT9]; exact hP9, hD9⟩, hS.F hT9⟩) hS.2.2 d_Pl_boxesMeet_49
  · skip
    replace c_19 : ¬ ((sw_mx (f x.toNatClampNeg) (f y.toNatClampNeg)) < (sw_mn (f z.toNatClampNeg) (f v.toNatClampNeg))) := c_19
    refine lv_aload_n hx hb d_Pl_boxesMeet_22 rfl (lv_at hl 0 rfl) ?_
    refine lv_iload_n hx hb d_Pl_boxesMeet_23 rfl (lv_at hl 3 rfl) ?_
    refine va_iald hx hb hK hP 0 0 rfl rfl (by assumption) d_Pl_boxesMeet_24 ?_
    refine lv_aload_n hx hb d_Pl_boxesMeet_25 rfl (lv_at hl 0 rfl) ?_
    refine lv_iload hx hb d_Pl_boxesMeet_26 (lv_at hl 4 rfl) ?_
    refine va_iald hx hb hK hP 0 0 rfl rfl (by assumption) d_Pl_boxesMeet_28 ?_
    refine va_mmax hx hb (hml.trans hl.1.symm) hown (hw _ kw_abc36f78) (hw _ kw_05e3ba51) (hw _ kw_0f7fb0a1) (hw _ kc_Math_max) (Nat.le_of_ble_eq_true rfl) (Nat.le_of_ble_eq_true rfl) (Nat.le_of_ble_eq_true rfl) (Nat.le_of_ble_eq_true rfl) d_Pl_boxesMeet_29 ?_
    refine lv_aload_n hx hb d_Pl_boxesMeet_32 rfl (lv_at hl 0 rfl) ?_
    refine lv_iload_n hx hb d_Pl_boxesMeet_33 rfl (lv_at hl 1 rfl) ?_
    refine va_iald hx hb hK hP 0 0 rfl rfl (by assumption) d_Pl_boxesMeet_34 ?_
    refine lv_aload_n hx hb d_Pl_boxesMeet_35 rfl (lv_at hl 0 rfl) ?_
    refine lv_iload_n hx hb d_Pl_boxesMeet_36 rfl (lv_at hl 2 rfl) ?_
    refine va_iald hx hb hK hP 0 0 rfl rfl (by assumption) d_Pl_boxesMeet_37 ?_
    refine va_mmin hx hb (hml.trans hl.1.symm) hown (hw _ kw_d854bd5a) (hw _ kw_e38315b0) (hw _ kw_0f7fb0a1) (hw _ kc_Math_min) (Nat.le_of_ble_eq_true rfl) (Nat.le_of_ble_eq_true rfl) (Nat.le_of_ble_eq_true rfl) (Nat.le_of_ble_eq_true rfl) d_Pl_boxesMeet_38 ?_
    refine lv_icmp_lt (tgt := 48) hx hb d_Pl_boxesMeet_41 (by decide) (fun c_41 => ?_) (fun c_41 => ?_)
    · skip
      replace c_41 : ((sw_mx (f z.toNatClampNeg) (f v.toNatClampNeg)) < (sw_mn (f x.toNatClampNeg) (f y.toNatClampNeg))) := c_41
      refine lv_iconst (v := 0) hx hb d_Pl_boxesMeet_48 (by decide) ?_
      have hP9 := hP.sub (ws' := [(f0, .inl (cI, 64, .inl f))]) [0] rfl
      have hD9 := hD.sub (ws' := [(f0, .inl (cI, 64, .inl f))]) [0] (by decide) rfl
      exact W.zret (ty := .boolean) (v := 0) hx hb hr (rfl) (fun T9 hT9 hW9 => ⟨⟨0, (), rfl, by simp [sw_b, sw_bm, c_19, c_41], by rw [hT9]; exact hP9, hD9⟩, hS.F hT9⟩) hS.2.2 d_Pl_boxesMeet_49
    · skip
      replace c_41 : ¬ ((sw_mx (f z.toNatClampNeg) (f v.toNatClampNeg)) < (sw_mn (f x.toNatClampNeg) (f y.toNatClampNeg))) := c_41
      refine lv_iconst (v := 1) hx hb d_Pl_boxesMeet_44 (by decide) ?_
      refine lv_goto (tgt := 49) hx hb d_Pl_boxesMeet_45 (by decide) ?_
      have hP9 := hP.sub (ws' := [(f0, .inl (cI, 64, .inl f))]) [0] rfl
      have hD9 := hD.sub (ws' := [(f0, .inl (cI, 64, .inl f))]) [0] (by decide) rfl
      exact W.zret (ty := .boolean) (v := 1) hx hb hr (rfl) (fun T9 hT9 hW9 => ⟨⟨1, (), rfl, by simp [sw_b, sw_bm, c_19, c_41], by rw [hT9]; exact hP9, hD9⟩, hS.F hT9⟩) hS.2.2 d_Pl_boxesMeet_49

abbrev rm_Pl_clash : Room := { frames := 3, cells := 0, slots := 0, locals := 72 }
abbrev q_Pl_clash (D : va_G) (cI cL : ClassId) (A : Nat → Prop) (p : Nat) (x : Int32) (y : Int32) (pX : Nat) (pY : Nat) (pF : Nat) (pC : Nat) (pA : Nat) (pB : Nat) (pR : Nat) (pK : Nat) (nv : Int32) (ns : Int32) (nw : Int32) (vx : Nat → Int32) (vy : Nat → Int32) (fa : Nat → Int32) (tb : Nat → Int32) : Array Value → State → Outcome → State → Prop := va_Qi (S := Unit) (fun (r : Int32) => fun (_ : Unit) => r = sw_b (sw_clash vx vy fa tb x.toNatClampNeg y.toNatClampNeg)) (sw_R D A (fun (_ : Unit) => [(p, .inr (1, [.ref pX, .ref pY, .ref pF, .ref pC, .ref pA, .ref pB, .ref pR, .ref pK, .int nv, .int ns, .int nw])), (pX, .inl (cI, 64, .inl vx)), (pY, .inl (cI, 64, .inl vy)), (pA, .inl (cI, 64, .inl fa)), (pB, .inl (cI, 64, .inl tb))])) A
set_option maxHeartbeats 4000000 in
set_option maxRecDepth 100000 in
theorem c_Pl_clash (l : Launch) (D : va_G) (cI cL : ClassId) (tq sz : Nat) (p : Nat) (x : Int32) (y : Int32) (pX : Nat) (pY : Nat) (pF : Nat) (pC : Nat) (pA : Nat) (pB : Nat) (pR : Nat) (pK : Nat) (nv : Int32) (ns : Int32) (nw : Int32) (vx : Nat → Int32) (vy : Nat → Int32) (fa : Nat → Int32) (tb : Nat → Int32) (ix : vp_in x 64) (iy : vp_in y 64) (jx : vp_in (fa x.toNatClampNeg) 64) (kx : vp_in (tb x.toNatClampNeg) 64) (jy : vp_in (fa y.toNatClampNeg) 64) (ky : vp_in (tb y.toNatClampNeg) 64) : Met l y_Pl_clash w_Pl_clash rm_Pl_clash (va_Pc [.ref p, .int x, .int y] (sw_B D cI cL tq sz [(p, .inr (1, [.ref pX, .ref pY, .ref pF, .ref pC, .ref pA, .ref pB, .ref pR, .ref pK, .int nv, .int ns, .int nw])), (pX, .inl (cI, 64, .inl vx)), (pY, .inl (cI, 64, .inl vy)), (pA, .inl (cI, 64, .inl fa)), (pB, .inl (cI, 64, .inl tb))])) (q_Pl_clash D cI cL (va_A [(p, .inr (1, [.ref pX, .ref pY, .ref pF, .ref pC, .ref pA, .ref pB, .ref pR, .ref pK, .int nv, .int ns, .int nw])), (pX, .inl (cI, 64, .inl vx)), (pY, .inl (cI, 64, .inl vy)), (pA, .inl (cI, 64, .inl fa)), (pB, .inl (cI, 64, .inl tb))] sz) p x y pX pY pF pC pA pB pR pK nv ns nw vx vy fa tb) 0 0 (va_A [(p, .inr (1, [.ref pX, .ref pY, .ref pF, .ref pC, .ref pA, .ref pB, .ref pR, .ref pK, .int nv, .int ns, .int nw])), (pX, .inl (cI, 64, .inl vx)), (pY, .inl (cI, 64, .inl vy)), (pA, .inl (cI, 64, .inl fa)), (pB, .inl (cI, 64, .inl tb))] sz) := by
  refine Met.ofW (cc := b_Pl_clash) (maxL := 7) (ret := (some .boolean)) (by decide) rfl ?_
  intro mp me s mm args below meth mk s₁ B hml hv
  obtain ⟨rfl, hsz, hP, hK, hD0, hG⟩ := hv
  have hx := B.exec
  have hb := B.bytes
  have hr := B.returns
  have hts := atoms_spec (ws := w_Pl_clash) B.pre
  have hw : ∀ w ∈ sw_words, w.before _ s = true := fun w h => hts w (List.mem_cons_of_mem _ h)
  have hown : s.vm.findClass R_Pl = some mm.cls := findClass_of_methodNamed B.named
  have hlocks := B.notSynchronized
  subst hsz
  have hD := hD0.self (sz := s.heap.size)
  generalize hAe : va_A [(p, .inr (1, [.ref pX, .ref pY, .ref pF, .ref pC, .ref pA, .ref pB, .ref pR, .ref pK, .int nv, .int ns, .int nw])), (pX, .inl (cI, 64, .inl vx)), (pY, .inl (cI, 64, .inl vy)), (pA, .inl (cI, 64, .inl fa)), (pB, .inl (cI, 64, .inl tb))] s.heap.size = A at hD hG ⊢
  have hA : ∀ q : Nat, s.heap.size ≤ q → A q := fun q h => by rw [← hAe]; exact Or.inr h
  have hS : va_S A s.heap s.heap [] := va_S.rf
  have hl := lv_entry ([.ref p, .int x, .int y]) (n := 7) (Nat.le_of_ble_eq_true rfl)
  rw [lg_entry_eq]
  generalize (lg_sl ([.ref p, .int x, .int y]) ++ List.replicate (7 - (lg_sl ([.ref p, .int x, .int y])).length) Slot.unset).toArray = ls at hl ⊢
  have hl : lv_has ls 7 [(0, .ref p), (1, .int x), (2, .int y)] := hl
  refine lv_aload_n hx hb d_Pl_clash_0 rfl (lv_at hl 0 rfl) ?_
  refine va_get (D := D) (ci := 1) (v := .ref pA) (C := R_Pl) (T := F_Pl) (N := 11) hx hb hw ku_Pl hown hK hP 0 rfl rfl 4 (by decide) (hw _ kw_8b810f0c) (fun _ h9 => h9) rfl d_Pl_clash_1 ?_
  refine lv_iload_n hx hb d_Pl_clash_4 rfl (lv_at hl 1 rfl) ?_
  refine va_iald hx hb hK hP 3 0 rfl rfl (by assumption) d_Pl_clash_5 ?_
  refine lv_istore_n (lv' := [(3, .int (fa x.toNatClampNeg)), (0, .ref p), (1, .int x), (2, .int y)]) hx hb d_Pl_clash_6 rfl hl (by decide) rfl (fun ls hl => ?_)
  refine lv_aload_n hx hb d_Pl_clash_7 rfl (lv_at hl 1 rfl) ?_
  refine va_get (D := D) (ci := 1) (v := .ref pB) (C := R_Pl) (T := F_Pl) (N := 11) hx hb hw ku_Pl hown hK hP 0 rfl rfl 5 (by decide) (hw _ kw_1e4d1ebb) (fun _ h9 => h9) rfl d_Pl_clash_8 ?_
  refine lv_iload_n hx hb d_Pl_clash_11 rfl (lv_at hl 2 rfl) ?_
  refine va_iald hx hb hK hP 4 0 rfl rfl (by assumption) d_Pl_clash_12 ?_
  refine lv_istore (lv' := [(4, .int (tb x.toNatClampNeg)), (3, .int (fa x.toNatClampNeg)), (0, .ref p), (1, .int x), (2, .int y)]) hx hb d_Pl_clash_13 hl (by decide) rfl (fun ls hl => ?_)
  refine lv_aload_n hx hb d_Pl_clash_15 rfl (lv_at hl 2 rfl) ?_
  refine va_get (D := D) (ci := 1) (v := .ref pA) (C := R_Pl) (T := F_Pl) (N := 11) hx hb hw ku_Pl hown hK hP 0 rfl rfl 4 (by decide) (hw _ kw_8b810f0c) (fun _ h9 => h9) rfl d_Pl_clash_16 ?_
  refine lv_iload_n hx hb d_Pl_clash_19 rfl (lv_at hl 4 rfl) ?_
  refine va_iald hx hb hK hP 3 0 rfl rfl (by assumption) d_Pl_clash_20 ?_
  refine lv_istore (lv' := [(5, .int (fa y.toNatClampNeg)), (4, .int (tb x.toNatClampNeg)), (3, .int (fa x.toNatClampNeg)), (0, .ref p), (1, .int x), (2, .int y)]) hx hb d_Pl_clash_21 hl (by decide) rfl (fun ls hl => ?_)
  refine lv_aload_n hx hb d_Pl_clash_23 rfl (lv_at hl 3 rfl) ?_
  refine va_get (D := D) (ci := 1) (v := .ref pB) (C := R_Pl) (T := F_Pl) (N := 11) hx hb hw ku_Pl hown hK hP 0 rfl rfl 5 (by decide) (hw _ kw_1e4d1ebb) (fun _ h9 => h9) rfl d_Pl_clash_24 ?_
  refine lv_iload_n hx hb d_Pl_clash_27 rfl (lv_at hl 5 rfl) ?_
  refine va_iald hx hb hK hP 4 0 rfl rfl (by assumption) d_Pl_clash_28 ?_
  refine lv_istore (lv' := [(6, .int (tb y.toNatClampNeg)), (5, .int (fa y.toNatClampNeg)), (4, .int (tb x.toNatClampNeg)), (3, .int (fa x.toNatClampNeg)), (0, .ref p), (1, .int x), (2, .int y)]) hx hb d_Pl_clash_29 hl (by decide) rfl (fun ls hl => ?_)
  refine lv_iload_n hx hb d_Pl_clash_31 rfl (lv_at hl 3 rfl) ?_
  refine lv_iload hx hb d_Pl_clash_32 (lv_at hl 1 rfl) ?_
  refine lv_icmp_ne (tgt := 47) hx hb d_Pl_clash_34 (by decide) (fun c_34 => ?_) (fun c_34 => ?_)
  · skip
    refine lv_iload_n hx hb d_Pl_clash_47 rfl (lv_at hl 3 rfl) ?_
    refine lv_iload hx hb d_Pl_clash_48 (lv_at hl 0 rfl) ?_
    refine lv_icmp_ne (tgt := 63) hx hb d_Pl_clash_50 (by decide) (fun c_50 => ?_) (fun c_50 => ?_)
    · skip
      refine lv_iload hx hb d_Pl_clash_63 (lv_at hl 2 rfl) ?_
      refine lv_iload hx hb d_Pl_clash_65 (lv_at hl 1 rfl) ?_
      refine lv_icmp_ne (tgt := 80) hx hb d_Pl_clash_67 (by decide) (fun c_67 => ?_) (fun c_67 => ?_)
      · skip
        refine lv_iload hx hb d_Pl_clash_80 (lv_at hl 2 rfl) ?_
        refine lv_iload hx hb d_Pl_clash_82 (lv_at hl 0 rfl) ?_
        refine lv_icmp_ne (tgt := 97) hx hb d_Pl_clash_84 (by decide) (fun c_84 => ?_) (fun c_84 => ?_)
        · skip
          refine lv_aload_n hx hb d_Pl_clash_97 rfl (lv_at hl 4 rfl) ?_
          refine va_get (D := D) (ci := 1) (v := .ref pX) (C := R_Pl) (T := F_Pl) (N := 11) hx hb hw ku_Pl hown hK hP 0 rfl rfl 0 (by decide) (hw _ kw_8234c2ed) (fun _ h9 => h9) rfl d_Pl_clash_98 ?_
          refine lv_iload_n hx hb d_Pl_clash_101 rfl (lv_at hl 3 rfl) ?_
          refine lv_iload hx hb d_Pl_clash_102 (lv_at hl 2 rfl) ?_
          refine lv_iload hx hb d_Pl_clash_104 (lv_at hl 1 rfl) ?_
          refine lv_iload hx hb d_Pl_clash_106 (lv_at hl 0 rfl) ?_
          refine sw_ki0 (wr := [(p, .inr (1, [.ref pX, .ref pY, .ref pF, .ref pC, .ref pA, .ref pB, .ref pR, .ref pK, .int nv, .int ns, .int nw])), (pY, .inl (cI, 64, .inl vy)), (pA, .inl (cI, 64, .inl fa)), (pB, .inl (cI, 64, .inl tb))]) (va_runS (As := [.ref pX, .int (fa x.toNatClampNeg), .int (tb x.toNatClampNeg), .int (fa y.toNatClampNeg), .int (tb y.toNatClampNeg)]) (rest := []) ⟨hx, hb, hml, hown, hw⟩ (c_Pl_boxesMeet l D cI cL tq _ pX (fa x.toNatClampNeg) (tb x.toNatClampNeg) (fa y.toNatClampNeg) (tb y.toNatClampNeg) vx (by assumption) (by assumption) (by assumption) (by assumption)) (cwS 5 hw (sw_gS kw_9dfe1215 kw_a33295e2 kw_e4821dd4 kc_Pl_boxesMeet) rfl rfl rfl ⟨rfl, yd_Pl_boxesMeet⟩ ⟨Nat.le_of_ble_eq_true rfl, Nat.le_of_ble_eq_true rfl⟩) (sw_preS hK hP hD hS hA hG [1] rfl (by decide)) rfl rfl hl.1 rfl (lv_room (Nat.le_of_ble_eq_true rfl)) d_Pl_clash_108 ⟨Nat.le_of_ble_eq_true rfl, Nat.le_of_ble_eq_true rfl⟩) hP hD hS hA [1] [0, 2, 3, 4] rfl rfl (by decide) (by decide) (fun r_108 _ H locs hp_108 hP hD hS => ?_)
          replace hP : va_P D sw_cl [(p, .inr (1, [.ref pX, .ref pY, .ref pF, .ref pC, .ref pA, .ref pB, .ref pR, .ref pK, .int nv, .int ns, .int nw])), (pY, .inl (cI, 64, .inl vy)), (pA, .inl (cI, 64, .inl fa)), (pB, .inl (cI, 64, .inl tb)), (pX, .inl (cI, 64, .inl vx))] H := hP
          replace hD : va_D A [(p, .inr (1, [.ref pX, .ref pY, .ref pF, .ref pC, .ref pA, .ref pB, .ref pR, .ref pK, .int nv, .int ns, .int nw])), (pY, .inl (cI, 64, .inl vy)), (pA, .inl (cI, 64, .inl fa)), (pB, .inl (cI, 64, .inl tb)), (pX, .inl (cI, 64, .inl vx))] := hD
          try dsimp only at hp_108
          subst hp_108
          refine lv_if_eq (tgt := 163) hx hb d_Pl_clash_111 (by decide) (fun c_111 => ?_) (fun c_111 => ?_)
          · skip
            replace c_111 := sw_b0.mp c_111
            refine lv_iconst (v := 0) hx hb d_Pl_clash_163 (by decide) ?_
            have hP9 := hP.sub (ws' := [(p, .inr (1, [.ref pX, .ref pY, .ref pF, .ref pC, .ref pA, .ref pB, .ref pR, .ref pK, .int nv, .int ns, .int nw])), (pX, .inl (cI, 64, .inl vx)), (pY, .inl (cI, 64, .inl vy)), (pA, .inl (cI, 64, .inl fa)), (pB, .inl (cI, 64, .inl tb))]) [0, 4, 1, 2, 3] rfl
            have hD9 := hD.sub (ws' := [(p, .inr (1, [.ref pX, .ref pY, .ref pF, .ref pC, .ref pA, .ref pB, .ref pR, .ref pK, .int nv, .int ns, .int nw])), (pX, .inl (cI, 64, .inl vx)), (pY, .inl (cI, 64, .inl vy)), (pA, .inl (cI, 64, .inl fa)), (pB, .inl (cI, 64, .inl tb))]) [0, 4, 1, 2, 3] (by decide) rfl
            exact W.zret (ty := .boolean) (v := 0) hx hb hr (rfl) (fun T9 hT9 hW9 => ⟨⟨0, (), rfl, by simp [sw_b, sw_clash, sw_cl4, c_34, c_50, c_67, c_84, c_111], by rw [hT9]; exact hP9, hD9⟩, hS.F hT9⟩) hS.2.2 d_Pl_clash_164
          · skip
            replace c_111 := sw_bn.mp c_111
            refine lv_aload_n hx hb d_Pl_clash_114 rfl (lv_at hl 4 rfl) ?_
            refine va_get (D := D) (ci := 1) (v := .ref pY) (C := R_Pl) (T := F_Pl) (N := 11) hx hb hw ku_Pl hown hK hP 0 rfl rfl 1 (by decide) (hw _ kw_c8115e4c) (fun _ h9 => h9) rfl d_Pl_clash_115 ?_
            refine lv_iload_n hx hb d_Pl_clash_118 rfl (lv_at hl 3 rfl) ?_
            refine lv_iload hx hb d_Pl_clash_119 (lv_at hl 2 rfl) ?_
            refine lv_iload hx hb d_Pl_clash_121 (lv_at hl 1 rfl) ?_
            refine lv_iload hx hb d_Pl_clash_123 (lv_at hl 0 rfl) ?_
            refine sw_ki0 (wr := [(p, .inr (1, [.ref pX, .ref pY, .ref pF, .ref pC, .ref pA, .ref pB, .ref pR, .ref pK, .int nv, .int ns, .int nw])), (pA, .inl (cI, 64, .inl fa)), (pB, .inl (cI, 64, .inl tb)), (pX, .inl (cI, 64, .inl vx))]) (va_runS (As := [.ref pY, .int (fa x.toNatClampNeg), .int (tb x.toNatClampNeg), .int (fa y.toNatClampNeg), .int (tb y.toNatClampNeg)]) (rest := []) ⟨hx, hb, hml, hown, hw⟩ (c_Pl_boxesMeet l D cI cL tq _ pY (fa x.toNatClampNeg) (tb x.toNatClampNeg) (fa y.toNatClampNeg) (tb y.toNatClampNeg) vy (by assumption) (by assumption) (by assumption) (by assumption)) (cwS 5 hw (sw_gS kw_9dfe1215 kw_a33295e2 kw_e4821dd4 kc_Pl_boxesMeet) rfl rfl rfl ⟨rfl, yd_Pl_boxesMeet⟩ ⟨Nat.le_of_ble_eq_true rfl, Nat.le_of_ble_eq_true rfl⟩) (sw_preS hK hP hD hS hA hG [1] rfl (by decide)) rfl rfl hl.1 rfl (lv_room (Nat.le_of_ble_eq_true rfl)) d_Pl_clash_125 ⟨Nat.le_of_ble_eq_true rfl, Nat.le_of_ble_eq_true rfl⟩) hP hD hS hA [1] [0, 2, 3, 4] rfl rfl (by decide) (by decide) (fun r_125 _ H locs hp_125 hP hD hS => ?_)
            replace hP : va_P D sw_cl [(p, .inr (1, [.ref pX, .ref pY, .ref pF, .ref pC, .ref pA, .ref pB, .ref pR, .ref pK, .int nv, .int ns, .int nw])), (pA, .inl (cI, 64, .inl fa)), (pB, .inl (cI, 64, .inl tb)), (pX, .inl (cI, 64, .inl vx)), (pY, .inl (cI, 64, .inl vy))] H := hP
            replace hD : va_D A [(p, .inr (1, [.ref pX, .ref pY, .ref pF, .ref pC, .ref pA, .ref pB, .ref pR, .ref pK, .int nv, .int ns, .int nw])), (pA, .inl (cI, 64, .inl fa)), (pB, .inl (cI, 64, .inl tb)), (pX, .inl (cI, 64, .inl vx)), (pY, .inl (cI, 64, .inl vy))] := hD
            try dsimp only at hp_125
            subst hp_125
            refine lv_if_eq (tgt := 163) hx hb d_Pl_clash_128 (by decide) (fun c_128 => ?_) (fun c_128 => ?_)
            · skip
              replace c_128 := sw_b0.mp c_128
              refine lv_iconst (v := 0) hx hb d_Pl_clash_163 (by decide) ?_
              have hP9 := hP.sub (ws' := [(p, .inr (1, [.ref pX, .ref pY, .ref pF, .ref pC, .ref pA, .ref pB, .ref pR, .ref pK, .int nv, .int ns, .int nw])), (pX, .inl (cI, 64, .inl vx)), (pY, .inl (cI, 64, .inl vy)), (pA, .inl (cI, 64, .inl fa)), (pB, .inl (cI, 64, .inl tb))]) [0, 3, 4, 1, 2] rfl
              have hD9 := hD.sub (ws' := [(p, .inr (1, [.ref pX, .ref pY, .ref pF, .ref pC, .ref pA, .ref pB, .ref pR, .ref pK, .int nv, .int ns, .int nw])), (pX, .inl (cI, 64, .inl vx)), (pY, .inl (cI, 64, .inl vy)), (pA, .inl (cI, 64, .inl fa)), (pB, .inl (cI, 64, .inl tb))]) [0, 3, 4, 1, 2] (by decide) rfl
              exact W.zret (ty := .boolean) (v := 0) hx hb hr (rfl) (fun T9 hT9 hW9 => ⟨⟨0, (), rfl, by simp [sw_b, sw_clash, sw_cl4, c_34, c_50, c_67, c_84, c_111, c_128], by rw [hT9]; exact hP9, hD9⟩, hS.F hT9⟩) hS.2.2 d_Pl_clash_164
            · skip
              replace c_128 := sw_bn.mp c_128
              refine lv_aload_n hx hb d_Pl_clash_131 rfl (lv_at hl 4 rfl) ?_
              refine lv_iload_n hx hb d_Pl_clash_132 rfl (lv_at hl 3 rfl) ?_
              refine lv_iload hx hb d_Pl_clash_133 (lv_at hl 2 rfl) ?_
              refine lv_iload hx hb d_Pl_clash_135 (lv_at hl 1 rfl) ?_
              refine lv_iload hx hb d_Pl_clash_137 (lv_at hl 0 rfl) ?_
              refine sw_ki0 (wr := [(pA, .inl (cI, 64, .inl fa)), (pB, .inl (cI, 64, .inl tb))]) (va_runV (As := [.int (fa x.toNatClampNeg), .int (tb x.toNatClampNeg), .int (fa y.toNatClampNeg), .int (tb y.toNatClampNeg)]) (rest := []) ⟨hx, hb, hml, hown, hw⟩ (c_Pl_straddles l D cI cL tq _ p (fa x.toNatClampNeg) (tb x.toNatClampNeg) (fa y.toNatClampNeg) (tb y.toNatClampNeg) pX pY pF pC pA pB pR pK nv ns nw vx vy (by assumption) (by assumption) (by assumption) (by assumption)) (cwV 4 hw (sw_gV kw_720b3d8f kw_861dd4fe kw_3dad9645 kw_e4821dd4 kc_Pl_straddles) rfl rfl rfl ⟨rfl, yd_Pl_straddles⟩ ⟨Nat.le_of_ble_eq_true rfl, Nat.le_of_ble_eq_true rfl⟩) (sw_preV hK hP hD hS hA hG [0, 3, 4] rfl (by decide) 1 0 rfl rfl) rfl rfl hl.1 rfl (lv_room (Nat.le_of_ble_eq_true rfl)) d_Pl_clash_139 ⟨Nat.le_of_ble_eq_true rfl, Nat.le_of_ble_eq_true rfl⟩) hP hD hS hA [0, 3, 4] [1, 2] rfl rfl (by decide) (by decide) (fun r_139 _ H locs hp_139 hP hD hS => ?_)
              replace hP : va_P D sw_cl [(pA, .inl (cI, 64, .inl fa)), (pB, .inl (cI, 64, .inl tb)), (p, .inr (1, [.ref pX, .ref pY, .ref pF, .ref pC, .ref pA, .ref pB, .ref pR, .ref pK, .int nv, .int ns, .int nw])), (pX, .inl (cI, 64, .inl vx)), (pY, .inl (cI, 64, .inl vy))] H := hP
              replace hD : va_D A [(pA, .inl (cI, 64, .inl fa)), (pB, .inl (cI, 64, .inl tb)), (p, .inr (1, [.ref pX, .ref pY, .ref pF, .ref pC, .ref pA, .ref pB, .ref pR, .ref pK, .int nv, .int ns, .int nw])), (pX, .inl (cI, 64, .inl vx)), (pY, .inl (cI, 64, .inl vy))] := hD
              try dsimp only at hp_139
              subst hp_139
              refine lv_if_eq (tgt := 163) hx hb d_Pl_clash_142 (by decide) (fun c_142 => ?_) (fun c_142 => ?_)
              · skip
                replace c_142 := sw_b0.mp c_142
                refine lv_iconst (v := 0) hx hb d_Pl_clash_163 (by decide) ?_
                have hP9 := hP.sub (ws' := [(p, .inr (1, [.ref pX, .ref pY, .ref pF, .ref pC, .ref pA, .ref pB, .ref pR, .ref pK, .int nv, .int ns, .int nw])), (pX, .inl (cI, 64, .inl vx)), (pY, .inl (cI, 64, .inl vy)), (pA, .inl (cI, 64, .inl fa)), (pB, .inl (cI, 64, .inl tb))]) [2, 3, 4, 0, 1] rfl
                have hD9 := hD.sub (ws' := [(p, .inr (1, [.ref pX, .ref pY, .ref pF, .ref pC, .ref pA, .ref pB, .ref pR, .ref pK, .int nv, .int ns, .int nw])), (pX, .inl (cI, 64, .inl vx)), (pY, .inl (cI, 64, .inl vy)), (pA, .inl (cI, 64, .inl fa)), (pB, .inl (cI, 64, .inl tb))]) [2, 3, 4, 0, 1] (by decide) rfl
                exact W.zret (ty := .boolean) (v := 0) hx hb hr (rfl) (fun T9 hT9 hW9 => ⟨⟨0, (), rfl, by simp [sw_b, sw_clash, sw_cl4, c_34, c_50, c_67, c_84, c_111, c_128, c_142], by rw [hT9]; exact hP9, hD9⟩, hS.F hT9⟩) hS.2.2 d_Pl_clash_164
              · skip
                replace c_142 := sw_bn.mp c_142
                refine lv_aload_n hx hb d_Pl_clash_145 rfl (lv_at hl 4 rfl) ?_
                refine lv_iload hx hb d_Pl_clash_146 (lv_at hl 1 rfl) ?_
                refine lv_iload hx hb d_Pl_clash_148 (lv_at hl 0 rfl) ?_
                refine lv_iload_n hx hb d_Pl_clash_150 rfl (lv_at hl 3 rfl) ?_
                refine lv_iload hx hb d_Pl_clash_151 (lv_at hl 2 rfl) ?_
                refine sw_ki0 (wr := [(pA, .inl (cI, 64, .inl fa)), (pB, .inl (cI, 64, .inl tb))]) (va_runV (As := [.int (fa y.toNatClampNeg), .int (tb y.toNatClampNeg), .int (fa x.toNatClampNeg), .int (tb x.toNatClampNeg)]) (rest := []) ⟨hx, hb, hml, hown, hw⟩ (c_Pl_straddles l D cI cL tq _ p (fa y.toNatClampNeg) (tb y.toNatClampNeg) (fa x.toNatClampNeg) (tb x.toNatClampNeg) pX pY pF pC pA pB pR pK nv ns nw vx vy (by assumption) (by assumption) (by assumption) (by assumption)) (cwV 4 hw (sw_gV kw_720b3d8f kw_861dd4fe kw_3dad9645 kw_e4821dd4 kc_Pl_straddles) rfl rfl rfl ⟨rfl, yd_Pl_straddles⟩ ⟨Nat.le_of_ble_eq_true rfl, Nat.le_of_ble_eq_true rfl⟩) (sw_preV hK hP hD hS hA hG [2, 3, 4] rfl (by decide) 1 2 rfl rfl) rfl rfl hl.1 rfl (lv_room (Nat.le_of_ble_eq_true rfl)) d_Pl_clash_153 ⟨Nat.le_of_ble_eq_true rfl, Nat.le_of_ble_eq_true rfl⟩) hP hD hS hA [2, 3, 4] [0, 1] rfl rfl (by decide) (by decide) (fun r_153 _ H locs hp_153 hP hD hS => ?_)
                replace hP : va_P D sw_cl [(pA, .inl (cI, 64, .inl fa)), (pB, .inl (cI, 64, .inl tb)), (p, .inr (1, [.ref pX, .ref pY, .ref pF, .ref pC, .ref pA, .ref pB, .ref pR, .ref pK, .int nv, .int ns, .int nw])), (pX, .inl (cI, 64, .inl vx)), (pY, .inl (cI, 64, .inl vy))] H := hP
                replace hD : va_D A [(pA, .inl (cI, 64, .inl fa)), (pB, .inl (cI, 64, .inl tb)), (p, .inr (1, [.ref pX, .ref pY, .ref pF, .ref pC, .ref pA, .ref pB, .ref pR, .ref pK, .int nv, .int ns, .int nw])), (pX, .inl (cI, 64, .inl vx)), (pY, .inl (cI, 64, .inl vy))] := hD
                try dsimp only at hp_153
                subst hp_153
                refine lv_if_eq (tgt := 163) hx hb d_Pl_clash_156 (by decide) (fun c_156 => ?_) (fun c_156 => ?_)
                · skip
                  replace c_156 := sw_b0.mp c_156
                  refine lv_iconst (v := 0) hx hb d_Pl_clash_163 (by decide) ?_
                  have hP9 := hP.sub (ws' := [(p, .inr (1, [.ref pX, .ref pY, .ref pF, .ref pC, .ref pA, .ref pB, .ref pR, .ref pK, .int nv, .int ns, .int nw])), (pX, .inl (cI, 64, .inl vx)), (pY, .inl (cI, 64, .inl vy)), (pA, .inl (cI, 64, .inl fa)), (pB, .inl (cI, 64, .inl tb))]) [2, 3, 4, 0, 1] rfl
                  have hD9 := hD.sub (ws' := [(p, .inr (1, [.ref pX, .ref pY, .ref pF, .ref pC, .ref pA, .ref pB, .ref pR, .ref pK, .int nv, .int ns, .int nw])), (pX, .inl (cI, 64, .inl vx)), (pY, .inl (cI, 64, .inl vy)), (pA, .inl (cI, 64, .inl fa)), (pB, .inl (cI, 64, .inl tb))]) [2, 3, 4, 0, 1] (by decide) rfl
                  exact W.zret (ty := .boolean) (v := 0) hx hb hr (rfl) (fun T9 hT9 hW9 => ⟨⟨0, (), rfl, by simp [sw_b, sw_clash, sw_cl4, c_34, c_50, c_67, c_84, c_111, c_128, c_142, c_156], by rw [hT9]; exact hP9, hD9⟩, hS.F hT9⟩) hS.2.2 d_Pl_clash_164
                · skip
                  replace c_156 := sw_bn.mp c_156
                  refine lv_iconst (v := 1) hx hb d_Pl_clash_159 (by decide) ?_
                  refine lv_goto (tgt := 164) hx hb d_Pl_clash_160 (by decide) ?_
                  have hP9 := hP.sub (ws' := [(p, .inr (1, [.ref pX, .ref pY, .ref pF, .ref pC, .ref pA, .ref pB, .ref pR, .ref pK, .int nv, .int ns, .int nw])), (pX, .inl (cI, 64, .inl vx)), (pY, .inl (cI, 64, .inl vy)), (pA, .inl (cI, 64, .inl fa)), (pB, .inl (cI, 64, .inl tb))]) [2, 3, 4, 0, 1] rfl
                  have hD9 := hD.sub (ws' := [(p, .inr (1, [.ref pX, .ref pY, .ref pF, .ref pC, .ref pA, .ref pB, .ref pR, .ref pK, .int nv, .int ns, .int nw])), (pX, .inl (cI, 64, .inl vx)), (pY, .inl (cI, 64, .inl vy)), (pA, .inl (cI, 64, .inl fa)), (pB, .inl (cI, 64, .inl tb))]) [2, 3, 4, 0, 1] (by decide) rfl
                  exact W.zret (ty := .boolean) (v := 1) hx hb hr (rfl) (fun T9 hT9 hW9 => ⟨⟨1, (), rfl, by simp [sw_b, sw_clash, sw_cl4, c_34, c_50, c_67, c_84, c_111, c_128, c_142, c_156], by rw [hT9]; exact hP9, hD9⟩, hS.F hT9⟩) hS.2.2 d_Pl_clash_164
        · skip
          refine lv_aload_n hx hb d_Pl_clash_87 rfl (lv_at hl 4 rfl) ?_
          refine lv_iload hx hb d_Pl_clash_88 (lv_at hl 2 rfl) ?_
          refine lv_iload_n hx hb d_Pl_clash_90 rfl (lv_at hl 3 rfl) ?_
          refine lv_iload hx hb d_Pl_clash_91 (lv_at hl 1 rfl) ?_
          refine sw_ki0 (wr := [(pA, .inl (cI, 64, .inl fa)), (pB, .inl (cI, 64, .inl tb))]) (va_runV (As := [.int (tb x.toNatClampNeg), .int (fa x.toNatClampNeg), .int (fa y.toNatClampNeg)]) (rest := []) ⟨hx, hb, hml, hown, hw⟩ (c_Pl_leaveAlike l D cI cL tq _ p (tb x.toNatClampNeg) (fa x.toNatClampNeg) (fa y.toNatClampNeg) pX pY pF pC pA pB pR pK nv ns nw vx vy (by assumption) (by assumption) (by assumption)) (cwV 3 hw (sw_gV kw_4d22c011 kw_c176b2a6 kw_90b65df4 kw_e4821dd4 kc_Pl_leaveAlike) rfl rfl rfl ⟨rfl, yd_Pl_leaveAlike⟩ ⟨Nat.le_of_ble_eq_true rfl, Nat.le_of_ble_eq_true rfl⟩) (sw_preV hK hP hD hS hA hG [0, 1, 2] rfl (by decide) 1 0 rfl rfl) rfl rfl hl.1 rfl (lv_room (Nat.le_of_ble_eq_true rfl)) d_Pl_clash_93 ⟨Nat.le_of_ble_eq_true rfl, Nat.le_of_ble_eq_true rfl⟩) hP hD hS hA [0, 1, 2] [3, 4] rfl rfl (by decide) (by decide) (fun r_93 _ H locs hp_93 hP hD hS => ?_)
          replace hP : va_P D sw_cl [(pA, .inl (cI, 64, .inl fa)), (pB, .inl (cI, 64, .inl tb)), (p, .inr (1, [.ref pX, .ref pY, .ref pF, .ref pC, .ref pA, .ref pB, .ref pR, .ref pK, .int nv, .int ns, .int nw])), (pX, .inl (cI, 64, .inl vx)), (pY, .inl (cI, 64, .inl vy))] H := hP
          replace hD : va_D A [(pA, .inl (cI, 64, .inl fa)), (pB, .inl (cI, 64, .inl tb)), (p, .inr (1, [.ref pX, .ref pY, .ref pF, .ref pC, .ref pA, .ref pB, .ref pR, .ref pK, .int nv, .int ns, .int nw])), (pX, .inl (cI, 64, .inl vx)), (pY, .inl (cI, 64, .inl vy))] := hD
          try dsimp only at hp_93
          subst hp_93
          have hP9 := hP.sub (ws' := [(p, .inr (1, [.ref pX, .ref pY, .ref pF, .ref pC, .ref pA, .ref pB, .ref pR, .ref pK, .int nv, .int ns, .int nw])), (pX, .inl (cI, 64, .inl vx)), (pY, .inl (cI, 64, .inl vy)), (pA, .inl (cI, 64, .inl fa)), (pB, .inl (cI, 64, .inl tb))]) [2, 3, 4, 0, 1] rfl
          have hD9 := hD.sub (ws' := [(p, .inr (1, [.ref pX, .ref pY, .ref pF, .ref pC, .ref pA, .ref pB, .ref pR, .ref pK, .int nv, .int ns, .int nw])), (pX, .inl (cI, 64, .inl vx)), (pY, .inl (cI, 64, .inl vy)), (pA, .inl (cI, 64, .inl fa)), (pB, .inl (cI, 64, .inl tb))]) [2, 3, 4, 0, 1] (by decide) rfl
          exact W.zret (ty := .boolean) (v := sw_b (sw_la vx vy (tb x.toNatClampNeg).toNatClampNeg (fa x.toNatClampNeg).toNatClampNeg (fa y.toNatClampNeg).toNatClampNeg)) hx hb hr (sw_bnar _) (fun T9 hT9 hW9 => ⟨⟨sw_b (sw_la vx vy (tb x.toNatClampNeg).toNatClampNeg (fa x.toNatClampNeg).toNatClampNeg (fa y.toNatClampNeg).toNatClampNeg), (), rfl, by unfold sw_clash sw_cl4; rw [if_neg c_34, if_neg c_50, if_neg c_67, if_pos c_84], by rw [hT9]; exact hP9, hD9⟩, hS.F hT9⟩) hS.2.2 d_Pl_clash_96
      · skip
        refine lv_aload_n hx hb d_Pl_clash_70 rfl (lv_at hl 4 rfl) ?_
        refine lv_iload hx hb d_Pl_clash_71 (lv_at hl 2 rfl) ?_
        refine lv_iload_n hx hb d_Pl_clash_73 rfl (lv_at hl 3 rfl) ?_
        refine lv_iload hx hb d_Pl_clash_74 (lv_at hl 0 rfl) ?_
        refine sw_ki0 (wr := [(pA, .inl (cI, 64, .inl fa)), (pB, .inl (cI, 64, .inl tb))]) (va_runV (As := [.int (tb x.toNatClampNeg), .int (fa x.toNatClampNeg), .int (tb y.toNatClampNeg)]) (rest := []) ⟨hx, hb, hml, hown, hw⟩ (c_Pl_leaveAlike l D cI cL tq _ p (tb x.toNatClampNeg) (fa x.toNatClampNeg) (tb y.toNatClampNeg) pX pY pF pC pA pB pR pK nv ns nw vx vy (by assumption) (by assumption) (by assumption)) (cwV 3 hw (sw_gV kw_4d22c011 kw_c176b2a6 kw_90b65df4 kw_e4821dd4 kc_Pl_leaveAlike) rfl rfl rfl ⟨rfl, yd_Pl_leaveAlike⟩ ⟨Nat.le_of_ble_eq_true rfl, Nat.le_of_ble_eq_true rfl⟩) (sw_preV hK hP hD hS hA hG [0, 1, 2] rfl (by decide) 1 0 rfl rfl) rfl rfl hl.1 rfl (lv_room (Nat.le_of_ble_eq_true rfl)) d_Pl_clash_76 ⟨Nat.le_of_ble_eq_true rfl, Nat.le_of_ble_eq_true rfl⟩) hP hD hS hA [0, 1, 2] [3, 4] rfl rfl (by decide) (by decide) (fun r_76 _ H locs hp_76 hP hD hS => ?_)
        replace hP : va_P D sw_cl [(pA, .inl (cI, 64, .inl fa)), (pB, .inl (cI, 64, .inl tb)), (p, .inr (1, [.ref pX, .ref pY, .ref pF, .ref pC, .ref pA, .ref pB, .ref pR, .ref pK, .int nv, .int ns, .int nw])), (pX, .inl (cI, 64, .inl vx)), (pY, .inl (cI, 64, .inl vy))] H := hP
        replace hD : va_D A [(pA, .inl (cI, 64, .inl fa)), (pB, .inl (cI, 64, .inl tb)), (p, .inr (1, [.ref pX, .ref pY, .ref pF, .ref pC, .ref pA, .ref pB, .ref pR, .ref pK, .int nv, .int ns, .int nw])), (pX, .inl (cI, 64, .inl vx)), (pY, .inl (cI, 64, .inl vy))] := hD
        try dsimp only at hp_76
        subst hp_76
        have hP9 := hP.sub (ws' := [(p, .inr (1, [.ref pX, .ref pY, .ref pF, .ref pC, .ref pA, .ref pB, .ref pR, .ref pK, .int nv, .int ns, .int nw])), (pX, .inl (cI, 64, .inl vx)), (pY, .inl (cI, 64, .inl vy)), (pA, .inl (cI, 64, .inl fa)), (pB, .inl (cI, 64, .inl tb))]) [2, 3, 4, 0, 1] rfl
        have hD9 := hD.sub (ws' := [(p, .inr (1, [.ref pX, .ref pY, .ref pF, .ref pC, .ref pA, .ref pB, .ref pR, .ref pK, .int nv, .int ns, .int nw])), (pX, .inl (cI, 64, .inl vx)), (pY, .inl (cI, 64, .inl vy)), (pA, .inl (cI, 64, .inl fa)), (pB, .inl (cI, 64, .inl tb))]) [2, 3, 4, 0, 1] (by decide) rfl
        exact W.zret (ty := .boolean) (v := sw_b (sw_la vx vy (tb x.toNatClampNeg).toNatClampNeg (fa x.toNatClampNeg).toNatClampNeg (tb y.toNatClampNeg).toNatClampNeg)) hx hb hr (sw_bnar _) (fun T9 hT9 hW9 => ⟨⟨sw_b (sw_la vx vy (tb x.toNatClampNeg).toNatClampNeg (fa x.toNatClampNeg).toNatClampNeg (tb y.toNatClampNeg).toNatClampNeg), (), rfl, by unfold sw_clash sw_cl4; rw [if_neg c_34, if_neg c_50, if_pos c_67], by rw [hT9]; exact hP9, hD9⟩, hS.F hT9⟩) hS.2.2 d_Pl_clash_79
    · skip
      refine lv_aload_n hx hb d_Pl_clash_53 rfl (lv_at hl 4 rfl) ?_
      refine lv_iload_n hx hb d_Pl_clash_54 rfl (lv_at hl 3 rfl) ?_
      refine lv_iload hx hb d_Pl_clash_55 (lv_at hl 2 rfl) ?_
      refine lv_iload hx hb d_Pl_clash_57 (lv_at hl 1 rfl) ?_
      refine sw_ki0 (wr := [(pA, .inl (cI, 64, .inl fa)), (pB, .inl (cI, 64, .inl tb))]) (va_runV (As := [.int (fa x.toNatClampNeg), .int (tb x.toNatClampNeg), .int (fa y.toNatClampNeg)]) (rest := []) ⟨hx, hb, hml, hown, hw⟩ (c_Pl_leaveAlike l D cI cL tq _ p (fa x.toNatClampNeg) (tb x.toNatClampNeg) (fa y.toNatClampNeg) pX pY pF pC pA pB pR pK nv ns nw vx vy (by assumption) (by assumption) (by assumption)) (cwV 3 hw (sw_gV kw_4d22c011 kw_c176b2a6 kw_90b65df4 kw_e4821dd4 kc_Pl_leaveAlike) rfl rfl rfl ⟨rfl, yd_Pl_leaveAlike⟩ ⟨Nat.le_of_ble_eq_true rfl, Nat.le_of_ble_eq_true rfl⟩) (sw_preV hK hP hD hS hA hG [0, 1, 2] rfl (by decide) 1 0 rfl rfl) rfl rfl hl.1 rfl (lv_room (Nat.le_of_ble_eq_true rfl)) d_Pl_clash_59 ⟨Nat.le_of_ble_eq_true rfl, Nat.le_of_ble_eq_true rfl⟩) hP hD hS hA [0, 1, 2] [3, 4] rfl rfl (by decide) (by decide) (fun r_59 _ H locs hp_59 hP hD hS => ?_)
      replace hP : va_P D sw_cl [(pA, .inl (cI, 64, .inl fa)), (pB, .inl (cI, 64, .inl tb)), (p, .inr (1, [.ref pX, .ref pY, .ref pF, .ref pC, .ref pA, .ref pB, .ref pR, .ref pK, .int nv, .int ns, .int nw])), (pX, .inl (cI, 64, .inl vx)), (pY, .inl (cI, 64, .inl vy))] H := hP
      replace hD : va_D A [(pA, .inl (cI, 64, .inl fa)), (pB, .inl (cI, 64, .inl tb)), (p, .inr (1, [.ref pX, .ref pY, .ref pF, .ref pC, .ref pA, .ref pB, .ref pR, .ref pK, .int nv, .int ns, .int nw])), (pX, .inl (cI, 64, .inl vx)), (pY, .inl (cI, 64, .inl vy))] := hD
      try dsimp only at hp_59
      subst hp_59
      have hP9 := hP.sub (ws' := [(p, .inr (1, [.ref pX, .ref pY, .ref pF, .ref pC, .ref pA, .ref pB, .ref pR, .ref pK, .int nv, .int ns, .int nw])), (pX, .inl (cI, 64, .inl vx)), (pY, .inl (cI, 64, .inl vy)), (pA, .inl (cI, 64, .inl fa)), (pB, .inl (cI, 64, .inl tb))]) [2, 3, 4, 0, 1] rfl
      have hD9 := hD.sub (ws' := [(p, .inr (1, [.ref pX, .ref pY, .ref pF, .ref pC, .ref pA, .ref pB, .ref pR, .ref pK, .int nv, .int ns, .int nw])), (pX, .inl (cI, 64, .inl vx)), (pY, .inl (cI, 64, .inl vy)), (pA, .inl (cI, 64, .inl fa)), (pB, .inl (cI, 64, .inl tb))]) [2, 3, 4, 0, 1] (by decide) rfl
      exact W.zret (ty := .boolean) (v := sw_b (sw_la vx vy (fa x.toNatClampNeg).toNatClampNeg (tb x.toNatClampNeg).toNatClampNeg (fa y.toNatClampNeg).toNatClampNeg)) hx hb hr (sw_bnar _) (fun T9 hT9 hW9 => ⟨⟨sw_b (sw_la vx vy (fa x.toNatClampNeg).toNatClampNeg (tb x.toNatClampNeg).toNatClampNeg (fa y.toNatClampNeg).toNatClampNeg), (), rfl, by unfold sw_clash sw_cl4; rw [if_neg c_34, if_pos c_50], by rw [hT9]; exact hP9, hD9⟩, hS.F hT9⟩) hS.2.2 d_Pl_clash_62
  · skip
    refine lv_aload_n hx hb d_Pl_clash_37 rfl (lv_at hl 4 rfl) ?_
    refine lv_iload_n hx hb d_Pl_clash_38 rfl (lv_at hl 3 rfl) ?_
    refine lv_iload hx hb d_Pl_clash_39 (lv_at hl 2 rfl) ?_
    refine lv_iload hx hb d_Pl_clash_41 (lv_at hl 0 rfl) ?_
    refine sw_ki0 (wr := [(pA, .inl (cI, 64, .inl fa)), (pB, .inl (cI, 64, .inl tb))]) (va_runV (As := [.int (fa x.toNatClampNeg), .int (tb x.toNatClampNeg), .int (tb y.toNatClampNeg)]) (rest := []) ⟨hx, hb, hml, hown, hw⟩ (c_Pl_leaveAlike l D cI cL tq _ p (fa x.toNatClampNeg) (tb x.toNatClampNeg) (tb y.toNatClampNeg) pX pY pF pC pA pB pR pK nv ns nw vx vy (by assumption) (by assumption) (by assumption)) (cwV 3 hw (sw_gV kw_4d22c011 kw_c176b2a6 kw_90b65df4 kw_e4821dd4 kc_Pl_leaveAlike) rfl rfl rfl ⟨rfl, yd_Pl_leaveAlike⟩ ⟨Nat.le_of_ble_eq_true rfl, Nat.le_of_ble_eq_true rfl⟩) (sw_preV hK hP hD hS hA hG [0, 1, 2] rfl (by decide) 1 0 rfl rfl) rfl rfl hl.1 rfl (lv_room (Nat.le_of_ble_eq_true rfl)) d_Pl_clash_43 ⟨Nat.le_of_ble_eq_true rfl, Nat.le_of_ble_eq_true rfl⟩) hP hD hS hA [0, 1, 2] [3, 4] rfl rfl (by decide) (by decide) (fun r_43 _ H locs hp_43 hP hD hS => ?_)
    replace hP : va_P D sw_cl [(pA, .inl (cI, 64, .inl fa)), (pB, .inl (cI, 64, .inl tb)), (p, .inr (1, [.ref pX, .ref pY, .ref pF, .ref pC, .ref pA, .ref pB, .ref pR, .ref pK, .int nv, .int ns, .int nw])), (pX, .inl (cI, 64, .inl vx)), (pY, .inl (cI, 64, .inl vy))] H := hP
    replace hD : va_D A [(pA, .inl (cI, 64, .inl fa)), (pB, .inl (cI, 64, .inl tb)), (p, .inr (1, [.ref pX, .ref pY, .ref pF, .ref pC, .ref pA, .ref pB, .ref pR, .ref pK, .int nv, .int ns, .int nw])), (pX, .inl (cI, 64, .inl vx)), (pY, .inl (cI, 64, .inl vy))] := hD
    try dsimp only at hp_43
    subst hp_43
    have hP9 := hP.sub (ws' := [(p, .inr (1, [.ref pX, .ref pY, .ref pF, .ref pC, .ref pA, .ref pB, .ref pR, .ref pK, .int nv, .int ns, .int nw])), (pX, .inl (cI, 64, .inl vx)), (pY, .inl (cI, 64, .inl vy)), (pA, .inl (cI, 64, .inl fa)), (pB, .inl (cI, 64, .inl tb))]) [2, 3, 4, 0, 1] rfl
    have hD9 := hD.sub (ws' := [(p, .inr (1, [.ref pX, .ref pY, .ref pF, .ref pC, .ref pA, .ref pB, .ref pR, .ref pK, .int nv, .int ns, .int nw])), (pX, .inl (cI, 64, .inl vx)), (pY, .inl (cI, 64, .inl vy)), (pA, .inl (cI, 64, .inl fa)), (pB, .inl (cI, 64, .inl tb))]) [2, 3, 4, 0, 1] (by decide) rfl
    exact W.zret (ty := .boolean) (v := sw_b (sw_la vx vy (fa x.toNatClampNeg).toNatClampNeg (tb x.toNatClampNeg).toNatClampNeg (tb y.toNatClampNeg).toNatClampNeg)) hx hb hr (sw_bnar _) (fun T9 hT9 hW9 => ⟨⟨sw_b (sw_la vx vy (fa x.toNatClampNeg).toNatClampNeg (tb x.toNatClampNeg).toNatClampNeg (tb y.toNatClampNeg).toNatClampNeg), (), rfl, by unfold sw_clash sw_cl4; rw [if_pos c_34], by rw [hT9]; exact hP9, hD9⟩, hS.F hT9⟩) hS.2.2 d_Pl_clash_46

abbrev rm_Pl_firstWrongWall : Room := { frames := 4, cells := 0, slots := 0, locals := 98 }
abbrev q_Pl_firstWrongWall (D : va_G) (cI cL : ClassId) (A : Nat → Prop) (p : Nat) (pX : Nat) (pY : Nat) (pF : Nat) (pC : Nat) (pA : Nat) (pB : Nat) (pR : Nat) (pK : Nat) (nv : Int32) (ns : Int32) (nw : Int32) (vx : Nat → Int32) (vy : Nat → Int32) (fa : Nat → Int32) (tb : Nat → Int32) : Array Value → State → Outcome → State → Prop := va_Qi (S := Unit) (fun (r : Int32) => fun (_ : Unit) => sw_fw (sw_clash vx vy fa tb) nw.toNatClampNeg r) (sw_R D A (fun (_ : Unit) => [(p, .inr (1, [.ref pX, .ref pY, .ref pF, .ref pC, .ref pA, .ref pB, .ref pR, .ref pK, .int nv, .int ns, .int nw])), (pX, .inl (cI, 64, .inl vx)), (pY, .inl (cI, 64, .inl vy)), (pA, .inl (cI, 64, .inl fa)), (pB, .inl (cI, 64, .inl tb))])) A
set_option maxHeartbeats 4000000 in
set_option maxRecDepth 100000 in
theorem c_Pl_firstWrongWall (l : Launch) (D : va_G) (cI cL : ClassId) (tq sz : Nat) (p : Nat) (pX : Nat) (pY : Nat) (pF : Nat) (pC : Nat) (pA : Nat) (pB : Nat) (pR : Nat) (pK : Nat) (nv : Int32) (ns : Int32) (nw : Int32) (vx : Nat → Int32) (vy : Nat → Int32) (fa : Nat → Int32) (tb : Nat → Int32) (hn : sw_ok nw 64) (hv : ∀ j : Nat, j < nw.toNatClampNeg → vp_in (fa j) 64 ∧ vp_in (tb j) 64) : Met l y_Pl_firstWrongWall w_Pl_firstWrongWall rm_Pl_firstWrongWall (va_Pc [.ref p] (sw_B D cI cL tq sz [(p, .inr (1, [.ref pX, .ref pY, .ref pF, .ref pC, .ref pA, .ref pB, .ref pR, .ref pK, .int nv, .int ns, .int nw])), (pX, .inl (cI, 64, .inl vx)), (pY, .inl (cI, 64, .inl vy)), (pA, .inl (cI, 64, .inl fa)), (pB, .inl (cI, 64, .inl tb))])) (q_Pl_firstWrongWall D cI cL (va_A [(p, .inr (1, [.ref pX, .ref pY, .ref pF, .ref pC, .ref pA, .ref pB, .ref pR, .ref pK, .int nv, .int ns, .int nw])), (pX, .inl (cI, 64, .inl vx)), (pY, .inl (cI, 64, .inl vy)), (pA, .inl (cI, 64, .inl fa)), (pB, .inl (cI, 64, .inl tb))] sz) p pX pY pF pC pA pB pR pK nv ns nw vx vy fa tb) 0 0 (va_A [(p, .inr (1, [.ref pX, .ref pY, .ref pF, .ref pC, .ref pA, .ref pB, .ref pR, .ref pK, .int nv, .int ns, .int nw])), (pX, .inl (cI, 64, .inl vx)), (pY, .inl (cI, 64, .inl vy)), (pA, .inl (cI, 64, .inl fa)), (pB, .inl (cI, 64, .inl tb))] sz) := by
  refine Met.ofW (cc := b_Pl_firstWrongWall) (maxL := 3) (ret := (some .int)) (by decide) rfl ?_
  intro mp me s mm args below meth mk s₁ B hml hv
  obtain ⟨rfl, hsz, hP, hK, hD0, hG⟩ := hv
  have hx := B.exec
  have hb := B.bytes
  have hr := B.returns
  have hts := atoms_spec (ws := w_Pl_firstWrongWall) B.pre
  have hw : ∀ w ∈ sw_words, w.before _ s = true := fun w h => hts w (List.mem_cons_of_mem _ h)
  have hown : s.vm.findClass R_Pl = some mm.cls := findClass_of_methodNamed B.named
  have hlocks := B.notSynchronized
  subst hsz
  have hD := hD0.self (sz := s.heap.size)
  generalize hAe : va_A [(p, .inr (1, [.ref pX, .ref pY, .ref pF, .ref pC, .ref pA, .ref pB, .ref pR, .ref pK, .int nv, .int ns, .int nw])), (pX, .inl (cI, 64, .inl vx)), (pY, .inl (cI, 64, .inl vy)), (pA, .inl (cI, 64, .inl fa)), (pB, .inl (cI, 64, .inl tb))] s.heap.size = A at hD hG ⊢
  have hA : ∀ q : Nat, s.heap.size ≤ q → A q := fun q h => by rw [← hAe]; exact Or.inr h
  have hS : va_S A s.heap s.heap [] := va_S.rf
  have hl := lv_entry ([.ref p]) (n := 3) (Nat.le_of_ble_eq_true rfl)
  rw [lg_entry_eq]
  generalize (lg_sl ([.ref p]) ++ List.replicate (3 - (lg_sl ([.ref p])).length) Slot.unset).toArray = ls at hl ⊢
  have hl : lv_has ls 3 [(0, .ref p)] := hl
  refine lv_iconst (v := 1) hx hb d_Pl_firstWrongWall_0 (by decide) ?_
  refine lv_istore_n (lv' := [(1, .int 1), (0, .ref p)]) hx hb d_Pl_firstWrongWall_1 rfl hl (by decide) rfl (fun ls hl => ?_)
  have lp_2 : ∀ (n : Nat) (k : Nat) (i : Int32) (H : Heap) (locs : List Loc) (ls : Array Slot), (i = nI k) → (1 ≤ k) → (k ≤ 64 + 1) → (∀ j : Nat, j < k → sw_hit (sw_clash vx vy fa tb) j j = false) → (65 - k) < n → va_P D sw_cl [(p, .inr (1, [.ref pX, .ref pY, .ref pF, .ref pC, .ref pA, .ref pB, .ref pR, .ref pK, .int nv, .int ns, .int nw])), (pX, .inl (cI, 64, .inl vx)), (pY, .inl (cI, 64, .inl vy)), (pA, .inl (cI, 64, .inl fa)), (pB, .inl (cI, 64, .inl tb))] H → va_D A [(p, .inr (1, [.ref pX, .ref pY, .ref pF, .ref pC, .ref pA, .ref pB, .ref pR, .ref pK, .int nv, .int ns, .int nw])), (pX, .inl (cI, 64, .inl vx)), (pY, .inl (cI, 64, .inl vy)), (pA, .inl (cI, 64, .inl fa)), (pB, .inl (cI, 64, .inl tb))] → va_S A s.heap H locs → lv_has ls 3 [(0, .ref p), (1, .int i)] → W mp l me (headSpec w_Pl_firstWrongWall rm_Pl_firstWrongWall).room s mm ([.ref p]).toArray below meth mk H locs 0 0 (MQ below (q_Pl_firstWrongWall D cI cL A p pX pY pF pC pA pB pR pK nv ns nw vx vy fa tb) ([.ref p]).toArray s 0 0 A) (F0 mm 2 ls []) := by
    intro n
    induction n with
    | zero => intro k i H locs ls hi hk1 hk ht hm; exact absurd hm (Nat.not_lt_zero _)
    | succ n ih_2 =>
      intro k i H locs ls hi hk1 hk ht hm hP hD hS hl
      refine lv_iload_n hx hb d_Pl_firstWrongWall_2 rfl (lv_at hl 1 rfl) ?_
      refine lv_aload_n hx hb d_Pl_firstWrongWall_3 rfl (lv_at hl 0 rfl) ?_
      refine va_get (D := D) (ci := 1) (v := .int nw) (C := R_Pl) (T := F_Pl) (N := 11) hx hb hw ku_Pl hown hK hP 0 rfl rfl 10 (by decide) (hw _ kw_733d4839) (fun _ h9 => h9) rfl d_Pl_firstWrongWall_4 ?_
      refine lv_icmp_ge (tgt := 40) hx hb d_Pl_firstWrongWall_7 (by decide) (fun c_7 => ?_) (fun c_7 => ?_)
      · skip
        refine lv_iconst (v := (-1)) hx hb d_Pl_firstWrongWall_40 (by decide) ?_
        have hP9 := hP.sub (ws' := [(p, .inr (1, [.ref pX, .ref pY, .ref pF, .ref pC, .ref pA, .ref pB, .ref pR, .ref pK, .int nv, .int ns, .int nw])), (pX, .inl (cI, 64, .inl vx)), (pY, .inl (cI, 64, .inl vy)), (pA, .inl (cI, 64, .inl fa)), (pB, .inl (cI, 64, .inl tb))]) [0, 1, 2, 3, 4] rfl
        have hD9 := hD.sub (ws' := [(p, .inr (1, [.ref pX, .ref pY, .ref pF, .ref pC, .ref pA, .ref pB, .ref pR, .ref pK, .int nv, .int ns, .int nw])), (pX, .inl (cI, 64, .inl vx)), (pY, .inl (cI, 64, .inl vy)), (pA, .inl (cI, 64, .inl fa)), (pB, .inl (cI, 64, .inl tb))]) [0, 1, 2, 3, 4] (by decide) rfl
        exact W.iret (v := (-1)) hx hb hr (fun T9 hT9 hW9 => ⟨⟨(-1), (), rfl, by exact Or.inl ⟨rfl, fun z hz => ht z (Nat.lt_of_lt_of_le hz (sw_end2 hn (by decide) hi (by omega) c_7))⟩, by rw [hT9]; exact hP9, hD9⟩, hS.F hT9⟩) hS.2.2 d_Pl_firstWrongWall_41
      · skip
        have hn6 := hn.2
        have hkn : k < nw.toNatClampNeg := sw_nlt hn (by decide) hi (by omega) c_7
        refine lv_iconst (v := 0) hx hb d_Pl_firstWrongWall_10 (by decide) ?_
        refine lv_istore_n (lv' := [(2, .int 0), (0, .ref p), (1, .int i)]) hx hb d_Pl_firstWrongWall_11 rfl hl (by decide) rfl (fun ls hl => ?_)
        have lp_12 : ∀ (n : Nat) (q : Nat) (j : Int32) (H : Heap) (locs : List Loc) (ls : Array Slot), (j = nI q) → (q ≤ k) → (sw_hit (sw_clash vx vy fa tb) k q = false) → (k - q) < n → va_P D sw_cl [(p, .inr (1, [.ref pX, .ref pY, .ref pF, .ref pC, .ref pA, .ref pB, .ref pR, .ref pK, .int nv, .int ns, .int nw])), (pX, .inl (cI, 64, .inl vx)), (pY, .inl (cI, 64, .inl vy)), (pA, .inl (cI, 64, .inl fa)), (pB, .inl (cI, 64, .inl tb))] H → va_D A [(p, .inr (1, [.ref pX, .ref pY, .ref pF, .ref pC, .ref pA, .ref pB, .ref pR, .ref pK, .int nv, .int ns, .int nw])), (pX, .inl (cI, 64, .inl vx)), (pY, .inl (cI, 64, .inl vy)), (pA, .inl (cI, 64, .inl fa)), (pB, .inl (cI, 64, .inl tb))] → va_S A s.heap H locs → lv_has ls 3 [(0, .ref p), (1, .int i), (2, .int j)] → W mp l me (headSpec w_Pl_firstWrongWall rm_Pl_firstWrongWall).room s mm ([.ref p]).toArray below meth mk H locs 0 0 (MQ below (q_Pl_firstWrongWall D cI cL A p pX pY pF pC pA pB pR pK nv ns nw vx vy fa tb) ([.ref p]).toArray s 0 0 A) (F0 mm 12 ls []) := by
          intro n
          induction n with
          | zero => intro q j H locs ls hq hqk hz hm; exact absurd hm (Nat.not_lt_zero _)
          | succ n ih_12 =>
            intro q j H locs ls hq hqk hz hm hP hD hS hl
            refine lv_iload_n hx hb d_Pl_firstWrongWall_12 rfl (lv_at hl 2 rfl) ?_
            refine lv_iload_n hx hb d_Pl_firstWrongWall_13 rfl (lv_at hl 1 rfl) ?_
            refine lv_icmp_ge (tgt := 34) hx hb d_Pl_firstWrongWall_14 (by decide) (fun c_14 => ?_) (fun c_14 => ?_)
            · skip
              refine lv_iinc (v := i + 1) (lv' := [(1, .int (i + 1)), (0, .ref p), (2, .int j)]) hx hb d_Pl_firstWrongWall_34 hl (k := 1) rfl rfl (by decide) rfl (fun ls hl => ?_)
              refine lv_goto (tgt := 2) hx hb d_Pl_firstWrongWall_37 (by decide) ?_
              exact ih_2 (k + 1) (i + 1) _ _ _ (by rw [hi]; exact nI_1 k) (by omega) (by omega) (sw_hit_s ht (by have e9 := sw_ege hi hq (by omega) (by omega) c_14 hqk; rw [← e9] at hz; exact hz)) (by omega) (hP.sub [0, 1, 2, 3, 4] rfl) (hD.sub [0, 1, 2, 3, 4] (by decide) rfl) hS (lv_sub hl [1, 0] rfl)
            · skip
              have hqk2 : q < k := sw_egt hi hq (by omega) (by omega) c_14
              have hki : i.toNatClampNeg = k := by rw [hi]; exact nI_clamp (by omega)
              have hqi : j.toNatClampNeg = q := by rw [hq]; exact nI_clamp (by omega)
              refine lv_aload_n hx hb d_Pl_firstWrongWall_17 rfl (lv_at hl 0 rfl) ?_
              refine lv_iload_n hx hb d_Pl_firstWrongWall_18 rfl (lv_at hl 2 rfl) ?_
              refine lv_iload_n hx hb d_Pl_firstWrongWall_19 rfl (lv_at hl 1 rfl) ?_
              refine sw_ki0 (wr := []) (va_runV (As := [.int j, .int i]) (rest := []) ⟨hx, hb, hml, hown, hw⟩ (c_Pl_clash l D cI cL tq _ p j i pX pY pF pC pA pB pR pK nv ns nw vx vy fa tb (by rw [hq]; exact vp_in_nI (by omega) (by omega)) (by rw [hi]; exact vp_in_nI (by omega) (by omega)) (by rw [hqi]; exact (hv q (by omega)).1) (by rw [hqi]; exact (hv q (by omega)).2) (by rw [hki]; exact (hv k hkn).1) (by rw [hki]; exact (hv k hkn).2)) (cwV 2 hw (sw_gV kw_a936cbbd kw_edf062c2 kw_769e7e73 kw_e4821dd4 kc_Pl_clash) rfl rfl rfl ⟨rfl, yd_Pl_clash⟩ ⟨Nat.le_of_ble_eq_true rfl, Nat.le_of_ble_eq_true rfl⟩) (sw_preV hK hP hD hS hA hG [0, 1, 2, 3, 4] rfl (by decide) 1 0 rfl rfl) rfl rfl hl.1 rfl (lv_room (Nat.le_of_ble_eq_true rfl)) d_Pl_firstWrongWall_20 ⟨Nat.le_of_ble_eq_true rfl, Nat.le_of_ble_eq_true rfl⟩) hP hD hS hA [0, 1, 2, 3, 4] [] rfl rfl (by decide) (by decide) (fun r_20 _ H locs hp_20 hP hD hS => ?_)
              replace hP : va_P D sw_cl [(p, .inr (1, [.ref pX, .ref pY, .ref pF, .ref pC, .ref pA, .ref pB, .ref pR, .ref pK, .int nv, .int ns, .int nw])), (pX, .inl (cI, 64, .inl vx)), (pY, .inl (cI, 64, .inl vy)), (pA, .inl (cI, 64, .inl fa)), (pB, .inl (cI, 64, .inl tb))] H := hP
              replace hD : va_D A [(p, .inr (1, [.ref pX, .ref pY, .ref pF, .ref pC, .ref pA, .ref pB, .ref pR, .ref pK, .int nv, .int ns, .int nw])), (pX, .inl (cI, 64, .inl vx)), (pY, .inl (cI, 64, .inl vy)), (pA, .inl (cI, 64, .inl fa)), (pB, .inl (cI, 64, .inl tb))] := hD
              try dsimp only at hp_20
              subst hp_20
              refine lv_if_eq (tgt := 28) hx hb d_Pl_firstWrongWall_23 (by decide) (fun c_23 => ?_) (fun c_23 => ?_)
              · skip
                replace c_23 := sw_b0.mp c_23
                rw [hki, hqi] at c_23
                refine lv_iinc (v := j + 1) (lv' := [(2, .int (j + 1)), (0, .ref p), (1, .int i)]) hx hb d_Pl_firstWrongWall_28 hl (k := 2) rfl rfl (by decide) rfl (fun ls hl => ?_)
                refine lv_goto (tgt := 12) hx hb d_Pl_firstWrongWall_31 (by decide) ?_
                exact ih_12 (q + 1) (j + 1) _ _ _ (by rw [hq]; exact nI_1 q) (hqk2) (by simp [sw_hit, hz, c_23]) (by omega) (hP.sub [0, 1, 2, 3, 4] rfl) (hD.sub [0, 1, 2, 3, 4] (by decide) rfl) hS (lv_sub hl [1, 2, 0] rfl)
              · skip
                replace c_23 := sw_bn.mp c_23
                rw [hki, hqi] at c_23
                refine lv_iload_n hx hb d_Pl_firstWrongWall_26 rfl (lv_at hl 1 rfl) ?_
                have hP9 := hP.sub (ws' := [(p, .inr (1, [.ref pX, .ref pY, .ref pF, .ref pC, .ref pA, .ref pB, .ref pR, .ref pK, .int nv, .int ns, .int nw])), (pX, .inl (cI, 64, .inl vx)), (pY, .inl (cI, 64, .inl vy)), (pA, .inl (cI, 64, .inl fa)), (pB, .inl (cI, 64, .inl tb))]) [0, 1, 2, 3, 4] rfl
                have hD9 := hD.sub (ws' := [(p, .inr (1, [.ref pX, .ref pY, .ref pF, .ref pC, .ref pA, .ref pB, .ref pR, .ref pK, .int nv, .int ns, .int nw])), (pX, .inl (cI, 64, .inl vx)), (pY, .inl (cI, 64, .inl vy)), (pA, .inl (cI, 64, .inl fa)), (pB, .inl (cI, 64, .inl tb))]) [0, 1, 2, 3, 4] (by decide) rfl
                exact W.iret (v := i) hx hb hr (fun T9 hT9 hW9 => ⟨⟨i, (), rfl, by exact Or.inr ⟨k, hkn, hi, sw_hit_at hqk2 c_23, ht⟩, by rw [hT9]; exact hP9, hD9⟩, hS.F hT9⟩) hS.2.2 d_Pl_firstWrongWall_27
        exact lp_12 _ 0 0 _ _ _ (nI_0.symm) (Nat.zero_le _) (rfl) (Nat.lt_succ_self _) (hP.sub [0, 1, 2, 3, 4] rfl) (hD.sub [0, 1, 2, 3, 4] (by decide) rfl) hS (lv_sub hl [1, 2, 0] rfl)
  exact lp_2 _ 1 1 _ _ _ (rfl) (Nat.le_refl _) (by decide) (fun j hj => by rw [show j = 0 by omega]; rfl) (Nat.lt_succ_self _) (hP.sub [0, 1, 2, 3, 4] rfl) (hD.sub [0, 1, 2, 3, 4] (by decide) rfl) hS (lv_sub hl [1, 0] rfl)

abbrev rm_Pl_stops : Room := { frames := 1, cells := 0, slots := 0, locals := 14 }
abbrev q_Pl_stops (D : va_G) (cI cL : ClassId) (A : Nat → Prop) (p : Nat) (x : Int32) (y : Int32) (pX : Nat) (pY : Nat) (pF : Nat) (pC : Nat) (pA : Nat) (pB : Nat) (pR : Nat) (pK : Nat) (nv : Int32) (ns : Int32) (nw : Int32) (fl : Nat → Int32) (ce : Nat → Int32) (fr : Nat → Int32) (bk : Nat → Int32) : Array Value → State → Outcome → State → Prop := va_Qi (S := Unit) (fun (r : Int32) => fun (_ : Unit) => r = sw_b (sw_stop fl ce fr bk x.toNatClampNeg (!(decide (y = 0))))) (sw_R D A (fun (_ : Unit) => [(p, .inr (1, [.ref pX, .ref pY, .ref pF, .ref pC, .ref pA, .ref pB, .ref pR, .ref pK, .int nv, .int ns, .int nw])), (pF, .inl (cI, 16, .inl fl)), (pC, .inl (cI, 16, .inl ce)), (pR, .inl (cI, 64, .inl fr)), (pK, .inl (cI, 64, .inl bk))])) A
set_option maxHeartbeats 4000000 in
set_option maxRecDepth 100000 in
theorem c_Pl_stops (l : Launch) (D : va_G) (cI cL : ClassId) (tq sz : Nat) (p : Nat) (x : Int32) (y : Int32) (pX : Nat) (pY : Nat) (pF : Nat) (pC : Nat) (pA : Nat) (pB : Nat) (pR : Nat) (pK : Nat) (nv : Int32) (ns : Int32) (nw : Int32) (fl : Nat → Int32) (ce : Nat → Int32) (fr : Nat → Int32) (bk : Nat → Int32) (ix : vp_in x 64) (jr : vp_in (fr x.toNatClampNeg) 16) (jb : bk x.toNatClampNeg = -1 ∨ vp_in (bk x.toNatClampNeg) 16) : Met l y_Pl_stops w_Pl_stops rm_Pl_stops (va_Pc [.ref p, .int x, .int y] (sw_B D cI cL tq sz [(p, .inr (1, [.ref pX, .ref pY, .ref pF, .ref pC, .ref pA, .ref pB, .ref pR, .ref pK, .int nv, .int ns, .int nw])), (pF, .inl (cI, 16, .inl fl)), (pC, .inl (cI, 16, .inl ce)), (pR, .inl (cI, 64, .inl fr)), (pK, .inl (cI, 64, .inl bk))])) (q_Pl_stops D cI cL (va_A [(p, .inr (1, [.ref pX, .ref pY, .ref pF, .ref pC, .ref pA, .ref pB, .ref pR, .ref pK, .int nv, .int ns, .int nw])), (pF, .inl (cI, 16, .inl fl)), (pC, .inl (cI, 16, .inl ce)), (pR, .inl (cI, 64, .inl fr)), (pK, .inl (cI, 64, .inl bk))] sz) p x y pX pY pF pC pA pB pR pK nv ns nw fl ce fr bk) 0 0 (va_A [(p, .inr (1, [.ref pX, .ref pY, .ref pF, .ref pC, .ref pA, .ref pB, .ref pR, .ref pK, .int nv, .int ns, .int nw])), (pF, .inl (cI, 16, .inl fl)), (pC, .inl (cI, 16, .inl ce)), (pR, .inl (cI, 64, .inl fr)), (pK, .inl (cI, 64, .inl bk))] sz) := by
  refine Met.ofW (cc := b_Pl_stops) (maxL := 6) (ret := (some .boolean)) (by decide) rfl ?_
  intro mp me s mm args below meth mk s₁ B hml hv
  obtain ⟨rfl, hsz, hP, hK, hD0, hG⟩ := hv
  have hx := B.exec
  have hb := B.bytes
  have hr := B.returns
  have hts := atoms_spec (ws := w_Pl_stops) B.pre
  have hw : ∀ w ∈ sw_words, w.before _ s = true := fun w h => hts w (List.mem_cons_of_mem _ h)
  have hown : s.vm.findClass R_Pl = some mm.cls := findClass_of_methodNamed B.named
  have hlocks := B.notSynchronized
  subst hsz
  have hD := hD0.self (sz := s.heap.size)
  generalize hAe : va_A [(p, .inr (1, [.ref pX, .ref pY, .ref pF, .ref pC, .ref pA, .ref pB, .ref pR, .ref pK, .int nv, .int ns, .int nw])), (pF, .inl (cI, 16, .inl fl)), (pC, .inl (cI, 16, .inl ce)), (pR, .inl (cI, 64, .inl fr)), (pK, .inl (cI, 64, .inl bk))] s.heap.size = A at hD hG ⊢
  have hA : ∀ q : Nat, s.heap.size ≤ q → A q := fun q h => by rw [← hAe]; exact Or.inr h
  have hS : va_S A s.heap s.heap [] := va_S.rf
  have hl := lv_entry ([.ref p, .int x, .int y]) (n := 6) (Nat.le_of_ble_eq_true rfl)
  rw [lg_entry_eq]
  generalize (lg_sl ([.ref p, .int x, .int y]) ++ List.replicate (6 - (lg_sl ([.ref p, .int x, .int y])).length) Slot.unset).toArray = ls at hl ⊢
  have hl : lv_has ls 6 [(0, .ref p), (1, .int x), (2, .int y)] := hl
  refine lv_aload_n hx hb d_Pl_stops_0 rfl (lv_at hl 0 rfl) ?_
  refine va_get (D := D) (ci := 1) (v := .ref pK) (C := R_Pl) (T := F_Pl) (N := 11) hx hb hw ku_Pl hown hK hP 0 rfl rfl 7 (by decide) (hw _ kw_fa356e2a) (fun _ h9 => h9) rfl d_Pl_stops_1 ?_
  refine lv_iload_n hx hb d_Pl_stops_4 rfl (lv_at hl 1 rfl) ?_
  refine va_iald hx hb hK hP 4 0 rfl rfl (by assumption) d_Pl_stops_5 ?_
  refine lv_iconst (v := (-1)) hx hb d_Pl_stops_6 (by decide) ?_
  refine lv_icmp_ne (tgt := 12) hx hb d_Pl_stops_7 (by decide) (fun c_7 => ?_) (fun c_7 => ?_)
  · skip
    have jk : vp_in (bk x.toNatClampNeg) 16 := jb.resolve_left c_7
    refine lv_iload_n hx hb d_Pl_stops_12 rfl (lv_at hl 2 rfl) ?_
    refine lv_if_eq (tgt := 25) hx hb d_Pl_stops_13 (by decide) (fun c_13 => ?_) (fun c_13 => ?_)
    · skip
      refine lv_aload_n hx hb d_Pl_stops_25 rfl (lv_at hl 0 rfl) ?_
      refine va_get (D := D) (ci := 1) (v := .ref pK) (C := R_Pl) (T := F_Pl) (N := 11) hx hb hw ku_Pl hown hK hP 0 rfl rfl 7 (by decide) (hw _ kw_fa356e2a) (fun _ h9 => h9) rfl d_Pl_stops_26 ?_
      refine lv_iload_n hx hb d_Pl_stops_29 rfl (lv_at hl 1 rfl) ?_
      refine va_iald hx hb hK hP 4 0 rfl rfl (by assumption) d_Pl_stops_30 ?_
      refine lv_istore_n (lv' := [(3, .int (bk x.toNatClampNeg)), (0, .ref p), (1, .int x), (2, .int y)]) hx hb d_Pl_stops_31 rfl hl (by decide) rfl (fun ls hl => ?_)
      refine lv_iload_n hx hb d_Pl_stops_32 rfl (lv_at hl 3 rfl) ?_
      refine lv_if_eq (tgt := 45) hx hb d_Pl_stops_33 (by decide) (fun c_33 => ?_) (fun c_33 => ?_)
      · skip
        refine lv_aload_n hx hb d_Pl_stops_45 rfl (lv_at hl 1 rfl) ?_
        refine va_get (D := D) (ci := 1) (v := .ref pR) (C := R_Pl) (T := F_Pl) (N := 11) hx hb hw ku_Pl hown hK hP 0 rfl rfl 6 (by decide) (hw _ kw_3f39eaf5) (fun _ h9 => h9) rfl d_Pl_stops_46 ?_
        refine lv_iload_n hx hb d_Pl_stops_49 rfl (lv_at hl 2 rfl) ?_
        refine va_iald hx hb hK hP 3 0 rfl rfl (by assumption) d_Pl_stops_50 ?_
        refine lv_istore (lv' := [(4, .int (fr x.toNatClampNeg)), (3, .int (bk x.toNatClampNeg)), (0, .ref p), (1, .int x), (2, .int y)]) hx hb d_Pl_stops_51 hl (by decide) rfl (fun ls hl => ?_)
        refine lv_aload_n hx hb d_Pl_stops_53 rfl (lv_at hl 2 rfl) ?_
        refine va_get (D := D) (ci := 1) (v := .ref pC) (C := R_Pl) (T := F_Pl) (N := 11) hx hb hw ku_Pl hown hK hP 0 rfl rfl 3 (by decide) (hw _ kw_65f1a660) (fun _ h9 => h9) rfl d_Pl_stops_54 ?_
        refine lv_iload_n hx hb d_Pl_stops_57 rfl (lv_at hl 1 rfl) ?_
        refine va_iald hx hb hK hP 2 0 rfl rfl (by assumption) d_Pl_stops_58 ?_
        refine lv_aload_n hx hb d_Pl_stops_59 rfl (lv_at hl 2 rfl) ?_
        refine va_get (D := D) (ci := 1) (v := .ref pC) (C := R_Pl) (T := F_Pl) (N := 11) hx hb hw ku_Pl hown hK hP 0 rfl rfl 3 (by decide) (hw _ kw_65f1a660) (fun _ h9 => h9) rfl d_Pl_stops_60 ?_
        refine lv_iload hx hb d_Pl_stops_63 (lv_at hl 0 rfl) ?_
        refine va_iald hx hb hK hP 2 0 rfl rfl (by assumption) d_Pl_stops_65 ?_
        refine va_mmin hx hb (hml.trans hl.1.symm) hown (hw _ kw_d854bd5a) (hw _ kw_e38315b0) (hw _ kw_0f7fb0a1) (hw _ kc_Math_min) (Nat.le_of_ble_eq_true rfl) (Nat.le_of_ble_eq_true rfl) (Nat.le_of_ble_eq_true rfl) (Nat.le_of_ble_eq_true rfl) d_Pl_stops_66 ?_
        refine lv_aload_n hx hb d_Pl_stops_69 rfl (lv_at hl 2 rfl) ?_
        refine va_get (D := D) (ci := 1) (v := .ref pF) (C := R_Pl) (T := F_Pl) (N := 11) hx hb hw ku_Pl hown hK hP 0 rfl rfl 2 (by decide) (hw _ kw_27d57bb8) (fun _ h9 => h9) rfl d_Pl_stops_70 ?_
        refine lv_iload_n hx hb d_Pl_stops_73 rfl (lv_at hl 1 rfl) ?_
        refine va_iald hx hb hK hP 1 0 rfl rfl (by assumption) d_Pl_stops_74 ?_
        refine lv_aload_n hx hb d_Pl_stops_75 rfl (lv_at hl 2 rfl) ?_
        refine va_get (D := D) (ci := 1) (v := .ref pF) (C := R_Pl) (T := F_Pl) (N := 11) hx hb hw ku_Pl hown hK hP 0 rfl rfl 2 (by decide) (hw _ kw_27d57bb8) (fun _ h9 => h9) rfl d_Pl_stops_76 ?_
        refine lv_iload hx hb d_Pl_stops_79 (lv_at hl 0 rfl) ?_
        refine va_iald hx hb hK hP 1 0 rfl rfl (by assumption) d_Pl_stops_81 ?_
        refine va_mmax hx hb (hml.trans hl.1.symm) hown (hw _ kw_abc36f78) (hw _ kw_05e3ba51) (hw _ kw_0f7fb0a1) (hw _ kc_Math_max) (Nat.le_of_ble_eq_true rfl) (Nat.le_of_ble_eq_true rfl) (Nat.le_of_ble_eq_true rfl) (Nat.le_of_ble_eq_true rfl) d_Pl_stops_82 ?_
        refine lv_isub hx hb d_Pl_stops_85 ?_
        refine lv_istore (lv' := [(5, .int ((sw_mn (ce (bk x.toNatClampNeg).toNatClampNeg) (ce (fr x.toNatClampNeg).toNatClampNeg)) - (sw_mx (fl (bk x.toNatClampNeg).toNatClampNeg) (fl (fr x.toNatClampNeg).toNatClampNeg)))), (4, .int (fr x.toNatClampNeg)), (3, .int (bk x.toNatClampNeg)), (0, .ref p), (1, .int x), (2, .int y)]) hx hb d_Pl_stops_86 hl (by decide) rfl (fun ls hl => ?_)
        refine lv_aload_n hx hb d_Pl_stops_88 rfl (lv_at hl 3 rfl) ?_
        refine va_get (D := D) (ci := 1) (v := .ref pF) (C := R_Pl) (T := F_Pl) (N := 11) hx hb hw ku_Pl hown hK hP 0 rfl rfl 2 (by decide) (hw _ kw_27d57bb8) (fun _ h9 => h9) rfl d_Pl_stops_89 ?_
        refine lv_iload hx hb d_Pl_stops_92 (lv_at hl 1 rfl) ?_
        refine va_iald hx hb hK hP 1 0 rfl rfl (by assumption) d_Pl_stops_94 ?_
        refine lv_aload_n hx hb d_Pl_stops_95 rfl (lv_at hl 3 rfl) ?_
        refine va_get (D := D) (ci := 1) (v := .ref pF) (C := R_Pl) (T := F_Pl) (N := 11) hx hb hw ku_Pl hown hK hP 0 rfl rfl 2 (by decide) (hw _ kw_27d57bb8) (fun _ h9 => h9) rfl d_Pl_stops_96 ?_
        refine lv_iload_n hx hb d_Pl_stops_99 rfl (lv_at hl 2 rfl) ?_
        refine va_iald hx hb hK hP 1 0 rfl rfl (by assumption) d_Pl_stops_100 ?_
        refine lv_isub hx hb d_Pl_stops_101 ?_
        refine lv_bipush (v := 24) hx hb d_Pl_stops_102 (by decide) ?_
        refine lv_icmp_gt (tgt := 114) hx hb d_Pl_stops_104 (by decide) (fun c_104 => ?_) (fun c_104 => ?_)
        · skip
          refine lv_iconst (v := 1) hx hb d_Pl_stops_114 (by decide) ?_
          refine lv_goto (tgt := 119) hx hb d_Pl_stops_115 (by decide) ?_
          have hP9 := hP.sub (ws' := [(p, .inr (1, [.ref pX, .ref pY, .ref pF, .ref pC, .ref pA, .ref pB, .ref pR, .ref pK, .int nv, .int ns, .int nw])), (pF, .inl (cI, 16, .inl fl)), (pC, .inl (cI, 16, .inl ce)), (pR, .inl (cI, 64, .inl fr)), (pK, .inl (cI, 64, .inl bk))]) [0, 1, 2, 3, 4] rfl
          have hD9 := hD.sub (ws' := [(p, .inr (1, [.ref pX, .ref pY, .ref pF, .ref pC, .ref pA, .ref pB, .ref pR, .ref pK, .int nv, .int ns, .int nw])), (pF, .inl (cI, 16, .inl fl)), (pC, .inl (cI, 16, .inl ce)), (pR, .inl (cI, 64, .inl fr)), (pK, .inl (cI, 64, .inl bk))]) [0, 1, 2, 3, 4] (by decide) rfl
          exact W.zret (ty := .boolean) (v := 1) hx hb hr (rfl) (fun T9 hT9 hW9 => ⟨⟨1, (), rfl, by simp [sw_b, sw_stop, sw_stf, c_7, c_13, c_33, c_104], by rw [hT9]; exact hP9, hD9⟩, hS.F hT9⟩) hS.2.2 d_Pl_stops_119
        · skip
          refine lv_iload hx hb d_Pl_stops_107 (lv_at hl 0 rfl) ?_
          refine lv_bipush (v := 56) hx hb d_Pl_stops_109 (by decide) ?_
          refine lv_icmp_ge (tgt := 118) hx hb d_Pl_stops_111 (by decide) (fun c_111 => ?_) (fun c_111 => ?_)
          · skip
            replace c_111 : (56 ≤ ((sw_mn (ce (bk x.toNatClampNeg).toNatClampNeg) (ce (fr x.toNatClampNeg).toNatClampNeg)) - (sw_mx (fl (bk x.toNatClampNeg).toNatClampNeg) (fl (fr x.toNatClampNeg).toNatClampNeg)))) := c_111
            refine lv_iconst (v := 0) hx hb d_Pl_stops_118 (by decide) ?_
            have hP9 := hP.sub (ws' := [(p, .inr (1, [.ref pX, .ref pY, .ref pF, .ref pC, .ref pA, .ref pB, .ref pR, .ref pK, .int nv, .int ns, .int nw])), (pF, .inl (cI, 16, .inl fl)), (pC, .inl (cI, 16, .inl ce)), (pR, .inl (cI, 64, .inl fr)), (pK, .inl (cI, 64, .inl bk))]) [0, 1, 2, 3, 4] rfl
            have hD9 := hD.sub (ws' := [(p, .inr (1, [.ref pX, .ref pY, .ref pF, .ref pC, .ref pA, .ref pB, .ref pR, .ref pK, .int nv, .int ns, .int nw])), (pF, .inl (cI, 16, .inl fl)), (pC, .inl (cI, 16, .inl ce)), (pR, .inl (cI, 64, .inl fr)), (pK, .inl (cI, 64, .inl bk))]) [0, 1, 2, 3, 4] (by decide) rfl
            exact W.zret (ty := .boolean) (v := 0) hx hb hr (rfl) (fun T9 hT9 hW9 => ⟨⟨0, (), rfl, by simp [sw_b, sw_stop, sw_stf, c_7, c_13, c_33, c_104, c_111], by rw [hT9]; exact hP9, hD9⟩, hS.F hT9⟩) hS.2.2 d_Pl_stops_119
          · skip
            replace c_111 : ¬ (56 ≤ ((sw_mn (ce (bk x.toNatClampNeg).toNatClampNeg) (ce (fr x.toNatClampNeg).toNatClampNeg)) - (sw_mx (fl (bk x.toNatClampNeg).toNatClampNeg) (fl (fr x.toNatClampNeg).toNatClampNeg)))) := c_111
            refine lv_iconst (v := 1) hx hb d_Pl_stops_114 (by decide) ?_
            refine lv_goto (tgt := 119) hx hb d_Pl_stops_115 (by decide) ?_
            have hP9 := hP.sub (ws' := [(p, .inr (1, [.ref pX, .ref pY, .ref pF, .ref pC, .ref pA, .ref pB, .ref pR, .ref pK, .int nv, .int ns, .int nw])), (pF, .inl (cI, 16, .inl fl)), (pC, .inl (cI, 16, .inl ce)), (pR, .inl (cI, 64, .inl fr)), (pK, .inl (cI, 64, .inl bk))]) [0, 1, 2, 3, 4] rfl
            have hD9 := hD.sub (ws' := [(p, .inr (1, [.ref pX, .ref pY, .ref pF, .ref pC, .ref pA, .ref pB, .ref pR, .ref pK, .int nv, .int ns, .int nw])), (pF, .inl (cI, 16, .inl fl)), (pC, .inl (cI, 16, .inl ce)), (pR, .inl (cI, 64, .inl fr)), (pK, .inl (cI, 64, .inl bk))]) [0, 1, 2, 3, 4] (by decide) rfl
            exact W.zret (ty := .boolean) (v := 1) hx hb hr (rfl) (fun T9 hT9 hW9 => ⟨⟨1, (), rfl, by simp [sw_b, sw_stop, sw_stf, c_7, c_13, c_33, c_104, c_111], by rw [hT9]; exact hP9, hD9⟩, hS.F hT9⟩) hS.2.2 d_Pl_stops_119
      · skip
        exact absurd c_13 c_33
    · skip
      refine lv_aload_n hx hb d_Pl_stops_16 rfl (lv_at hl 0 rfl) ?_
      refine va_get (D := D) (ci := 1) (v := .ref pR) (C := R_Pl) (T := F_Pl) (N := 11) hx hb hw ku_Pl hown hK hP 0 rfl rfl 6 (by decide) (hw _ kw_3f39eaf5) (fun _ h9 => h9) rfl d_Pl_stops_17 ?_
      refine lv_iload_n hx hb d_Pl_stops_20 rfl (lv_at hl 1 rfl) ?_
      refine va_iald hx hb hK hP 3 0 rfl rfl (by assumption) d_Pl_stops_21 ?_
      refine lv_goto (tgt := 31) hx hb d_Pl_stops_22 (by decide) ?_
      refine lv_istore_n (lv' := [(3, .int (fr x.toNatClampNeg)), (0, .ref p), (1, .int x), (2, .int y)]) hx hb d_Pl_stops_31 rfl hl (by decide) rfl (fun ls hl => ?_)
      refine lv_iload_n hx hb d_Pl_stops_32 rfl (lv_at hl 3 rfl) ?_
      refine lv_if_eq (tgt := 45) hx hb d_Pl_stops_33 (by decide) (fun c_33 => ?_) (fun c_33 => ?_)
      · skip
        exact absurd c_33 c_13
      · skip
        refine lv_aload_n hx hb d_Pl_stops_36 rfl (lv_at hl 1 rfl) ?_
        refine va_get (D := D) (ci := 1) (v := .ref pK) (C := R_Pl) (T := F_Pl) (N := 11) hx hb hw ku_Pl hown hK hP 0 rfl rfl 7 (by decide) (hw _ kw_fa356e2a) (fun _ h9 => h9) rfl d_Pl_stops_37 ?_
        refine lv_iload_n hx hb d_Pl_stops_40 rfl (lv_at hl 2 rfl) ?_
        refine va_iald hx hb hK hP 4 0 rfl rfl (by assumption) d_Pl_stops_41 ?_
        refine lv_goto (tgt := 51) hx hb d_Pl_stops_42 (by decide) ?_
        refine lv_istore (lv' := [(4, .int (bk x.toNatClampNeg)), (3, .int (fr x.toNatClampNeg)), (0, .ref p), (1, .int x), (2, .int y)]) hx hb d_Pl_stops_51 hl (by decide) rfl (fun ls hl => ?_)
        refine lv_aload_n hx hb d_Pl_stops_53 rfl (lv_at hl 2 rfl) ?_
        refine va_get (D := D) (ci := 1) (v := .ref pC) (C := R_Pl) (T := F_Pl) (N := 11) hx hb hw ku_Pl hown hK hP 0 rfl rfl 3 (by decide) (hw _ kw_65f1a660) (fun _ h9 => h9) rfl d_Pl_stops_54 ?_
        refine lv_iload_n hx hb d_Pl_stops_57 rfl (lv_at hl 1 rfl) ?_
        refine va_iald hx hb hK hP 2 0 rfl rfl (by assumption) d_Pl_stops_58 ?_
        refine lv_aload_n hx hb d_Pl_stops_59 rfl (lv_at hl 2 rfl) ?_
        refine va_get (D := D) (ci := 1) (v := .ref pC) (C := R_Pl) (T := F_Pl) (N := 11) hx hb hw ku_Pl hown hK hP 0 rfl rfl 3 (by decide) (hw _ kw_65f1a660) (fun _ h9 => h9) rfl d_Pl_stops_60 ?_
        refine lv_iload hx hb d_Pl_stops_63 (lv_at hl 0 rfl) ?_
        refine va_iald hx hb hK hP 2 0 rfl rfl (by assumption) d_Pl_stops_65 ?_
        refine va_mmin hx hb (hml.trans hl.1.symm) hown (hw _ kw_d854bd5a) (hw _ kw_e38315b0) (hw _ kw_0f7fb0a1) (hw _ kc_Math_min) (Nat.le_of_ble_eq_true rfl) (Nat.le_of_ble_eq_true rfl) (Nat.le_of_ble_eq_true rfl) (Nat.le_of_ble_eq_true rfl) d_Pl_stops_66 ?_
        refine lv_aload_n hx hb d_Pl_stops_69 rfl (lv_at hl 2 rfl) ?_
        refine va_get (D := D) (ci := 1) (v := .ref pF) (C := R_Pl) (T := F_Pl) (N := 11) hx hb hw ku_Pl hown hK hP 0 rfl rfl 2 (by decide) (hw _ kw_27d57bb8) (fun _ h9 => h9) rfl d_Pl_stops_70 ?_
        refine lv_iload_n hx hb d_Pl_stops_73 rfl (lv_at hl 1 rfl) ?_
        refine va_iald hx hb hK hP 1 0 rfl rfl (by assumption) d_Pl_stops_74 ?_
        refine lv_aload_n hx hb d_Pl_stops_75 rfl (lv_at hl 2 rfl) ?_
        refine va_get (D := D) (ci := 1) (v := .ref pF) (C := R_Pl) (T := F_Pl) (N := 11) hx hb hw ku_Pl hown hK hP 0 rfl rfl 2 (by decide) (hw _ kw_27d57bb8) (fun _ h9 => h9) rfl d_Pl_stops_76 ?_
        refine lv_iload hx hb d_Pl_stops_79 (lv_at hl 0 rfl) ?_
        refine va_iald hx hb hK hP 1 0 rfl rfl (by assumption) d_Pl_stops_81 ?_
        refine va_mmax hx hb (hml.trans hl.1.symm) hown (hw _ kw_abc36f78) (hw _ kw_05e3ba51) (hw _ kw_0f7fb0a1) (hw _ kc_Math_max) (Nat.le_of_ble_eq_true rfl) (Nat.le_of_ble_eq_true rfl) (Nat.le_of_ble_eq_true rfl) (Nat.le_of_ble_eq_true rfl) d_Pl_stops_82 ?_
        refine lv_isub hx hb d_Pl_stops_85 ?_
        refine lv_istore (lv' := [(5, .int ((sw_mn (ce (fr x.toNatClampNeg).toNatClampNeg) (ce (bk x.toNatClampNeg).toNatClampNeg)) - (sw_mx (fl (fr x.toNatClampNeg).toNatClampNeg) (fl (bk x.toNatClampNeg).toNatClampNeg)))), (4, .int (bk x.toNatClampNeg)), (3, .int (fr x.toNatClampNeg)), (0, .ref p), (1, .int x), (2, .int y)]) hx hb d_Pl_stops_86 hl (by decide) rfl (fun ls hl => ?_)
        refine lv_aload_n hx hb d_Pl_stops_88 rfl (lv_at hl 3 rfl) ?_
        refine va_get (D := D) (ci := 1) (v := .ref pF) (C := R_Pl) (T := F_Pl) (N := 11) hx hb hw ku_Pl hown hK hP 0 rfl rfl 2 (by decide) (hw _ kw_27d57bb8) (fun _ h9 => h9) rfl d_Pl_stops_89 ?_
        refine lv_iload hx hb d_Pl_stops_92 (lv_at hl 1 rfl) ?_
        refine va_iald hx hb hK hP 1 0 rfl rfl (by assumption) d_Pl_stops_94 ?_
        refine lv_aload_n hx hb d_Pl_stops_95 rfl (lv_at hl 3 rfl) ?_
        refine va_get (D := D) (ci := 1) (v := .ref pF) (C := R_Pl) (T := F_Pl) (N := 11) hx hb hw ku_Pl hown hK hP 0 rfl rfl 2 (by decide) (hw _ kw_27d57bb8) (fun _ h9 => h9) rfl d_Pl_stops_96 ?_
        refine lv_iload_n hx hb d_Pl_stops_99 rfl (lv_at hl 2 rfl) ?_
        refine va_iald hx hb hK hP 1 0 rfl rfl (by assumption) d_Pl_stops_100 ?_
        refine lv_isub hx hb d_Pl_stops_101 ?_
        refine lv_bipush (v := 24) hx hb d_Pl_stops_102 (by decide) ?_
        refine lv_icmp_gt (tgt := 114) hx hb d_Pl_stops_104 (by decide) (fun c_104 => ?_) (fun c_104 => ?_)
        · skip
          refine lv_iconst (v := 1) hx hb d_Pl_stops_114 (by decide) ?_
          refine lv_goto (tgt := 119) hx hb d_Pl_stops_115 (by decide) ?_
          have hP9 := hP.sub (ws' := [(p, .inr (1, [.ref pX, .ref pY, .ref pF, .ref pC, .ref pA, .ref pB, .ref pR, .ref pK, .int nv, .int ns, .int nw])), (pF, .inl (cI, 16, .inl fl)), (pC, .inl (cI, 16, .inl ce)), (pR, .inl (cI, 64, .inl fr)), (pK, .inl (cI, 64, .inl bk))]) [0, 1, 2, 3, 4] rfl
          have hD9 := hD.sub (ws' := [(p, .inr (1, [.ref pX, .ref pY, .ref pF, .ref pC, .ref pA, .ref pB, .ref pR, .ref pK, .int nv, .int ns, .int nw])), (pF, .inl (cI, 16, .inl fl)), (pC, .inl (cI, 16, .inl ce)), (pR, .inl (cI, 64, .inl fr)), (pK, .inl (cI, 64, .inl bk))]) [0, 1, 2, 3, 4] (by decide) rfl
          exact W.zret (ty := .boolean) (v := 1) hx hb hr (rfl) (fun T9 hT9 hW9 => ⟨⟨1, (), rfl, by simp [sw_b, sw_stop, sw_stf, c_7, c_13, c_33, c_104], by rw [hT9]; exact hP9, hD9⟩, hS.F hT9⟩) hS.2.2 d_Pl_stops_119
        · skip
          refine lv_iload hx hb d_Pl_stops_107 (lv_at hl 0 rfl) ?_
          refine lv_bipush (v := 56) hx hb d_Pl_stops_109 (by decide) ?_
          refine lv_icmp_ge (tgt := 118) hx hb d_Pl_stops_111 (by decide) (fun c_111 => ?_) (fun c_111 => ?_)
          · skip
            replace c_111 : (56 ≤ ((sw_mn (ce (fr x.toNatClampNeg).toNatClampNeg) (ce (bk x.toNatClampNeg).toNatClampNeg)) - (sw_mx (fl (fr x.toNatClampNeg).toNatClampNeg) (fl (bk x.toNatClampNeg).toNatClampNeg)))) := c_111
            refine lv_iconst (v := 0) hx hb d_Pl_stops_118 (by decide) ?_
            have hP9 := hP.sub (ws' := [(p, .inr (1, [.ref pX, .ref pY, .ref pF, .ref pC, .ref pA, .ref pB, .ref pR, .ref pK, .int nv, .int ns, .int nw])), (pF, .inl (cI, 16, .inl fl)), (pC, .inl (cI, 16, .inl ce)), (pR, .inl (cI, 64, .inl fr)), (pK, .inl (cI, 64, .inl bk))]) [0, 1, 2, 3, 4] rfl
            have hD9 := hD.sub (ws' := [(p, .inr (1, [.ref pX, .ref pY, .ref pF, .ref pC, .ref pA, .ref pB, .ref pR, .ref pK, .int nv, .int ns, .int nw])), (pF, .inl (cI, 16, .inl fl)), (pC, .inl (cI, 16, .inl ce)), (pR, .inl (cI, 64, .inl fr)), (pK, .inl (cI, 64, .inl bk))]) [0, 1, 2, 3, 4] (by decide) rfl
            exact W.zret (ty := .boolean) (v := 0) hx hb hr (rfl) (fun T9 hT9 hW9 => ⟨⟨0, (), rfl, by simp [sw_b, sw_stop, sw_stf, c_7, c_13, c_33, c_104, c_111], by rw [hT9]; exact hP9, hD9⟩, hS.F hT9⟩) hS.2.2 d_Pl_stops_119
          · skip
            replace c_111 : ¬ (56 ≤ ((sw_mn (ce (fr x.toNatClampNeg).toNatClampNeg) (ce (bk x.toNatClampNeg).toNatClampNeg)) - (sw_mx (fl (fr x.toNatClampNeg).toNatClampNeg) (fl (bk x.toNatClampNeg).toNatClampNeg)))) := c_111
            refine lv_iconst (v := 1) hx hb d_Pl_stops_114 (by decide) ?_
            refine lv_goto (tgt := 119) hx hb d_Pl_stops_115 (by decide) ?_
            have hP9 := hP.sub (ws' := [(p, .inr (1, [.ref pX, .ref pY, .ref pF, .ref pC, .ref pA, .ref pB, .ref pR, .ref pK, .int nv, .int ns, .int nw])), (pF, .inl (cI, 16, .inl fl)), (pC, .inl (cI, 16, .inl ce)), (pR, .inl (cI, 64, .inl fr)), (pK, .inl (cI, 64, .inl bk))]) [0, 1, 2, 3, 4] rfl
            have hD9 := hD.sub (ws' := [(p, .inr (1, [.ref pX, .ref pY, .ref pF, .ref pC, .ref pA, .ref pB, .ref pR, .ref pK, .int nv, .int ns, .int nw])), (pF, .inl (cI, 16, .inl fl)), (pC, .inl (cI, 16, .inl ce)), (pR, .inl (cI, 64, .inl fr)), (pK, .inl (cI, 64, .inl bk))]) [0, 1, 2, 3, 4] (by decide) rfl
            exact W.zret (ty := .boolean) (v := 1) hx hb hr (rfl) (fun T9 hT9 hW9 => ⟨⟨1, (), rfl, by simp [sw_b, sw_stop, sw_stf, c_7, c_13, c_33, c_104, c_111], by rw [hT9]; exact hP9, hD9⟩, hS.F hT9⟩) hS.2.2 d_Pl_stops_119
  · skip
    refine lv_iconst (v := 1) hx hb d_Pl_stops_10 (by decide) ?_
    have hP9 := hP.sub (ws' := [(p, .inr (1, [.ref pX, .ref pY, .ref pF, .ref pC, .ref pA, .ref pB, .ref pR, .ref pK, .int nv, .int ns, .int nw])), (pF, .inl (cI, 16, .inl fl)), (pC, .inl (cI, 16, .inl ce)), (pR, .inl (cI, 64, .inl fr)), (pK, .inl (cI, 64, .inl bk))]) [0, 1, 2, 3, 4] rfl
    have hD9 := hD.sub (ws' := [(p, .inr (1, [.ref pX, .ref pY, .ref pF, .ref pC, .ref pA, .ref pB, .ref pR, .ref pK, .int nv, .int ns, .int nw])), (pF, .inl (cI, 16, .inl fl)), (pC, .inl (cI, 16, .inl ce)), (pR, .inl (cI, 64, .inl fr)), (pK, .inl (cI, 64, .inl bk))]) [0, 1, 2, 3, 4] (by decide) rfl
    exact W.zret (ty := .boolean) (v := 1) hx hb hr (rfl) (fun T9 hT9 hW9 => ⟨⟨1, (), rfl, by simp [sw_b, sw_stop, sw_stf, c_7], by rw [hT9]; exact hP9, hD9⟩, hS.F hT9⟩) hS.2.2 d_Pl_stops_11
