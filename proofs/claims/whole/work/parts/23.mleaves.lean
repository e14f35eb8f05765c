abbrev rm_Mo_isWithin : Room := { frames := 0, cells := 0, slots := 0, locals := 0 }
abbrev q_Mo_isWithin (D : va_G) (cI cL : ClassId) (A : Nat → Prop) (x : Int32) (y : Int32) : Array Value → State → Outcome → State → Prop := va_Qi (S := Unit) (fun (r : Int32) => fun (_ : Unit) => r = sw_b (sw_wi x y)) (sw_R D A (fun (_ : Unit) => [])) A
set_option maxHeartbeats 4000000 in
set_option maxRecDepth 100000 in
theorem c_Mo_isWithin (l : Launch) (D : va_G) (cI cL : ClassId) (tq sz : Nat) (x : Int32) (y : Int32) : Met l y_Mo_isWithin w_Mo_isWithin rm_Mo_isWithin (va_Pc [.int x, .int y] (sw_B D cI cL tq sz [])) (q_Mo_isWithin D cI cL (va_A [] sz) x y) 0 0 (va_A [] sz) := by
  refine Met.ofW (cc := b_Mo_isWithin) (maxL := 2) (ret := (some .boolean)) (by decide) rfl ?_
  intro mp me s mm args below meth mk s₁ B hml hv
  obtain ⟨rfl, hsz, hP, hK, hD0, hG⟩ := hv
  have hx := B.exec
  have hb := B.bytes
  have hr := B.returns
  have hts := atoms_spec (ws := w_Mo_isWithin) B.pre
  have hw : ∀ w ∈ sw_words, w.before _ s = true := fun w h => hts w (List.mem_cons_of_mem _ h)
  have hown : s.vm.findClass R_Mo = some mm.cls := findClass_of_methodNamed B.named
  have hlocks := B.notSynchronized
  subst hsz
  have hD := hD0.self (sz := s.heap.size)
  generalize hAe : va_A [] s.heap.size = A at hD hG ⊢
  have hA : ∀ q : Nat, s.heap.size ≤ q → A q := fun q h => by rw [← hAe]; exact Or.inr h
  have hS : va_S A s.heap s.heap [] := va_S.rf
  have hl := lv_entry ([.int x, .int y]) (n := 2) (Nat.le_of_ble_eq_true rfl)
  rw [lg_entry_eq]
  generalize (lg_sl ([.int x, .int y]) ++ List.replicate (2 - (lg_sl ([.int x, .int y])).length) Slot.unset).toArray = ls at hl ⊢
  have hl : lv_has ls 2 [(0, .int x), (1, .int y)] := hl
  refine lv_iload_n hx hb d_Mo_isWithin_0 rfl (lv_at hl 0 rfl) ?_
  refine lv_iload_n hx hb d_Mo_isWithin_1 rfl (lv_at hl 1 rfl) ?_
  refine lv_ineg hx hb d_Mo_isWithin_2 ?_
  refine lv_icmp_lt (tgt := 15) hx hb d_Mo_isWithin_3 (by decide) (fun c_3 => ?_) (fun c_3 => ?_)
  · skip
    refine lv_iconst (v := 0) hx hb d_Mo_isWithin_15 (by decide) ?_
    have hP9 := hP.sub (ws' := []) [] rfl
    have hD9 := hD.sub (ws' := []) [] (by decide) rfl
    exact W.zret (ty := .boolean) (v := 0) hx hb hr (rfl) (fun T9 hT9 hW9 => ⟨⟨0, (), rfl, by simp [sw_b, sw_wi, c_3], by rw [hT9]; exact hP9, hD9⟩, hS.F hT9⟩) hS.2.2 d_Mo_isWithin_16
  · skip
    refine lv_iload_n hx hb d_Mo_isWithin_6 rfl (lv_at hl 0 rfl) ?_
    refine lv_iload_n hx hb d_Mo_isWithin_7 rfl (lv_at hl 1 rfl) ?_
    refine lv_icmp_gt (tgt := 15) hx hb d_Mo_isWithin_8 (by decide) (fun c_8 => ?_) (fun c_8 => ?_)
    · skip
      refine lv_iconst (v := 0) hx hb d_Mo_isWithin_15 (by decide) ?_
      have hP9 := hP.sub (ws' := []) [] rfl
      have hD9 := hD.sub (ws' := []) [] (by decide) rfl
      exact W.zret (ty := .boolean) (v := 0) hx hb hr (rfl) (fun T9 hT9 hW9 => ⟨⟨0, (), rfl, by simp [sw_b, sw_wi, c_3, c_8], by rw [hT9]; exact hP9, hD9⟩, hS.F hT9⟩) hS.2.2 d_Mo_isWithin_16
    · skip
      refine lv_iconst (v := 1) hx hb d_Mo_isWithin_11 (by decide) ?_
      refine lv_goto (tgt := 16) hx hb d_Mo_isWithin_12 (by decide) ?_
      have hP9 := hP.sub (ws' := []) [] rfl
      have hD9 := hD.sub (ws' := []) [] (by decide) rfl
      exact W.zret (ty := .boolean) (v := 1) hx hb hr (rfl) (fun T9 hT9 hW9 => ⟨⟨1, (), rfl, by simp [sw_b, sw_wi, c_3, c_8], by rw [hT9]; exact hP9, hD9⟩, hS.F hT9⟩) hS.2.2 d_Mo_isWithin_16

abbrev rm_Mo_isInput : Room := { frames := 1, cells := 0, slots := 0, locals := 21 }
abbrev q_Mo_isInput (D : va_G) (cI cL : ClassId) (A : Nat → Prop) (x : Int32) (y : Int32) (z : Int32) : Array Value → State → Outcome → State → Prop := va_Qi (S := Unit) (fun (r : Int32) => fun (_ : Unit) => r = sw_b (sw_wi x 64 && sw_wi y 64 && sw_wi z 16)) (sw_R D A (fun (_ : Unit) => [])) A
set_option maxHeartbeats 4000000 in
set_option maxRecDepth 100000 in
theorem c_Mo_isInput (l : Launch) (D : va_G) (cI cL : ClassId) (tq sz : Nat) (x : Int32) (y : Int32) (z : Int32) : Met l y_Mo_isInput w_Mo_isInput rm_Mo_isInput (va_Pc [.int x, .int y, .int z] (sw_B D cI cL tq sz [])) (q_Mo_isInput D cI cL (va_A [] sz) x y z) 0 0 (va_A [] sz) := by
  refine Met.ofW (cc := b_Mo_isInput) (maxL := 3) (ret := (some .boolean)) (by decide) rfl ?_
  intro mp me s mm args below meth mk s₁ B hml hv
  obtain ⟨rfl, hsz, hP, hK, hD0, hG⟩ := hv
  have hx := B.exec
  have hb := B.bytes
  have hr := B.returns
  have hts := atoms_spec (ws := w_Mo_isInput) B.pre
  have hw : ∀ w ∈ sw_words, w.before _ s = true := fun w h => hts w (List.mem_cons_of_mem _ h)
  have hown : s.vm.findClass R_Mo = some mm.cls := findClass_of_methodNamed B.named
  have hlocks := B.notSynchronized
  subst hsz
  have hD := hD0.self (sz := s.heap.size)
  generalize hAe : va_A [] s.heap.size = A at hD hG ⊢
  have hA : ∀ q : Nat, s.heap.size ≤ q → A q := fun q h => by rw [← hAe]; exact Or.inr h
  have hS : va_S A s.heap s.heap [] := va_S.rf
  have hl := lv_entry ([.int x, .int y, .int z]) (n := 3) (Nat.le_of_ble_eq_true rfl)
  rw [lg_entry_eq]
  generalize (lg_sl ([.int x, .int y, .int z]) ++ List.replicate (3 - (lg_sl ([.int x, .int y, .int z])).length) Slot.unset).toArray = ls at hl ⊢
  have hl : lv_has ls 3 [(0, .int x), (1, .int y), (2, .int z)] := hl
  refine lv_iload_n hx hb d_Mo_isInput_0 rfl (lv_at hl 0 rfl) ?_
  refine lv_bipush (v := 64) hx hb d_Mo_isInput_1 (by decide) ?_
  refine sw_ki0 (wr := []) (va_runS (As := [.int x, .int 64]) (rest := []) ⟨hx, hb, hml, hown, hw⟩ (c_Mo_isWithin l D cI cL tq _ x 64) (cwS 2 hw (sw_gS kw_aa0a1934 kw_59824ec7 kw_82e72072 kc_Mo_isWithin) rfl rfl rfl ⟨rfl, yd_Mo_isWithin⟩ ⟨Nat.le_of_ble_eq_true rfl, Nat.le_of_ble_eq_true rfl⟩) (sw_preS hK hP hD hS hA hG [] rfl (by decide)) rfl rfl hl.1 rfl (lv_room (Nat.le_of_ble_eq_true rfl)) d_Mo_isInput_3 ⟨Nat.le_of_ble_eq_true rfl, Nat.le_of_ble_eq_true rfl⟩) hP hD hS hA [] [] rfl rfl (by decide) (by decide) (fun r_3 _ H locs hp_3 hP hD hS => ?_)
  replace hP : va_P D sw_cl [] H := hP
  replace hD : va_D A [] := hD
  try dsimp only at hp_3
  subst hp_3
  refine lv_if_eq (tgt := 31) hx hb d_Mo_isInput_6 (by decide) (fun c_6 => ?_) (fun c_6 => ?_)
  · skip
    replace c_6 := sw_b0.mp c_6
    refine lv_iconst (v := 0) hx hb d_Mo_isInput_31 (by decide) ?_
    have hP9 := hP.sub (ws' := []) [] rfl
    have hD9 := hD.sub (ws' := []) [] (by decide) rfl
    exact W.zret (ty := .boolean) (v := 0) hx hb hr (rfl) (fun T9 hT9 hW9 => ⟨⟨0, (), rfl, by simp [sw_b, c_6], by rw [hT9]; exact hP9, hD9⟩, hS.F hT9⟩) hS.2.2 d_Mo_isInput_32
  · skip
    replace c_6 := sw_bn.mp c_6
    refine lv_iload_n hx hb d_Mo_isInput_9 rfl (lv_at hl 1 rfl) ?_
    refine lv_bipush (v := 64) hx hb d_Mo_isInput_10 (by decide) ?_
    refine sw_ki0 (wr := []) (va_runS (As := [.int y, .int 64]) (rest := []) ⟨hx, hb, hml, hown, hw⟩ (c_Mo_isWithin l D cI cL tq _ y 64) (cwS 2 hw (sw_gS kw_aa0a1934 kw_59824ec7 kw_82e72072 kc_Mo_isWithin) rfl rfl rfl ⟨rfl, yd_Mo_isWithin⟩ ⟨Nat.le_of_ble_eq_true rfl, Nat.le_of_ble_eq_true rfl⟩) (sw_preS hK hP hD hS hA hG [] rfl (by decide)) rfl rfl hl.1 rfl (lv_room (Nat.le_of_ble_eq_true rfl)) d_Mo_isInput_12 ⟨Nat.le_of_ble_eq_true rfl, Nat.le_of_ble_eq_true rfl⟩) hP hD hS hA [] [] rfl rfl (by decide) (by decide) (fun r_12 _ H locs hp_12 hP hD hS => ?_)
    replace hP : va_P D sw_cl [] H := hP
    replace hD : va_D A [] := hD
    try dsimp only at hp_12
    subst hp_12
    refine lv_if_eq (tgt := 31) hx hb d_Mo_isInput_15 (by decide) (fun c_15 => ?_) (fun c_15 => ?_)
    · skip
      replace c_15 := sw_b0.mp c_15
      refine lv_iconst (v := 0) hx hb d_Mo_isInput_31 (by decide) ?_
      have hP9 := hP.sub (ws' := []) [] rfl
      have hD9 := hD.sub (ws' := []) [] (by decide) rfl
      exact W.zret (ty := .boolean) (v := 0) hx hb hr (rfl) (fun T9 hT9 hW9 => ⟨⟨0, (), rfl, by simp [sw_b, c_6, c_15], by rw [hT9]; exact hP9, hD9⟩, hS.F hT9⟩) hS.2.2 d_Mo_isInput_32
    · skip
      replace c_15 := sw_bn.mp c_15
      refine lv_iload_n hx hb d_Mo_isInput_18 rfl (lv_at hl 2 rfl) ?_
      refine lv_bipush (v := 16) hx hb d_Mo_isInput_19 (by decide) ?_
      refine sw_ki0 (wr := []) (va_runS (As := [.int z, .int 16]) (rest := []) ⟨hx, hb, hml, hown, hw⟩ (c_Mo_isWithin l D cI cL tq _ z 16) (cwS 2 hw (sw_gS kw_aa0a1934 kw_59824ec7 kw_82e72072 kc_Mo_isWithin) rfl rfl rfl ⟨rfl, yd_Mo_isWithin⟩ ⟨Nat.le_of_ble_eq_true rfl, Nat.le_of_ble_eq_true rfl⟩) (sw_preS hK hP hD hS hA hG [] rfl (by decide)) rfl rfl hl.1 rfl (lv_room (Nat.le_of_ble_eq_true rfl)) d_Mo_isInput_21 ⟨Nat.le_of_ble_eq_true rfl, Nat.le_of_ble_eq_true rfl⟩) hP hD hS hA [] [] rfl rfl (by decide) (by decide) (fun r_21 _ H locs hp_21 hP hD hS => ?_)
      replace hP : va_P D sw_cl [] H := hP
      replace hD : va_D A [] := hD
      try dsimp only at hp_21
      subst hp_21
      refine lv_if_eq (tgt := 31) hx hb d_Mo_isInput_24 (by decide) (fun c_24 => ?_) (fun c_24 => ?_)
      · skip
        replace c_24 := sw_b0.mp c_24
        refine lv_iconst (v := 0) hx hb d_Mo_isInput_31 (by decide) ?_
        have hP9 := hP.sub (ws' := []) [] rfl
        have hD9 := hD.sub (ws' := []) [] (by decide) rfl
        exact W.zret (ty := .boolean) (v := 0) hx hb hr (rfl) (fun T9 hT9 hW9 => ⟨⟨0, (), rfl, by simp [sw_b, c_6, c_15, c_24], by rw [hT9]; exact hP9, hD9⟩, hS.F hT9⟩) hS.2.2 d_Mo_isInput_32
      · skip
        replace c_24 := sw_bn.mp c_24
        refine lv_iconst (v := 1) hx hb d_Mo_isInput_27 (by decide) ?_
        refine lv_goto (tgt := 32) hx hb d_Mo_isInput_28 (by decide) ?_
        have hP9 := hP.sub (ws' := []) [] rfl
        have hD9 := hD.sub (ws' := []) [] (by decide) rfl
        exact W.zret (ty := .boolean) (v := 1) hx hb hr (rfl) (fun T9 hT9 hW9 => ⟨⟨1, (), rfl, by simp [sw_b, c_6, c_15, c_24], by rw [hT9]; exact hP9, hD9⟩, hS.F hT9⟩) hS.2.2 d_Mo_isInput_32

abbrev rm_Mo_vertex : Room := { frames := 1, cells := 0, slots := 0, locals := 21 }
abbrev q_Mo_vertex (D : va_G) (cI cL : ClassId) (A : Nat → Prop) (m0 : Nat) (x : Int32) (y : Int32) (th : Int32) (z1 : Nat) (z2 : Nat) (nv : Int32) (z3 : Nat) (z4 : Nat) (ns : Int32) (z5 : Nat) (z6 : Nat) (z7 : Nat) (z8 : Nat) (nw : Int32) (z9 : Nat) (z10 : Nat) (z11 : Nat) (z12 : Nat) (z13 : Nat) (z14 : Nat) (z15 : Nat) (z16 : Nat) (gv : Int32) (gs : Int32) (gw : Int32) (nb : Int32) (sd : Int32) (z17 : Nat) (z18 : Nat) (z19 : Nat) (z20 : Nat) (z21 : Nat) (nt : Int32) (z22 : Nat) (z23 : Nat) (z24 : Nat) (nk : Int32) (fs : Int32) (vx : Nat → Int32) (vy : Nat → Int32) : Array Value → State → Outcome → State → Prop := va_Qi (S := Int32 × (Nat → Int32) × (Nat → Int32)) (fun (r : Int32) => fun (u : Int32 × (Nat → Int32) × (Nat → Int32)) => match u with | (nv2, vx2, vy2) => r = (if sw_vb nv vx vy x y = true then nv else -1) ∧ nv2 = (if sw_vb nv vx vy x y = true then nv + 1 else nv) ∧ vx2 = (if sw_vb nv vx vy x y = true then upd vx nv.toNatClampNeg x else vx) ∧ vy2 = (if sw_vb nv vx vy x y = true then upd vy nv.toNatClampNeg y else vy)) (sw_R D A (fun (u : Int32 × (Nat → Int32) × (Nat → Int32)) => match u with | (nv2, vx2, vy2) => [(m0, .inr (5, [.int 0, .ref z1, .ref z2, .int nv2, .ref z3, .ref z4, .int ns, .ref z5, .ref z6, .ref z7, .ref z8, .int nw, .ref z9, .ref z10, .ref z11, .ref z12, .ref z13, .ref z14, .ref z15, .ref z16, .int gv, .int gs, .int gw, .int nb, .int sd, .ref z17, .ref z18, .ref z19, .ref z20, .ref z21, .int nt, .ref z22, .ref z23, .ref z24, .int nk, .int fs])), (z1, .inl (cI, 64, .inl vx2)), (z2, .inl (cI, 64, .inl vy2))])) A
set_option maxHeartbeats 4000000 in
set_option maxRecDepth 100000 in
theorem c_Mo_vertex (l : Launch) (D : va_G) (cI cL : ClassId) (tq sz : Nat) (m0 : Nat) (x : Int32) (y : Int32) (th : Int32) (z1 : Nat) (z2 : Nat) (nv : Int32) (z3 : Nat) (z4 : Nat) (ns : Int32) (z5 : Nat) (z6 : Nat) (z7 : Nat) (z8 : Nat) (nw : Int32) (z9 : Nat) (z10 : Nat) (z11 : Nat) (z12 : Nat) (z13 : Nat) (z14 : Nat) (z15 : Nat) (z16 : Nat) (gv : Int32) (gs : Int32) (gw : Int32) (nb : Int32) (sd : Int32) (z17 : Nat) (z18 : Nat) (z19 : Nat) (z20 : Nat) (z21 : Nat) (nt : Int32) (z22 : Nat) (z23 : Nat) (z24 : Nat) (nk : Int32) (fs : Int32) (vx : Nat → Int32) (vy : Nat → Int32) (hn : sw_ok nv 64) : Met l y_Mo_vertex w_Mo_vertex rm_Mo_vertex (va_Pc [.ref m0, .int x, .int y] (sw_B D cI cL tq sz [(m0, .inr (5, [.int th, .ref z1, .ref z2, .int nv, .ref z3, .ref z4, .int ns, .ref z5, .ref z6, .ref z7, .ref z8, .int nw, .ref z9, .ref z10, .ref z11, .ref z12, .ref z13, .ref z14, .ref z15, .ref z16, .int gv, .int gs, .int gw, .int nb, .int sd, .ref z17, .ref z18, .ref z19, .ref z20, .ref z21, .int nt, .ref z22, .ref z23, .ref z24, .int nk, .int fs])), (z1, .inl (cI, 64, .inl vx)), (z2, .inl (cI, 64, .inl vy))])) (q_Mo_vertex D cI cL (va_A [(m0, .inr (5, [.int th, .ref z1, .ref z2, .int nv, .ref z3, .ref z4, .int ns, .ref z5, .ref z6, .ref z7, .ref z8, .int nw, .ref z9, .ref z10, .ref z11, .ref z12, .ref z13, .ref z14, .ref z15, .ref z16, .int gv, .int gs, .int gw, .int nb, .int sd, .ref z17, .ref z18, .ref z19, .ref z20, .ref z21, .int nt, .ref z22, .ref z23, .ref z24, .int nk, .int fs])), (z1, .inl (cI, 64, .inl vx)), (z2, .inl (cI, 64, .inl vy))] sz) m0 x y th z1 z2 nv z3 z4 ns z5 z6 z7 z8 nw z9 z10 z11 z12 z13 z14 z15 z16 gv gs gw nb sd z17 z18 z19 z20 z21 nt z22 z23 z24 nk fs vx vy) 0 0 (va_A [(m0, .inr (5, [.int th, .ref z1, .ref z2, .int nv, .ref z3, .ref z4, .int ns, .ref z5, .ref z6, .ref z7, .ref z8, .int nw, .ref z9, .ref z10, .ref z11, .ref z12, .ref z13, .ref z14, .ref z15, .ref z16, .int gv, .int gs, .int gw, .int nb, .int sd, .ref z17, .ref z18, .ref z19, .ref z20, .ref z21, .int nt, .ref z22, .ref z23, .ref z24, .int nk, .int fs])), (z1, .inl (cI, 64, .inl vx)), (z2, .inl (cI, 64, .inl vy))] sz) := by
  refine Met.ofW (cc := b_Mo_vertex) (maxL := 5) (ret := (some .int)) (by decide) rfl ?_
  intro mp me s mm args below meth mk s₁ B hml hv
  obtain ⟨rfl, hsz, hP, hK, hD0, hG⟩ := hv
  have hx := B.exec
  have hb := B.bytes
  have hr := B.returns
  have hts := atoms_spec (ws := w_Mo_vertex) B.pre
  have hw : ∀ w ∈ sw_words, w.before _ s = true := fun w h => hts w (List.mem_cons_of_mem _ h)
  have hown : s.vm.findClass R_Mo = some mm.cls := findClass_of_methodNamed B.named
  have hlocks := B.notSynchronized
  subst hsz
  have hD := hD0.self (sz := s.heap.size)
  generalize hAe : va_A [(m0, .inr (5, [.int th, .ref z1, .ref z2, .int nv, .ref z3, .ref z4, .int ns, .ref z5, .ref z6, .ref z7, .ref z8, .int nw, .ref z9, .ref z10, .ref z11, .ref z12, .ref z13, .ref z14, .ref z15, .ref z16, .int gv, .int gs, .int gw, .int nb, .int sd, .ref z17, .ref z18, .ref z19, .ref z20, .ref z21, .int nt, .ref z22, .ref z23, .ref z24, .int nk, .int fs])), (z1, .inl (cI, 64, .inl vx)), (z2, .inl (cI, 64, .inl vy))] s.heap.size = A at hD hG ⊢
  have hA : ∀ q : Nat, s.heap.size ≤ q → A q := fun q h => by rw [← hAe]; exact Or.inr h
  have hS : va_S A s.heap s.heap [] := va_S.rf
  have hl := lv_entry ([.ref m0, .int x, .int y]) (n := 5) (Nat.le_of_ble_eq_true rfl)
  rw [lg_entry_eq]
  generalize (lg_sl ([.ref m0, .int x, .int y]) ++ List.replicate (5 - (lg_sl ([.ref m0, .int x, .int y])).length) Slot.unset).toArray = ls at hl ⊢
  have hl : lv_has ls 5 [(0, .ref m0), (1, .int x), (2, .int y)] := hl
  have hn6 := hn.2
  refine lv_aload_n hx hb d_Mo_vertex_0 rfl (lv_at hl 0 rfl) ?_
  refine lv_iconst (v := 0) hx hb d_Mo_vertex_1 (by decide) ?_
  refine va_put (D := D) (ci := 5) (v := .int 0) (ty := t_Mo 0) (C := R_Mo) (T := F_Mo) (N := 36) hx hb hw ku_Mo t_Mo t_Mo_ok n_Mo hown hK hP hD hS 0 rfl rfl 0 (by decide) (hw _ kw_38168dc1) (fun _ h9 => h9) rfl (t_Mo_ok 0 (by decide)) rfl rfl (Nat.le_of_ble_eq_true rfl) d_Mo_vertex_2 (fun H locs hP hD hS => ?_)
  replace hP : va_P D sw_cl [(m0, .inr (5, [.int 0, .ref z1, .ref z2, .int nv, .ref z3, .ref z4, .int ns, .ref z5, .ref z6, .ref z7, .ref z8, .int nw, .ref z9, .ref z10, .ref z11, .ref z12, .ref z13, .ref z14, .ref z15, .ref z16, .int gv, .int gs, .int gw, .int nb, .int sd, .ref z17, .ref z18, .ref z19, .ref z20, .ref z21, .int nt, .ref z22, .ref z23, .ref z24, .int nk, .int fs])), (z1, .inl (cI, 64, .inl vx)), (z2, .inl (cI, 64, .inl vy))] H := hP
  replace hD : va_D A [(m0, .inr (5, [.int 0, .ref z1, .ref z2, .int nv, .ref z3, .ref z4, .int ns, .ref z5, .ref z6, .ref z7, .ref z8, .int nw, .ref z9, .ref z10, .ref z11, .ref z12, .ref z13, .ref z14, .ref z15, .ref z16, .int gv, .int gs, .int gw, .int nb, .int sd, .ref z17, .ref z18, .ref z19, .ref z20, .ref z21, .int nt, .ref z22, .ref z23, .ref z24, .int nk, .int fs])), (z1, .inl (cI, 64, .inl vx)), (z2, .inl (cI, 64, .inl vy))] := hD
  have jn_39 : ∀ (g0 : Int32) (H : Heap) (locs : List Loc) (ls : Array Slot), (g0 = sw_b (sw_wi x 2000 && sw_wi y 2000 && !(decide (64 ≤ nv)))) → va_P D sw_cl [(m0, .inr (5, [.int 0, .ref z1, .ref z2, .int nv, .ref z3, .ref z4, .int ns, .ref z5, .ref z6, .ref z7, .ref z8, .int nw, .ref z9, .ref z10, .ref z11, .ref z12, .ref z13, .ref z14, .ref z15, .ref z16, .int gv, .int gs, .int gw, .int nb, .int sd, .ref z17, .ref z18, .ref z19, .ref z20, .ref z21, .int nt, .ref z22, .ref z23, .ref z24, .int nk, .int fs])), (z1, .inl (cI, 64, .inl vx)), (z2, .inl (cI, 64, .inl vy))] H → va_D A [(m0, .inr (5, [.int 0, .ref z1, .ref z2, .int nv, .ref z3, .ref z4, .int ns, .ref z5, .ref z6, .ref z7, .ref z8, .int nw, .ref z9, .ref z10, .ref z11, .ref z12, .ref z13, .ref z14, .ref z15, .ref z16, .int gv, .int gs, .int gw, .int nb, .int sd, .ref z17, .ref z18, .ref z19, .ref z20, .ref z21, .int nt, .ref z22, .ref z23, .ref z24, .int nk, .int fs])), (z1, .inl (cI, 64, .inl vx)), (z2, .inl (cI, 64, .inl vy))] → va_S A s.heap H locs → lv_has ls 5 [(0, .ref m0), (1, .int x), (2, .int y)] → W mp l me (headSpec w_Mo_vertex rm_Mo_vertex).room s mm ([.ref m0, .int x, .int y]).toArray below meth mk H locs 0 0 (MQ below (q_Mo_vertex D cI cL A m0 x y th z1 z2 nv z3 z4 ns z5 z6 z7 z8 nw z9 z10 z11 z12 z13 z14 z15 z16 gv gs gw nb sd z17 z18 z19 z20 z21 nt z22 z23 z24 nk fs vx vy) ([.ref m0, .int x, .int y]).toArray s 0 0 A) (F0 mm 39 ls [.int g0]) := by
    intro g0 H locs ls hg hP hD hS hl
    refine lv_istore_n (lv' := [(3, .int g0), (0, .ref m0), (1, .int x), (2, .int y)]) hx hb d_Mo_vertex_39 rfl hl (by decide) rfl (fun ls hl => ?_)
    refine lv_iconst (v := 0) hx hb d_Mo_vertex_40 (by decide) ?_
    refine lv_istore (lv' := [(4, .int 0), (3, .int g0), (0, .ref m0), (1, .int x), (2, .int y)]) hx hb d_Mo_vertex_41 hl (by decide) rfl (fun ls hl => ?_)
    have lp_43 : ∀ (n : Nat) (k : Nat) (i : Int32) (gd : Int32) (H : Heap) (locs : List Loc) (ls : Array Slot), (i = nI k) → (k ≤ nv.toNatClampNeg) → (gd = sw_b ((sw_wi x 2000 && sw_wi y 2000 && !(decide (64 ≤ nv))) && !(sw_tk vx vy x y k))) → (nv.toNatClampNeg - k) < n → va_P D sw_cl [(m0, .inr (5, [.int 0, .ref z1, .ref z2, .int nv, .ref z3, .ref z4, .int ns, .ref z5, .ref z6, .ref z7, .ref z8, .int nw, .ref z9, .ref z10, .ref z11, .ref z12, .ref z13, .ref z14, .ref z15, .ref z16, .int gv, .int gs, .int gw, .int nb, .int sd, .ref z17, .ref z18, .ref z19, .ref z20, .ref z21, .int nt, .ref z22, .ref z23, .ref z24, .int nk, .int fs])), (z1, .inl (cI, 64, .inl vx)), (z2, .inl (cI, 64, .inl vy))] H → va_D A [(m0, .inr (5, [.int 0, .ref z1, .ref z2, .int nv, .ref z3, .ref z4, .int ns, .ref z5, .ref z6, .ref z7, .ref z8, .int nw, .ref z9, .ref z10, .ref z11, .ref z12, .ref z13, .ref z14, .ref z15, .ref z16, .int gv, .int gs, .int gw, .int nb, .int sd, .ref z17, .ref z18, .ref z19, .ref z20, .ref z21, .int nt, .ref z22, .ref z23, .ref z24, .int nk, .int fs])), (z1, .inl (cI, 64, .inl vx)), (z2, .inl (cI, 64, .inl vy))] → va_S A s.heap H locs → lv_has ls 5 [(0, .ref m0), (1, .int x), (2, .int y), (3, .int gd), (4, .int i)] → W mp l me (headSpec w_Mo_vertex rm_Mo_vertex).room s mm ([.ref m0, .int x, .int y]).toArray below meth mk H locs 0 0 (MQ below (q_Mo_vertex D cI cL A m0 x y th z1 z2 nv z3 z4 ns z5 z6 z7 z8 nw z9 z10 z11 z12 z13 z14 z15 z16 gv gs gw nb sd z17 z18 z19 z20 z21 nt z22 z23 z24 nk fs vx vy) ([.ref m0, .int x, .int y]).toArray s 0 0 A) (F0 mm 43 ls []) := by
      intro n
      induction n with
      | zero => intro k i gd H locs ls hi hk ht hm; exact absurd hm (Nat.not_lt_zero _)
      | succ n ih_43 =>
        intro k i gd H locs ls hi hk ht hm hP hD hS hl
        refine lv_iload hx hb d_Mo_vertex_43 (lv_at hl 4 rfl) ?_
        refine lv_aload_n hx hb d_Mo_vertex_45 rfl (lv_at hl 0 rfl) ?_
        refine va_get (D := D) (ci := 5) (v := .int nv) (C := R_Mo) (T := F_Mo) (N := 36) hx hb hw ku_Mo hown hK hP 0 rfl rfl 3 (by decide) (hw _ kw_c5d0a9ee) (fun _ h9 => h9) rfl d_Mo_vertex_46 ?_
        refine lv_icmp_ge (tgt := 90) hx hb d_Mo_vertex_49 (by decide) (fun c_49 => ?_) (fun c_49 => ?_)
        · skip
          have hVB : gd = sw_b (sw_vb nv vx vy x y) := by rw [ht, sw_vb_g, sw_end hn (by decide) hi hk c_49]
          refine lv_iload_n hx hb d_Mo_vertex_90 rfl (lv_at hl 3 rfl) ?_
          refine lv_if_ne (tgt := 96) hx hb d_Mo_vertex_91 (by decide) (fun c_91 => ?_) (fun c_91 => ?_)
          · skip
            have hV1 := sw_bn.mp (by rw [← hVB]; exact c_91)
            have hin1 : vp_in nv 64 := sw_okin hn (sw_vb_64 hV1)
            refine lv_aload_n hx hb d_Mo_vertex_96 rfl (lv_at hl 0 rfl) ?_
            refine va_get (D := D) (ci := 5) (v := .ref z1) (C := R_Mo) (T := F_Mo) (N := 36) hx hb hw ku_Mo hown hK hP 0 rfl rfl 1 (by decide) (hw _ kw_8c268fd5) (fun _ h9 => h9) rfl d_Mo_vertex_97 ?_
            refine lv_aload_n hx hb d_Mo_vertex_100 rfl (lv_at hl 0 rfl) ?_
            refine va_get (D := D) (ci := 5) (v := .int nv) (C := R_Mo) (T := F_Mo) (N := 36) hx hb hw ku_Mo hown hK hP 0 rfl rfl 3 (by decide) (hw _ kw_c5d0a9ee) (fun _ h9 => h9) rfl d_Mo_vertex_101 ?_
            refine lv_iload_n hx hb d_Mo_vertex_104 rfl (lv_at hl 1 rfl) ?_
            refine va_iast hx hb hK hP hD hS 1 0 rfl rfl (by assumption) d_Mo_vertex_105 (fun H locs hP hD hS => ?_)
            replace hP : va_P D sw_cl [(m0, .inr (5, [.int 0, .ref z1, .ref z2, .int nv, .ref z3, .ref z4, .int ns, .ref z5, .ref z6, .ref z7, .ref z8, .int nw, .ref z9, .ref z10, .ref z11, .ref z12, .ref z13, .ref z14, .ref z15, .ref z16, .int gv, .int gs, .int gw, .int nb, .int sd, .ref z17, .ref z18, .ref z19, .ref z20, .ref z21, .int nt, .ref z22, .ref z23, .ref z24, .int nk, .int fs])), (z1, .inl (cI, 64, .inl (upd vx nv.toNatClampNeg x))), (z2, .inl (cI, 64, .inl vy))] H := hP
            replace hD : va_D A [(m0, .inr (5, [.int 0, .ref z1, .ref z2, .int nv, .ref z3, .ref z4, .int ns, .ref z5, .ref z6, .ref z7, .ref z8, .int nw, .ref z9, .ref z10, .ref z11, .ref z12, .ref z13, .ref z14, .ref z15, .ref z16, .int gv, .int gs, .int gw, .int nb, .int sd, .ref z17, .ref z18, .ref z19, .ref z20, .ref z21, .int nt, .ref z22, .ref z23, .ref z24, .int nk, .int fs])), (z1, .inl (cI, 64, .inl (upd vx nv.toNatClampNeg x))), (z2, .inl (cI, 64, .inl vy))] := hD
            refine lv_aload_n hx hb d_Mo_vertex_106 rfl (lv_at hl 0 rfl) ?_
            refine va_get (D := D) (ci := 5) (v := .ref z2) (C := R_Mo) (T := F_Mo) (N := 36) hx hb hw ku_Mo hown hK hP 0 rfl rfl 2 (by decide) (hw _ kw_c43ee8d8) (fun _ h9 => h9) rfl d_Mo_vertex_107 ?_
            refine lv_aload_n hx hb d_Mo_vertex_110 rfl (lv_at hl 0 rfl) ?_
            refine va_get (D := D) (ci := 5) (v := .int nv) (C := R_Mo) (T := F_Mo) (N := 36) hx hb hw ku_Mo hown hK hP 0 rfl rfl 3 (by decide) (hw _ kw_c5d0a9ee) (fun _ h9 => h9) rfl d_Mo_vertex_111 ?_
            refine lv_iload_n hx hb d_Mo_vertex_114 rfl (lv_at hl 2 rfl) ?_
            refine va_iast hx hb hK hP hD hS 2 0 rfl rfl (by assumption) d_Mo_vertex_115 (fun H locs hP hD hS => ?_)
            replace hP : va_P D sw_cl [(m0, .inr (5, [.int 0, .ref z1, .ref z2, .int nv, .ref z3, .ref z4, .int ns, .ref z5, .ref z6, .ref z7, .ref z8, .int nw, .ref z9, .ref z10, .ref z11, .ref z12, .ref z13, .ref z14, .ref z15, .ref z16, .int gv, .int gs, .int gw, .int nb, .int sd, .ref z17, .ref z18, .ref z19, .ref z20, .ref z21, .int nt, .ref z22, .ref z23, .ref z24, .int nk, .int fs])), (z1, .inl (cI, 64, .inl (upd vx nv.toNatClampNeg x))), (z2, .inl (cI, 64, .inl (upd vy nv.toNatClampNeg y)))] H := hP
            replace hD : va_D A [(m0, .inr (5, [.int 0, .ref z1, .ref z2, .int nv, .ref z3, .ref z4, .int ns, .ref z5, .ref z6, .ref z7, .ref z8, .int nw, .ref z9, .ref z10, .ref z11, .ref z12, .ref z13, .ref z14, .ref z15, .ref z16, .int gv, .int gs, .int gw, .int nb, .int sd, .ref z17, .ref z18, .ref z19, .ref z20, .ref z21, .int nt, .ref z22, .ref z23, .ref z24, .int nk, .int fs])), (z1, .inl (cI, 64, .inl (upd vx nv.toNatClampNeg x))), (z2, .inl (cI, 64, .inl (upd vy nv.toNatClampNeg y)))] := hD
            refine lv_aload_n hx hb d_Mo_vertex_116 rfl (lv_at hl 0 rfl) ?_
            refine lv_dup hx hb d_Mo_vertex_117 rfl ?_
            refine va_get (D := D) (ci := 5) (v := .int nv) (C := R_Mo) (T := F_Mo) (N := 36) hx hb hw ku_Mo hown hK hP 0 rfl rfl 3 (by decide) (hw _ kw_c5d0a9ee) (fun _ h9 => h9) rfl d_Mo_vertex_118 ?_
            refine lv_iconst (v := 1) hx hb d_Mo_vertex_121 (by decide) ?_
            refine lv_iadd hx hb d_Mo_vertex_122 ?_
            refine va_put (D := D) (ci := 5) (v := .int (nv + 1)) (ty := t_Mo 3) (C := R_Mo) (T := F_Mo) (N := 36) hx hb hw ku_Mo t_Mo t_Mo_ok n_Mo hown hK hP hD hS 0 rfl rfl 3 (by decide) (hw _ kw_c5d0a9ee) (fun _ h9 => h9) rfl (t_Mo_ok 3 (by decide)) rfl rfl (Nat.le_of_ble_eq_true rfl) d_Mo_vertex_123 (fun H locs hP hD hS => ?_)
            replace hP : va_P D sw_cl [(m0, .inr (5, [.int 0, .ref z1, .ref z2, .int (nv + 1), .ref z3, .ref z4, .int ns, .ref z5, .ref z6, .ref z7, .ref z8, .int nw, .ref z9, .ref z10, .ref z11, .ref z12, .ref z13, .ref z14, .ref z15, .ref z16, .int gv, .int gs, .int gw, .int nb, .int sd, .ref z17, .ref z18, .ref z19, .ref z20, .ref z21, .int nt, .ref z22, .ref z23, .ref z24, .int nk, .int fs])), (z1, .inl (cI, 64, .inl (upd vx nv.toNatClampNeg x))), (z2, .inl (cI, 64, .inl (upd vy nv.toNatClampNeg y)))] H := hP
            replace hD : va_D A [(m0, .inr (5, [.int 0, .ref z1, .ref z2, .int (nv + 1), .ref z3, .ref z4, .int ns, .ref z5, .ref z6, .ref z7, .ref z8, .int nw, .ref z9, .ref z10, .ref z11, .ref z12, .ref z13, .ref z14, .ref z15, .ref z16, .int gv, .int gs, .int gw, .int nb, .int sd, .ref z17, .ref z18, .ref z19, .ref z20, .ref z21, .int nt, .ref z22, .ref z23, .ref z24, .int nk, .int fs])), (z1, .inl (cI, 64, .inl (upd vx nv.toNatClampNeg x))), (z2, .inl (cI, 64, .inl (upd vy nv.toNatClampNeg y)))] := hD
            refine lv_aload_n hx hb d_Mo_vertex_126 rfl (lv_at hl 0 rfl) ?_
            refine va_get (D := D) (ci := 5) (v := .int (nv + 1)) (C := R_Mo) (T := F_Mo) (N := 36) hx hb hw ku_Mo hown hK hP 0 rfl rfl 3 (by decide) (hw _ kw_c5d0a9ee) (fun _ h9 => h9) rfl d_Mo_vertex_127 ?_
            refine lv_iconst (v := 1) hx hb d_Mo_vertex_130 (by decide) ?_
            refine lv_isub hx hb d_Mo_vertex_131 ?_
            have hP9 := hP.sub (ws' := [(m0, .inr (5, [.int 0, .ref z1, .ref z2, .int (nv + 1), .ref z3, .ref z4, .int ns, .ref z5, .ref z6, .ref z7, .ref z8, .int nw, .ref z9, .ref z10, .ref z11, .ref z12, .ref z13, .ref z14, .ref z15, .ref z16, .int gv, .int gs, .int gw, .int nb, .int sd, .ref z17, .ref z18, .ref z19, .ref z20, .ref z21, .int nt, .ref z22, .ref z23, .ref z24, .int nk, .int fs])), (z1, .inl (cI, 64, .inl (upd vx nv.toNatClampNeg x))), (z2, .inl (cI, 64, .inl (upd vy nv.toNatClampNeg y)))]) [0, 1, 2] rfl
            have hD9 := hD.sub (ws' := [(m0, .inr (5, [.int 0, .ref z1, .ref z2, .int (nv + 1), .ref z3, .ref z4, .int ns, .ref z5, .ref z6, .ref z7, .ref z8, .int nw, .ref z9, .ref z10, .ref z11, .ref z12, .ref z13, .ref z14, .ref z15, .ref z16, .int gv, .int gs, .int gw, .int nb, .int sd, .ref z17, .ref z18, .ref z19, .ref z20, .ref z21, .int nt, .ref z22, .ref z23, .ref z24, .int nk, .int fs])), (z1, .inl (cI, 64, .inl (upd vx nv.toNatClampNeg x))), (z2, .inl (cI, 64, .inl (upd vy nv.toNatClampNeg y)))]) [0, 1, 2] (by decide) rfl
            exact W.iret (v := (nv + 1) - 1) hx hb hr (fun T9 hT9 hW9 => ⟨⟨(nv + 1) - 1, (nv + 1, upd vx nv.toNatClampNeg x, upd vy nv.toNatClampNeg y), rfl, by simp [hV1, Int32.add_sub_cancel], by rw [hT9]; exact hP9, hD9⟩, hS.F hT9⟩) hS.2.2 d_Mo_vertex_132
          · skip
            refine lv_iconst (v := (-1)) hx hb d_Mo_vertex_94 (by decide) ?_
            have hP9 := hP.sub (ws' := [(m0, .inr (5, [.int 0, .ref z1, .ref z2, .int nv, .ref z3, .ref z4, .int ns, .ref z5, .ref z6, .ref z7, .ref z8, .int nw, .ref z9, .ref z10, .ref z11, .ref z12, .ref z13, .ref z14, .ref z15, .ref z16, .int gv, .int gs, .int gw, .int nb, .int sd, .ref z17, .ref z18, .ref z19, .ref z20, .ref z21, .int nt, .ref z22, .ref z23, .ref z24, .int nk, .int fs])), (z1, .inl (cI, 64, .inl vx)), (z2, .inl (cI, 64, .inl vy))]) [0, 1, 2] rfl
            have hD9 := hD.sub (ws' := [(m0, .inr (5, [.int 0, .ref z1, .ref z2, .int nv, .ref z3, .ref z4, .int ns, .ref z5, .ref z6, .ref z7, .ref z8, .int nw, .ref z9, .ref z10, .ref z11, .ref z12, .ref z13, .ref z14, .ref z15, .ref z16, .int gv, .int gs, .int gw, .int nb, .int sd, .ref z17, .ref z18, .ref z19, .ref z20, .ref z21, .int nt, .ref z22, .ref z23, .ref z24, .int nk, .int fs])), (z1, .inl (cI, 64, .inl vx)), (z2, .inl (cI, 64, .inl vy))]) [0, 1, 2] (by decide) rfl
            exact W.iret (v := (-1)) hx hb hr (fun T9 hT9 hW9 => ⟨⟨(-1), (nv, vx, vy), rfl, by have hV0 := sw_b0.mp (by rw [← hVB]; exact c_91); simp [hV0], by rw [hT9]; exact hP9, hD9⟩, hS.F hT9⟩) hS.2.2 d_Mo_vertex_95
        · skip
          have hkn : k < nv.toNatClampNeg := sw_nle hn (by decide) hi hk c_49
          have hki : i.toNatClampNeg = k := by rw [hi]; exact nI_clamp (by omega)
          have hin1 : vp_in i 64 := by rw [hi]; exact vp_in_nI (by omega) (by omega)
          refine lv_iload_n hx hb d_Mo_vertex_52 rfl (lv_at hl 3 rfl) ?_
          refine lv_if_eq (tgt := 82) hx hb d_Mo_vertex_53 (by decide) (fun c_53 => ?_) (fun c_53 => ?_)
          · skip
            refine lv_iconst (v := 0) hx hb d_Mo_vertex_82 (by decide) ?_
            refine lv_istore_n (lv' := [(3, .int 0), (0, .ref m0), (1, .int x), (2, .int y), (4, .int i)]) hx hb d_Mo_vertex_83 rfl hl (by decide) rfl (fun ls hl => ?_)
            try rw [hki] at c_64
            try rw [hki] at c_75
            refine lv_iinc (v := i + 1) (lv' := [(4, .int (i + 1)), (3, .int 0), (0, .ref m0), (1, .int x), (2, .int y)]) hx hb d_Mo_vertex_84 hl (k := 4) rfl rfl (by decide) rfl (fun ls hl => ?_)
            refine lv_goto (tgt := 43) hx hb d_Mo_vertex_87 (by decide) ?_
            exact ih_43 (k + 1) (i + 1) 0 _ _ _ (by rw [hi]; exact nI_1 k) (hkn) (by first | exact sw_gd0 ht c_53 | (refine sw_gd1 ht c_53 ?_; simp [c_64]; done) | (refine sw_gd1 ht c_53 ?_; simp [c_64, c_75]; done) | (refine sw_gd2 ?_; simp [c_64, c_75]; done)) (by omega) (hP.sub [0, 1, 2] rfl) (hD.sub [0, 1, 2] (by decide) rfl) hS (lv_sub hl [2, 3, 4, 1, 0] rfl)
          · skip
            refine lv_aload_n hx hb d_Mo_vertex_56 rfl (lv_at hl 0 rfl) ?_
            refine va_get (D := D) (ci := 5) (v := .ref z1) (C := R_Mo) (T := F_Mo) (N := 36) hx hb hw ku_Mo hown hK hP 0 rfl rfl 1 (by decide) (hw _ kw_8c268fd5) (fun _ h9 => h9) rfl d_Mo_vertex_57 ?_
            refine lv_iload hx hb d_Mo_vertex_60 (lv_at hl 4 rfl) ?_
            refine va_iald hx hb hK hP 1 0 rfl rfl (by assumption) d_Mo_vertex_62 ?_
            refine lv_iload_n hx hb d_Mo_vertex_63 rfl (lv_at hl 1 rfl) ?_
            refine lv_icmp_ne (tgt := 78) hx hb d_Mo_vertex_64 (by decide) (fun c_64 => ?_) (fun c_64 => ?_)
            · skip
              refine lv_iconst (v := 1) hx hb d_Mo_vertex_78 (by decide) ?_
              refine lv_goto (tgt := 83) hx hb d_Mo_vertex_79 (by decide) ?_
              refine lv_istore_n (lv' := [(3, .int 1), (0, .ref m0), (1, .int x), (2, .int y), (4, .int i)]) hx hb d_Mo_vertex_83 rfl hl (by decide) rfl (fun ls hl => ?_)
              try rw [hki] at c_64
              try rw [hki] at c_75
              refine lv_iinc (v := i + 1) (lv' := [(4, .int (i + 1)), (3, .int 1), (0, .ref m0), (1, .int x), (2, .int y)]) hx hb d_Mo_vertex_84 hl (k := 4) rfl rfl (by decide) rfl (fun ls hl => ?_)
              refine lv_goto (tgt := 43) hx hb d_Mo_vertex_87 (by decide) ?_
              exact ih_43 (k + 1) (i + 1) 1 _ _ _ (by rw [hi]; exact nI_1 k) (hkn) (by first | exact sw_gd0 ht c_53 | (refine sw_gd1 ht c_53 ?_; simp [c_64]; done) | (refine sw_gd1 ht c_53 ?_; simp [c_64, c_75]; done) | (refine sw_gd2 ?_; simp [c_64, c_75]; done)) (by omega) (hP.sub [0, 1, 2] rfl) (hD.sub [0, 1, 2] (by decide) rfl) hS (lv_sub hl [2, 3, 4, 1, 0] rfl)
            · skip
              refine lv_aload_n hx hb d_Mo_vertex_67 rfl (lv_at hl 0 rfl) ?_
              refine va_get (D := D) (ci := 5) (v := .ref z2) (C := R_Mo) (T := F_Mo) (N := 36) hx hb hw ku_Mo hown hK hP 0 rfl rfl 2 (by decide) (hw _ kw_c43ee8d8) (fun _ h9 => h9) rfl d_Mo_vertex_68 ?_
              refine lv_iload hx hb d_Mo_vertex_71 (lv_at hl 4 rfl) ?_
              refine va_iald hx hb hK hP 2 0 rfl rfl (by assumption) d_Mo_vertex_73 ?_
              refine lv_iload_n hx hb d_Mo_vertex_74 rfl (lv_at hl 2 rfl) ?_
              refine lv_icmp_eq (tgt := 82) hx hb d_Mo_vertex_75 (by decide) (fun c_75 => ?_) (fun c_75 => ?_)
              · skip
                refine lv_iconst (v := 0) hx hb d_Mo_vertex_82 (by decide) ?_
                refine lv_istore_n (lv' := [(3, .int 0), (0, .ref m0), (1, .int x), (2, .int y), (4, .int i)]) hx hb d_Mo_vertex_83 rfl hl (by decide) rfl (fun ls hl => ?_)
                try rw [hki] at c_64
                try rw [hki] at c_75
                refine lv_iinc (v := i + 1) (lv' := [(4, .int (i + 1)), (3, .int 0), (0, .ref m0), (1, .int x), (2, .int y)]) hx hb d_Mo_vertex_84 hl (k := 4) rfl rfl (by decide) rfl (fun ls hl => ?_)
                refine lv_goto (tgt := 43) hx hb d_Mo_vertex_87 (by decide) ?_
                exact ih_43 (k + 1) (i + 1) 0 _ _ _ (by rw [hi]; exact nI_1 k) (hkn) (by first | exact sw_gd0 ht c_53 | (refine sw_gd1 ht c_53 ?_; simp [c_64]; done) | (refine sw_gd1 ht c_53 ?_; simp [c_64, c_75]; done) | (refine sw_gd2 ?_; simp [c_64, c_75]; done)) (by omega) (hP.sub [0, 1, 2] rfl) (hD.sub [0, 1, 2] (by decide) rfl) hS (lv_sub hl [2, 3, 4, 1, 0] rfl)
              · skip
                refine lv_iconst (v := 1) hx hb d_Mo_vertex_78 (by decide) ?_
                refine lv_goto (tgt := 83) hx hb d_Mo_vertex_79 (by decide) ?_
                refine lv_istore_n (lv' := [(3, .int 1), (0, .ref m0), (1, .int x), (2, .int y), (4, .int i)]) hx hb d_Mo_vertex_83 rfl hl (by decide) rfl (fun ls hl => ?_)
                try rw [hki] at c_64
                try rw [hki] at c_75
                refine lv_iinc (v := i + 1) (lv' := [(4, .int (i + 1)), (3, .int 1), (0, .ref m0), (1, .int x), (2, .int y)]) hx hb d_Mo_vertex_84 hl (k := 4) rfl rfl (by decide) rfl (fun ls hl => ?_)
                refine lv_goto (tgt := 43) hx hb d_Mo_vertex_87 (by decide) ?_
                exact ih_43 (k + 1) (i + 1) 1 _ _ _ (by rw [hi]; exact nI_1 k) (hkn) (by first | exact sw_gd0 ht c_53 | (refine sw_gd1 ht c_53 ?_; simp [c_64]; done) | (refine sw_gd1 ht c_53 ?_; simp [c_64, c_75]; done) | (refine sw_gd2 ?_; simp [c_64, c_75]; done)) (by omega) (hP.sub [0, 1, 2] rfl) (hD.sub [0, 1, 2] (by decide) rfl) hS (lv_sub hl [2, 3, 4, 1, 0] rfl)
    exact lp_43 _ 0 0 g0 _ _ _ (nI_0.symm) (Nat.zero_le _) (by rw [hg]; simp [sw_tk]) (Nat.lt_succ_self _) (hP.sub [0, 1, 2] rfl) (hD.sub [0, 1, 2] (by decide) rfl) hS (lv_sub hl [2, 3, 4, 1, 0] rfl)
  refine lv_iload_n hx hb d_Mo_vertex_5 rfl (lv_at hl 1 rfl) ?_
  refine lv_sipush (v := 2000) hx hb d_Mo_vertex_6 (by decide) ?_
  refine sw_ki0 (wr := [(m0, .inr (5, [.int 0, .ref z1, .ref z2, .int nv, .ref z3, .ref z4, .int ns, .ref z5, .ref z6, .ref z7, .ref z8, .int nw, .ref z9, .ref z10, .ref z11, .ref z12, .ref z13, .ref z14, .ref z15, .ref z16, .int gv, .int gs, .int gw, .int nb, .int sd, .ref z17, .ref z18, .ref z19, .ref z20, .ref z21, .int nt, .ref z22, .ref z23, .ref z24, .int nk, .int fs])), (z1, .inl (cI, 64, .inl vx)), (z2, .inl (cI, 64, .inl vy))]) (va_runS (As := [.int x, .int 2000]) (rest := []) ⟨hx, hb, hml, hown, hw⟩ (c_Mo_isWithin l D cI cL tq _ x 2000) (cwS 2 hw (sw_gS kw_aa0a1934 kw_59824ec7 kw_82e72072 kc_Mo_isWithin) rfl rfl rfl ⟨rfl, yd_Mo_isWithin⟩ ⟨Nat.le_of_ble_eq_true rfl, Nat.le_of_ble_eq_true rfl⟩) (sw_preS hK hP hD hS hA hG [] rfl (by decide)) rfl rfl hl.1 rfl (lv_room (Nat.le_of_ble_eq_true rfl)) d_Mo_vertex_9 ⟨Nat.le_of_ble_eq_true rfl, Nat.le_of_ble_eq_true rfl⟩) hP hD hS hA [] [0, 1, 2] rfl rfl (by decide) (by decide) (fun r_9 _ H locs hp_9 hP hD hS => ?_)
  replace hP : va_P D sw_cl [(m0, .inr (5, [.int 0, .ref z1, .ref z2, .int nv, .ref z3, .ref z4, .int ns, .ref z5, .ref z6, .ref z7, .ref z8, .int nw, .ref z9, .ref z10, .ref z11, .ref z12, .ref z13, .ref z14, .ref z15, .ref z16, .int gv, .int gs, .int gw, .int nb, .int sd, .ref z17, .ref z18, .ref z19, .ref z20, .ref z21, .int nt, .ref z22, .ref z23, .ref z24, .int nk, .int fs])), (z1, .inl (cI, 64, .inl vx)), (z2, .inl (cI, 64, .inl vy))] H := hP
  replace hD : va_D A [(m0, .inr (5, [.int 0, .ref z1, .ref z2, .int nv, .ref z3, .ref z4, .int ns, .ref z5, .ref z6, .ref z7, .ref z8, .int nw, .ref z9, .ref z10, .ref z11, .ref z12, .ref z13, .ref z14, .ref z15, .ref z16, .int gv, .int gs, .int gw, .int nb, .int sd, .ref z17, .ref z18, .ref z19, .ref z20, .ref z21, .int nt, .ref z22, .ref z23, .ref z24, .int nk, .int fs])), (z1, .inl (cI, 64, .inl vx)), (z2, .inl (cI, 64, .inl vy))] := hD
  try dsimp only at hp_9
  subst hp_9
  refine lv_if_eq (tgt := 38) hx hb d_Mo_vertex_12 (by decide) (fun c_12 => ?_) (fun c_12 => ?_)
  · skip
    replace c_12 := sw_b0.mp c_12
    refine lv_iconst (v := 0) hx hb d_Mo_vertex_38 (by decide) ?_
    exact jn_39 0 _ _ _ (by simp [sw_b, c_12]) (hP.sub [0, 1, 2] rfl) (hD.sub [0, 1, 2] (by decide) rfl) hS (lv_sub hl [0, 1, 2] rfl)
  · skip
    replace c_12 := sw_bn.mp c_12
    refine lv_iload_n hx hb d_Mo_vertex_15 rfl (lv_at hl 2 rfl) ?_
    refine lv_sipush (v := 2000) hx hb d_Mo_vertex_16 (by decide) ?_
    refine sw_ki0 (wr := [(m0, .inr (5, [.int 0, .ref z1, .ref z2, .int nv, .ref z3, .ref z4, .int ns, .ref z5, .ref z6, .ref z7, .ref z8, .int nw, .ref z9, .ref z10, .ref z11, .ref z12, .ref z13, .ref z14, .ref z15, .ref z16, .int gv, .int gs, .int gw, .int nb, .int sd, .ref z17, .ref z18, .ref z19, .ref z20, .ref z21, .int nt, .ref z22, .ref z23, .ref z24, .int nk, .int fs])), (z1, .inl (cI, 64, .inl vx)), (z2, .inl (cI, 64, .inl vy))]) (va_runS (As := [.int y, .int 2000]) (rest := []) ⟨hx, hb, hml, hown, hw⟩ (c_Mo_isWithin l D cI cL tq _ y 2000) (cwS 2 hw (sw_gS kw_aa0a1934 kw_59824ec7 kw_82e72072 kc_Mo_isWithin) rfl rfl rfl ⟨rfl, yd_Mo_isWithin⟩ ⟨Nat.le_of_ble_eq_true rfl, Nat.le_of_ble_eq_true rfl⟩) (sw_preS hK hP hD hS hA hG [] rfl (by decide)) rfl rfl hl.1 rfl (lv_room (Nat.le_of_ble_eq_true rfl)) d_Mo_vertex_19 ⟨Nat.le_of_ble_eq_true rfl, Nat.le_of_ble_eq_true rfl⟩) hP hD hS hA [] [0, 1, 2] rfl rfl (by decide) (by decide) (fun r_19 _ H locs hp_19 hP hD hS => ?_)
    replace hP : va_P D sw_cl [(m0, .inr (5, [.int 0, .ref z1, .ref z2, .int nv, .ref z3, .ref z4, .int ns, .ref z5, .ref z6, .ref z7, .ref z8, .int nw, .ref z9, .ref z10, .ref z11, .ref z12, .ref z13, .ref z14, .ref z15, .ref z16, .int gv, .int gs, .int gw, .int nb, .int sd, .ref z17, .ref z18, .ref z19, .ref z20, .ref z21, .int nt, .ref z22, .ref z23, .ref z24, .int nk, .int fs])), (z1, .inl (cI, 64, .inl vx)), (z2, .inl (cI, 64, .inl vy))] H := hP
    replace hD : va_D A [(m0, .inr (5, [.int 0, .ref z1, .ref z2, .int nv, .ref z3, .ref z4, .int ns, .ref z5, .ref z6, .ref z7, .ref z8, .int nw, .ref z9, .ref z10, .ref z11, .ref z12, .ref z13, .ref z14, .ref z15, .ref z16, .int gv, .int gs, .int gw, .int nb, .int sd, .ref z17, .ref z18, .ref z19, .ref z20, .ref z21, .int nt, .ref z22, .ref z23, .ref z24, .int nk, .int fs])), (z1, .inl (cI, 64, .inl vx)), (z2, .inl (cI, 64, .inl vy))] := hD
    try dsimp only at hp_19
    subst hp_19
    refine lv_if_eq (tgt := 38) hx hb d_Mo_vertex_22 (by decide) (fun c_22 => ?_) (fun c_22 => ?_)
    · skip
      replace c_22 := sw_b0.mp c_22
      refine lv_iconst (v := 0) hx hb d_Mo_vertex_38 (by decide) ?_
      exact jn_39 0 _ _ _ (by simp [sw_b, c_12, c_22]) (hP.sub [0, 1, 2] rfl) (hD.sub [0, 1, 2] (by decide) rfl) hS (lv_sub hl [0, 1, 2] rfl)
    · skip
      replace c_22 := sw_bn.mp c_22
      refine lv_aload_n hx hb d_Mo_vertex_25 rfl (lv_at hl 0 rfl) ?_
      refine va_get (D := D) (ci := 5) (v := .int nv) (C := R_Mo) (T := F_Mo) (N := 36) hx hb hw ku_Mo hown hK hP 0 rfl rfl 3 (by decide) (hw _ kw_c5d0a9ee) (fun _ h9 => h9) rfl d_Mo_vertex_26 ?_
      refine lv_bipush (v := 64) hx hb d_Mo_vertex_29 (by decide) ?_
      refine lv_icmp_ge (tgt := 38) hx hb d_Mo_vertex_31 (by decide) (fun c_31 => ?_) (fun c_31 => ?_)
      · skip
        refine lv_iconst (v := 0) hx hb d_Mo_vertex_38 (by decide) ?_
        exact jn_39 0 _ _ _ (by simp [sw_b, c_12, c_22, c_31]) (hP.sub [0, 1, 2] rfl) (hD.sub [0, 1, 2] (by decide) rfl) hS (lv_sub hl [0, 1, 2] rfl)
      · skip
        refine lv_iconst (v := 1) hx hb d_Mo_vertex_34 (by decide) ?_
        refine lv_goto (tgt := 39) hx hb d_Mo_vertex_35 (by decide) ?_
        exact jn_39 1 _ _ _ (by simp [sw_b, c_12, c_22, c_31]) (hP.sub [0, 1, 2] rfl) (hD.sub [0, 1, 2] (by decide) rfl) hS (lv_sub hl [0, 1, 2] rfl)

abbrev rm_Mo_sector : Room := { frames := 1, cells := 0, slots := 0, locals := 21 }
abbrev q_Mo_sector (D : va_G) (cI cL : ClassId) (A : Nat → Prop) (m0 : Nat) (x : Int32) (y : Int32) (th : Int32) (z1 : Nat) (z2 : Nat) (nv : Int32) (z3 : Nat) (z4 : Nat) (ns : Int32) (z5 : Nat) (z6 : Nat) (z7 : Nat) (z8 : Nat) (nw : Int32) (z9 : Nat) (z10 : Nat) (z11 : Nat) (z12 : Nat) (z13 : Nat) (z14 : Nat) (z15 : Nat) (z16 : Nat) (gv : Int32) (gs : Int32) (gw : Int32) (nb : Int32) (sd : Int32) (z17 : Nat) (z18 : Nat) (z19 : Nat) (z20 : Nat) (z21 : Nat) (nt : Int32) (z22 : Nat) (z23 : Nat) (z24 : Nat) (nk : Int32) (fs : Int32) (fl : Nat → Int32) (ce : Nat → Int32) : Array Value → State → Outcome → State → Prop := va_Qi (S := Int32 × (Nat → Int32) × (Nat → Int32)) (fun (r : Int32) => fun (u : Int32 × (Nat → Int32) × (Nat → Int32)) => match u with | (ns2, fl2, ce2) => r = (if (sw_wi x 256 && sw_wi y 256 && !(decide (y ≤ x)) && !(decide (ns = 16))) = true then ns else -1) ∧ ns2 = (if (sw_wi x 256 && sw_wi y 256 && !(decide (y ≤ x)) && !(decide (ns = 16))) = true then ns + 1 else ns) ∧ fl2 = (if (sw_wi x 256 && sw_wi y 256 && !(decide (y ≤ x)) && !(decide (ns = 16))) = true then upd fl ns.toNatClampNeg x else fl) ∧ ce2 = (if (sw_wi x 256 && sw_wi y 256 && !(decide (y ≤ x)) && !(decide (ns = 16))) = true then upd ce ns.toNatClampNeg y else ce)) (sw_R D A (fun (u : Int32 × (Nat → Int32) × (Nat → Int32)) => match u with | (ns2, fl2, ce2) => [(m0, .inr (5, [.int 0, .ref z1, .ref z2, .int nv, .ref z3, .ref z4, .int ns2, .ref z5, .ref z6, .ref z7, .ref z8, .int nw, .ref z9, .ref z10, .ref z11, .ref z12, .ref z13, .ref z14, .ref z15, .ref z16, .int gv, .int gs, .int gw, .int nb, .int sd, .ref z17, .ref z18, .ref z19, .ref z20, .ref z21, .int nt, .ref z22, .ref z23, .ref z24, .int nk, .int fs])), (z3, .inl (cI, 16, .inl fl2)), (z4, .inl (cI, 16, .inl ce2))])) A
set_option maxHeartbeats 4000000 in
set_option maxRecDepth 100000 in
theorem c_Mo_sector (l : Launch) (D : va_G) (cI cL : ClassId) (tq sz : Nat) (m0 : Nat) (x : Int32) (y : Int32) (th : Int32) (z1 : Nat) (z2 : Nat) (nv : Int32) (z3 : Nat) (z4 : Nat) (ns : Int32) (z5 : Nat) (z6 : Nat) (z7 : Nat) (z8 : Nat) (nw : Int32) (z9 : Nat) (z10 : Nat) (z11 : Nat) (z12 : Nat) (z13 : Nat) (z14 : Nat) (z15 : Nat) (z16 : Nat) (gv : Int32) (gs : Int32) (gw : Int32) (nb : Int32) (sd : Int32) (z17 : Nat) (z18 : Nat) (z19 : Nat) (z20 : Nat) (z21 : Nat) (nt : Int32) (z22 : Nat) (z23 : Nat) (z24 : Nat) (nk : Int32) (fs : Int32) (fl : Nat → Int32) (ce : Nat → Int32) (hn : sw_ok ns 16) : Met l y_Mo_sector w_Mo_sector rm_Mo_sector (va_Pc [.ref m0, .int x, .int y] (sw_B D cI cL tq sz [(m0, .inr (5, [.int th, .ref z1, .ref z2, .int nv, .ref z3, .ref z4, .int ns, .ref z5, .ref z6, .ref z7, .ref z8, .int nw, .ref z9, .ref z10, .ref z11, .ref z12, .ref z13, .ref z14, .ref z15, .ref z16, .int gv, .int gs, .int gw, .int nb, .int sd, .ref z17, .ref z18, .ref z19, .ref z20, .ref z21, .int nt, .ref z22, .ref z23, .ref z24, .int nk, .int fs])), (z3, .inl (cI, 16, .inl fl)), (z4, .inl (cI, 16, .inl ce))])) (q_Mo_sector D cI cL (va_A [(m0, .inr (5, [.int th, .ref z1, .ref z2, .int nv, .ref z3, .ref z4, .int ns, .ref z5, .ref z6, .ref z7, .ref z8, .int nw, .ref z9, .ref z10, .ref z11, .ref z12, .ref z13, .ref z14, .ref z15, .ref z16, .int gv, .int gs, .int gw, .int nb, .int sd, .ref z17, .ref z18, .ref z19, .ref z20, .ref z21, .int nt, .ref z22, .ref z23, .ref z24, .int nk, .int fs])), (z3, .inl (cI, 16, .inl fl)), (z4, .inl (cI, 16, .inl ce))] sz) m0 x y th z1 z2 nv z3 z4 ns z5 z6 z7 z8 nw z9 z10 z11 z12 z13 z14 z15 z16 gv gs gw nb sd z17 z18 z19 z20 z21 nt z22 z23 z24 nk fs fl ce) 0 0 (va_A [(m0, .inr (5, [.int th, .ref z1, .ref z2, .int nv, .ref z3, .ref z4, .int ns, .ref z5, .ref z6, .ref z7, .ref z8, .int nw, .ref z9, .ref z10, .ref z11, .ref z12, .ref z13, .ref z14, .ref z15, .ref z16, .int gv, .int gs, .int gw, .int nb, .int sd, .ref z17, .ref z18, .ref z19, .ref z20, .ref z21, .int nt, .ref z22, .ref z23, .ref z24, .int nk, .int fs])), (z3, .inl (cI, 16, .inl fl)), (z4, .inl (cI, 16, .inl ce))] sz) := by
  refine Met.ofW (cc := b_Mo_sector) (maxL := 3) (ret := (some .int)) (by decide) rfl ?_
  intro mp me s mm args below meth mk s₁ B hml hv
  obtain ⟨rfl, hsz, hP, hK, hD0, hG⟩ := hv
  have hx := B.exec
  have hb := B.bytes
  have hr := B.returns
  have hts := atoms_spec (ws := w_Mo_sector) B.pre
  have hw : ∀ w ∈ sw_words, w.before _ s = true := fun w h => hts w (List.mem_cons_of_mem _ h)
  have hown : s.vm.findClass R_Mo = some mm.cls := findClass_of_methodNamed B.named
  have hlocks := B.notSynchronized
  subst hsz
  have hD := hD0.self (sz := s.heap.size)
  generalize hAe : va_A [(m0, .inr (5, [.int th, .ref z1, .ref z2, .int nv, .ref z3, .ref z4, .int ns, .ref z5, .ref z6, .ref z7, .ref z8, .int nw, .ref z9, .ref z10, .ref z11, .ref z12, .ref z13, .ref z14, .ref z15, .ref z16, .int gv, .int gs, .int gw, .int nb, .int sd, .ref z17, .ref z18, .ref z19, .ref z20, .ref z21, .int nt, .ref z22, .ref z23, .ref z24, .int nk, .int fs])), (z3, .inl (cI, 16, .inl fl)), (z4, .inl (cI, 16, .inl ce))] s.heap.size = A at hD hG ⊢
  have hA : ∀ q : Nat, s.heap.size ≤ q → A q := fun q h => by rw [← hAe]; exact Or.inr h
  have hS : va_S A s.heap s.heap [] := va_S.rf
  have hl := lv_entry ([.ref m0, .int x, .int y]) (n := 3) (Nat.le_of_ble_eq_true rfl)
  rw [lg_entry_eq]
  generalize (lg_sl ([.ref m0, .int x, .int y]) ++ List.replicate (3 - (lg_sl ([.ref m0, .int x, .int y])).length) Slot.unset).toArray = ls at hl ⊢
  have hl : lv_has ls 3 [(0, .ref m0), (1, .int x), (2, .int y)] := hl
  refine lv_aload_n hx hb d_Mo_sector_0 rfl (lv_at hl 0 rfl) ?_
  refine lv_iconst (v := 0) hx hb d_Mo_sector_1 (by decide) ?_
  refine va_put (D := D) (ci := 5) (v := .int 0) (ty := t_Mo 0) (C := R_Mo) (T := F_Mo) (N := 36) hx hb hw ku_Mo t_Mo t_Mo_ok n_Mo hown hK hP hD hS 0 rfl rfl 0 (by decide) (hw _ kw_38168dc1) (fun _ h9 => h9) rfl (t_Mo_ok 0 (by decide)) rfl rfl (Nat.le_of_ble_eq_true rfl) d_Mo_sector_2 (fun H locs hP hD hS => ?_)
  replace hP : va_P D sw_cl [(m0, .inr (5, [.int 0, .ref z1, .ref z2, .int nv, .ref z3, .ref z4, .int ns, .ref z5, .ref z6, .ref z7, .ref z8, .int nw, .ref z9, .ref z10, .ref z11, .ref z12, .ref z13, .ref z14, .ref z15, .ref z16, .int gv, .int gs, .int gw, .int nb, .int sd, .ref z17, .ref z18, .ref z19, .ref z20, .ref z21, .int nt, .ref z22, .ref z23, .ref z24, .int nk, .int fs])), (z3, .inl (cI, 16, .inl fl)), (z4, .inl (cI, 16, .inl ce))] H := hP
  replace hD : va_D A [(m0, .inr (5, [.int 0, .ref z1, .ref z2, .int nv, .ref z3, .ref z4, .int ns, .ref z5, .ref z6, .ref z7, .ref z8, .int nw, .ref z9, .ref z10, .ref z11, .ref z12, .ref z13, .ref z14, .ref z15, .ref z16, .int gv, .int gs, .int gw, .int nb, .int sd, .ref z17, .ref z18, .ref z19, .ref z20, .ref z21, .int nt, .ref z22, .ref z23, .ref z24, .int nk, .int fs])), (z3, .inl (cI, 16, .inl fl)), (z4, .inl (cI, 16, .inl ce))] := hD
  refine lv_iload_n hx hb d_Mo_sector_5 rfl (lv_at hl 1 rfl) ?_
  refine lv_sipush (v := 256) hx hb d_Mo_sector_6 (by decide) ?_
  refine sw_ki0 (wr := [(m0, .inr (5, [.int 0, .ref z1, .ref z2, .int nv, .ref z3, .ref z4, .int ns, .ref z5, .ref z6, .ref z7, .ref z8, .int nw, .ref z9, .ref z10, .ref z11, .ref z12, .ref z13, .ref z14, .ref z15, .ref z16, .int gv, .int gs, .int gw, .int nb, .int sd, .ref z17, .ref z18, .ref z19, .ref z20, .ref z21, .int nt, .ref z22, .ref z23, .ref z24, .int nk, .int fs])), (z3, .inl (cI, 16, .inl fl)), (z4, .inl (cI, 16, .inl ce))]) (va_runS (As := [.int x, .int 256]) (rest := []) ⟨hx, hb, hml, hown, hw⟩ (c_Mo_isWithin l D cI cL tq _ x 256) (cwS 2 hw (sw_gS kw_aa0a1934 kw_59824ec7 kw_82e72072 kc_Mo_isWithin) rfl rfl rfl ⟨rfl, yd_Mo_isWithin⟩ ⟨Nat.le_of_ble_eq_true rfl, Nat.le_of_ble_eq_true rfl⟩) (sw_preS hK hP hD hS hA hG [] rfl (by decide)) rfl rfl hl.1 rfl (lv_room (Nat.le_of_ble_eq_true rfl)) d_Mo_sector_9 ⟨Nat.le_of_ble_eq_true rfl, Nat.le_of_ble_eq_true rfl⟩) hP hD hS hA [] [0, 1, 2] rfl rfl (by decide) (by decide) (fun r_9 _ H locs hp_9 hP hD hS => ?_)
  replace hP : va_P D sw_cl [(m0, .inr (5, [.int 0, .ref z1, .ref z2, .int nv, .ref z3, .ref z4, .int ns, .ref z5, .ref z6, .ref z7, .ref z8, .int nw, .ref z9, .ref z10, .ref z11, .ref z12, .ref z13, .ref z14, .ref z15, .ref z16, .int gv, .int gs, .int gw, .int nb, .int sd, .ref z17, .ref z18, .ref z19, .ref z20, .ref z21, .int nt, .ref z22, .ref z23, .ref z24, .int nk, .int fs])), (z3, .inl (cI, 16, .inl fl)), (z4, .inl (cI, 16, .inl ce))] H := hP
  replace hD : va_D A [(m0, .inr (5, [.int 0, .ref z1, .ref z2, .int nv, .ref z3, .ref z4, .int ns, .ref z5, .ref z6, .ref z7, .ref z8, .int nw, .ref z9, .ref z10, .ref z11, .ref z12, .ref z13, .ref z14, .ref z15, .ref z16, .int gv, .int gs, .int gw, .int nb, .int sd, .ref z17, .ref z18, .ref z19, .ref z20, .ref z21, .int nt, .ref z22, .ref z23, .ref z24, .int nk, .int fs])), (z3, .inl (cI, 16, .inl fl)), (z4, .inl (cI, 16, .inl ce))] := hD
  try dsimp only at hp_9
  subst hp_9
  refine lv_if_eq (tgt := 39) hx hb d_Mo_sector_12 (by decide) (fun c_12 => ?_) (fun c_12 => ?_)
  · skip
    replace c_12 := sw_b0.mp c_12
    refine lv_iconst (v := (-1)) hx hb d_Mo_sector_39 (by decide) ?_
    have hP9 := hP.sub (ws' := [(m0, .inr (5, [.int 0, .ref z1, .ref z2, .int nv, .ref z3, .ref z4, .int ns, .ref z5, .ref z6, .ref z7, .ref z8, .int nw, .ref z9, .ref z10, .ref z11, .ref z12, .ref z13, .ref z14, .ref z15, .ref z16, .int gv, .int gs, .int gw, .int nb, .int sd, .ref z17, .ref z18, .ref z19, .ref z20, .ref z21, .int nt, .ref z22, .ref z23, .ref z24, .int nk, .int fs])), (z3, .inl (cI, 16, .inl fl)), (z4, .inl (cI, 16, .inl ce))]) [0, 1, 2] rfl
    have hD9 := hD.sub (ws' := [(m0, .inr (5, [.int 0, .ref z1, .ref z2, .int nv, .ref z3, .ref z4, .int ns, .ref z5, .ref z6, .ref z7, .ref z8, .int nw, .ref z9, .ref z10, .ref z11, .ref z12, .ref z13, .ref z14, .ref z15, .ref z16, .int gv, .int gs, .int gw, .int nb, .int sd, .ref z17, .ref z18, .ref z19, .ref z20, .ref z21, .int nt, .ref z22, .ref z23, .ref z24, .int nk, .int fs])), (z3, .inl (cI, 16, .inl fl)), (z4, .inl (cI, 16, .inl ce))]) [0, 1, 2] (by decide) rfl
    exact W.iret (v := (-1)) hx hb hr (fun T9 hT9 hW9 => ⟨⟨(-1), (ns, fl, ce), rfl, by simp [c_12, Int32.add_sub_cancel], by rw [hT9]; exact hP9, hD9⟩, hS.F hT9⟩) hS.2.2 d_Mo_sector_40
  · skip
    replace c_12 := sw_bn.mp c_12
    refine lv_iload_n hx hb d_Mo_sector_15 rfl (lv_at hl 2 rfl) ?_
    refine lv_sipush (v := 256) hx hb d_Mo_sector_16 (by decide) ?_
    refine sw_ki0 (wr := [(m0, .inr (5, [.int 0, .ref z1, .ref z2, .int nv, .ref z3, .ref z4, .int ns, .ref z5, .ref z6, .ref z7, .ref z8, .int nw, .ref z9, .ref z10, .ref z11, .ref z12, .ref z13, .ref z14, .ref z15, .ref z16, .int gv, .int gs, .int gw, .int nb, .int sd, .ref z17, .ref z18, .ref z19, .ref z20, .ref z21, .int nt, .ref z22, .ref z23, .ref z24, .int nk, .int fs])), (z3, .inl (cI, 16, .inl fl)), (z4, .inl (cI, 16, .inl ce))]) (va_runS (As := [.int y, .int 256]) (rest := []) ⟨hx, hb, hml, hown, hw⟩ (c_Mo_isWithin l D cI cL tq _ y 256) (cwS 2 hw (sw_gS kw_aa0a1934 kw_59824ec7 kw_82e72072 kc_Mo_isWithin) rfl rfl rfl ⟨rfl, yd_Mo_isWithin⟩ ⟨Nat.le_of_ble_eq_true rfl, Nat.le_of_ble_eq_true rfl⟩) (sw_preS hK hP hD hS hA hG [] rfl (by decide)) rfl rfl hl.1 rfl (lv_room (Nat.le_of_ble_eq_true rfl)) d_Mo_sector_19 ⟨Nat.le_of_ble_eq_true rfl, Nat.le_of_ble_eq_true rfl⟩) hP hD hS hA [] [0, 1, 2] rfl rfl (by decide) (by decide) (fun r_19 _ H locs hp_19 hP hD hS => ?_)
    replace hP : va_P D sw_cl [(m0, .inr (5, [.int 0, .ref z1, .ref z2, .int nv, .ref z3, .ref z4, .int ns, .ref z5, .ref z6, .ref z7, .ref z8, .int nw, .ref z9, .ref z10, .ref z11, .ref z12, .ref z13, .ref z14, .ref z15, .ref z16, .int gv, .int gs, .int gw, .int nb, .int sd, .ref z17, .ref z18, .ref z19, .ref z20, .ref z21, .int nt, .ref z22, .ref z23, .ref z24, .int nk, .int fs])), (z3, .inl (cI, 16, .inl fl)), (z4, .inl (cI, 16, .inl ce))] H := hP
    replace hD : va_D A [(m0, .inr (5, [.int 0, .ref z1, .ref z2, .int nv, .ref z3, .ref z4, .int ns, .ref z5, .ref z6, .ref z7, .ref z8, .int nw, .ref z9, .ref z10, .ref z11, .ref z12, .ref z13, .ref z14, .ref z15, .ref z16, .int gv, .int gs, .int gw, .int nb, .int sd, .ref z17, .ref z18, .ref z19, .ref z20, .ref z21, .int nt, .ref z22, .ref z23, .ref z24, .int nk, .int fs])), (z3, .inl (cI, 16, .inl fl)), (z4, .inl (cI, 16, .inl ce))] := hD
    try dsimp only at hp_19
    subst hp_19
    refine lv_if_eq (tgt := 39) hx hb d_Mo_sector_22 (by decide) (fun c_22 => ?_) (fun c_22 => ?_)
    · skip
      replace c_22 := sw_b0.mp c_22
      refine lv_iconst (v := (-1)) hx hb d_Mo_sector_39 (by decide) ?_
      have hP9 := hP.sub (ws' := [(m0, .inr (5, [.int 0, .ref z1, .ref z2, .int nv, .ref z3, .ref z4, .int ns, .ref z5, .ref z6, .ref z7, .ref z8, .int nw, .ref z9, .ref z10, .ref z11, .ref z12, .ref z13, .ref z14, .ref z15, .ref z16, .int gv, .int gs, .int gw, .int nb, .int sd, .ref z17, .ref z18, .ref z19, .ref z20, .ref z21, .int nt, .ref z22, .ref z23, .ref z24, .int nk, .int fs])), (z3, .inl (cI, 16, .inl fl)), (z4, .inl (cI, 16, .inl ce))]) [0, 1, 2] rfl
      have hD9 := hD.sub (ws' := [(m0, .inr (5, [.int 0, .ref z1, .ref z2, .int nv, .ref z3, .ref z4, .int ns, .ref z5, .ref z6, .ref z7, .ref z8, .int nw, .ref z9, .ref z10, .ref z11, .ref z12, .ref z13, .ref z14, .ref z15, .ref z16, .int gv, .int gs, .int gw, .int nb, .int sd, .ref z17, .ref z18, .ref z19, .ref z20, .ref z21, .int nt, .ref z22, .ref z23, .ref z24, .int nk, .int fs])), (z3, .inl (cI, 16, .inl fl)), (z4, .inl (cI, 16, .inl ce))]) [0, 1, 2] (by decide) rfl
      exact W.iret (v := (-1)) hx hb hr (fun T9 hT9 hW9 => ⟨⟨(-1), (ns, fl, ce), rfl, by simp [c_12, c_22, Int32.add_sub_cancel], by rw [hT9]; exact hP9, hD9⟩, hS.F hT9⟩) hS.2.2 d_Mo_sector_40
    · skip
      replace c_22 := sw_bn.mp c_22
      refine lv_iload_n hx hb d_Mo_sector_25 rfl (lv_at hl 2 rfl) ?_
      refine lv_iload_n hx hb d_Mo_sector_26 rfl (lv_at hl 1 rfl) ?_
      refine lv_icmp_le (tgt := 39) hx hb d_Mo_sector_27 (by decide) (fun c_27 => ?_) (fun c_27 => ?_)
      · skip
        refine lv_iconst (v := (-1)) hx hb d_Mo_sector_39 (by decide) ?_
        have hP9 := hP.sub (ws' := [(m0, .inr (5, [.int 0, .ref z1, .ref z2, .int nv, .ref z3, .ref z4, .int ns, .ref z5, .ref z6, .ref z7, .ref z8, .int nw, .ref z9, .ref z10, .ref z11, .ref z12, .ref z13, .ref z14, .ref z15, .ref z16, .int gv, .int gs, .int gw, .int nb, .int sd, .ref z17, .ref z18, .ref z19, .ref z20, .ref z21, .int nt, .ref z22, .ref z23, .ref z24, .int nk, .int fs])), (z3, .inl (cI, 16, .inl fl)), (z4, .inl (cI, 16, .inl ce))]) [0, 1, 2] rfl
        have hD9 := hD.sub (ws' := [(m0, .inr (5, [.int 0, .ref z1, .ref z2, .int nv, .ref z3, .ref z4, .int ns, .ref z5, .ref z6, .ref z7, .ref z8, .int nw, .ref z9, .ref z10, .ref z11, .ref z12, .ref z13, .ref z14, .ref z15, .ref z16, .int gv, .int gs, .int gw, .int nb, .int sd, .ref z17, .ref z18, .ref z19, .ref z20, .ref z21, .int nt, .ref z22, .ref z23, .ref z24, .int nk, .int fs])), (z3, .inl (cI, 16, .inl fl)), (z4, .inl (cI, 16, .inl ce))]) [0, 1, 2] (by decide) rfl
        exact W.iret (v := (-1)) hx hb hr (fun T9 hT9 hW9 => ⟨⟨(-1), (ns, fl, ce), rfl, by simp [c_12, c_22, c_27, Int32.add_sub_cancel], by rw [hT9]; exact hP9, hD9⟩, hS.F hT9⟩) hS.2.2 d_Mo_sector_40
      · skip
        refine lv_aload_n hx hb d_Mo_sector_30 rfl (lv_at hl 0 rfl) ?_
        refine va_get (D := D) (ci := 5) (v := .int ns) (C := R_Mo) (T := F_Mo) (N := 36) hx hb hw ku_Mo hown hK hP 0 rfl rfl 6 (by decide) (hw _ kw_4cfe8336) (fun _ h9 => h9) rfl d_Mo_sector_31 ?_
        refine lv_bipush (v := 16) hx hb d_Mo_sector_34 (by decide) ?_
        refine lv_icmp_ne (tgt := 41) hx hb d_Mo_sector_36 (by decide) (fun c_36 => ?_) (fun c_36 => ?_)
        · skip
          have hin1 : vp_in ns 16 := sw_okin3 hn (by decide) c_36
          refine lv_aload_n hx hb d_Mo_sector_41 rfl (lv_at hl 0 rfl) ?_
          refine va_get (D := D) (ci := 5) (v := .ref z3) (C := R_Mo) (T := F_Mo) (N := 36) hx hb hw ku_Mo hown hK hP 0 rfl rfl 4 (by decide) (hw _ kw_53c23857) (fun _ h9 => h9) rfl d_Mo_sector_42 ?_
          refine lv_aload_n hx hb d_Mo_sector_45 rfl (lv_at hl 0 rfl) ?_
          refine va_get (D := D) (ci := 5) (v := .int ns) (C := R_Mo) (T := F_Mo) (N := 36) hx hb hw ku_Mo hown hK hP 0 rfl rfl 6 (by decide) (hw _ kw_4cfe8336) (fun _ h9 => h9) rfl d_Mo_sector_46 ?_
          refine lv_iload_n hx hb d_Mo_sector_49 rfl (lv_at hl 1 rfl) ?_
          refine va_iast hx hb hK hP hD hS 1 0 rfl rfl (by assumption) d_Mo_sector_50 (fun H locs hP hD hS => ?_)
          replace hP : va_P D sw_cl [(m0, .inr (5, [.int 0, .ref z1, .ref z2, .int nv, .ref z3, .ref z4, .int ns, .ref z5, .ref z6, .ref z7, .ref z8, .int nw, .ref z9, .ref z10, .ref z11, .ref z12, .ref z13, .ref z14, .ref z15, .ref z16, .int gv, .int gs, .int gw, .int nb, .int sd, .ref z17, .ref z18, .ref z19, .ref z20, .ref z21, .int nt, .ref z22, .ref z23, .ref z24, .int nk, .int fs])), (z3, .inl (cI, 16, .inl (upd fl ns.toNatClampNeg x))), (z4, .inl (cI, 16, .inl ce))] H := hP
          replace hD : va_D A [(m0, .inr (5, [.int 0, .ref z1, .ref z2, .int nv, .ref z3, .ref z4, .int ns, .ref z5, .ref z6, .ref z7, .ref z8, .int nw, .ref z9, .ref z10, .ref z11, .ref z12, .ref z13, .ref z14, .ref z15, .ref z16, .int gv, .int gs, .int gw, .int nb, .int sd, .ref z17, .ref z18, .ref z19, .ref z20, .ref z21, .int nt, .ref z22, .ref z23, .ref z24, .int nk, .int fs])), (z3, .inl (cI, 16, .inl (upd fl ns.toNatClampNeg x))), (z4, .inl (cI, 16, .inl ce))] := hD
          refine lv_aload_n hx hb d_Mo_sector_51 rfl (lv_at hl 0 rfl) ?_
          refine va_get (D := D) (ci := 5) (v := .ref z4) (C := R_Mo) (T := F_Mo) (N := 36) hx hb hw ku_Mo hown hK hP 0 rfl rfl 5 (by decide) (hw _ kw_1c9bfedb) (fun _ h9 => h9) rfl d_Mo_sector_52 ?_
          refine lv_aload_n hx hb d_Mo_sector_55 rfl (lv_at hl 0 rfl) ?_
          refine va_get (D := D) (ci := 5) (v := .int ns) (C := R_Mo) (T := F_Mo) (N := 36) hx hb hw ku_Mo hown hK hP 0 rfl rfl 6 (by decide) (hw _ kw_4cfe8336) (fun _ h9 => h9) rfl d_Mo_sector_56 ?_
          refine lv_iload_n hx hb d_Mo_sector_59 rfl (lv_at hl 2 rfl) ?_
          refine va_iast hx hb hK hP hD hS 2 0 rfl rfl (by assumption) d_Mo_sector_60 (fun H locs hP hD hS => ?_)
          replace hP : va_P D sw_cl [(m0, .inr (5, [.int 0, .ref z1, .ref z2, .int nv, .ref z3, .ref z4, .int ns, .ref z5, .ref z6, .ref z7, .ref z8, .int nw, .ref z9, .ref z10, .ref z11, .ref z12, .ref z13, .ref z14, .ref z15, .ref z16, .int gv, .int gs, .int gw, .int nb, .int sd, .ref z17, .ref z18, .ref z19, .ref z20, .ref z21, .int nt, .ref z22, .ref z23, .ref z24, .int nk, .int fs])), (z3, .inl (cI, 16, .inl (upd fl ns.toNatClampNeg x))), (z4, .inl (cI, 16, .inl (upd ce ns.toNatClampNeg y)))] H := hP
          replace hD : va_D A [(m0, .inr (5, [.int 0, .ref z1, .ref z2, .int nv, .ref z3, .ref z4, .int ns, .ref z5, .ref z6, .ref z7, .ref z8, .int nw, .ref z9, .ref z10, .ref z11, .ref z12, .ref z13, .ref z14, .ref z15, .ref z16, .int gv, .int gs, .int gw, .int nb, .int sd, .ref z17, .ref z18, .ref z19, .ref z20, .ref z21, .int nt, .ref z22, .ref z23, .ref z24, .int nk, .int fs])), (z3, .inl (cI, 16, .inl (upd fl ns.toNatClampNeg x))), (z4, .inl (cI, 16, .inl (upd ce ns.toNatClampNeg y)))] := hD
          refine lv_aload_n hx hb d_Mo_sector_61 rfl (lv_at hl 0 rfl) ?_
          refine lv_dup hx hb d_Mo_sector_62 rfl ?_
          refine va_get (D := D) (ci := 5) (v := .int ns) (C := R_Mo) (T := F_Mo) (N := 36) hx hb hw ku_Mo hown hK hP 0 rfl rfl 6 (by decide) (hw _ kw_4cfe8336) (fun _ h9 => h9) rfl d_Mo_sector_63 ?_
          refine lv_iconst (v := 1) hx hb d_Mo_sector_66 (by decide) ?_
          refine lv_iadd hx hb d_Mo_sector_67 ?_
          refine va_put (D := D) (ci := 5) (v := .int (ns + 1)) (ty := t_Mo 6) (C := R_Mo) (T := F_Mo) (N := 36) hx hb hw ku_Mo t_Mo t_Mo_ok n_Mo hown hK hP hD hS 0 rfl rfl 6 (by decide) (hw _ kw_4cfe8336) (fun _ h9 => h9) rfl (t_Mo_ok 6 (by decide)) rfl rfl (Nat.le_of_ble_eq_true rfl) d_Mo_sector_68 (fun H locs hP hD hS => ?_)
          replace hP : va_P D sw_cl [(m0, .inr (5, [.int 0, .ref z1, .ref z2, .int nv, .ref z3, .ref z4, .int (ns + 1), .ref z5, .ref z6, .ref z7, .ref z8, .int nw, .ref z9, .ref z10, .ref z11, .ref z12, .ref z13, .ref z14, .ref z15, .ref z16, .int gv, .int gs, .int gw, .int nb, .int sd, .ref z17, .ref z18, .ref z19, .ref z20, .ref z21, .int nt, .ref z22, .ref z23, .ref z24, .int nk, .int fs])), (z3, .inl (cI, 16, .inl (upd fl ns.toNatClampNeg x))), (z4, .inl (cI, 16, .inl (upd ce ns.toNatClampNeg y)))] H := hP
          replace hD : va_D A [(m0, .inr (5, [.int 0, .ref z1, .ref z2, .int nv, .ref z3, .ref z4, .int (ns + 1), .ref z5, .ref z6, .ref z7, .ref z8, .int nw, .ref z9, .ref z10, .ref z11, .ref z12, .ref z13, .ref z14, .ref z15, .ref z16, .int gv, .int gs, .int gw, .int nb, .int sd, .ref z17, .ref z18, .ref z19, .ref z20, .ref z21, .int nt, .ref z22, .ref z23, .ref z24, .int nk, .int fs])), (z3, .inl (cI, 16, .inl (upd fl ns.toNatClampNeg x))), (z4, .inl (cI, 16, .inl (upd ce ns.toNatClampNeg y)))] := hD
          refine lv_aload_n hx hb d_Mo_sector_71 rfl (lv_at hl 0 rfl) ?_
          refine va_get (D := D) (ci := 5) (v := .int (ns + 1)) (C := R_Mo) (T := F_Mo) (N := 36) hx hb hw ku_Mo hown hK hP 0 rfl rfl 6 (by decide) (hw _ kw_4cfe8336) (fun _ h9 => h9) rfl d_Mo_sector_72 ?_
          refine lv_iconst (v := 1) hx hb d_Mo_sector_75 (by decide) ?_
          refine lv_isub hx hb d_Mo_sector_76 ?_
          have hP9 := hP.sub (ws' := [(m0, .inr (5, [.int 0, .ref z1, .ref z2, .int nv, .ref z3, .ref z4, .int (ns + 1), .ref z5, .ref z6, .ref z7, .ref z8, .int nw, .ref z9, .ref z10, .ref z11, .ref z12, .ref z13, .ref z14, .ref z15, .ref z16, .int gv, .int gs, .int gw, .int nb, .int sd, .ref z17, .ref z18, .ref z19, .ref z20, .ref z21, .int nt, .ref z22, .ref z23, .ref z24, .int nk, .int fs])), (z3, .inl (cI, 16, .inl (upd fl ns.toNatClampNeg x))), (z4, .inl (cI, 16, .inl (upd ce ns.toNatClampNeg y)))]) [0, 1, 2] rfl
          have hD9 := hD.sub (ws' := [(m0, .inr (5, [.int 0, .ref z1, .ref z2, .int nv, .ref z3, .ref z4, .int (ns + 1), .ref z5, .ref z6, .ref z7, .ref z8, .int nw, .ref z9, .ref z10, .ref z11, .ref z12, .ref z13, .ref z14, .ref z15, .ref z16, .int gv, .int gs, .int gw, .int nb, .int sd, .ref z17, .ref z18, .ref z19, .ref z20, .ref z21, .int nt, .ref z22, .ref z23, .ref z24, .int nk, .int fs])), (z3, .inl (cI, 16, .inl (upd fl ns.toNatClampNeg x))), (z4, .inl (cI, 16, .inl (upd ce ns.toNatClampNeg y)))]) [0, 1, 2] (by decide) rfl
          exact W.iret (v := (ns + 1) - 1) hx hb hr (fun T9 hT9 hW9 => ⟨⟨(ns + 1) - 1, (ns + 1, upd fl ns.toNatClampNeg x, upd ce ns.toNatClampNeg y), rfl, by simp [c_12, c_22, c_27, c_36, Int32.add_sub_cancel], by rw [hT9]; exact hP9, hD9⟩, hS.F hT9⟩) hS.2.2 d_Mo_sector_77
        · skip
          refine lv_iconst (v := (-1)) hx hb d_Mo_sector_39 (by decide) ?_
          have hP9 := hP.sub (ws' := [(m0, .inr (5, [.int 0, .ref z1, .ref z2, .int nv, .ref z3, .ref z4, .int ns, .ref z5, .ref z6, .ref z7, .ref z8, .int nw, .ref z9, .ref z10, .ref z11, .ref z12, .ref z13, .ref z14, .ref z15, .ref z16, .int gv, .int gs, .int gw, .int nb, .int sd, .ref z17, .ref z18, .ref z19, .ref z20, .ref z21, .int nt, .ref z22, .ref z23, .ref z24, .int nk, .int fs])), (z3, .inl (cI, 16, .inl fl)), (z4, .inl (cI, 16, .inl ce))]) [0, 1, 2] rfl
          have hD9 := hD.sub (ws' := [(m0, .inr (5, [.int 0, .ref z1, .ref z2, .int nv, .ref z3, .ref z4, .int ns, .ref z5, .ref z6, .ref z7, .ref z8, .int nw, .ref z9, .ref z10, .ref z11, .ref z12, .ref z13, .ref z14, .ref z15, .ref z16, .int gv, .int gs, .int gw, .int nb, .int sd, .ref z17, .ref z18, .ref z19, .ref z20, .ref z21, .int nt, .ref z22, .ref z23, .ref z24, .int nk, .int fs])), (z3, .inl (cI, 16, .inl fl)), (z4, .inl (cI, 16, .inl ce))]) [0, 1, 2] (by decide) rfl
          exact W.iret (v := (-1)) hx hb hr (fun T9 hT9 hW9 => ⟨⟨(-1), (ns, fl, ce), rfl, by simp [c_12, c_22, c_27, c_36, Int32.add_sub_cancel], by rw [hT9]; exact hP9, hD9⟩, hS.F hT9⟩) hS.2.2 d_Mo_sector_40

abbrev rm_Mo_wall : Room := { frames := 0, cells := 0, slots := 0, locals := 0 }
abbrev q_Mo_wall (D : va_G) (cI cL : ClassId) (A : Nat → Prop) (m0 : Nat) (x : Int32) (y : Int32) (z : Int32) (v : Int32) (th : Int32) (z1 : Nat) (z2 : Nat) (nv : Int32) (z3 : Nat) (z4 : Nat) (ns : Int32) (z5 : Nat) (z6 : Nat) (z7 : Nat) (z8 : Nat) (nw : Int32) (z9 : Nat) (z10 : Nat) (z11 : Nat) (z12 : Nat) (z13 : Nat) (z14 : Nat) (z15 : Nat) (z16 : Nat) (gv : Int32) (gs : Int32) (gw : Int32) (nb : Int32) (sd : Int32) (z17 : Nat) (z18 : Nat) (z19 : Nat) (z20 : Nat) (z21 : Nat) (nt : Int32) (z22 : Nat) (z23 : Nat) (z24 : Nat) (nk : Int32) (fs : Int32) (fa : Nat → Int32) (tb : Nat → Int32) (fr : Nat → Int32) (bk : Nat → Int32) : Array Value → State → Outcome → State → Prop := va_Qi (S := Int32 × (Nat → Int32) × (Nat → Int32) × (Nat → Int32) × (Nat → Int32)) (fun (r : Int32) => fun (u : Int32 × (Nat → Int32) × (Nat → Int32) × (Nat → Int32) × (Nat → Int32)) => match u with | (nw2, fa2, tb2, fr2, bk2) => r = (if (!(decide (x < 0)) && !(decide (nv ≤ x)) && !(decide (y < 0)) && !(decide (nv ≤ y)) && !(decide (x = y)) && !(decide (z < 0)) && !(decide (ns ≤ z)) && !(decide (v < -1)) && !(decide (ns ≤ v)) && !(decide (64 ≤ nw))) = true then nw else -1) ∧ nw2 = (if (!(decide (x < 0)) && !(decide (nv ≤ x)) && !(decide (y < 0)) && !(decide (nv ≤ y)) && !(decide (x = y)) && !(decide (z < 0)) && !(decide (ns ≤ z)) && !(decide (v < -1)) && !(decide (ns ≤ v)) && !(decide (64 ≤ nw))) = true then nw + 1 else nw) ∧ fa2 = (if (!(decide (x < 0)) && !(decide (nv ≤ x)) && !(decide (y < 0)) && !(decide (nv ≤ y)) && !(decide (x = y)) && !(decide (z < 0)) && !(decide (ns ≤ z)) && !(decide (v < -1)) && !(decide (ns ≤ v)) && !(decide (64 ≤ nw))) = true then upd fa nw.toNatClampNeg x else fa) ∧ tb2 = (if (!(decide (x < 0)) && !(decide (nv ≤ x)) && !(decide (y < 0)) && !(decide (nv ≤ y)) && !(decide (x = y)) && !(decide (z < 0)) && !(decide (ns ≤ z)) && !(decide (v < -1)) && !(decide (ns ≤ v)) && !(decide (64 ≤ nw))) = true then upd tb nw.toNatClampNeg y else tb) ∧ fr2 = (if (!(decide (x < 0)) && !(decide (nv ≤ x)) && !(decide (y < 0)) && !(decide (nv ≤ y)) && !(decide (x = y)) && !(decide (z < 0)) && !(decide (ns ≤ z)) && !(decide (v < -1)) && !(decide (ns ≤ v)) && !(decide (64 ≤ nw))) = true then upd fr nw.toNatClampNeg z else fr) ∧ bk2 = (if (!(decide (x < 0)) && !(decide (nv ≤ x)) && !(decide (y < 0)) && !(decide (nv ≤ y)) && !(decide (x = y)) && !(decide (z < 0)) && !(decide (ns ≤ z)) && !(decide (v < -1)) && !(decide (ns ≤ v)) && !(decide (64 ≤ nw))) = true then upd bk nw.toNatClampNeg v else bk)) (sw_R D A (fun (u : Int32 × (Nat → Int32) × (Nat → Int32) × (Nat → Int32) × (Nat → Int32)) => match u with | (nw2, fa2, tb2, fr2, bk2) => [(m0, .inr (5, [.int 0, .ref z1, .ref z2, .int nv, .ref z3, .ref z4, .int ns, .ref z5, .ref z6, .ref z7, .ref z8, .int nw2, .ref z9, .ref z10, .ref z11, .ref z12, .ref z13, .ref z14, .ref z15, .ref z16, .int gv, .int gs, .int gw, .int nb, .int sd, .ref z17, .ref z18, .ref z19, .ref z20, .ref z21, .int nt, .ref z22, .ref z23, .ref z24, .int nk, .int fs])), (z5, .inl (cI, 64, .inl fa2)), (z6, .inl (cI, 64, .inl tb2)), (z7, .inl (cI, 64, .inl fr2)), (z8, .inl (cI, 64, .inl bk2))])) A
set_option maxHeartbeats 4000000 in
set_option maxRecDepth 100000 in
theorem c_Mo_wall (l : Launch) (D : va_G) (cI cL : ClassId) (tq sz : Nat) (m0 : Nat) (x : Int32) (y : Int32) (z : Int32) (v : Int32) (th : Int32) (z1 : Nat) (z2 : Nat) (nv : Int32) (z3 : Nat) (z4 : Nat) (ns : Int32) (z5 : Nat) (z6 : Nat) (z7 : Nat) (z8 : Nat) (nw : Int32) (z9 : Nat) (z10 : Nat) (z11 : Nat) (z12 : Nat) (z13 : Nat) (z14 : Nat) (z15 : Nat) (z16 : Nat) (gv : Int32) (gs : Int32) (gw : Int32) (nb : Int32) (sd : Int32) (z17 : Nat) (z18 : Nat) (z19 : Nat) (z20 : Nat) (z21 : Nat) (nt : Int32) (z22 : Nat) (z23 : Nat) (z24 : Nat) (nk : Int32) (fs : Int32) (fa : Nat → Int32) (tb : Nat → Int32) (fr : Nat → Int32) (bk : Nat → Int32) (hn : sw_ok nw 64) : Met l y_Mo_wall w_Mo_wall rm_Mo_wall (va_Pc [.ref m0, .int x, .int y, .int z, .int v] (sw_B D cI cL tq sz [(m0, .inr (5, [.int th, .ref z1, .ref z2, .int nv, .ref z3, .ref z4, .int ns, .ref z5, .ref z6, .ref z7, .ref z8, .int nw, .ref z9, .ref z10, .ref z11, .ref z12, .ref z13, .ref z14, .ref z15, .ref z16, .int gv, .int gs, .int gw, .int nb, .int sd, .ref z17, .ref z18, .ref z19, .ref z20, .ref z21, .int nt, .ref z22, .ref z23, .ref z24, .int nk, .int fs])), (z5, .inl (cI, 64, .inl fa)), (z6, .inl (cI, 64, .inl tb)), (z7, .inl (cI, 64, .inl fr)), (z8, .inl (cI, 64, .inl bk))])) (q_Mo_wall D cI cL (va_A [(m0, .inr (5, [.int th, .ref z1, .ref z2, .int nv, .ref z3, .ref z4, .int ns, .ref z5, .ref z6, .ref z7, .ref z8, .int nw, .ref z9, .ref z10, .ref z11, .ref z12, .ref z13, .ref z14, .ref z15, .ref z16, .int gv, .int gs, .int gw, .int nb, .int sd, .ref z17, .ref z18, .ref z19, .ref z20, .ref z21, .int nt, .ref z22, .ref z23, .ref z24, .int nk, .int fs])), (z5, .inl (cI, 64, .inl fa)), (z6, .inl (cI, 64, .inl tb)), (z7, .inl (cI, 64, .inl fr)), (z8, .inl (cI, 64, .inl bk))] sz) m0 x y z v th z1 z2 nv z3 z4 ns z5 z6 z7 z8 nw z9 z10 z11 z12 z13 z14 z15 z16 gv gs gw nb sd z17 z18 z19 z20 z21 nt z22 z23 z24 nk fs fa tb fr bk) 0 0 (va_A [(m0, .inr (5, [.int th, .ref z1, .ref z2, .int nv, .ref z3, .ref z4, .int ns, .ref z5, .ref z6, .ref z7, .ref z8, .int nw, .ref z9, .ref z10, .ref z11, .ref z12, .ref z13, .ref z14, .ref z15, .ref z16, .int gv, .int gs, .int gw, .int nb, .int sd, .ref z17, .ref z18, .ref z19, .ref z20, .ref z21, .int nt, .ref z22, .ref z23, .ref z24, .int nk, .int fs])), (z5, .inl (cI, 64, .inl fa)), (z6, .inl (cI, 64, .inl tb)), (z7, .inl (cI, 64, .inl fr)), (z8, .inl (cI, 64, .inl bk))] sz) := by
  refine Met.ofW (cc := b_Mo_wall) (maxL := 6) (ret := (some .int)) (by decide) rfl ?_
  intro mp me s mm args below meth mk s₁ B hml hv
  obtain ⟨rfl, hsz, hP, hK, hD0, hG⟩ := hv
  have hx := B.exec
  have hb := B.bytes
  have hr := B.returns
  have hts := atoms_spec (ws := w_Mo_wall) B.pre
  have hw : ∀ w ∈ sw_words, w.before _ s = true := fun w h => hts w (List.mem_cons_of_mem _ h)
  have hown : s.vm.findClass R_Mo = some mm.cls := findClass_of_methodNamed B.named
  have hlocks := B.notSynchronized
  subst hsz
  have hD := hD0.self (sz := s.heap.size)
  generalize hAe : va_A [(m0, .inr (5, [.int th, .ref z1, .ref z2, .int nv, .ref z3, .ref z4, .int ns, .ref z5, .ref z6, .ref z7, .ref z8, .int nw, .ref z9, .ref z10, .ref z11, .ref z12, .ref z13, .ref z14, .ref z15, .ref z16, .int gv, .int gs, .int gw, .int nb, .int sd, .ref z17, .ref z18, .ref z19, .ref z20, .ref z21, .int nt, .ref z22, .ref z23, .ref z24, .int nk, .int fs])), (z5, .inl (cI, 64, .inl fa)), (z6, .inl (cI, 64, .inl tb)), (z7, .inl (cI, 64, .inl fr)), (z8, .inl (cI, 64, .inl bk))] s.heap.size = A at hD hG ⊢
  have hA : ∀ q : Nat, s.heap.size ≤ q → A q := fun q h => by rw [← hAe]; exact Or.inr h
  have hS : va_S A s.heap s.heap [] := va_S.rf
  have hl := lv_entry ([.ref m0, .int x, .int y, .int z, .int v]) (n := 6) (Nat.le_of_ble_eq_true rfl)
  rw [lg_entry_eq]
  generalize (lg_sl ([.ref m0, .int x, .int y, .int z, .int v]) ++ List.replicate (6 - (lg_sl ([.ref m0, .int x, .int y, .int z, .int v])).length) Slot.unset).toArray = ls at hl ⊢
  have hl : lv_has ls 6 [(0, .ref m0), (1, .int x), (2, .int y), (3, .int z), (4, .int v)] := hl
  refine lv_aload_n hx hb d_Mo_wall_0 rfl (lv_at hl 0 rfl) ?_
  refine lv_iconst (v := 0) hx hb d_Mo_wall_1 (by decide) ?_
  refine va_put (D := D) (ci := 5) (v := .int 0) (ty := t_Mo 0) (C := R_Mo) (T := F_Mo) (N := 36) hx hb hw ku_Mo t_Mo t_Mo_ok n_Mo hown hK hP hD hS 0 rfl rfl 0 (by decide) (hw _ kw_38168dc1) (fun _ h9 => h9) rfl (t_Mo_ok 0 (by decide)) rfl rfl (Nat.le_of_ble_eq_true rfl) d_Mo_wall_2 (fun H locs hP hD hS => ?_)
  replace hP : va_P D sw_cl [(m0, .inr (5, [.int 0, .ref z1, .ref z2, .int nv, .ref z3, .ref z4, .int ns, .ref z5, .ref z6, .ref z7, .ref z8, .int nw, .ref z9, .ref z10, .ref z11, .ref z12, .ref z13, .ref z14, .ref z15, .ref z16, .int gv, .int gs, .int gw, .int nb, .int sd, .ref z17, .ref z18, .ref z19, .ref z20, .ref z21, .int nt, .ref z22, .ref z23, .ref z24, .int nk, .int fs])), (z5, .inl (cI, 64, .inl fa)), (z6, .inl (cI, 64, .inl tb)), (z7, .inl (cI, 64, .inl fr)), (z8, .inl (cI, 64, .inl bk))] H := hP
  replace hD : va_D A [(m0, .inr (5, [.int 0, .ref z1, .ref z2, .int nv, .ref z3, .ref z4, .int ns, .ref z5, .ref z6, .ref z7, .ref z8, .int nw, .ref z9, .ref z10, .ref z11, .ref z12, .ref z13, .ref z14, .ref z15, .ref z16, .int gv, .int gs, .int gw, .int nb, .int sd, .ref z17, .ref z18, .ref z19, .ref z20, .ref z21, .int nt, .ref z22, .ref z23, .ref z24, .int nk, .int fs])), (z5, .inl (cI, 64, .inl fa)), (z6, .inl (cI, 64, .inl tb)), (z7, .inl (cI, 64, .inl fr)), (z8, .inl (cI, 64, .inl bk))] := hD
  refine lv_iload_n hx hb d_Mo_wall_5 rfl (lv_at hl 1 rfl) ?_
  refine lv_if_lt (tgt := 74) hx hb d_Mo_wall_6 (by decide) (fun c_6 => ?_) (fun c_6 => ?_)
  · skip
    refine lv_iconst (v := 0) hx hb d_Mo_wall_74 (by decide) ?_
    refine lv_istore (lv' := [(5, .int 0), (0, .ref m0), (1, .int x), (2, .int y), (3, .int z), (4, .int v)]) hx hb d_Mo_wall_75 hl (by decide) rfl (fun ls hl => ?_)
    refine lv_iload hx hb d_Mo_wall_77 (lv_at hl 0 rfl) ?_
    refine lv_if_ne (tgt := 84) hx hb d_Mo_wall_79 (by decide) (fun c_79 => ?_) (fun c_79 => ?_)
    · skip
      exact absurd rfl c_79
    · skip
      refine lv_iconst (v := (-1)) hx hb d_Mo_wall_82 (by decide) ?_
      have hP9 := hP.sub (ws' := [(m0, .inr (5, [.int 0, .ref z1, .ref z2, .int nv, .ref z3, .ref z4, .int ns, .ref z5, .ref z6, .ref z7, .ref z8, .int nw, .ref z9, .ref z10, .ref z11, .ref z12, .ref z13, .ref z14, .ref z15, .ref z16, .int gv, .int gs, .int gw, .int nb, .int sd, .ref z17, .ref z18, .ref z19, .ref z20, .ref z21, .int nt, .ref z22, .ref z23, .ref z24, .int nk, .int fs])), (z5, .inl (cI, 64, .inl fa)), (z6, .inl (cI, 64, .inl tb)), (z7, .inl (cI, 64, .inl fr)), (z8, .inl (cI, 64, .inl bk))]) [0, 1, 2, 3, 4] rfl
      have hD9 := hD.sub (ws' := [(m0, .inr (5, [.int 0, .ref z1, .ref z2, .int nv, .ref z3, .ref z4, .int ns, .ref z5, .ref z6, .ref z7, .ref z8, .int nw, .ref z9, .ref z10, .ref z11, .ref z12, .ref z13, .ref z14, .ref z15, .ref z16, .int gv, .int gs, .int gw, .int nb, .int sd, .ref z17, .ref z18, .ref z19, .ref z20, .ref z21, .int nt, .ref z22, .ref z23, .ref z24, .int nk, .int fs])), (z5, .inl (cI, 64, .inl fa)), (z6, .inl (cI, 64, .inl tb)), (z7, .inl (cI, 64, .inl fr)), (z8, .inl (cI, 64, .inl bk))]) [0, 1, 2, 3, 4] (by decide) rfl
      exact W.iret (v := (-1)) hx hb hr (fun T9 hT9 hW9 => ⟨⟨(-1), (nw, fa, tb, fr, bk), rfl, by simp [c_6, c_79, Int32.add_sub_cancel], by rw [hT9]; exact hP9, hD9⟩, hS.F hT9⟩) hS.2.2 d_Mo_wall_83
  · skip
    refine lv_iload_n hx hb d_Mo_wall_9 rfl (lv_at hl 1 rfl) ?_
    refine lv_aload_n hx hb d_Mo_wall_10 rfl (lv_at hl 0 rfl) ?_
    refine va_get (D := D) (ci := 5) (v := .int nv) (C := R_Mo) (T := F_Mo) (N := 36) hx hb hw ku_Mo hown hK hP 0 rfl rfl 3 (by decide) (hw _ kw_c5d0a9ee) (fun _ h9 => h9) rfl d_Mo_wall_11 ?_
    refine lv_icmp_ge (tgt := 74) hx hb d_Mo_wall_14 (by decide) (fun c_14 => ?_) (fun c_14 => ?_)
    · skip
      refine lv_iconst (v := 0) hx hb d_Mo_wall_74 (by decide) ?_
      refine lv_istore (lv' := [(5, .int 0), (0, .ref m0), (1, .int x), (2, .int y), (3, .int z), (4, .int v)]) hx hb d_Mo_wall_75 hl (by decide) rfl (fun ls hl => ?_)
      refine lv_iload hx hb d_Mo_wall_77 (lv_at hl 0 rfl) ?_
      refine lv_if_ne (tgt := 84) hx hb d_Mo_wall_79 (by decide) (fun c_79 => ?_) (fun c_79 => ?_)
      · skip
        exact absurd rfl c_79
      · skip
        refine lv_iconst (v := (-1)) hx hb d_Mo_wall_82 (by decide) ?_
        have hP9 := hP.sub (ws' := [(m0, .inr (5, [.int 0, .ref z1, .ref z2, .int nv, .ref z3, .ref z4, .int ns, .ref z5, .ref z6, .ref z7, .ref z8, .int nw, .ref z9, .ref z10, .ref z11, .ref z12, .ref z13, .ref z14, .ref z15, .ref z16, .int gv, .int gs, .int gw, .int nb, .int sd, .ref z17, .ref z18, .ref z19, .ref z20, .ref z21, .int nt, .ref z22, .ref z23, .ref z24, .int nk, .int fs])), (z5, .inl (cI, 64, .inl fa)), (z6, .inl (cI, 64, .inl tb)), (z7, .inl (cI, 64, .inl fr)), (z8, .inl (cI, 64, .inl bk))]) [0, 1, 2, 3, 4] rfl
        have hD9 := hD.sub (ws' := [(m0, .inr (5, [.int 0, .ref z1, .ref z2, .int nv, .ref z3, .ref z4, .int ns, .ref z5, .ref z6, .ref z7, .ref z8, .int nw, .ref z9, .ref z10, .ref z11, .ref z12, .ref z13, .ref z14, .ref z15, .ref z16, .int gv, .int gs, .int gw, .int nb, .int sd, .ref z17, .ref z18, .ref z19, .ref z20, .ref z21, .int nt, .ref z22, .ref z23, .ref z24, .int nk, .int fs])), (z5, .inl (cI, 64, .inl fa)), (z6, .inl (cI, 64, .inl tb)), (z7, .inl (cI, 64, .inl fr)), (z8, .inl (cI, 64, .inl bk))]) [0, 1, 2, 3, 4] (by decide) rfl
        exact W.iret (v := (-1)) hx hb hr (fun T9 hT9 hW9 => ⟨⟨(-1), (nw, fa, tb, fr, bk), rfl, by simp [c_6, c_14, c_79, Int32.add_sub_cancel], by rw [hT9]; exact hP9, hD9⟩, hS.F hT9⟩) hS.2.2 d_Mo_wall_83
    · skip
      refine lv_iload_n hx hb d_Mo_wall_17 rfl (lv_at hl 2 rfl) ?_
      refine lv_if_lt (tgt := 74) hx hb d_Mo_wall_18 (by decide) (fun c_18 => ?_) (fun c_18 => ?_)
      · skip
        refine lv_iconst (v := 0) hx hb d_Mo_wall_74 (by decide) ?_
        refine lv_istore (lv' := [(5, .int 0), (0, .ref m0), (1, .int x), (2, .int y), (3, .int z), (4, .int v)]) hx hb d_Mo_wall_75 hl (by decide) rfl (fun ls hl => ?_)
        refine lv_iload hx hb d_Mo_wall_77 (lv_at hl 0 rfl) ?_
        refine lv_if_ne (tgt := 84) hx hb d_Mo_wall_79 (by decide) (fun c_79 => ?_) (fun c_79 => ?_)
        · skip
          exact absurd rfl c_79
        · skip
          refine lv_iconst (v := (-1)) hx hb d_Mo_wall_82 (by decide) ?_
          have hP9 := hP.sub (ws' := [(m0, .inr (5, [.int 0, .ref z1, .ref z2, .int nv, .ref z3, .ref z4, .int ns, .ref z5, .ref z6, .ref z7, .ref z8, .int nw, .ref z9, .ref z10, .ref z11, .ref z12, .ref z13, .ref z14, .ref z15, .ref z16, .int gv, .int gs, .int gw, .int nb, .int sd, .ref z17, .ref z18, .ref z19, .ref z20, .ref z21, .int nt, .ref z22, .ref z23, .ref z24, .int nk, .int fs])), (z5, .inl (cI, 64, .inl fa)), (z6, .inl (cI, 64, .inl tb)), (z7, .inl (cI, 64, .inl fr)), (z8, .inl (cI, 64, .inl bk))]) [0, 1, 2, 3, 4] rfl
          have hD9 := hD.sub (ws' := [(m0, .inr (5, [.int 0, .ref z1, .ref z2, .int nv, .ref z3, .ref z4, .int ns, .ref z5, .ref z6, .ref z7, .ref z8, .int nw, .ref z9, .ref z10, .ref z11, .ref z12, .ref z13, .ref z14, .ref z15, .ref z16, .int gv, .int gs, .int gw, .int nb, .int sd, .ref z17, .ref z18, .ref z19, .ref z20, .ref z21, .int nt, .ref z22, .ref z23, .ref z24, .int nk, .int fs])), (z5, .inl (cI, 64, .inl fa)), (z6, .inl (cI, 64, .inl tb)), (z7, .inl (cI, 64, .inl fr)), (z8, .inl (cI, 64, .inl bk))]) [0, 1, 2, 3, 4] (by decide) rfl
          exact W.iret (v := (-1)) hx hb hr (fun T9 hT9 hW9 => ⟨⟨(-1), (nw, fa, tb, fr, bk), rfl, by simp [c_6, c_14, c_18, c_79, Int32.add_sub_cancel], by rw [hT9]; exact hP9, hD9⟩, hS.F hT9⟩) hS.2.2 d_Mo_wall_83
      · skip
        refine lv_iload_n hx hb d_Mo_wall_21 rfl (lv_at hl 2 rfl) ?_
        refine lv_aload_n hx hb d_Mo_wall_22 rfl (lv_at hl 0 rfl) ?_
        refine va_get (D := D) (ci := 5) (v := .int nv) (C := R_Mo) (T := F_Mo) (N := 36) hx hb hw ku_Mo hown hK hP 0 rfl rfl 3 (by decide) (hw _ kw_c5d0a9ee) (fun _ h9 => h9) rfl d_Mo_wall_23 ?_
        refine lv_icmp_ge (tgt := 74) hx hb d_Mo_wall_26 (by decide) (fun c_26 => ?_) (fun c_26 => ?_)
        · skip
          refine lv_iconst (v := 0) hx hb d_Mo_wall_74 (by decide) ?_
          refine lv_istore (lv' := [(5, .int 0), (0, .ref m0), (1, .int x), (2, .int y), (3, .int z), (4, .int v)]) hx hb d_Mo_wall_75 hl (by decide) rfl (fun ls hl => ?_)
          refine lv_iload hx hb d_Mo_wall_77 (lv_at hl 0 rfl) ?_
          refine lv_if_ne (tgt := 84) hx hb d_Mo_wall_79 (by decide) (fun c_79 => ?_) (fun c_79 => ?_)
          · skip
            exact absurd rfl c_79
          · skip
            refine lv_iconst (v := (-1)) hx hb d_Mo_wall_82 (by decide) ?_
            have hP9 := hP.sub (ws' := [(m0, .inr (5, [.int 0, .ref z1, .ref z2, .int nv, .ref z3, .ref z4, .int ns, .ref z5, .ref z6, .ref z7, .ref z8, .int nw, .ref z9, .ref z10, .ref z11, .ref z12, .ref z13, .ref z14, .ref z15, .ref z16, .int gv, .int gs, .int gw, .int nb, .int sd, .ref z17, .ref z18, .ref z19, .ref z20, .ref z21, .int nt, .ref z22, .ref z23, .ref z24, .int nk, .int fs])), (z5, .inl (cI, 64, .inl fa)), (z6, .inl (cI, 64, .inl tb)), (z7, .inl (cI, 64, .inl fr)), (z8, .inl (cI, 64, .inl bk))]) [0, 1, 2, 3, 4] rfl
            have hD9 := hD.sub (ws' := [(m0, .inr (5, [.int 0, .ref z1, .ref z2, .int nv, .ref z3, .ref z4, .int ns, .ref z5, .ref z6, .ref z7, .ref z8, .int nw, .ref z9, .ref z10, .ref z11, .ref z12, .ref z13, .ref z14, .ref z15, .ref z16, .int gv, .int gs, .int gw, .int nb, .int sd, .ref z17, .ref z18, .ref z19, .ref z20, .ref z21, .int nt, .ref z22, .ref z23, .ref z24, .int nk, .int fs])), (z5, .inl (cI, 64, .inl fa)), (z6, .inl (cI, 64, .inl tb)), (z7, .inl (cI, 64, .inl fr)), (z8, .inl (cI, 64, .inl bk))]) [0, 1, 2, 3, 4] (by decide) rfl
            exact W.iret (v := (-1)) hx hb hr (fun T9 hT9 hW9 => ⟨⟨(-1), (nw, fa, tb, fr, bk), rfl, by simp [c_6, c_14, c_18, c_26, c_79, Int32.add_sub_cancel], by rw [hT9]; exact hP9, hD9⟩, hS.F hT9⟩) hS.2.2 d_Mo_wall_83
        · skip
          refine lv_iload_n hx hb d_Mo_wall_29 rfl (lv_at hl 1 rfl) ?_
          refine lv_iload_n hx hb d_Mo_wall_30 rfl (lv_at hl 2 rfl) ?_
          refine lv_icmp_eq (tgt := 74) hx hb d_Mo_wall_31 (by decide) (fun c_31 => ?_) (fun c_31 => ?_)
          · skip
            refine lv_iconst (v := 0) hx hb d_Mo_wall_74 (by decide) ?_
            refine lv_istore (lv' := [(5, .int 0), (0, .ref m0), (1, .int x), (2, .int y), (3, .int z), (4, .int v)]) hx hb d_Mo_wall_75 hl (by decide) rfl (fun ls hl => ?_)
            refine lv_iload hx hb d_Mo_wall_77 (lv_at hl 0 rfl) ?_
            refine lv_if_ne (tgt := 84) hx hb d_Mo_wall_79 (by decide) (fun c_79 => ?_) (fun c_79 => ?_)
            · skip
              exact absurd rfl c_79
            · skip
              refine lv_iconst (v := (-1)) hx hb d_Mo_wall_82 (by decide) ?_
              have hP9 := hP.sub (ws' := [(m0, .inr (5, [.int 0, .ref z1, .ref z2, .int nv, .ref z3, .ref z4, .int ns, .ref z5, .ref z6, .ref z7, .ref z8, .int nw, .ref z9, .ref z10, .ref z11, .ref z12, .ref z13, .ref z14, .ref z15, .ref z16, .int gv, .int gs, .int gw, .int nb, .int sd, .ref z17, .ref z18, .ref z19, .ref z20, .ref z21, .int nt, .ref z22, .ref z23, .ref z24, .int nk, .int fs])), (z5, .inl (cI, 64, .inl fa)), (z6, .inl (cI, 64, .inl tb)), (z7, .inl (cI, 64, .inl fr)), (z8, .inl (cI, 64, .inl bk))]) [0, 1, 2, 3, 4] rfl
              have hD9 := hD.sub (ws' := [(m0, .inr (5, [.int 0, .ref z1, .ref z2, .int nv, .ref z3, .ref z4, .int ns, .ref z5, .ref z6, .ref z7, .ref z8, .int nw, .ref z9, .ref z10, .ref z11, .ref z12, .ref z13, .ref z14, .ref z15, .ref z16, .int gv, .int gs, .int gw, .int nb, .int sd, .ref z17, .ref z18, .ref z19, .ref z20, .ref z21, .int nt, .ref z22, .ref z23, .ref z24, .int nk, .int fs])), (z5, .inl (cI, 64, .inl fa)), (z6, .inl (cI, 64, .inl tb)), (z7, .inl (cI, 64, .inl fr)), (z8, .inl (cI, 64, .inl bk))]) [0, 1, 2, 3, 4] (by decide) rfl
              exact W.iret (v := (-1)) hx hb hr (fun T9 hT9 hW9 => ⟨⟨(-1), (nw, fa, tb, fr, bk), rfl, by simp [c_6, c_14, c_18, c_26, c_31, c_79, Int32.add_sub_cancel], by rw [hT9]; exact hP9, hD9⟩, hS.F hT9⟩) hS.2.2 d_Mo_wall_83
          · skip
            refine lv_iload_n hx hb d_Mo_wall_34 rfl (lv_at hl 3 rfl) ?_
            refine lv_if_lt (tgt := 74) hx hb d_Mo_wall_35 (by decide) (fun c_35 => ?_) (fun c_35 => ?_)
            · skip
              refine lv_iconst (v := 0) hx hb d_Mo_wall_74 (by decide) ?_
              refine lv_istore (lv' := [(5, .int 0), (0, .ref m0), (1, .int x), (2, .int y), (3, .int z), (4, .int v)]) hx hb d_Mo_wall_75 hl (by decide) rfl (fun ls hl => ?_)
              refine lv_iload hx hb d_Mo_wall_77 (lv_at hl 0 rfl) ?_
              refine lv_if_ne (tgt := 84) hx hb d_Mo_wall_79 (by decide) (fun c_79 => ?_) (fun c_79 => ?_)
              · skip
                exact absurd rfl c_79
              · skip
                refine lv_iconst (v := (-1)) hx hb d_Mo_wall_82 (by decide) ?_
                have hP9 := hP.sub (ws' := [(m0, .inr (5, [.int 0, .ref z1, .ref z2, .int nv, .ref z3, .ref z4, .int ns, .ref z5, .ref z6, .ref z7, .ref z8, .int nw, .ref z9, .ref z10, .ref z11, .ref z12, .ref z13, .ref z14, .ref z15, .ref z16, .int gv, .int gs, .int gw, .int nb, .int sd, .ref z17, .ref z18, .ref z19, .ref z20, .ref z21, .int nt, .ref z22, .ref z23, .ref z24, .int nk, .int fs])), (z5, .inl (cI, 64, .inl fa)), (z6, .inl (cI, 64, .inl tb)), (z7, .inl (cI, 64, .inl fr)), (z8, .inl (cI, 64, .inl bk))]) [0, 1, 2, 3, 4] rfl
                have hD9 := hD.sub (ws' := [(m0, .inr (5, [.int 0, .ref z1, .ref z2, .int nv, .ref z3, .ref z4, .int ns, .ref z5, .ref z6, .ref z7, .ref z8, .int nw, .ref z9, .ref z10, .ref z11, .ref z12, .ref z13, .ref z14, .ref z15, .ref z16, .int gv, .int gs, .int gw, .int nb, .int sd, .ref z17, .ref z18, .ref z19, .ref z20, .ref z21, .int nt, .ref z22, .ref z23, .ref z24, .int nk, .int fs])), (z5, .inl (cI, 64, .inl fa)), (z6, .inl (cI, 64, .inl tb)), (z7, .inl (cI, 64, .inl fr)), (z8, .inl (cI, 64, .inl bk))]) [0, 1, 2, 3, 4] (by decide) rfl
                exact W.iret (v := (-1)) hx hb hr (fun T9 hT9 hW9 => ⟨⟨(-1), (nw, fa, tb, fr, bk), rfl, by simp [c_6, c_14, c_18, c_26, c_31, c_35, c_79, Int32.add_sub_cancel], by rw [hT9]; exact hP9, hD9⟩, hS.F hT9⟩) hS.2.2 d_Mo_wall_83
            · skip
              refine lv_iload_n hx hb d_Mo_wall_38 rfl (lv_at hl 3 rfl) ?_
              refine lv_aload_n hx hb d_Mo_wall_39 rfl (lv_at hl 0 rfl) ?_
              refine va_get (D := D) (ci := 5) (v := .int ns) (C := R_Mo) (T := F_Mo) (N := 36) hx hb hw ku_Mo hown hK hP 0 rfl rfl 6 (by decide) (hw _ kw_4cfe8336) (fun _ h9 => h9) rfl d_Mo_wall_40 ?_
              refine lv_icmp_ge (tgt := 74) hx hb d_Mo_wall_43 (by decide) (fun c_43 => ?_) (fun c_43 => ?_)
              · skip
                refine lv_iconst (v := 0) hx hb d_Mo_wall_74 (by decide) ?_
                refine lv_istore (lv' := [(5, .int 0), (0, .ref m0), (1, .int x), (2, .int y), (3, .int z), (4, .int v)]) hx hb d_Mo_wall_75 hl (by decide) rfl (fun ls hl => ?_)
                refine lv_iload hx hb d_Mo_wall_77 (lv_at hl 0 rfl) ?_
                refine lv_if_ne (tgt := 84) hx hb d_Mo_wall_79 (by decide) (fun c_79 => ?_) (fun c_79 => ?_)
                · skip
                  exact absurd rfl c_79
                · skip
                  refine lv_iconst (v := (-1)) hx hb d_Mo_wall_82 (by decide) ?_
                  have hP9 := hP.sub (ws' := [(m0, .inr (5, [.int 0, .ref z1, .ref z2, .int nv, .ref z3, .ref z4, .int ns, .ref z5, .ref z6, .ref z7, .ref z8, .int nw, .ref z9, .ref z10, .ref z11, .ref z12, .ref z13, .ref z14, .ref z15, .ref z16, .int gv, .int gs, .int gw, .int nb, .int sd, .ref z17, .ref z18, .ref z19, .ref z20, .ref z21, .int nt, .ref z22, .ref z23, .ref z24, .int nk, .int fs])), (z5, .inl (cI, 64, .inl fa)), (z6, .inl (cI, 64, .inl tb)), (z7, .inl (cI, 64, .inl fr)), (z8, .inl (cI, 64, .inl bk))]) [0, 1, 2, 3, 4] rfl
                  have hD9 := hD.sub (ws' := [(m0, .inr (5, [.int 0, .ref z1, .ref z2, .int nv, .ref z3, .ref z4, .int ns, .ref z5, .ref z6, .ref z7, .ref z8, .int nw, .ref z9, .ref z10, .ref z11, .ref z12, .ref z13, .ref z14, .ref z15, .ref z16, .int gv, .int gs, .int gw, .int nb, .int sd, .ref z17, .ref z18, .ref z19, .ref z20, .ref z21, .int nt, .ref z22, .ref z23, .ref z24, .int nk, .int fs])), (z5, .inl (cI, 64, .inl fa)), (z6, .inl (cI, 64, .inl tb)), (z7, .inl (cI, 64, .inl fr)), (z8, .inl (cI, 64, .inl bk))]) [0, 1, 2, 3, 4] (by decide) rfl
                  exact W.iret (v := (-1)) hx hb hr (fun T9 hT9 hW9 => ⟨⟨(-1), (nw, fa, tb, fr, bk), rfl, by simp [c_6, c_14, c_18, c_26, c_31, c_35, c_43, c_79, Int32.add_sub_cancel], by rw [hT9]; exact hP9, hD9⟩, hS.F hT9⟩) hS.2.2 d_Mo_wall_83
              · skip
                refine lv_iload hx hb d_Mo_wall_46 (lv_at hl 4 rfl) ?_
                refine lv_iconst (v := (-1)) hx hb d_Mo_wall_48 (by decide) ?_
                refine lv_icmp_lt (tgt := 74) hx hb d_Mo_wall_49 (by decide) (fun c_49 => ?_) (fun c_49 => ?_)
                · skip
                  refine lv_iconst (v := 0) hx hb d_Mo_wall_74 (by decide) ?_
                  refine lv_istore (lv' := [(5, .int 0), (0, .ref m0), (1, .int x), (2, .int y), (3, .int z), (4, .int v)]) hx hb d_Mo_wall_75 hl (by decide) rfl (fun ls hl => ?_)
                  refine lv_iload hx hb d_Mo_wall_77 (lv_at hl 0 rfl) ?_
                  refine lv_if_ne (tgt := 84) hx hb d_Mo_wall_79 (by decide) (fun c_79 => ?_) (fun c_79 => ?_)
                  · skip
                    exact absurd rfl c_79
                  · skip
                    refine lv_iconst (v := (-1)) hx hb d_Mo_wall_82 (by decide) ?_
                    have hP9 := hP.sub (ws' := [(m0, .inr (5, [.int 0, .ref z1, .ref z2, .int nv, .ref z3, .ref z4, .int ns, .ref z5, .ref z6, .ref z7, .ref z8, .int nw, .ref z9, .ref z10, .ref z11, .ref z12, .ref z13, .ref z14, .ref z15, .ref z16, .int gv, .int gs, .int gw, .int nb, .int sd, .ref z17, .ref z18, .ref z19, .ref z20, .ref z21, .int nt, .ref z22, .ref z23, .ref z24, .int nk, .int fs])), (z5, .inl (cI, 64, .inl fa)), (z6, .inl (cI, 64, .inl tb)), (z7, .inl (cI, 64, .inl fr)), (z8, .inl (cI, 64, .inl bk))]) [0, 1, 2, 3, 4] rfl
                    have hD9 := hD.sub (ws' := [(m0, .inr (5, [.int 0, .ref z1, .ref z2, .int nv, .ref z3, .ref z4, .int ns, .ref z5, .ref z6, .ref z7, .ref z8, .int nw, .ref z9, .ref z10, .ref z11, .ref z12, .ref z13, .ref z14, .ref z15, .ref z16, .int gv, .int gs, .int gw, .int nb, .int sd, .ref z17, .ref z18, .ref z19, .ref z20, .ref z21, .int nt, .ref z22, .ref z23, .ref z24, .int nk, .int fs])), (z5, .inl (cI, 64, .inl fa)), (z6, .inl (cI, 64, .inl tb)), (z7, .inl (cI, 64, .inl fr)), (z8, .inl (cI, 64, .inl bk))]) [0, 1, 2, 3, 4] (by decide) rfl
                    exact W.iret (v := (-1)) hx hb hr (fun T9 hT9 hW9 => ⟨⟨(-1), (nw, fa, tb, fr, bk), rfl, by simp [c_6, c_14, c_18, c_26, c_31, c_35, c_43, c_49, c_79, Int32.add_sub_cancel], by rw [hT9]; exact hP9, hD9⟩, hS.F hT9⟩) hS.2.2 d_Mo_wall_83
                · skip
                  refine lv_iload hx hb d_Mo_wall_52 (lv_at hl 4 rfl) ?_
                  refine lv_aload_n hx hb d_Mo_wall_54 rfl (lv_at hl 0 rfl) ?_
                  refine va_get (D := D) (ci := 5) (v := .int ns) (C := R_Mo) (T := F_Mo) (N := 36) hx hb hw ku_Mo hown hK hP 0 rfl rfl 6 (by decide) (hw _ kw_4cfe8336) (fun _ h9 => h9) rfl d_Mo_wall_55 ?_
                  refine lv_icmp_ge (tgt := 74) hx hb d_Mo_wall_58 (by decide) (fun c_58 => ?_) (fun c_58 => ?_)
                  · skip
                    refine lv_iconst (v := 0) hx hb d_Mo_wall_74 (by decide) ?_
                    refine lv_istore (lv' := [(5, .int 0), (0, .ref m0), (1, .int x), (2, .int y), (3, .int z), (4, .int v)]) hx hb d_Mo_wall_75 hl (by decide) rfl (fun ls hl => ?_)
                    refine lv_iload hx hb d_Mo_wall_77 (lv_at hl 0 rfl) ?_
                    refine lv_if_ne (tgt := 84) hx hb d_Mo_wall_79 (by decide) (fun c_79 => ?_) (fun c_79 => ?_)
                    · skip
                      exact absurd rfl c_79
                    · skip
                      refine lv_iconst (v := (-1)) hx hb d_Mo_wall_82 (by decide) ?_
                      have hP9 := hP.sub (ws' := [(m0, .inr (5, [.int 0, .ref z1, .ref z2, .int nv, .ref z3, .ref z4, .int ns, .ref z5, .ref z6, .ref z7, .ref z8, .int nw, .ref z9, .ref z10, .ref z11, .ref z12, .ref z13, .ref z14, .ref z15, .ref z16, .int gv, .int gs, .int gw, .int nb, .int sd, .ref z17, .ref z18, .ref z19, .ref z20, .ref z21, .int nt, .ref z22, .ref z23, .ref z24, .int nk, .int fs])), (z5, .inl (cI, 64, .inl fa)), (z6, .inl (cI, 64, .inl tb)), (z7, .inl (cI, 64, .inl fr)), (z8, .inl (cI, 64, .inl bk))]) [0, 1, 2, 3, 4] rfl
                      have hD9 := hD.sub (ws' := [(m0, .inr (5, [.int 0, .ref z1, .ref z2, .int nv, .ref z3, .ref z4, .int ns, .ref z5, .ref z6, .ref z7, .ref z8, .int nw, .ref z9, .ref z10, .ref z11, .ref z12, .ref z13, .ref z14, .ref z15, .ref z16, .int gv, .int gs, .int gw, .int nb, .int sd, .ref z17, .ref z18, .ref z19, .ref z20, .ref z21, .int nt, .ref z22, .ref z23, .ref z24, .int nk, .int fs])), (z5, .inl (cI, 64, .inl fa)), (z6, .inl (cI, 64, .inl tb)), (z7, .inl (cI, 64, .inl fr)), (z8, .inl (cI, 64, .inl bk))]) [0, 1, 2, 3, 4] (by decide) rfl
                      exact W.iret (v := (-1)) hx hb hr (fun T9 hT9 hW9 => ⟨⟨(-1), (nw, fa, tb, fr, bk), rfl, by simp [c_6, c_14, c_18, c_26, c_31, c_35, c_43, c_49, c_58, c_79, Int32.add_sub_cancel], by rw [hT9]; exact hP9, hD9⟩, hS.F hT9⟩) hS.2.2 d_Mo_wall_83
                  · skip
                    refine lv_aload_n hx hb d_Mo_wall_61 rfl (lv_at hl 0 rfl) ?_
                    refine va_get (D := D) (ci := 5) (v := .int nw) (C := R_Mo) (T := F_Mo) (N := 36) hx hb hw ku_Mo hown hK hP 0 rfl rfl 11 (by decide) (hw _ kw_67b13dd9) (fun _ h9 => h9) rfl d_Mo_wall_62 ?_
                    refine lv_bipush (v := 64) hx hb d_Mo_wall_65 (by decide) ?_
                    refine lv_icmp_ge (tgt := 74) hx hb d_Mo_wall_67 (by decide) (fun c_67 => ?_) (fun c_67 => ?_)
                    · skip
                      refine lv_iconst (v := 0) hx hb d_Mo_wall_74 (by decide) ?_
                      refine lv_istore (lv' := [(5, .int 0), (0, .ref m0), (1, .int x), (2, .int y), (3, .int z), (4, .int v)]) hx hb d_Mo_wall_75 hl (by decide) rfl (fun ls hl => ?_)
                      refine lv_iload hx hb d_Mo_wall_77 (lv_at hl 0 rfl) ?_
                      refine lv_if_ne (tgt := 84) hx hb d_Mo_wall_79 (by decide) (fun c_79 => ?_) (fun c_79 => ?_)
                      · skip
                        exact absurd rfl c_79
                      · skip
                        refine lv_iconst (v := (-1)) hx hb d_Mo_wall_82 (by decide) ?_
                        have hP9 := hP.sub (ws' := [(m0, .inr (5, [.int 0, .ref z1, .ref z2, .int nv, .ref z3, .ref z4, .int ns, .ref z5, .ref z6, .ref z7, .ref z8, .int nw, .ref z9, .ref z10, .ref z11, .ref z12, .ref z13, .ref z14, .ref z15, .ref z16, .int gv, .int gs, .int gw, .int nb, .int sd, .ref z17, .ref z18, .ref z19, .ref z20, .ref z21, .int nt, .ref z22, .ref z23, .ref z24, .int nk, .int fs])), (z5, .inl (cI, 64, .inl fa)), (z6, .inl (cI, 64, .inl tb)), (z7, .inl (cI, 64, .inl fr)), (z8, .inl (cI, 64, .inl bk))]) [0, 1, 2, 3, 4] rfl
                        have hD9 := hD.sub (ws' := [(m0, .inr (5, [.int 0, .ref z1, .ref z2, .int nv, .ref z3, .ref z4, .int ns, .ref z5, .ref z6, .ref z7, .ref z8, .int nw, .ref z9, .ref z10, .ref z11, .ref z12, .ref z13, .ref z14, .ref z15, .ref z16, .int gv, .int gs, .int gw, .int nb, .int sd, .ref z17, .ref z18, .ref z19, .ref z20, .ref z21, .int nt, .ref z22, .ref z23, .ref z24, .int nk, .int fs])), (z5, .inl (cI, 64, .inl fa)), (z6, .inl (cI, 64, .inl tb)), (z7, .inl (cI, 64, .inl fr)), (z8, .inl (cI, 64, .inl bk))]) [0, 1, 2, 3, 4] (by decide) rfl
                        exact W.iret (v := (-1)) hx hb hr (fun T9 hT9 hW9 => ⟨⟨(-1), (nw, fa, tb, fr, bk), rfl, by simp [c_6, c_14, c_18, c_26, c_31, c_35, c_43, c_49, c_58, c_67, c_79, Int32.add_sub_cancel], by rw [hT9]; exact hP9, hD9⟩, hS.F hT9⟩) hS.2.2 d_Mo_wall_83
                    · skip
                      refine lv_iconst (v := 1) hx hb d_Mo_wall_70 (by decide) ?_
                      refine lv_goto (tgt := 75) hx hb d_Mo_wall_71 (by decide) ?_
                      refine lv_istore (lv' := [(5, .int 1), (0, .ref m0), (1, .int x), (2, .int y), (3, .int z), (4, .int v)]) hx hb d_Mo_wall_75 hl (by decide) rfl (fun ls hl => ?_)
                      refine lv_iload hx hb d_Mo_wall_77 (lv_at hl 0 rfl) ?_
                      refine lv_if_ne (tgt := 84) hx hb d_Mo_wall_79 (by decide) (fun c_79 => ?_) (fun c_79 => ?_)
                      · skip
                        have hin1 : vp_in nw 64 := sw_okin hn c_67
                        refine lv_aload_n hx hb d_Mo_wall_84 rfl (lv_at hl 1 rfl) ?_
                        refine va_get (D := D) (ci := 5) (v := .ref z5) (C := R_Mo) (T := F_Mo) (N := 36) hx hb hw ku_Mo hown hK hP 0 rfl rfl 7 (by decide) (hw _ kw_67c6da3e) (fun _ h9 => h9) rfl d_Mo_wall_85 ?_
                        refine lv_aload_n hx hb d_Mo_wall_88 rfl (lv_at hl 1 rfl) ?_
                        refine va_get (D := D) (ci := 5) (v := .int nw) (C := R_Mo) (T := F_Mo) (N := 36) hx hb hw ku_Mo hown hK hP 0 rfl rfl 11 (by decide) (hw _ kw_67b13dd9) (fun _ h9 => h9) rfl d_Mo_wall_89 ?_
                        refine lv_iload_n hx hb d_Mo_wall_92 rfl (lv_at hl 2 rfl) ?_
                        refine va_iast hx hb hK hP hD hS 1 0 rfl rfl (by assumption) d_Mo_wall_93 (fun H locs hP hD hS => ?_)
                        replace hP : va_P D sw_cl [(m0, .inr (5, [.int 0, .ref z1, .ref z2, .int nv, .ref z3, .ref z4, .int ns, .ref z5, .ref z6, .ref z7, .ref z8, .int nw, .ref z9, .ref z10, .ref z11, .ref z12, .ref z13, .ref z14, .ref z15, .ref z16, .int gv, .int gs, .int gw, .int nb, .int sd, .ref z17, .ref z18, .ref z19, .ref z20, .ref z21, .int nt, .ref z22, .ref z23, .ref z24, .int nk, .int fs])), (z5, .inl (cI, 64, .inl (upd fa nw.toNatClampNeg x))), (z6, .inl (cI, 64, .inl tb)), (z7, .inl (cI, 64, .inl fr)), (z8, .inl (cI, 64, .inl bk))] H := hP
                        replace hD : va_D A [(m0, .inr (5, [.int 0, .ref z1, .ref z2, .int nv, .ref z3, .ref z4, .int ns, .ref z5, .ref z6, .ref z7, .ref z8, .int nw, .ref z9, .ref z10, .ref z11, .ref z12, .ref z13, .ref z14, .ref z15, .ref z16, .int gv, .int gs, .int gw, .int nb, .int sd, .ref z17, .ref z18, .ref z19, .ref z20, .ref z21, .int nt, .ref z22, .ref z23, .ref z24, .int nk, .int fs])), (z5, .inl (cI, 64, .inl (upd fa nw.toNatClampNeg x))), (z6, .inl (cI, 64, .inl tb)), (z7, .inl (cI, 64, .inl fr)), (z8, .inl (cI, 64, .inl bk))] := hD
                        refine lv_aload_n hx hb d_Mo_wall_94 rfl (lv_at hl 1 rfl) ?_
                        refine va_get (D := D) (ci := 5) (v := .ref z6) (C := R_Mo) (T := F_Mo) (N := 36) hx hb hw ku_Mo hown hK hP 0 rfl rfl 8 (by decide) (hw _ kw_f2a9401b) (fun _ h9 => h9) rfl d_Mo_wall_95 ?_
                        refine lv_aload_n hx hb d_Mo_wall_98 rfl (lv_at hl 1 rfl) ?_
                        refine va_get (D := D) (ci := 5) (v := .int nw) (C := R_Mo) (T := F_Mo) (N := 36) hx hb hw ku_Mo hown hK hP 0 rfl rfl 11 (by decide) (hw _ kw_67b13dd9) (fun _ h9 => h9) rfl d_Mo_wall_99 ?_
                        refine lv_iload_n hx hb d_Mo_wall_102 rfl (lv_at hl 3 rfl) ?_
                        refine va_iast hx hb hK hP hD hS 2 0 rfl rfl (by assumption) d_Mo_wall_103 (fun H locs hP hD hS => ?_)
                        replace hP : va_P D sw_cl [(m0, .inr (5, [.int 0, .ref z1, .ref z2, .int nv, .ref z3, .ref z4, .int ns, .ref z5, .ref z6, .ref z7, .ref z8, .int nw, .ref z9, .ref z10, .ref z11, .ref z12, .ref z13, .ref z14, .ref z15, .ref z16, .int gv, .int gs, .int gw, .int nb, .int sd, .ref z17, .ref z18, .ref z19, .ref z20, .ref z21, .int nt, .ref z22, .ref z23, .ref z24, .int nk, .int fs])), (z5, .inl (cI, 64, .inl (upd fa nw.toNatClampNeg x))), (z6, .inl (cI, 64, .inl (upd tb nw.toNatClampNeg y))), (z7, .inl (cI, 64, .inl fr)), (z8, .inl (cI, 64, .inl bk))] H := hP
                        replace hD : va_D A [(m0, .inr (5, [.int 0, .ref z1, .ref z2, .int nv, .ref z3, .ref z4, .int ns, .ref z5, .ref z6, .ref z7, .ref z8, .int nw, .ref z9, .ref z10, .ref z11, .ref z12, .ref z13, .ref z14, .ref z15, .ref z16, .int gv, .int gs, .int gw, .int nb, .int sd, .ref z17, .ref z18, .ref z19, .ref z20, .ref z21, .int nt, .ref z22, .ref z23, .ref z24, .int nk, .int fs])), (z5, .inl (cI, 64, .inl (upd fa nw.toNatClampNeg x))), (z6, .inl (cI, 64, .inl (upd tb nw.toNatClampNeg y))), (z7, .inl (cI, 64, .inl fr)), (z8, .inl (cI, 64, .inl bk))] := hD
                        refine lv_aload_n hx hb d_Mo_wall_104 rfl (lv_at hl 1 rfl) ?_
                        refine va_get (D := D) (ci := 5) (v := .ref z7) (C := R_Mo) (T := F_Mo) (N := 36) hx hb hw ku_Mo hown hK hP 0 rfl rfl 9 (by decide) (hw _ kw_c91adaf7) (fun _ h9 => h9) rfl d_Mo_wall_105 ?_
                        refine lv_aload_n hx hb d_Mo_wall_108 rfl (lv_at hl 1 rfl) ?_
                        refine va_get (D := D) (ci := 5) (v := .int nw) (C := R_Mo) (T := F_Mo) (N := 36) hx hb hw ku_Mo hown hK hP 0 rfl rfl 11 (by decide) (hw _ kw_67b13dd9) (fun _ h9 => h9) rfl d_Mo_wall_109 ?_
                        refine lv_iload_n hx hb d_Mo_wall_112 rfl (lv_at hl 4 rfl) ?_
                        refine va_iast hx hb hK hP hD hS 3 0 rfl rfl (by assumption) d_Mo_wall_113 (fun H locs hP hD hS => ?_)
                        replace hP : va_P D sw_cl [(m0, .inr (5, [.int 0, .ref z1, .ref z2, .int nv, .ref z3, .ref z4, .int ns, .ref z5, .ref z6, .ref z7, .ref z8, .int nw, .ref z9, .ref z10, .ref z11, .ref z12, .ref z13, .ref z14, .ref z15, .ref z16, .int gv, .int gs, .int gw, .int nb, .int sd, .ref z17, .ref z18, .ref z19, .ref z20, .ref z21, .int nt, .ref z22, .ref z23, .ref z24, .int nk, .int fs])), (z5, .inl (cI, 64, .inl (upd fa nw.toNatClampNeg x))), (z6, .inl (cI, 64, .inl (upd tb nw.toNatClampNeg y))), (z7, .inl (cI, 64, .inl (upd fr nw.toNatClampNeg z))), (z8, .inl (cI, 64, .inl bk))] H := hP
                        replace hD : va_D A [(m0, .inr (5, [.int 0, .ref z1, .ref z2, .int nv, .ref z3, .ref z4, .int ns, .ref z5, .ref z6, .ref z7, .ref z8, .int nw, .ref z9, .ref z10, .ref z11, .ref z12, .ref z13, .ref z14, .ref z15, .ref z16, .int gv, .int gs, .int gw, .int nb, .int sd, .ref z17, .ref z18, .ref z19, .ref z20, .ref z21, .int nt, .ref z22, .ref z23, .ref z24, .int nk, .int fs])), (z5, .inl (cI, 64, .inl (upd fa nw.toNatClampNeg x))), (z6, .inl (cI, 64, .inl (upd tb nw.toNatClampNeg y))), (z7, .inl (cI, 64, .inl (upd fr nw.toNatClampNeg z))), (z8, .inl (cI, 64, .inl bk))] := hD
                        refine lv_aload_n hx hb d_Mo_wall_114 rfl (lv_at hl 1 rfl) ?_
                        refine va_get (D := D) (ci := 5) (v := .ref z8) (C := R_Mo) (T := F_Mo) (N := 36) hx hb hw ku_Mo hown hK hP 0 rfl rfl 10 (by decide) (hw _ kw_c430f188) (fun _ h9 => h9) rfl d_Mo_wall_115 ?_
                        refine lv_aload_n hx hb d_Mo_wall_118 rfl (lv_at hl 1 rfl) ?_
                        refine va_get (D := D) (ci := 5) (v := .int nw) (C := R_Mo) (T := F_Mo) (N := 36) hx hb hw ku_Mo hown hK hP 0 rfl rfl 11 (by decide) (hw _ kw_67b13dd9) (fun _ h9 => h9) rfl d_Mo_wall_119 ?_
                        refine lv_iload hx hb d_Mo_wall_122 (lv_at hl 5 rfl) ?_
                        refine va_iast hx hb hK hP hD hS 4 0 rfl rfl (by assumption) d_Mo_wall_124 (fun H locs hP hD hS => ?_)
                        replace hP : va_P D sw_cl [(m0, .inr (5, [.int 0, .ref z1, .ref z2, .int nv, .ref z3, .ref z4, .int ns, .ref z5, .ref z6, .ref z7, .ref z8, .int nw, .ref z9, .ref z10, .ref z11, .ref z12, .ref z13, .ref z14, .ref z15, .ref z16, .int gv, .int gs, .int gw, .int nb, .int sd, .ref z17, .ref z18, .ref z19, .ref z20, .ref z21, .int nt, .ref z22, .ref z23, .ref z24, .int nk, .int fs])), (z5, .inl (cI, 64, .inl (upd fa nw.toNatClampNeg x))), (z6, .inl (cI, 64, .inl (upd tb nw.toNatClampNeg y))), (z7, .inl (cI, 64, .inl (upd fr nw.toNatClampNeg z))), (z8, .inl (cI, 64, .inl (upd bk nw.toNatClampNeg v)))] H := hP
                        replace hD : va_D A [(m0, .inr (5, [.int 0, .ref z1, .ref z2, .int nv, .ref z3, .ref z4, .int ns, .ref z5, .ref z6, .ref z7, .ref z8, .int nw, .ref z9, .ref z10, .ref z11, .ref z12, .ref z13, .ref z14, .ref z15, .ref z16, .int gv, .int gs, .int gw, .int nb, .int sd, .ref z17, .ref z18, .ref z19, .ref z20, .ref z21, .int nt, .ref z22, .ref z23, .ref z24, .int nk, .int fs])), (z5, .inl (cI, 64, .inl (upd fa nw.toNatClampNeg x))), (z6, .inl (cI, 64, .inl (upd tb nw.toNatClampNeg y))), (z7, .inl (cI, 64, .inl (upd fr nw.toNatClampNeg z))), (z8, .inl (cI, 64, .inl (upd bk nw.toNatClampNeg v)))] := hD
                        refine lv_aload_n hx hb d_Mo_wall_125 rfl (lv_at hl 1 rfl) ?_
                        refine lv_dup hx hb d_Mo_wall_126 rfl ?_
                        refine va_get (D := D) (ci := 5) (v := .int nw) (C := R_Mo) (T := F_Mo) (N := 36) hx hb hw ku_Mo hown hK hP 0 rfl rfl 11 (by decide) (hw _ kw_67b13dd9) (fun _ h9 => h9) rfl d_Mo_wall_127 ?_
                        refine lv_iconst (v := 1) hx hb d_Mo_wall_130 (by decide) ?_
                        refine lv_iadd hx hb d_Mo_wall_131 ?_
                        refine va_put (D := D) (ci := 5) (v := .int (nw + 1)) (ty := t_Mo 11) (C := R_Mo) (T := F_Mo) (N := 36) hx hb hw ku_Mo t_Mo t_Mo_ok n_Mo hown hK hP hD hS 0 rfl rfl 11 (by decide) (hw _ kw_67b13dd9) (fun _ h9 => h9) rfl (t_Mo_ok 11 (by decide)) rfl rfl (Nat.le_of_ble_eq_true rfl) d_Mo_wall_132 (fun H locs hP hD hS => ?_)
                        replace hP : va_P D sw_cl [(m0, .inr (5, [.int 0, .ref z1, .ref z2, .int nv, .ref z3, .ref z4, .int ns, .ref z5, .ref z6, .ref z7, .ref z8, .int (nw + 1), .ref z9, .ref z10, .ref z11, .ref z12, .ref z13, .ref z14, .ref z15, .ref z16, .int gv, .int gs, .int gw, .int nb, .int sd, .ref z17, .ref z18, .ref z19, .ref z20, .ref z21, .int nt, .ref z22, .ref z23, .ref z24, .int nk, .int fs])), (z5, .inl (cI, 64, .inl (upd fa nw.toNatClampNeg x))), (z6, .inl (cI, 64, .inl (upd tb nw.toNatClampNeg y))), (z7, .inl (cI, 64, .inl (upd fr nw.toNatClampNeg z))), (z8, .inl (cI, 64, .inl (upd bk nw.toNatClampNeg v)))] H := hP
                        replace hD : va_D A [(m0, .inr (5, [.int 0, .ref z1, .ref z2, .int nv, .ref z3, .ref z4, .int ns, .ref z5, .ref z6, .ref z7, .ref z8, .int (nw + 1), .ref z9, .ref z10, .ref z11, .ref z12, .ref z13, .ref z14, .ref z15, .ref z16, .int gv, .int gs, .int gw, .int nb, .int sd, .ref z17, .ref z18, .ref z19, .ref z20, .ref z21, .int nt, .ref z22, .ref z23, .ref z24, .int nk, .int fs])), (z5, .inl (cI, 64, .inl (upd fa nw.toNatClampNeg x))), (z6, .inl (cI, 64, .inl (upd tb nw.toNatClampNeg y))), (z7, .inl (cI, 64, .inl (upd fr nw.toNatClampNeg z))), (z8, .inl (cI, 64, .inl (upd bk nw.toNatClampNeg v)))] := hD
                        refine lv_aload_n hx hb d_Mo_wall_135 rfl (lv_at hl 1 rfl) ?_
                        refine va_get (D := D) (ci := 5) (v := .int (nw + 1)) (C := R_Mo) (T := F_Mo) (N := 36) hx hb hw ku_Mo hown hK hP 0 rfl rfl 11 (by decide) (hw _ kw_67b13dd9) (fun _ h9 => h9) rfl d_Mo_wall_136 ?_
                        refine lv_iconst (v := 1) hx hb d_Mo_wall_139 (by decide) ?_
                        refine lv_isub hx hb d_Mo_wall_140 ?_
                        have hP9 := hP.sub (ws' := [(m0, .inr (5, [.int 0, .ref z1, .ref z2, .int nv, .ref z3, .ref z4, .int ns, .ref z5, .ref z6, .ref z7, .ref z8, .int (nw + 1), .ref z9, .ref z10, .ref z11, .ref z12, .ref z13, .ref z14, .ref z15, .ref z16, .int gv, .int gs, .int gw, .int nb, .int sd, .ref z17, .ref z18, .ref z19, .ref z20, .ref z21, .int nt, .ref z22, .ref z23, .ref z24, .int nk, .int fs])), (z5, .inl (cI, 64, .inl (upd fa nw.toNatClampNeg x))), (z6, .inl (cI, 64, .inl (upd tb nw.toNatClampNeg y))), (z7, .inl (cI, 64, .inl (upd fr nw.toNatClampNeg z))), (z8, .inl (cI, 64, .inl (upd bk nw.toNatClampNeg v)))]) [0, 1, 2, 3, 4] rfl
                        have hD9 := hD.sub (ws' := [(m0, .inr (5, [.int 0, .ref z1, .ref z2, .int nv, .ref z3, .ref z4, .int ns, .ref z5, .ref z6, .ref z7, .ref z8, .int (nw + 1), .ref z9, .ref z10, .ref z11, .ref z12, .ref z13, .ref z14, .ref z15, .ref z16, .int gv, .int gs, .int gw, .int nb, .int sd, .ref z17, .ref z18, .ref z19, .ref z20, .ref z21, .int nt, .ref z22, .ref z23, .ref z24, .int nk, .int fs])), (z5, .inl (cI, 64, .inl (upd fa nw.toNatClampNeg x))), (z6, .inl (cI, 64, .inl (upd tb nw.toNatClampNeg y))), (z7, .inl (cI, 64, .inl (upd fr nw.toNatClampNeg z))), (z8, .inl (cI, 64, .inl (upd bk nw.toNatClampNeg v)))]) [0, 1, 2, 3, 4] (by decide) rfl
                        exact W.iret (v := (nw + 1) - 1) hx hb hr (fun T9 hT9 hW9 => ⟨⟨(nw + 1) - 1, (nw + 1, upd fa nw.toNatClampNeg x, upd tb nw.toNatClampNeg y, upd fr nw.toNatClampNeg z, upd bk nw.toNatClampNeg v), rfl, by simp [c_6, c_14, c_18, c_26, c_31, c_35, c_43, c_49, c_58, c_67, c_79, Int32.add_sub_cancel], by rw [hT9]; exact hP9, hD9⟩, hS.F hT9⟩) hS.2.2 d_Mo_wall_141
                      · skip
                        exact absurd c_79 (by decide)

abbrev rm_Mo_drop : Room := { frames := 0, cells := 0, slots := 0, locals := 0 }
abbrev q_Mo_drop (D : va_G) (cI cL : ClassId) (A : Nat → Prop) (m0 : Nat) (th : Int32) (z1 : Nat) (z2 : Nat) (nv : Int32) (z3 : Nat) (z4 : Nat) (ns : Int32) (z5 : Nat) (z6 : Nat) (z7 : Nat) (z8 : Nat) (nw : Int32) (z9 : Nat) (z10 : Nat) (z11 : Nat) (z12 : Nat) (z13 : Nat) (z14 : Nat) (z15 : Nat) (z16 : Nat) (gv : Int32) (gs : Int32) (gw : Int32) (nb : Int32) (sd : Int32) (z17 : Nat) (z18 : Nat) (z19 : Nat) (z20 : Nat) (z21 : Nat) (nt : Int32) (z22 : Nat) (z23 : Nat) (z24 : Nat) (nk : Int32) (fs : Int32) : Array Value → State → Outcome → State → Prop := va_Qi (S := Int32) (fun (r : Int32) => fun (nw2 : Int32) => r = (sw_b (!(decide (nw = 0)))) ∧ nw2 = (if nw = 0 then nw else nw - 1)) (sw_R D A (fun (nw2 : Int32) => [(m0, .inr (5, [.int 0, .ref z1, .ref z2, .int nv, .ref z3, .ref z4, .int ns, .ref z5, .ref z6, .ref z7, .ref z8, .int nw2, .ref z9, .ref z10, .ref z11, .ref z12, .ref z13, .ref z14, .ref z15, .ref z16, .int gv, .int gs, .int gw, .int nb, .int sd, .ref z17, .ref z18, .ref z19, .ref z20, .ref z21, .int nt, .ref z22, .ref z23, .ref z24, .int nk, .int fs]))])) A
set_option maxHeartbeats 4000000 in
set_option maxRecDepth 100000 in
theorem c_Mo_drop (l : Launch) (D : va_G) (cI cL : ClassId) (tq sz : Nat) (m0 : Nat) (th : Int32) (z1 : Nat) (z2 : Nat) (nv : Int32) (z3 : Nat) (z4 : Nat) (ns : Int32) (z5 : Nat) (z6 : Nat) (z7 : Nat) (z8 : Nat) (nw : Int32) (z9 : Nat) (z10 : Nat) (z11 : Nat) (z12 : Nat) (z13 : Nat) (z14 : Nat) (z15 : Nat) (z16 : Nat) (gv : Int32) (gs : Int32) (gw : Int32) (nb : Int32) (sd : Int32) (z17 : Nat) (z18 : Nat) (z19 : Nat) (z20 : Nat) (z21 : Nat) (nt : Int32) (z22 : Nat) (z23 : Nat) (z24 : Nat) (nk : Int32) (fs : Int32) : Met l y_Mo_drop w_Mo_drop rm_Mo_drop (va_Pc [.ref m0] (sw_B D cI cL tq sz [(m0, .inr (5, [.int th, .ref z1, .ref z2, .int nv, .ref z3, .ref z4, .int ns, .ref z5, .ref z6, .ref z7, .ref z8, .int nw, .ref z9, .ref z10, .ref z11, .ref z12, .ref z13, .ref z14, .ref z15, .ref z16, .int gv, .int gs, .int gw, .int nb, .int sd, .ref z17, .ref z18, .ref z19, .ref z20, .ref z21, .int nt, .ref z22, .ref z23, .ref z24, .int nk, .int fs]))])) (q_Mo_drop D cI cL (va_A [(m0, .inr (5, [.int th, .ref z1, .ref z2, .int nv, .ref z3, .ref z4, .int ns, .ref z5, .ref z6, .ref z7, .ref z8, .int nw, .ref z9, .ref z10, .ref z11, .ref z12, .ref z13, .ref z14, .ref z15, .ref z16, .int gv, .int gs, .int gw, .int nb, .int sd, .ref z17, .ref z18, .ref z19, .ref z20, .ref z21, .int nt, .ref z22, .ref z23, .ref z24, .int nk, .int fs]))] sz) m0 th z1 z2 nv z3 z4 ns z5 z6 z7 z8 nw z9 z10 z11 z12 z13 z14 z15 z16 gv gs gw nb sd z17 z18 z19 z20 z21 nt z22 z23 z24 nk fs) 0 0 (va_A [(m0, .inr (5, [.int th, .ref z1, .ref z2, .int nv, .ref z3, .ref z4, .int ns, .ref z5, .ref z6, .ref z7, .ref z8, .int nw, .ref z9, .ref z10, .ref z11, .ref z12, .ref z13, .ref z14, .ref z15, .ref z16, .int gv, .int gs, .int gw, .int nb, .int sd, .ref z17, .ref z18, .ref z19, .ref z20, .ref z21, .int nt, .ref z22, .ref z23, .ref z24, .int nk, .int fs]))] sz) := by
  refine Met.ofW (cc := b_Mo_drop) (maxL := 1) (ret := (some .boolean)) (by decide) rfl ?_
  intro mp me s mm args below meth mk s₁ B hml hv
  obtain ⟨rfl, hsz, hP, hK, hD0, hG⟩ := hv
  have hx := B.exec
  have hb := B.bytes
  have hr := B.returns
  have hts := atoms_spec (ws := w_Mo_drop) B.pre
  have hw : ∀ w ∈ sw_words, w.before _ s = true := fun w h => hts w (List.mem_cons_of_mem _ h)
  have hown : s.vm.findClass R_Mo = some mm.cls := findClass_of_methodNamed B.named
  have hlocks := B.notSynchronized
  subst hsz
  have hD := hD0.self (sz := s.heap.size)
  generalize hAe : va_A [(m0, .inr (5, [.int th, .ref z1, .ref z2, .int nv, .ref z3, .ref z4, .int ns, .ref z5, .ref z6, .ref z7, .ref z8, .int nw, .ref z9, .ref z10, .ref z11, .ref z12, .ref z13, .ref z14, .ref z15, .ref z16, .int gv, .int gs, .int gw, .int nb, .int sd, .ref z17, .ref z18, .ref z19, .ref z20, .ref z21, .int nt, .ref z22, .ref z23, .ref z24, .int nk, .int fs]))] s.heap.size = A at hD hG ⊢
  have hA : ∀ q : Nat, s.heap.size ≤ q → A q := fun q h => by rw [← hAe]; exact Or.inr h
  have hS : va_S A s.heap s.heap [] := va_S.rf
  have hl := lv_entry ([.ref m0]) (n := 1) (Nat.le_of_ble_eq_true rfl)
  rw [lg_entry_eq]
  generalize (lg_sl ([.ref m0]) ++ List.replicate (1 - (lg_sl ([.ref m0])).length) Slot.unset).toArray = ls at hl ⊢
  have hl : lv_has ls 1 [(0, .ref m0)] := hl
  refine lv_aload_n hx hb d_Mo_drop_0 rfl (lv_at hl 0 rfl) ?_
  refine lv_iconst (v := 0) hx hb d_Mo_drop_1 (by decide) ?_
  refine va_put (D := D) (ci := 5) (v := .int 0) (ty := t_Mo 0) (C := R_Mo) (T := F_Mo) (N := 36) hx hb hw ku_Mo t_Mo t_Mo_ok n_Mo hown hK hP hD hS 0 rfl rfl 0 (by decide) (hw _ kw_38168dc1) (fun _ h9 => h9) rfl (t_Mo_ok 0 (by decide)) rfl rfl (Nat.le_of_ble_eq_true rfl) d_Mo_drop_2 (fun H locs hP hD hS => ?_)
  replace hP : va_P D sw_cl [(m0, .inr (5, [.int 0, .ref z1, .ref z2, .int nv, .ref z3, .ref z4, .int ns, .ref z5, .ref z6, .ref z7, .ref z8, .int nw, .ref z9, .ref z10, .ref z11, .ref z12, .ref z13, .ref z14, .ref z15, .ref z16, .int gv, .int gs, .int gw, .int nb, .int sd, .ref z17, .ref z18, .ref z19, .ref z20, .ref z21, .int nt, .ref z22, .ref z23, .ref z24, .int nk, .int fs]))] H := hP
  replace hD : va_D A [(m0, .inr (5, [.int 0, .ref z1, .ref z2, .int nv, .ref z3, .ref z4, .int ns, .ref z5, .ref z6, .ref z7, .ref z8, .int nw, .ref z9, .ref z10, .ref z11, .ref z12, .ref z13, .ref z14, .ref z15, .ref z16, .int gv, .int gs, .int gw, .int nb, .int sd, .ref z17, .ref z18, .ref z19, .ref z20, .ref z21, .int nt, .ref z22, .ref z23, .ref z24, .int nk, .int fs]))] := hD
  refine lv_aload_n hx hb d_Mo_drop_5 rfl (lv_at hl 0 rfl) ?_
  refine va_get (D := D) (ci := 5) (v := .int nw) (C := R_Mo) (T := F_Mo) (N := 36) hx hb hw ku_Mo hown hK hP 0 rfl rfl 11 (by decide) (hw _ kw_67b13dd9) (fun _ h9 => h9) rfl d_Mo_drop_6 ?_
  refine lv_if_ne (tgt := 14) hx hb d_Mo_drop_9 (by decide) (fun c_9 => ?_) (fun c_9 => ?_)
  · skip
    refine lv_aload_n hx hb d_Mo_drop_14 rfl (lv_at hl 0 rfl) ?_
    refine lv_dup hx hb d_Mo_drop_15 rfl ?_
    refine va_get (D := D) (ci := 5) (v := .int nw) (C := R_Mo) (T := F_Mo) (N := 36) hx hb hw ku_Mo hown hK hP 0 rfl rfl 11 (by decide) (hw _ kw_67b13dd9) (fun _ h9 => h9) rfl d_Mo_drop_16 ?_
    refine lv_iconst (v := 1) hx hb d_Mo_drop_19 (by decide) ?_
    refine lv_isub hx hb d_Mo_drop_20 ?_
    refine va_put (D := D) (ci := 5) (v := .int (nw - 1)) (ty := t_Mo 11) (C := R_Mo) (T := F_Mo) (N := 36) hx hb hw ku_Mo t_Mo t_Mo_ok n_Mo hown hK hP hD hS 0 rfl rfl 11 (by decide) (hw _ kw_67b13dd9) (fun _ h9 => h9) rfl (t_Mo_ok 11 (by decide)) rfl rfl (Nat.le_of_ble_eq_true rfl) d_Mo_drop_21 (fun H locs hP hD hS => ?_)
    replace hP : va_P D sw_cl [(m0, .inr (5, [.int 0, .ref z1, .ref z2, .int nv, .ref z3, .ref z4, .int ns, .ref z5, .ref z6, .ref z7, .ref z8, .int (nw - 1), .ref z9, .ref z10, .ref z11, .ref z12, .ref z13, .ref z14, .ref z15, .ref z16, .int gv, .int gs, .int gw, .int nb, .int sd, .ref z17, .ref z18, .ref z19, .ref z20, .ref z21, .int nt, .ref z22, .ref z23, .ref z24, .int nk, .int fs]))] H := hP
    replace hD : va_D A [(m0, .inr (5, [.int 0, .ref z1, .ref z2, .int nv, .ref z3, .ref z4, .int ns, .ref z5, .ref z6, .ref z7, .ref z8, .int (nw - 1), .ref z9, .ref z10, .ref z11, .ref z12, .ref z13, .ref z14, .ref z15, .ref z16, .int gv, .int gs, .int gw, .int nb, .int sd, .ref z17, .ref z18, .ref z19, .ref z20, .ref z21, .int nt, .ref z22, .ref z23, .ref z24, .int nk, .int fs]))] := hD
    refine lv_iconst (v := 1) hx hb d_Mo_drop_24 (by decide) ?_
    have hP9 := hP.sub (ws' := [(m0, .inr (5, [.int 0, .ref z1, .ref z2, .int nv, .ref z3, .ref z4, .int ns, .ref z5, .ref z6, .ref z7, .ref z8, .int (nw - 1), .ref z9, .ref z10, .ref z11, .ref z12, .ref z13, .ref z14, .ref z15, .ref z16, .int gv, .int gs, .int gw, .int nb, .int sd, .ref z17, .ref z18, .ref z19, .ref z20, .ref z21, .int nt, .ref z22, .ref z23, .ref z24, .int nk, .int fs]))]) [0] rfl
    have hD9 := hD.sub (ws' := [(m0, .inr (5, [.int 0, .ref z1, .ref z2, .int nv, .ref z3, .ref z4, .int ns, .ref z5, .ref z6, .ref z7, .ref z8, .int (nw - 1), .ref z9, .ref z10, .ref z11, .ref z12, .ref z13, .ref z14, .ref z15, .ref z16, .int gv, .int gs, .int gw, .int nb, .int sd, .ref z17, .ref z18, .ref z19, .ref z20, .ref z21, .int nt, .ref z22, .ref z23, .ref z24, .int nk, .int fs]))]) [0] (by decide) rfl
    exact W.zret (ty := .boolean) (v := 1) hx hb hr (rfl) (fun T9 hT9 hW9 => ⟨⟨1, (nw - 1), rfl, by simp [sw_b, c_9], by rw [hT9]; exact hP9, hD9⟩, hS.F hT9⟩) hS.2.2 d_Mo_drop_25
  · skip
    refine lv_iconst (v := 0) hx hb d_Mo_drop_12 (by decide) ?_
    have hP9 := hP.sub (ws' := [(m0, .inr (5, [.int 0, .ref z1, .ref z2, .int nv, .ref z3, .ref z4, .int ns, .ref z5, .ref z6, .ref z7, .ref z8, .int nw, .ref z9, .ref z10, .ref z11, .ref z12, .ref z13, .ref z14, .ref z15, .ref z16, .int gv, .int gs, .int gw, .int nb, .int sd, .ref z17, .ref z18, .ref z19, .ref z20, .ref z21, .int nt, .ref z22, .ref z23, .ref z24, .int nk, .int fs]))]) [0] rfl
    have hD9 := hD.sub (ws' := [(m0, .inr (5, [.int 0, .ref z1, .ref z2, .int nv, .ref z3, .ref z4, .int ns, .ref z5, .ref z6, .ref z7, .ref z8, .int nw, .ref z9, .ref z10, .ref z11, .ref z12, .ref z13, .ref z14, .ref z15, .ref z16, .int gv, .int gs, .int gw, .int nb, .int sd, .ref z17, .ref z18, .ref z19, .ref z20, .ref z21, .int nt, .ref z22, .ref z23, .ref z24, .int nk, .int fs]))]) [0] (by decide) rfl
    exact W.zret (ty := .boolean) (v := 0) hx hb hr (rfl) (fun T9 hT9 hW9 => ⟨⟨0, nw, rfl, by simp [sw_b, c_9], by rw [hT9]; exact hP9, hD9⟩, hS.F hT9⟩) hS.2.2 d_Mo_drop_13

abbrev rm_Mo_clear : Room := { frames := 0, cells := 0, slots := 0, locals := 0 }
abbrev q_Mo_clear (D : va_G) (cI cL : ClassId) (A : Nat → Prop) (m0 : Nat) (th : Int32) (z1 : Nat) (z2 : Nat) (nv : Int32) (z3 : Nat) (z4 : Nat) (ns : Int32) (z5 : Nat) (z6 : Nat) (z7 : Nat) (z8 : Nat) (nw : Int32) (z9 : Nat) (z10 : Nat) (z11 : Nat) (z12 : Nat) (z13 : Nat) (z14 : Nat) (z15 : Nat) (z16 : Nat) (gv : Int32) (gs : Int32) (gw : Int32) (nb : Int32) (sd : Int32) (z17 : Nat) (z18 : Nat) (z19 : Nat) (z20 : Nat) (z21 : Nat) (nt : Int32) (z22 : Nat) (z23 : Nat) (z24 : Nat) (nk : Int32) (fs : Int32) : Array Value → State → Outcome → State → Prop := va_Qv (S := Unit) (fun (_ : Unit) => True) (sw_R D A (fun (_ : Unit) => [(m0, .inr (5, [.int 0, .ref z1, .ref z2, .int 0, .ref z3, .ref z4, .int 0, .ref z5, .ref z6, .ref z7, .ref z8, .int 0, .ref z9, .ref z10, .ref z11, .ref z12, .ref z13, .ref z14, .ref z15, .ref z16, .int gv, .int gs, .int gw, .int nb, .int sd, .ref z17, .ref z18, .ref z19, .ref z20, .ref z21, .int nt, .ref z22, .ref z23, .ref z24, .int nk, .int fs]))])) A
set_option maxHeartbeats 4000000 in
set_option maxRecDepth 100000 in
theorem c_Mo_clear (l : Launch) (D : va_G) (cI cL : ClassId) (tq sz : Nat) (m0 : Nat) (th : Int32) (z1 : Nat) (z2 : Nat) (nv : Int32) (z3 : Nat) (z4 : Nat) (ns : Int32) (z5 : Nat) (z6 : Nat) (z7 : Nat) (z8 : Nat) (nw : Int32) (z9 : Nat) (z10 : Nat) (z11 : Nat) (z12 : Nat) (z13 : Nat) (z14 : Nat) (z15 : Nat) (z16 : Nat) (gv : Int32) (gs : Int32) (gw : Int32) (nb : Int32) (sd : Int32) (z17 : Nat) (z18 : Nat) (z19 : Nat) (z20 : Nat) (z21 : Nat) (nt : Int32) (z22 : Nat) (z23 : Nat) (z24 : Nat) (nk : Int32) (fs : Int32) : Met l y_Mo_clear w_Mo_clear rm_Mo_clear (va_Pc [.ref m0] (sw_B D cI cL tq sz [(m0, .inr (5, [.int th, .ref z1, .ref z2, .int nv, .ref z3, .ref z4, .int ns, .ref z5, .ref z6, .ref z7, .ref z8, .int nw, .ref z9, .ref z10, .ref z11, .ref z12, .ref z13, .ref z14, .ref z15, .ref z16, .int gv, .int gs, .int gw, .int nb, .int sd, .ref z17, .ref z18, .ref z19, .ref z20, .ref z21, .int nt, .ref z22, .ref z23, .ref z24, .int nk, .int fs]))])) (q_Mo_clear D cI cL (va_A [(m0, .inr (5, [.int th, .ref z1, .ref z2, .int nv, .ref z3, .ref z4, .int ns, .ref z5, .ref z6, .ref z7, .ref z8, .int nw, .ref z9, .ref z10, .ref z11, .ref z12, .ref z13, .ref z14, .ref z15, .ref z16, .int gv, .int gs, .int gw, .int nb, .int sd, .ref z17, .ref z18, .ref z19, .ref z20, .ref z21, .int nt, .ref z22, .ref z23, .ref z24, .int nk, .int fs]))] sz) m0 th z1 z2 nv z3 z4 ns z5 z6 z7 z8 nw z9 z10 z11 z12 z13 z14 z15 z16 gv gs gw nb sd z17 z18 z19 z20 z21 nt z22 z23 z24 nk fs) 0 0 (va_A [(m0, .inr (5, [.int th, .ref z1, .ref z2, .int nv, .ref z3, .ref z4, .int ns, .ref z5, .ref z6, .ref z7, .ref z8, .int nw, .ref z9, .ref z10, .ref z11, .ref z12, .ref z13, .ref z14, .ref z15, .ref z16, .int gv, .int gs, .int gw, .int nb, .int sd, .ref z17, .ref z18, .ref z19, .ref z20, .ref z21, .int nt, .ref z22, .ref z23, .ref z24, .int nk, .int fs]))] sz) := by
  refine Met.ofW (cc := b_Mo_clear) (maxL := 1) (ret := none) (by decide) rfl ?_
  intro mp me s mm args below meth mk s₁ B hml hv
  obtain ⟨rfl, hsz, hP, hK, hD0, hG⟩ := hv
  have hx := B.exec
  have hb := B.bytes
  have hr := B.returns
  have hts := atoms_spec (ws := w_Mo_clear) B.pre
  have hw : ∀ w ∈ sw_words, w.before _ s = true := fun w h => hts w (List.mem_cons_of_mem _ h)
  have hown : s.vm.findClass R_Mo = some mm.cls := findClass_of_methodNamed B.named
  have hlocks := B.notSynchronized
  subst hsz
  have hD := hD0.self (sz := s.heap.size)
  generalize hAe : va_A [(m0, .inr (5, [.int th, .ref z1, .ref z2, .int nv, .ref z3, .ref z4, .int ns, .ref z5, .ref z6, .ref z7, .ref z8, .int nw, .ref z9, .ref z10, .ref z11, .ref z12, .ref z13, .ref z14, .ref z15, .ref z16, .int gv, .int gs, .int gw, .int nb, .int sd, .ref z17, .ref z18, .ref z19, .ref z20, .ref z21, .int nt, .ref z22, .ref z23, .ref z24, .int nk, .int fs]))] s.heap.size = A at hD hG ⊢
  have hA : ∀ q : Nat, s.heap.size ≤ q → A q := fun q h => by rw [← hAe]; exact Or.inr h
  have hS : va_S A s.heap s.heap [] := va_S.rf
  have hl := lv_entry ([.ref m0]) (n := 1) (Nat.le_of_ble_eq_true rfl)
  rw [lg_entry_eq]
  generalize (lg_sl ([.ref m0]) ++ List.replicate (1 - (lg_sl ([.ref m0])).length) Slot.unset).toArray = ls at hl ⊢
  have hl : lv_has ls 1 [(0, .ref m0)] := hl
  refine lv_aload_n hx hb d_Mo_clear_0 rfl (lv_at hl 0 rfl) ?_
  refine lv_iconst (v := 0) hx hb d_Mo_clear_1 (by decide) ?_
  refine va_put (D := D) (ci := 5) (v := .int 0) (ty := t_Mo 0) (C := R_Mo) (T := F_Mo) (N := 36) hx hb hw ku_Mo t_Mo t_Mo_ok n_Mo hown hK hP hD hS 0 rfl rfl 0 (by decide) (hw _ kw_38168dc1) (fun _ h9 => h9) rfl (t_Mo_ok 0 (by decide)) rfl rfl (Nat.le_of_ble_eq_true rfl) d_Mo_clear_2 (fun H locs hP hD hS => ?_)
  replace hP : va_P D sw_cl [(m0, .inr (5, [.int 0, .ref z1, .ref z2, .int nv, .ref z3, .ref z4, .int ns, .ref z5, .ref z6, .ref z7, .ref z8, .int nw, .ref z9, .ref z10, .ref z11, .ref z12, .ref z13, .ref z14, .ref z15, .ref z16, .int gv, .int gs, .int gw, .int nb, .int sd, .ref z17, .ref z18, .ref z19, .ref z20, .ref z21, .int nt, .ref z22, .ref z23, .ref z24, .int nk, .int fs]))] H := hP
  replace hD : va_D A [(m0, .inr (5, [.int 0, .ref z1, .ref z2, .int nv, .ref z3, .ref z4, .int ns, .ref z5, .ref z6, .ref z7, .ref z8, .int nw, .ref z9, .ref z10, .ref z11, .ref z12, .ref z13, .ref z14, .ref z15, .ref z16, .int gv, .int gs, .int gw, .int nb, .int sd, .ref z17, .ref z18, .ref z19, .ref z20, .ref z21, .int nt, .ref z22, .ref z23, .ref z24, .int nk, .int fs]))] := hD
  refine lv_aload_n hx hb d_Mo_clear_5 rfl (lv_at hl 0 rfl) ?_
  refine lv_iconst (v := 0) hx hb d_Mo_clear_6 (by decide) ?_
  refine va_put (D := D) (ci := 5) (v := .int 0) (ty := t_Mo 3) (C := R_Mo) (T := F_Mo) (N := 36) hx hb hw ku_Mo t_Mo t_Mo_ok n_Mo hown hK hP hD hS 0 rfl rfl 3 (by decide) (hw _ kw_c5d0a9ee) (fun _ h9 => h9) rfl (t_Mo_ok 3 (by decide)) rfl rfl (Nat.le_of_ble_eq_true rfl) d_Mo_clear_7 (fun H locs hP hD hS => ?_)
  replace hP : va_P D sw_cl [(m0, .inr (5, [.int 0, .ref z1, .ref z2, .int 0, .ref z3, .ref z4, .int ns, .ref z5, .ref z6, .ref z7, .ref z8, .int nw, .ref z9, .ref z10, .ref z11, .ref z12, .ref z13, .ref z14, .ref z15, .ref z16, .int gv, .int gs, .int gw, .int nb, .int sd, .ref z17, .ref z18, .ref z19, .ref z20, .ref z21, .int nt, .ref z22, .ref z23, .ref z24, .int nk, .int fs]))] H := hP
  replace hD : va_D A [(m0, .inr (5, [.int 0, .ref z1, .ref z2, .int 0, .ref z3, .ref z4, .int ns, .ref z5, .ref z6, .ref z7, .ref z8, .int nw, .ref z9, .ref z10, .ref z11, .ref z12, .ref z13, .ref z14, .ref z15, .ref z16, .int gv, .int gs, .int gw, .int nb, .int sd, .ref z17, .ref z18, .ref z19, .ref z20, .ref z21, .int nt, .ref z22, .ref z23, .ref z24, .int nk, .int fs]))] := hD
  refine lv_aload_n hx hb d_Mo_clear_10 rfl (lv_at hl 0 rfl) ?_
  refine lv_iconst (v := 0) hx hb d_Mo_clear_11 (by decide) ?_
  refine va_put (D := D) (ci := 5) (v := .int 0) (ty := t_Mo 6) (C := R_Mo) (T := F_Mo) (N := 36) hx hb hw ku_Mo t_Mo t_Mo_ok n_Mo hown hK hP hD hS 0 rfl rfl 6 (by decide) (hw _ kw_4cfe8336) (fun _ h9 => h9) rfl (t_Mo_ok 6 (by decide)) rfl rfl (Nat.le_of_ble_eq_true rfl) d_Mo_clear_12 (fun H locs hP hD hS => ?_)
  replace hP : va_P D sw_cl [(m0, .inr (5, [.int 0, .ref z1, .ref z2, .int 0, .ref z3, .ref z4, .int 0, .ref z5, .ref z6, .ref z7, .ref z8, .int nw, .ref z9, .ref z10, .ref z11, .ref z12, .ref z13, .ref z14, .ref z15, .ref z16, .int gv, .int gs, .int gw, .int nb, .int sd, .ref z17, .ref z18, .ref z19, .ref z20, .ref z21, .int nt, .ref z22, .ref z23, .ref z24, .int nk, .int fs]))] H := hP
  replace hD : va_D A [(m0, .inr (5, [.int 0, .ref z1, .ref z2, .int 0, .ref z3, .ref z4, .int 0, .ref z5, .ref z6, .ref z7, .ref z8, .int nw, .ref z9, .ref z10, .ref z11, .ref z12, .ref z13, .ref z14, .ref z15, .ref z16, .int gv, .int gs, .int gw, .int nb, .int sd, .ref z17, .ref z18, .ref z19, .ref z20, .ref z21, .int nt, .ref z22, .ref z23, .ref z24, .int nk, .int fs]))] := hD
  refine lv_aload_n hx hb d_Mo_clear_15 rfl (lv_at hl 0 rfl) ?_
  refine lv_iconst (v := 0) hx hb d_Mo_clear_16 (by decide) ?_
  refine va_put (D := D) (ci := 5) (v := .int 0) (ty := t_Mo 11) (C := R_Mo) (T := F_Mo) (N := 36) hx hb hw ku_Mo t_Mo t_Mo_ok n_Mo hown hK hP hD hS 0 rfl rfl 11 (by decide) (hw _ kw_67b13dd9) (fun _ h9 => h9) rfl (t_Mo_ok 11 (by decide)) rfl rfl (Nat.le_of_ble_eq_true rfl) d_Mo_clear_17 (fun H locs hP hD hS => ?_)
  replace hP : va_P D sw_cl [(m0, .inr (5, [.int 0, .ref z1, .ref z2, .int 0, .ref z3, .ref z4, .int 0, .ref z5, .ref z6, .ref z7, .ref z8, .int 0, .ref z9, .ref z10, .ref z11, .ref z12, .ref z13, .ref z14, .ref z15, .ref z16, .int gv, .int gs, .int gw, .int nb, .int sd, .ref z17, .ref z18, .ref z19, .ref z20, .ref z21, .int nt, .ref z22, .ref z23, .ref z24, .int nk, .int fs]))] H := hP
  replace hD : va_D A [(m0, .inr (5, [.int 0, .ref z1, .ref z2, .int 0, .ref z3, .ref z4, .int 0, .ref z5, .ref z6, .ref z7, .ref z8, .int 0, .ref z9, .ref z10, .ref z11, .ref z12, .ref z13, .ref z14, .ref z15, .ref z16, .int gv, .int gs, .int gw, .int nb, .int sd, .ref z17, .ref z18, .ref z19, .ref z20, .ref z21, .int nt, .ref z22, .ref z23, .ref z24, .int nk, .int fs]))] := hD
  have hP9 := hP.sub (ws' := [(m0, .inr (5, [.int 0, .ref z1, .ref z2, .int 0, .ref z3, .ref z4, .int 0, .ref z5, .ref z6, .ref z7, .ref z8, .int 0, .ref z9, .ref z10, .ref z11, .ref z12, .ref z13, .ref z14, .ref z15, .ref z16, .int gv, .int gs, .int gw, .int nb, .int sd, .ref z17, .ref z18, .ref z19, .ref z20, .ref z21, .int nt, .ref z22, .ref z23, .ref z24, .int nk, .int fs]))]) [0] rfl
  have hD9 := hD.sub (ws' := [(m0, .inr (5, [.int 0, .ref z1, .ref z2, .int 0, .ref z3, .ref z4, .int 0, .ref z5, .ref z6, .ref z7, .ref z8, .int 0, .ref z9, .ref z10, .ref z11, .ref z12, .ref z13, .ref z14, .ref z15, .ref z16, .int gv, .int gs, .int gw, .int nb, .int sd, .ref z17, .ref z18, .ref z19, .ref z20, .ref z21, .int nt, .ref z22, .ref z23, .ref z24, .int nk, .int fs]))]) [0] (by decide) rfl
  exact W.vret hx hb hr (fun T9 hT9 hW9 => ⟨⟨(), rfl, by first | trivial | (simp []), by rw [hT9]; exact hP9, hD9⟩, hS.F hT9⟩) hS.2.2 d_Mo_clear_20
