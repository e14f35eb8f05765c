abbrev rm_Mo_cross : Room := { frames := 1, cells := 0, slots := 0, locals := 26 }
abbrev q_Mo_cross (D : va_G) (cI cL : ClassId) (A : Nat → Prop) (m0 : Nat) (x : Int32) (y : Int32) (th : Int32) (z1 : Nat) (z2 : Nat) (nv : Int32) (z3 : Nat) (z4 : Nat) (ns : Int32) (z5 : Nat) (z6 : Nat) (z7 : Nat) (z8 : Nat) (nw : Int32) (z9 : Nat) (z10 : Nat) (z11 : Nat) (z12 : Nat) (z13 : Nat) (z14 : Nat) (z15 : Nat) (z16 : Nat) (gv : Int32) (gs : Int32) (gw : Int32) (nb : Int32) (sd : Int32) (z17 : Nat) (z18 : Nat) (z19 : Nat) (z20 : Nat) (z21 : Nat) (nt : Int32) (z22 : Nat) (z23 : Nat) (z24 : Nat) (nk : Int32) (fs : Int32) (p1 : Nat → Int32) (p2 : Nat → Int32) (p3 : Nat → Int32) (p4 : Nat → Int32) (bw : Nat → Int32) (cr : Nat → Int32) (cp : Nat → Int64) (cq : Nat → Int64) : Array Value → State → Outcome → State → Prop := va_Qv (S := Int32 × (Nat → Int32) × (Nat → Int64) × (Nat → Int64)) (fun (u : Int32 × (Nat → Int32) × (Nat → Int64) × (Nat → Int64)) => match u with | (nk2, cr2, cp2, cq2) => nk2 = ((sw_mc x y p1 p2 p3 p4 (bw (0 : Int32).toNatClampNeg) (bw (1 : Int32).toNatClampNeg) cr cp cq gw.toNatClampNeg).1) ∧ cr2 = ((sw_mc x y p1 p2 p3 p4 (bw (0 : Int32).toNatClampNeg) (bw (1 : Int32).toNatClampNeg) cr cp cq gw.toNatClampNeg).2.1) ∧ cp2 = ((sw_mc x y p1 p2 p3 p4 (bw (0 : Int32).toNatClampNeg) (bw (1 : Int32).toNatClampNeg) cr cp cq gw.toNatClampNeg).2.2.1) ∧ cq2 = ((sw_mc x y p1 p2 p3 p4 (bw (0 : Int32).toNatClampNeg) (bw (1 : Int32).toNatClampNeg) cr cp cq gw.toNatClampNeg).2.2.2)) (sw_R D A (fun (u : Int32 × (Nat → Int32) × (Nat → Int64) × (Nat → Int64)) => match u with | (nk2, cr2, cp2, cq2) => [(m0, .inr (5, [.int th, .ref z1, .ref z2, .int nv, .ref z3, .ref z4, .int ns, .ref z5, .ref z6, .ref z7, .ref z8, .int nw, .ref z9, .ref z10, .ref z11, .ref z12, .ref z13, .ref z14, .ref z15, .ref z16, .int gv, .int gs, .int gw, .int nb, .int sd, .ref z17, .ref z18, .ref z19, .ref z20, .ref z21, .int nt, .ref z22, .ref z23, .ref z24, .int nk2, .int fs])), (z9, .inl (cI, 64, .inl p1)), (z10, .inl (cI, 64, .inl p2)), (z11, .inl (cI, 64, .inl p3)), (z12, .inl (cI, 64, .inl p4)), (z18, .inl (cI, 4, .inl bw)), (z22, .inl (cI, 64, .inl cr2)), (z23, .inl (cL, 64, .inr (.inl cp2))), (z24, .inl (cL, 64, .inr (.inl cq2)))])) A
set_option maxHeartbeats 4000000 in
set_option maxRecDepth 100000 in
theorem c_Mo_cross (l : Launch) (D : va_G) (cI cL : ClassId) (tq sz : Nat) (m0 : Nat) (x : Int32) (y : Int32) (th : Int32) (z1 : Nat) (z2 : Nat) (nv : Int32) (z3 : Nat) (z4 : Nat) (ns : Int32) (z5 : Nat) (z6 : Nat) (z7 : Nat) (z8 : Nat) (nw : Int32) (z9 : Nat) (z10 : Nat) (z11 : Nat) (z12 : Nat) (z13 : Nat) (z14 : Nat) (z15 : Nat) (z16 : Nat) (gv : Int32) (gs : Int32) (gw : Int32) (nb : Int32) (sd : Int32) (z17 : Nat) (z18 : Nat) (z19 : Nat) (z20 : Nat) (z21 : Nat) (nt : Int32) (z22 : Nat) (z23 : Nat) (z24 : Nat) (nk : Int32) (fs : Int32) (p1 : Nat → Int32) (p2 : Nat → Int32) (p3 : Nat → Int32) (p4 : Nat → Int32) (bw : Nat → Int32) (cr : Nat → Int32) (cp : Nat → Int64) (cq : Nat → Int64) (hn : sw_ok gw 64) : Met l y_Mo_cross w_Mo_cross rm_Mo_cross (va_Pc [.ref m0, .int x, .int y] (sw_B D cI cL tq sz [(m0, .inr (5, [.int th, .ref z1, .ref z2, .int nv, .ref z3, .ref z4, .int ns, .ref z5, .ref z6, .ref z7, .ref z8, .int nw, .ref z9, .ref z10, .ref z11, .ref z12, .ref z13, .ref z14, .ref z15, .ref z16, .int gv, .int gs, .int gw, .int nb, .int sd, .ref z17, .ref z18, .ref z19, .ref z20, .ref z21, .int nt, .ref z22, .ref z23, .ref z24, .int nk, .int fs])), (z9, .inl (cI, 64, .inl p1)), (z10, .inl (cI, 64, .inl p2)), (z11, .inl (cI, 64, .inl p3)), (z12, .inl (cI, 64, .inl p4)), (z18, .inl (cI, 4, .inl bw)), (z22, .inl (cI, 64, .inl cr)), (z23, .inl (cL, 64, .inr (.inl cp))), (z24, .inl (cL, 64, .inr (.inl cq)))])) (q_Mo_cross D cI cL (va_A [(m0, .inr (5, [.int th, .ref z1, .ref z2, .int nv, .ref z3, .ref z4, .int ns, .ref z5, .ref z6, .ref z7, .ref z8, .int nw, .ref z9, .ref z10, .ref z11, .ref z12, .ref z13, .ref z14, .ref z15, .ref z16, .int gv, .int gs, .int gw, .int nb, .int sd, .ref z17, .ref z18, .ref z19, .ref z20, .ref z21, .int nt, .ref z22, .ref z23, .ref z24, .int nk, .int fs])), (z9, .inl (cI, 64, .inl p1)), (z10, .inl (cI, 64, .inl p2)), (z11, .inl (cI, 64, .inl p3)), (z12, .inl (cI, 64, .inl p4)), (z18, .inl (cI, 4, .inl bw)), (z22, .inl (cI, 64, .inl cr)), (z23, .inl (cL, 64, .inr (.inl cp))), (z24, .inl (cL, 64, .inr (.inl cq)))] sz) m0 x y th z1 z2 nv z3 z4 ns z5 z6 z7 z8 nw z9 z10 z11 z12 z13 z14 z15 z16 gv gs gw nb sd z17 z18 z19 z20 z21 nt z22 z23 z24 nk fs p1 p2 p3 p4 bw cr cp cq) 0 0 (va_A [(m0, .inr (5, [.int th, .ref z1, .ref z2, .int nv, .ref z3, .ref z4, .int ns, .ref z5, .ref z6, .ref z7, .ref z8, .int nw, .ref z9, .ref z10, .ref z11, .ref z12, .ref z13, .ref z14, .ref z15, .ref z16, .int gv, .int gs, .int gw, .int nb, .int sd, .ref z17, .ref z18, .ref z19, .ref z20, .ref z21, .int nt, .ref z22, .ref z23, .ref z24, .int nk, .int fs])), (z9, .inl (cI, 64, .inl p1)), (z10, .inl (cI, 64, .inl p2)), (z11, .inl (cI, 64, .inl p3)), (z12, .inl (cI, 64, .inl p4)), (z18, .inl (cI, 4, .inl bw)), (z22, .inl (cI, 64, .inl cr)), (z23, .inl (cL, 64, .inr (.inl cp))), (z24, .inl (cL, 64, .inr (.inl cq)))] sz) := by
  refine Met.ofW (cc := b_Mo_cross) (maxL := 16) (ret := none) (by decide) rfl ?_
  intro mp me s mm args below meth mk s₁ B hml hv
  obtain ⟨rfl, hsz, hP, hK, hD0, hG⟩ := hv
  have hx := B.exec
  have hb := B.bytes
  have hr := B.returns
  have hts := atoms_spec (ws := w_Mo_cross) B.pre
  have hw : ∀ w ∈ sw_words, w.before _ s = true := fun w h => hts w (List.mem_cons_of_mem _ h)
  have hown : s.vm.findClass R_Mo = some mm.cls := findClass_of_methodNamed B.named
  have hlocks := B.notSynchronized
  subst hsz
  have hD := hD0.self (sz := s.heap.size)
  generalize hAe : va_A [(m0, .inr (5, [.int th, .ref z1, .ref z2, .int nv, .ref z3, .ref z4, .int ns, .ref z5, .ref z6, .ref z7, .ref z8, .int nw, .ref z9, .ref z10, .ref z11, .ref z12, .ref z13, .ref z14, .ref z15, .ref z16, .int gv, .int gs, .int gw, .int nb, .int sd, .ref z17, .ref z18, .ref z19, .ref z20, .ref z21, .int nt, .ref z22, .ref z23, .ref z24, .int nk, .int fs])), (z9, .inl (cI, 64, .inl p1)), (z10, .inl (cI, 64, .inl p2)), (z11, .inl (cI, 64, .inl p3)), (z12, .inl (cI, 64, .inl p4)), (z18, .inl (cI, 4, .inl bw)), (z22, .inl (cI, 64, .inl cr)), (z23, .inl (cL, 64, .inr (.inl cp))), (z24, .inl (cL, 64, .inr (.inl cq)))] s.heap.size = A at hD hG ⊢
  have hA : ∀ q : Nat, s.heap.size ≤ q → A q := fun q h => by rw [← hAe]; exact Or.inr h
  have hS : va_S A s.heap s.heap [] := va_S.rf
  have hl := lv_entry ([.ref m0, .int x, .int y]) (n := 16) (Nat.le_of_ble_eq_true rfl)
  rw [lg_entry_eq]
  generalize (lg_sl ([.ref m0, .int x, .int y]) ++ List.replicate (16 - (lg_sl ([.ref m0, .int x, .int y])).length) Slot.unset).toArray = ls at hl ⊢
  have hl : lv_has ls 16 [(0, .ref m0), (1, .int x), (2, .int y)] := hl
  have hn6 := hn.2
  refine lv_aload_n hx hb d_Mo_cross_0 rfl (lv_at hl 0 rfl) ?_
  refine lv_iconst (v := 0) hx hb d_Mo_cross_1 (by decide) ?_
  refine va_put (D := D) (ci := 5) (v := .int 0) (ty := t_Mo 34) (C := R_Mo) (T := F_Mo) (N := 36) hx hb hw ku_Mo t_Mo t_Mo_ok n_Mo hown hK hP hD hS 0 rfl rfl 34 (by decide) (hw _ kw_3969c338) (fun _ h9 => h9) rfl (t_Mo_ok 34 (by decide)) rfl rfl (Nat.le_of_ble_eq_true rfl) d_Mo_cross_2 (fun H locs hP hD hS => ?_)
  replace hP : va_P D sw_cl [(m0, .inr (5, [.int th, .ref z1, .ref z2, .int nv, .ref z3, .ref z4, .int ns, .ref z5, .ref z6, .ref z7, .ref z8, .int nw, .ref z9, .ref z10, .ref z11, .ref z12, .ref z13, .ref z14, .ref z15, .ref z16, .int gv, .int gs, .int gw, .int nb, .int sd, .ref z17, .ref z18, .ref z19, .ref z20, .ref z21, .int nt, .ref z22, .ref z23, .ref z24, .int 0, .int fs])), (z9, .inl (cI, 64, .inl p1)), (z10, .inl (cI, 64, .inl p2)), (z11, .inl (cI, 64, .inl p3)), (z12, .inl (cI, 64, .inl p4)), (z18, .inl (cI, 4, .inl bw)), (z22, .inl (cI, 64, .inl cr)), (z23, .inl (cL, 64, .inr (.inl cp))), (z24, .inl (cL, 64, .inr (.inl cq)))] H := hP
  replace hD : va_D A [(m0, .inr (5, [.int th, .ref z1, .ref z2, .int nv, .ref z3, .ref z4, .int ns, .ref z5, .ref z6, .ref z7, .ref z8, .int nw, .ref z9, .ref z10, .ref z11, .ref z12, .ref z13, .ref z14, .ref z15, .ref z16, .int gv, .int gs, .int gw, .int nb, .int sd, .ref z17, .ref z18, .ref z19, .ref z20, .ref z21, .int nt, .ref z22, .ref z23, .ref z24, .int 0, .int fs])), (z9, .inl (cI, 64, .inl p1)), (z10, .inl (cI, 64, .inl p2)), (z11, .inl (cI, 64, .inl p3)), (z12, .inl (cI, 64, .inl p4)), (z18, .inl (cI, 4, .inl bw)), (z22, .inl (cI, 64, .inl cr)), (z23, .inl (cL, 64, .inr (.inl cp))), (z24, .inl (cL, 64, .inr (.inl cq)))] := hD
  refine lv_iconst (v := 0) hx hb d_Mo_cross_5 (by decide) ?_
  refine lv_istore_n (lv' := [(3, .int 0), (0, .ref m0), (1, .int x), (2, .int y)]) hx hb d_Mo_cross_6 rfl hl (by decide) rfl (fun ls hl => ?_)
  have lp_7 : ∀ (n : Nat) (q : Nat) (i : Int32) (n1 : Int32) (f1 : Nat → Int32) (f2 : Nat → Int64) (f3 : Nat → Int64) (H : Heap) (locs : List Loc) (ls : Array Slot), (i = nI q) → (q ≤ gw.toNatClampNeg) → ((n1, f1, f2, f3) = sw_mc x y p1 p2 p3 p4 (bw (0 : Int32).toNatClampNeg) (bw (1 : Int32).toNatClampNeg) cr cp cq q) → (sw_ok n1 q) → (gw.toNatClampNeg - q) < n → va_P D sw_cl [(m0, .inr (5, [.int th, .ref z1, .ref z2, .int nv, .ref z3, .ref z4, .int ns, .ref z5, .ref z6, .ref z7, .ref z8, .int nw, .ref z9, .ref z10, .ref z11, .ref z12, .ref z13, .ref z14, .ref z15, .ref z16, .int gv, .int gs, .int gw, .int nb, .int sd, .ref z17, .ref z18, .ref z19, .ref z20, .ref z21, .int nt, .ref z22, .ref z23, .ref z24, .int n1, .int fs])), (z9, .inl (cI, 64, .inl p1)), (z10, .inl (cI, 64, .inl p2)), (z11, .inl (cI, 64, .inl p3)), (z12, .inl (cI, 64, .inl p4)), (z18, .inl (cI, 4, .inl bw)), (z22, .inl (cI, 64, .inl f1)), (z23, .inl (cL, 64, .inr (.inl f2))), (z24, .inl (cL, 64, .inr (.inl f3)))] H → va_D A [(m0, .inr (5, [.int th, .ref z1, .ref z2, .int nv, .ref z3, .ref z4, .int ns, .ref z5, .ref z6, .ref z7, .ref z8, .int nw, .ref z9, .ref z10, .ref z11, .ref z12, .ref z13, .ref z14, .ref z15, .ref z16, .int gv, .int gs, .int gw, .int nb, .int sd, .ref z17, .ref z18, .ref z19, .ref z20, .ref z21, .int nt, .ref z22, .ref z23, .ref z24, .int n1, .int fs])), (z9, .inl (cI, 64, .inl p1)), (z10, .inl (cI, 64, .inl p2)), (z11, .inl (cI, 64, .inl p3)), (z12, .inl (cI, 64, .inl p4)), (z18, .inl (cI, 4, .inl bw)), (z22, .inl (cI, 64, .inl f1)), (z23, .inl (cL, 64, .inr (.inl f2))), (z24, .inl (cL, 64, .inr (.inl f3)))] → va_S A s.heap H locs → lv_has ls 16 [(0, .ref m0), (1, .int x), (2, .int y), (3, .int i)] → W mp l me (headSpec w_Mo_cross rm_Mo_cross).room s mm ([.ref m0, .int x, .int y]).toArray below meth mk H locs 0 0 (MQ below (q_Mo_cross D cI cL A m0 x y th z1 z2 nv z3 z4 ns z5 z6 z7 z8 nw z9 z10 z11 z12 z13 z14 z15 z16 gv gs gw nb sd z17 z18 z19 z20 z21 nt z22 z23 z24 nk fs p1 p2 p3 p4 bw cr cp cq) ([.ref m0, .int x, .int y]).toArray s 0 0 A) (F0 mm 7 ls []) := by
    intro n
    induction n with
    | zero => intro q i n1 f1 f2 f3 H locs ls hi hq hs ho hm; exact absurd hm (Nat.not_lt_zero _)
    | succ n ih_7 =>
      intro q i n1 f1 f2 f3 H locs ls hi hq hs ho hm hP hD hS hl
      refine lv_iload_n hx hb d_Mo_cross_7 rfl (lv_at hl 3 rfl) ?_
      refine lv_aload_n hx hb d_Mo_cross_8 rfl (lv_at hl 0 rfl) ?_
      refine va_get (D := D) (ci := 5) (v := .int gw) (C := R_Mo) (T := F_Mo) (N := 36) hx hb hw ku_Mo hown hK hP 0 rfl rfl 22 (by decide) (hw _ kw_495afe5c) (fun _ h9 => h9) rfl d_Mo_cross_9 ?_
      refine lv_icmp_ge (tgt := 292) hx hb d_Mo_cross_12 (by decide) (fun c_12 => ?_) (fun c_12 => ?_)
      · skip
        have hP9 := hP.sub (ws' := [(m0, .inr (5, [.int th, .ref z1, .ref z2, .int nv, .ref z3, .ref z4, .int ns, .ref z5, .ref z6, .ref z7, .ref z8, .int nw, .ref z9, .ref z10, .ref z11, .ref z12, .ref z13, .ref z14, .ref z15, .ref z16, .int gv, .int gs, .int gw, .int nb, .int sd, .ref z17, .ref z18, .ref z19, .ref z20, .ref z21, .int nt, .ref z22, .ref z23, .ref z24, .int n1, .int fs])), (z9, .inl (cI, 64, .inl p1)), (z10, .inl (cI, 64, .inl p2)), (z11, .inl (cI, 64, .inl p3)), (z12, .inl (cI, 64, .inl p4)), (z18, .inl (cI, 4, .inl bw)), (z22, .inl (cI, 64, .inl f1)), (z23, .inl (cL, 64, .inr (.inl f2))), (z24, .inl (cL, 64, .inr (.inl f3)))]) [0, 1, 2, 3, 4, 5, 6, 7, 8] rfl
        have hD9 := hD.sub (ws' := [(m0, .inr (5, [.int th, .ref z1, .ref z2, .int nv, .ref z3, .ref z4, .int ns, .ref z5, .ref z6, .ref z7, .ref z8, .int nw, .ref z9, .ref z10, .ref z11, .ref z12, .ref z13, .ref z14, .ref z15, .ref z16, .int gv, .int gs, .int gw, .int nb, .int sd, .ref z17, .ref z18, .ref z19, .ref z20, .ref z21, .int nt, .ref z22, .ref z23, .ref z24, .int n1, .int fs])), (z9, .inl (cI, 64, .inl p1)), (z10, .inl (cI, 64, .inl p2)), (z11, .inl (cI, 64, .inl p3)), (z12, .inl (cI, 64, .inl p4)), (z18, .inl (cI, 4, .inl bw)), (z22, .inl (cI, 64, .inl f1)), (z23, .inl (cL, 64, .inr (.inl f2))), (z24, .inl (cL, 64, .inr (.inl f3)))]) [0, 1, 2, 3, 4, 5, 6, 7, 8] (by decide) rfl
        exact W.vret hx hb hr (fun T9 hT9 hW9 => ⟨⟨(n1, f1, f2, f3), rfl, by first | trivial | (rw [sw_end hn (by decide) hi hq c_12, ← hs]; exact ⟨rfl, rfl, rfl, rfl⟩), by rw [hT9]; exact hP9, hD9⟩, hS.F hT9⟩) hS.2.2 d_Mo_cross_292
      · skip
        have hkn : q < gw.toNatClampNeg := sw_nle hn (by decide) hi hq c_12
        have hki : i.toNatClampNeg = q := by rw [hi]; exact nI_clamp (by omega)
        have hin1 : vp_in i 64 := by rw [hi]; exact vp_in_nI (by omega) (by omega)
        refine lv_iload_n hx hb d_Mo_cross_15 rfl (lv_at hl 1 rfl) ?_
        refine lv_i2l hx hb d_Mo_cross_16 rfl ?_
        refine lv_aload_n hx hb d_Mo_cross_17 rfl (lv_at hl 0 rfl) ?_
        refine va_get (D := D) (ci := 5) (v := .ref z10) (C := R_Mo) (T := F_Mo) (N := 36) hx hb hw ku_Mo hown hK hP 0 rfl rfl 13 (by decide) (hw _ kw_e0bf39c9) (fun _ h9 => h9) rfl d_Mo_cross_18 ?_
        refine lv_iload_n hx hb d_Mo_cross_21 rfl (lv_at hl 3 rfl) ?_
        refine va_iald hx hb hK hP 2 0 rfl rfl (by assumption) d_Mo_cross_22 ?_
        refine lv_aload_n hx hb d_Mo_cross_23 rfl (lv_at hl 0 rfl) ?_
        refine va_get (D := D) (ci := 5) (v := .ref z18) (C := R_Mo) (T := F_Mo) (N := 36) hx hb hw ku_Mo hown hK hP 0 rfl rfl 26 (by decide) (hw _ kw_f5148383) (fun _ h9 => h9) rfl d_Mo_cross_24 ?_
        refine lv_iconst (v := 1) hx hb d_Mo_cross_27 (by decide) ?_
        refine va_iald hx hb hK hP 5 0 rfl rfl (by unfold vp_in; decide) d_Mo_cross_28 ?_
        refine lv_isub hx hb d_Mo_cross_29 ?_
        refine lv_i2l hx hb d_Mo_cross_30 rfl ?_
        refine lv_lmul hx hb d_Mo_cross_31 ?_
        refine lv_iload_n hx hb d_Mo_cross_32 rfl (lv_at hl 2 rfl) ?_
        refine lv_i2l hx hb d_Mo_cross_33 rfl ?_
        refine lv_aload_n hx hb d_Mo_cross_34 rfl (lv_at hl 0 rfl) ?_
        refine va_get (D := D) (ci := 5) (v := .ref z9) (C := R_Mo) (T := F_Mo) (N := 36) hx hb hw ku_Mo hown hK hP 0 rfl rfl 12 (by decide) (hw _ kw_e3c05911) (fun _ h9 => h9) rfl d_Mo_cross_35 ?_
        refine lv_iload_n hx hb d_Mo_cross_38 rfl (lv_at hl 3 rfl) ?_
        refine va_iald hx hb hK hP 1 0 rfl rfl (by assumption) d_Mo_cross_39 ?_
        refine lv_aload_n hx hb d_Mo_cross_40 rfl (lv_at hl 0 rfl) ?_
        refine va_get (D := D) (ci := 5) (v := .ref z18) (C := R_Mo) (T := F_Mo) (N := 36) hx hb hw ku_Mo hown hK hP 0 rfl rfl 26 (by decide) (hw _ kw_f5148383) (fun _ h9 => h9) rfl d_Mo_cross_41 ?_
        refine lv_iconst (v := 0) hx hb d_Mo_cross_44 (by decide) ?_
        refine va_iald hx hb hK hP 5 0 rfl rfl (by unfold vp_in; decide) d_Mo_cross_45 ?_
        refine lv_isub hx hb d_Mo_cross_46 ?_
        refine lv_i2l hx hb d_Mo_cross_47 rfl ?_
        refine lv_lmul hx hb d_Mo_cross_48 ?_
        refine lv_lsub hx hb d_Mo_cross_49 ?_
        refine lv_topl (fun la e_la => ?_)
        refine lv_lstore (lv' := [(4, .long la), (0, .ref m0), (1, .int x), (2, .int y), (3, .int i)]) hx hb d_Mo_cross_50 hl (by decide) rfl (fun ls hl => ?_)
        refine lv_iload_n hx hb d_Mo_cross_52 rfl (lv_at hl 2 rfl) ?_
        refine lv_i2l hx hb d_Mo_cross_53 rfl ?_
        refine lv_aload_n hx hb d_Mo_cross_54 rfl (lv_at hl 1 rfl) ?_
        refine va_get (D := D) (ci := 5) (v := .ref z12) (C := R_Mo) (T := F_Mo) (N := 36) hx hb hw ku_Mo hown hK hP 0 rfl rfl 15 (by decide) (hw _ kw_8c7cf5c3) (fun _ h9 => h9) rfl d_Mo_cross_55 ?_
        refine lv_iload_n hx hb d_Mo_cross_58 rfl (lv_at hl 4 rfl) ?_
        refine va_iald hx hb hK hP 4 0 rfl rfl (by assumption) d_Mo_cross_59 ?_
        refine lv_aload_n hx hb d_Mo_cross_60 rfl (lv_at hl 1 rfl) ?_
        refine va_get (D := D) (ci := 5) (v := .ref z18) (C := R_Mo) (T := F_Mo) (N := 36) hx hb hw ku_Mo hown hK hP 0 rfl rfl 26 (by decide) (hw _ kw_f5148383) (fun _ h9 => h9) rfl d_Mo_cross_61 ?_
        refine lv_iconst (v := 1) hx hb d_Mo_cross_64 (by decide) ?_
        refine va_iald hx hb hK hP 5 0 rfl rfl (by unfold vp_in; decide) d_Mo_cross_65 ?_
        refine lv_isub hx hb d_Mo_cross_66 ?_
        refine lv_i2l hx hb d_Mo_cross_67 rfl ?_
        refine lv_lmul hx hb d_Mo_cross_68 ?_
        refine lv_iload_n hx hb d_Mo_cross_69 rfl (lv_at hl 3 rfl) ?_
        refine lv_i2l hx hb d_Mo_cross_70 rfl ?_
        refine lv_aload_n hx hb d_Mo_cross_71 rfl (lv_at hl 1 rfl) ?_
        refine va_get (D := D) (ci := 5) (v := .ref z11) (C := R_Mo) (T := F_Mo) (N := 36) hx hb hw ku_Mo hown hK hP 0 rfl rfl 14 (by decide) (hw _ kw_8f03951b) (fun _ h9 => h9) rfl d_Mo_cross_72 ?_
        refine lv_iload_n hx hb d_Mo_cross_75 rfl (lv_at hl 4 rfl) ?_
        refine va_iald hx hb hK hP 3 0 rfl rfl (by assumption) d_Mo_cross_76 ?_
        refine lv_aload_n hx hb d_Mo_cross_77 rfl (lv_at hl 1 rfl) ?_
        refine va_get (D := D) (ci := 5) (v := .ref z18) (C := R_Mo) (T := F_Mo) (N := 36) hx hb hw ku_Mo hown hK hP 0 rfl rfl 26 (by decide) (hw _ kw_f5148383) (fun _ h9 => h9) rfl d_Mo_cross_78 ?_
        refine lv_iconst (v := 0) hx hb d_Mo_cross_81 (by decide) ?_
        refine va_iald hx hb hK hP 5 0 rfl rfl (by unfold vp_in; decide) d_Mo_cross_82 ?_
        refine lv_isub hx hb d_Mo_cross_83 ?_
        refine lv_i2l hx hb d_Mo_cross_84 rfl ?_
        refine lv_lmul hx hb d_Mo_cross_85 ?_
        refine lv_lsub hx hb d_Mo_cross_86 ?_
        refine lv_topl (fun lb e_lb => ?_)
        refine lv_lstore (lv' := [(6, .long lb), (4, .long la), (0, .ref m0), (1, .int x), (2, .int y), (3, .int i)]) hx hb d_Mo_cross_87 hl (by decide) rfl (fun ls hl => ?_)
        refine lv_aload_n hx hb d_Mo_cross_89 rfl (lv_at hl 2 rfl) ?_
        refine va_get (D := D) (ci := 5) (v := .ref z9) (C := R_Mo) (T := F_Mo) (N := 36) hx hb hw ku_Mo hown hK hP 0 rfl rfl 12 (by decide) (hw _ kw_e3c05911) (fun _ h9 => h9) rfl d_Mo_cross_90 ?_
        refine lv_iload_n hx hb d_Mo_cross_93 rfl (lv_at hl 5 rfl) ?_
        refine va_iald hx hb hK hP 1 0 rfl rfl (by assumption) d_Mo_cross_94 ?_
        refine lv_aload_n hx hb d_Mo_cross_95 rfl (lv_at hl 2 rfl) ?_
        refine va_get (D := D) (ci := 5) (v := .ref z18) (C := R_Mo) (T := F_Mo) (N := 36) hx hb hw ku_Mo hown hK hP 0 rfl rfl 26 (by decide) (hw _ kw_f5148383) (fun _ h9 => h9) rfl d_Mo_cross_96 ?_
        refine lv_iconst (v := 0) hx hb d_Mo_cross_99 (by decide) ?_
        refine va_iald hx hb hK hP 5 0 rfl rfl (by unfold vp_in; decide) d_Mo_cross_100 ?_
        refine lv_isub hx hb d_Mo_cross_101 ?_
        refine lv_i2l hx hb d_Mo_cross_102 rfl ?_
        refine lv_aload_n hx hb d_Mo_cross_103 rfl (lv_at hl 2 rfl) ?_
        refine va_get (D := D) (ci := 5) (v := .ref z12) (C := R_Mo) (T := F_Mo) (N := 36) hx hb hw ku_Mo hown hK hP 0 rfl rfl 15 (by decide) (hw _ kw_8c7cf5c3) (fun _ h9 => h9) rfl d_Mo_cross_104 ?_
        refine lv_iload_n hx hb d_Mo_cross_107 rfl (lv_at hl 5 rfl) ?_
        refine va_iald hx hb hK hP 4 0 rfl rfl (by assumption) d_Mo_cross_108 ?_
        refine lv_aload_n hx hb d_Mo_cross_109 rfl (lv_at hl 2 rfl) ?_
        refine va_get (D := D) (ci := 5) (v := .ref z10) (C := R_Mo) (T := F_Mo) (N := 36) hx hb hw ku_Mo hown hK hP 0 rfl rfl 13 (by decide) (hw _ kw_e0bf39c9) (fun _ h9 => h9) rfl d_Mo_cross_110 ?_
        refine lv_iload_n hx hb d_Mo_cross_113 rfl (lv_at hl 5 rfl) ?_
        refine va_iald hx hb hK hP 2 0 rfl rfl (by assumption) d_Mo_cross_114 ?_
        refine lv_isub hx hb d_Mo_cross_115 ?_
        refine lv_i2l hx hb d_Mo_cross_116 rfl ?_
        refine lv_lmul hx hb d_Mo_cross_117 ?_
        refine lv_aload_n hx hb d_Mo_cross_118 rfl (lv_at hl 2 rfl) ?_
        refine va_get (D := D) (ci := 5) (v := .ref z10) (C := R_Mo) (T := F_Mo) (N := 36) hx hb hw ku_Mo hown hK hP 0 rfl rfl 13 (by decide) (hw _ kw_e0bf39c9) (fun _ h9 => h9) rfl d_Mo_cross_119 ?_
        refine lv_iload_n hx hb d_Mo_cross_122 rfl (lv_at hl 5 rfl) ?_
        refine va_iald hx hb hK hP 2 0 rfl rfl (by assumption) d_Mo_cross_123 ?_
        refine lv_aload_n hx hb d_Mo_cross_124 rfl (lv_at hl 2 rfl) ?_
        refine va_get (D := D) (ci := 5) (v := .ref z18) (C := R_Mo) (T := F_Mo) (N := 36) hx hb hw ku_Mo hown hK hP 0 rfl rfl 26 (by decide) (hw _ kw_f5148383) (fun _ h9 => h9) rfl d_Mo_cross_125 ?_
        refine lv_iconst (v := 1) hx hb d_Mo_cross_128 (by decide) ?_
        refine va_iald hx hb hK hP 5 0 rfl rfl (by unfold vp_in; decide) d_Mo_cross_129 ?_
        refine lv_isub hx hb d_Mo_cross_130 ?_
        refine lv_i2l hx hb d_Mo_cross_131 rfl ?_
        refine lv_aload_n hx hb d_Mo_cross_132 rfl (lv_at hl 2 rfl) ?_
        refine va_get (D := D) (ci := 5) (v := .ref z11) (C := R_Mo) (T := F_Mo) (N := 36) hx hb hw ku_Mo hown hK hP 0 rfl rfl 14 (by decide) (hw _ kw_8f03951b) (fun _ h9 => h9) rfl d_Mo_cross_133 ?_
        refine lv_iload_n hx hb d_Mo_cross_136 rfl (lv_at hl 5 rfl) ?_
        refine va_iald hx hb hK hP 3 0 rfl rfl (by assumption) d_Mo_cross_137 ?_
        refine lv_aload_n hx hb d_Mo_cross_138 rfl (lv_at hl 2 rfl) ?_
        refine va_get (D := D) (ci := 5) (v := .ref z9) (C := R_Mo) (T := F_Mo) (N := 36) hx hb hw ku_Mo hown hK hP 0 rfl rfl 12 (by decide) (hw _ kw_e3c05911) (fun _ h9 => h9) rfl d_Mo_cross_139 ?_
        refine lv_iload_n hx hb d_Mo_cross_142 rfl (lv_at hl 5 rfl) ?_
        refine va_iald hx hb hK hP 1 0 rfl rfl (by assumption) d_Mo_cross_143 ?_
        refine lv_isub hx hb d_Mo_cross_144 ?_
        refine lv_i2l hx hb d_Mo_cross_145 rfl ?_
        refine lv_lmul hx hb d_Mo_cross_146 ?_
        refine lv_lsub hx hb d_Mo_cross_147 ?_
        refine lv_topl (fun lp e_lp => ?_)
        refine lv_lstore (lv' := [(8, .long lp), (6, .long lb), (4, .long la), (0, .ref m0), (1, .int x), (2, .int y), (3, .int i)]) hx hb d_Mo_cross_148 hl (by decide) rfl (fun ls hl => ?_)
        refine lv_lload hx hb d_Mo_cross_150 (lv_at hl 1 rfl) ?_
        refine lv_lload hx hb d_Mo_cross_152 (lv_at hl 2 rfl) ?_
        refine lv_lsub hx hb d_Mo_cross_154 ?_
        refine lv_topl (fun lq e_lq => ?_)
        refine lv_lstore (lv' := [(10, .long lq), (8, .long lp), (6, .long lb), (4, .long la), (0, .ref m0), (1, .int x), (2, .int y), (3, .int i)]) hx hb d_Mo_cross_155 hl (by decide) rfl (fun ls hl => ?_)
        have hla : la = sw_mA x y (bw (0 : Int32).toNatClampNeg) (bw (1 : Int32).toNatClampNeg) (p1 q) (p2 q) := by rw [e_la, hki]; rfl
        have hlb : lb = sw_mA x y (bw (0 : Int32).toNatClampNeg) (bw (1 : Int32).toNatClampNeg) (p3 q) (p4 q) := by rw [e_lb, hki]; rfl
        have hlp : lp = sw_mP (bw (0 : Int32).toNatClampNeg) (bw (1 : Int32).toNatClampNeg) (p1 q) (p2 q) (p3 q) (p4 q) := by rw [e_lp, hki]; rfl
        refine lv_lload hx hb d_Mo_cross_157 (lv_at hl 3 rfl) ?_
        refine lv_lconst (v := 0) hx hb d_Mo_cross_159 (by decide) ?_
        refine W.lcmp hx hb d_Mo_cross_160 ?_
        refine lv_if_ge (tgt := 168) hx hb d_Mo_cross_161 (by decide) (fun c_161 => ?_) (fun c_161 => ?_)
        · skip
          refine lv_iconst (v := 0) hx hb d_Mo_cross_168 (by decide) ?_
          refine lv_lload hx hb d_Mo_cross_169 (lv_at hl 2 rfl) ?_
          refine lv_lconst (v := 0) hx hb d_Mo_cross_171 (by decide) ?_
          refine W.lcmp hx hb d_Mo_cross_172 ?_
          refine lv_if_ge (tgt := 180) hx hb d_Mo_cross_173 (by decide) (fun c_173 => ?_) (fun c_173 => ?_)
          · skip
            refine lv_iconst (v := 0) hx hb d_Mo_cross_180 (by decide) ?_
            refine lv_icmp_eq (tgt := 286) hx hb d_Mo_cross_181 (by decide) (fun c_181 => ?_) (fun c_181 => ?_)
            · skip
              refine lv_iinc (v := i + 1) (lv' := [(3, .int (i + 1)), (10, .long lq), (8, .long lp), (6, .long lb), (4, .long la), (0, .ref m0), (1, .int x), (2, .int y)]) hx hb d_Mo_cross_286 hl (k := 7) rfl rfl (by decide) rfl (fun ls hl => ?_)
              refine lv_goto (tgt := 7) hx hb d_Mo_cross_289 (by decide) ?_
              exact ih_7 (q + 1) (i + 1) n1 f1 f2 f3 _ _ _ (by rw [hi]; exact nI_1 q) (hkn) (by first | exact sw_mc_no hs hla hlb hlp e_lq (by simp [sw_mcd, sw_lng, sw_lab, hi, hq, hs, ho, c_12, c_161, c_173, c_181]) | exact sw_mc_yes hs hla hlb hlp e_lq (by simp [sw_mcd, sw_lng, sw_lab, hi, hq, hs, ho, c_12, c_161, c_173, c_181]) (by simp [sw_mid, hi, hi, hq, hs, ho, c_12, c_161, c_173, c_181]) (by simp [sw_lab, hi, hq, hs, ho, c_12, c_161, c_173, c_181]) (by simp [sw_lab, hi, hq, hs, ho, c_12, c_161, c_173, c_181])) (by first | exact sw_ok_mono ho (Nat.le_succ q) | exact (sw_ok_succ ho (by omega)).1) (by omega) (hP.sub [0, 1, 2, 3, 4, 5, 6, 7, 8] rfl) (hD.sub [0, 1, 2, 3, 4, 5, 6, 7, 8] (by decide) rfl) hS (lv_sub hl [5, 6, 7, 0] rfl)
            · skip
              exact absurd rfl c_181
          · skip
            refine lv_iconst (v := 1) hx hb d_Mo_cross_176 (by decide) ?_
            refine lv_goto (tgt := 181) hx hb d_Mo_cross_177 (by decide) ?_
            refine lv_icmp_eq (tgt := 286) hx hb d_Mo_cross_181 (by decide) (fun c_181 => ?_) (fun c_181 => ?_)
            · skip
              exact absurd c_181 (by decide)
            · skip
              refine lv_lload hx hb d_Mo_cross_184 (lv_at hl 1 rfl) ?_
              refine lv_lconst (v := 0) hx hb d_Mo_cross_186 (by decide) ?_
              refine W.lcmp hx hb d_Mo_cross_187 ?_
              refine lv_if_eq (tgt := 286) hx hb d_Mo_cross_188 (by decide) (fun c_188 => ?_) (fun c_188 => ?_)
              · skip
                refine lv_iinc (v := i + 1) (lv' := [(3, .int (i + 1)), (10, .long lq), (8, .long lp), (6, .long lb), (4, .long la), (0, .ref m0), (1, .int x), (2, .int y)]) hx hb d_Mo_cross_286 hl (k := 7) rfl rfl (by decide) rfl (fun ls hl => ?_)
                refine lv_goto (tgt := 7) hx hb d_Mo_cross_289 (by decide) ?_
                exact ih_7 (q + 1) (i + 1) n1 f1 f2 f3 _ _ _ (by rw [hi]; exact nI_1 q) (hkn) (by first | exact sw_mc_no hs hla hlb hlp e_lq (by simp [sw_mcd, sw_lng, sw_lab, hi, hq, hs, ho, c_12, c_161, c_173, c_181, c_188]) | exact sw_mc_yes hs hla hlb hlp e_lq (by simp [sw_mcd, sw_lng, sw_lab, hi, hq, hs, ho, c_12, c_161, c_173, c_181, c_188]) (by simp [sw_mid, hi, hi, hq, hs, ho, c_12, c_161, c_173, c_181, c_188]) (by simp [sw_lab, hi, hq, hs, ho, c_12, c_161, c_173, c_181, c_188]) (by simp [sw_lab, hi, hq, hs, ho, c_12, c_161, c_173, c_181, c_188])) (by first | exact sw_ok_mono ho (Nat.le_succ q) | exact (sw_ok_succ ho (by omega)).1) (by omega) (hP.sub [0, 1, 2, 3, 4, 5, 6, 7, 8] rfl) (hD.sub [0, 1, 2, 3, 4, 5, 6, 7, 8] (by decide) rfl) hS (lv_sub hl [5, 6, 7, 0] rfl)
              · skip
                refine lv_lload hx hb d_Mo_cross_191 (lv_at hl 1 rfl) ?_
                refine lv_lconst (v := 0) hx hb d_Mo_cross_193 (by decide) ?_
                refine W.lcmp hx hb d_Mo_cross_194 ?_
                refine lv_if_ge (tgt := 202) hx hb d_Mo_cross_195 (by decide) (fun c_195 => ?_) (fun c_195 => ?_)
                · skip
                  refine lv_iconst (v := 0) hx hb d_Mo_cross_202 (by decide) ?_
                  refine lv_lload hx hb d_Mo_cross_203 (lv_at hl 0 rfl) ?_
                  refine lv_lconst (v := 0) hx hb d_Mo_cross_205 (by decide) ?_
                  refine W.lcmp hx hb d_Mo_cross_206 ?_
                  refine lv_if_ge (tgt := 214) hx hb d_Mo_cross_207 (by decide) (fun c_207 => ?_) (fun c_207 => ?_)
                  · skip
                    refine lv_iconst (v := 0) hx hb d_Mo_cross_214 (by decide) ?_
                    refine lv_icmp_ne (tgt := 286) hx hb d_Mo_cross_215 (by decide) (fun c_215 => ?_) (fun c_215 => ?_)
                    · skip
                      exact absurd rfl c_215
                    · skip
                      refine lv_lload hx hb d_Mo_cross_218 (lv_at hl 1 rfl) ?_
                      refine lv_lconst (v := 0) hx hb d_Mo_cross_220 (by decide) ?_
                      refine W.lcmp hx hb d_Mo_cross_221 ?_
                      refine lv_if_ge (tgt := 231) hx hb d_Mo_cross_222 (by decide) (fun c_222 => ?_) (fun c_222 => ?_)
                      · skip
                        refine lv_lload hx hb d_Mo_cross_231 (lv_at hl 1 rfl) ?_
                        refine lv_lstore (lv' := [(12, .long lp), (10, .long lq), (8, .long lp), (6, .long lb), (4, .long la), (0, .ref m0), (1, .int x), (2, .int y), (3, .int i)]) hx hb d_Mo_cross_233 hl (by decide) rfl (fun ls hl => ?_)
                        refine lv_lload hx hb d_Mo_cross_235 (lv_at hl 1 rfl) ?_
                        refine lv_lconst (v := 0) hx hb d_Mo_cross_237 (by decide) ?_
                        refine W.lcmp hx hb d_Mo_cross_238 ?_
                        refine lv_if_ge (tgt := 248) hx hb d_Mo_cross_239 (by decide) (fun c_239 => ?_) (fun c_239 => ?_)
                        · skip
                          refine lv_lload hx hb d_Mo_cross_248 (lv_at hl 1 rfl) ?_
                          refine lv_lstore (lv' := [(14, .long lq), (12, .long lp), (10, .long lq), (8, .long lp), (6, .long lb), (4, .long la), (0, .ref m0), (1, .int x), (2, .int y), (3, .int i)]) hx hb d_Mo_cross_250 hl (by decide) rfl (fun ls hl => ?_)
                          refine lv_lload hx hb d_Mo_cross_252 (lv_at hl 1 rfl) ?_
                          refine lv_lload hx hb d_Mo_cross_254 (lv_at hl 0 rfl) ?_
                          refine W.lcmp hx hb d_Mo_cross_256 ?_
                          refine lv_if_gt (tgt := 286) hx hb d_Mo_cross_257 (by decide) (fun c_257 => ?_) (fun c_257 => ?_)
                          · skip
                            refine lv_iinc (v := i + 1) (lv' := [(3, .int (i + 1)), (14, .long lq), (12, .long lp), (10, .long lq), (8, .long lp), (6, .long lb), (4, .long la), (0, .ref m0), (1, .int x), (2, .int y)]) hx hb d_Mo_cross_286 hl (k := 9) rfl rfl (by decide) rfl (fun ls hl => ?_)
                            refine lv_goto (tgt := 7) hx hb d_Mo_cross_289 (by decide) ?_
                            exact ih_7 (q + 1) (i + 1) n1 f1 f2 f3 _ _ _ (by rw [hi]; exact nI_1 q) (hkn) (by first | exact sw_mc_no hs hla hlb hlp e_lq (by simp [sw_mcd, sw_lng, sw_lab, hi, hq, hs, ho, c_12, c_161, c_173, c_181, c_188, c_195, c_207, c_215, c_222, c_239, c_257]) | exact sw_mc_yes hs hla hlb hlp e_lq (by simp [sw_mcd, sw_lng, sw_lab, hi, hq, hs, ho, c_12, c_161, c_173, c_181, c_188, c_195, c_207, c_215, c_222, c_239, c_257]) (by simp [sw_mid, hi, hi, hq, hs, ho, c_12, c_161, c_173, c_181, c_188, c_195, c_207, c_215, c_222, c_239, c_257]) (by simp [sw_lab, hi, hq, hs, ho, c_12, c_161, c_173, c_181, c_188, c_195, c_207, c_215, c_222, c_239, c_257]) (by simp [sw_lab, hi, hq, hs, ho, c_12, c_161, c_173, c_181, c_188, c_195, c_207, c_215, c_222, c_239, c_257])) (by first | exact sw_ok_mono ho (Nat.le_succ q) | exact (sw_ok_succ ho (by omega)).1) (by omega) (hP.sub [0, 1, 2, 3, 4, 5, 6, 7, 8] rfl) (hD.sub [0, 1, 2, 3, 4, 5, 6, 7, 8] (by decide) rfl) hS (lv_sub hl [7, 8, 9, 0] rfl)
                          · skip
                            refine lv_aload_n hx hb d_Mo_cross_260 rfl (lv_at hl 6 rfl) ?_
                            refine lv_lload hx hb d_Mo_cross_261 (lv_at hl 3 rfl) ?_
                            refine lv_lconst (v := 0) hx hb d_Mo_cross_263 (by decide) ?_
                            refine W.lcmp hx hb d_Mo_cross_264 ?_
                            refine lv_if_ge (tgt := 274) hx hb d_Mo_cross_265 (by decide) (fun c_265 => ?_) (fun c_265 => ?_)
                            · skip
                              refine lv_iconst (v := 2) hx hb d_Mo_cross_274 (by decide) ?_
                              refine lv_iload_n hx hb d_Mo_cross_275 rfl (lv_at hl 9 rfl) ?_
                              refine lv_imul hx hb d_Mo_cross_276 ?_
                              refine lv_iconst (v := 1) hx hb d_Mo_cross_277 (by decide) ?_
                              refine lv_iadd hx hb d_Mo_cross_278 ?_
                              refine lv_lload hx hb d_Mo_cross_279 (lv_at hl 1 rfl) ?_
                              refine lv_lload hx hb d_Mo_cross_281 (lv_at hl 0 rfl) ?_
                              refine sw_kv0 (wr := [(z9, .inl (cI, 64, .inl p1)), (z10, .inl (cI, 64, .inl p2)), (z11, .inl (cI, 64, .inl p3)), (z12, .inl (cI, 64, .inl p4)), (z18, .inl (cI, 4, .inl bw))]) (va_runV (As := [.int ((2 * i) + 1), .long lp, .long lq]) (rest := []) ⟨hx, hb, hml, hown, hw⟩ (c_Mo_add l D cI cL tq _ m0 ((2 * i) + 1) lp lq th z1 z2 nv z3 z4 ns z5 z6 z7 z8 nw z9 z10 z11 z12 z13 z14 z15 z16 gv gs gw nb sd z17 z18 z19 z20 z21 nt z22 z23 z24 n1 fs f1 f2 f3 (sw_ok_mono ho (by omega))) (cwV 3 hw (sw_gV kw_ce4d7d59 kw_75e800c7 kw_54344836 kw_82e72072 kc_Mo_add) rfl rfl rfl ⟨rfl, yd_Mo_add⟩ ⟨Nat.le_of_ble_eq_true rfl, Nat.le_of_ble_eq_true rfl⟩) (sw_preV hK hP hD hS hA hG [0, 6, 7, 8] rfl (by decide) 5 0 rfl rfl) rfl rfl hl.1 rfl (lv_room (Nat.le_of_ble_eq_true rfl)) d_Mo_cross_283 ⟨Nat.le_of_ble_eq_true rfl, Nat.le_of_ble_eq_true rfl⟩) hP hD hS hA [0, 6, 7, 8] [1, 2, 3, 4, 5] rfl rfl (by decide) (by decide) (fun u_283 H locs hp_283 hP hD hS => ?_)
                              obtain ⟨cr2_283, cp2_283, cq2_283⟩ := u_283
                              try dsimp only at hp_283
                              obtain ⟨rfl, rfl, rfl⟩ := hp_283
                              replace hP : va_P D sw_cl [(z9, .inl (cI, 64, .inl p1)), (z10, .inl (cI, 64, .inl p2)), (z11, .inl (cI, 64, .inl p3)), (z12, .inl (cI, 64, .inl p4)), (z18, .inl (cI, 4, .inl bw)), (m0, .inr (5, [.int th, .ref z1, .ref z2, .int nv, .ref z3, .ref z4, .int ns, .ref z5, .ref z6, .ref z7, .ref z8, .int nw, .ref z9, .ref z10, .ref z11, .ref z12, .ref z13, .ref z14, .ref z15, .ref z16, .int gv, .int gs, .int gw, .int nb, .int sd, .ref z17, .ref z18, .ref z19, .ref z20, .ref z21, .int nt, .ref z22, .ref z23, .ref z24, .int (n1 + 1), .int fs])), (z22, .inl (cI, 64, .inl ((sw_adf ((2 * i) + 1) lp lq n1.toNatClampNeg (f1, f2, f3)).1))), (z23, .inl (cL, 64, .inr (.inl ((sw_adf ((2 * i) + 1) lp lq n1.toNatClampNeg (f1, f2, f3)).2.1)))), (z24, .inl (cL, 64, .inr (.inl ((sw_adf ((2 * i) + 1) lp lq n1.toNatClampNeg (f1, f2, f3)).2.2))))] H := hP
                              replace hD : va_D A [(z9, .inl (cI, 64, .inl p1)), (z10, .inl (cI, 64, .inl p2)), (z11, .inl (cI, 64, .inl p3)), (z12, .inl (cI, 64, .inl p4)), (z18, .inl (cI, 4, .inl bw)), (m0, .inr (5, [.int th, .ref z1, .ref z2, .int nv, .ref z3, .ref z4, .int ns, .ref z5, .ref z6, .ref z7, .ref z8, .int nw, .ref z9, .ref z10, .ref z11, .ref z12, .ref z13, .ref z14, .ref z15, .ref z16, .int gv, .int gs, .int gw, .int nb, .int sd, .ref z17, .ref z18, .ref z19, .ref z20, .ref z21, .int nt, .ref z22, .ref z23, .ref z24, .int (n1 + 1), .int fs])), (z22, .inl (cI, 64, .inl ((sw_adf ((2 * i) + 1) lp lq n1.toNatClampNeg (f1, f2, f3)).1))), (z23, .inl (cL, 64, .inr (.inl ((sw_adf ((2 * i) + 1) lp lq n1.toNatClampNeg (f1, f2, f3)).2.1)))), (z24, .inl (cL, 64, .inr (.inl ((sw_adf ((2 * i) + 1) lp lq n1.toNatClampNeg (f1, f2, f3)).2.2))))] := hD
                              refine lv_iinc (v := i + 1) (lv' := [(3, .int (i + 1)), (14, .long lq), (12, .long lp), (10, .long lq), (8, .long lp), (6, .long lb), (4, .long la), (0, .ref m0), (1, .int x), (2, .int y)]) hx hb d_Mo_cross_286 hl (k := 9) rfl rfl (by decide) rfl (fun ls hl => ?_)
                              refine lv_goto (tgt := 7) hx hb d_Mo_cross_289 (by decide) ?_
                              exact ih_7 (q + 1) (i + 1) (n1 + 1) ((sw_adf ((2 * i) + 1) lp lq n1.toNatClampNeg (f1, f2, f3)).1) ((sw_adf ((2 * i) + 1) lp lq n1.toNatClampNeg (f1, f2, f3)).2.1) ((sw_adf ((2 * i) + 1) lp lq n1.toNatClampNeg (f1, f2, f3)).2.2) _ _ _ (by rw [hi]; exact nI_1 q) (hkn) (by first | exact sw_mc_no hs hla hlb hlp e_lq (by simp [sw_mcd, sw_lng, sw_lab, hi, hq, hs, ho, c_12, c_161, c_173, c_181, c_188, c_195, c_207, c_215, c_222, c_239, c_257, c_265]) | exact sw_mc_yes hs hla hlb hlp e_lq (by simp [sw_mcd, sw_lng, sw_lab, hi, hq, hs, ho, c_12, c_161, c_173, c_181, c_188, c_195, c_207, c_215, c_222, c_239, c_257, c_265]) (by simp [sw_mid, hi, hi, hq, hs, ho, c_12, c_161, c_173, c_181, c_188, c_195, c_207, c_215, c_222, c_239, c_257, c_265]) (by simp [sw_lab, hi, hq, hs, ho, c_12, c_161, c_173, c_181, c_188, c_195, c_207, c_215, c_222, c_239, c_257, c_265]) (by simp [sw_lab, hi, hq, hs, ho, c_12, c_161, c_173, c_181, c_188, c_195, c_207, c_215, c_222, c_239, c_257, c_265])) (by first | exact sw_ok_mono ho (Nat.le_succ q) | exact (sw_ok_succ ho (by omega)).1) (by omega) (hP.sub [5, 0, 1, 2, 3, 4, 6, 7, 8] rfl) (hD.sub [5, 0, 1, 2, 3, 4, 6, 7, 8] (by decide) rfl) hS (lv_sub hl [7, 8, 9, 0] rfl)
                            · skip
                              exact absurd c_222 c_265
                        · skip
                          exact absurd c_207 c_239
                      · skip
                        exact absurd c_195 c_222
                  · skip
                    refine lv_iconst (v := 1) hx hb d_Mo_cross_210 (by decide) ?_
                    refine lv_goto (tgt := 215) hx hb d_Mo_cross_211 (by decide) ?_
                    refine lv_icmp_ne (tgt := 286) hx hb d_Mo_cross_215 (by decide) (fun c_215 => ?_) (fun c_215 => ?_)
                    · skip
                      refine lv_iinc (v := i + 1) (lv' := [(3, .int (i + 1)), (10, .long lq), (8, .long lp), (6, .long lb), (4, .long la), (0, .ref m0), (1, .int x), (2, .int y)]) hx hb d_Mo_cross_286 hl (k := 7) rfl rfl (by decide) rfl (fun ls hl => ?_)
                      refine lv_goto (tgt := 7) hx hb d_Mo_cross_289 (by decide) ?_
                      exact ih_7 (q + 1) (i + 1) n1 f1 f2 f3 _ _ _ (by rw [hi]; exact nI_1 q) (hkn) (by first | exact sw_mc_no hs hla hlb hlp e_lq (by simp [sw_mcd, sw_lng, sw_lab, hi, hq, hs, ho, c_12, c_161, c_173, c_181, c_188, c_195, c_207, c_215]) | exact sw_mc_yes hs hla hlb hlp e_lq (by simp [sw_mcd, sw_lng, sw_lab, hi, hq, hs, ho, c_12, c_161, c_173, c_181, c_188, c_195, c_207, c_215]) (by simp [sw_mid, hi, hi, hq, hs, ho, c_12, c_161, c_173, c_181, c_188, c_195, c_207, c_215]) (by simp [sw_lab, hi, hq, hs, ho, c_12, c_161, c_173, c_181, c_188, c_195, c_207, c_215]) (by simp [sw_lab, hi, hq, hs, ho, c_12, c_161, c_173, c_181, c_188, c_195, c_207, c_215])) (by first | exact sw_ok_mono ho (Nat.le_succ q) | exact (sw_ok_succ ho (by omega)).1) (by omega) (hP.sub [0, 1, 2, 3, 4, 5, 6, 7, 8] rfl) (hD.sub [0, 1, 2, 3, 4, 5, 6, 7, 8] (by decide) rfl) hS (lv_sub hl [5, 6, 7, 0] rfl)
                    · skip
                      exact absurd c_215 (by decide)
                · skip
                  refine lv_iconst (v := 1) hx hb d_Mo_cross_198 (by decide) ?_
                  refine lv_goto (tgt := 203) hx hb d_Mo_cross_199 (by decide) ?_
                  refine lv_lload hx hb d_Mo_cross_203 (lv_at hl 0 rfl) ?_
                  refine lv_lconst (v := 0) hx hb d_Mo_cross_205 (by decide) ?_
                  refine W.lcmp hx hb d_Mo_cross_206 ?_
                  refine lv_if_ge (tgt := 214) hx hb d_Mo_cross_207 (by decide) (fun c_207 => ?_) (fun c_207 => ?_)
                  · skip
                    refine lv_iconst (v := 0) hx hb d_Mo_cross_214 (by decide) ?_
                    refine lv_icmp_ne (tgt := 286) hx hb d_Mo_cross_215 (by decide) (fun c_215 => ?_) (fun c_215 => ?_)
                    · skip
                      refine lv_iinc (v := i + 1) (lv' := [(3, .int (i + 1)), (10, .long lq), (8, .long lp), (6, .long lb), (4, .long la), (0, .ref m0), (1, .int x), (2, .int y)]) hx hb d_Mo_cross_286 hl (k := 7) rfl rfl (by decide) rfl (fun ls hl => ?_)
                      refine lv_goto (tgt := 7) hx hb d_Mo_cross_289 (by decide) ?_
                      exact ih_7 (q + 1) (i + 1) n1 f1 f2 f3 _ _ _ (by rw [hi]; exact nI_1 q) (hkn) (by first | exact sw_mc_no hs hla hlb hlp e_lq (by simp [sw_mcd, sw_lng, sw_lab, hi, hq, hs, ho, c_12, c_161, c_173, c_181, c_188, c_195, c_207, c_215]) | exact sw_mc_yes hs hla hlb hlp e_lq (by simp [sw_mcd, sw_lng, sw_lab, hi, hq, hs, ho, c_12, c_161, c_173, c_181, c_188, c_195, c_207, c_215]) (by simp [sw_mid, hi, hi, hq, hs, ho, c_12, c_161, c_173, c_181, c_188, c_195, c_207, c_215]) (by simp [sw_lab, hi, hq, hs, ho, c_12, c_161, c_173, c_181, c_188, c_195, c_207, c_215]) (by simp [sw_lab, hi, hq, hs, ho, c_12, c_161, c_173, c_181, c_188, c_195, c_207, c_215])) (by first | exact sw_ok_mono ho (Nat.le_succ q) | exact (sw_ok_succ ho (by omega)).1) (by omega) (hP.sub [0, 1, 2, 3, 4, 5, 6, 7, 8] rfl) (hD.sub [0, 1, 2, 3, 4, 5, 6, 7, 8] (by decide) rfl) hS (lv_sub hl [5, 6, 7, 0] rfl)
                    · skip
                      exact absurd c_215 (by decide)
                  · skip
                    refine lv_iconst (v := 1) hx hb d_Mo_cross_210 (by decide) ?_
                    refine lv_goto (tgt := 215) hx hb d_Mo_cross_211 (by decide) ?_
                    refine lv_icmp_ne (tgt := 286) hx hb d_Mo_cross_215 (by decide) (fun c_215 => ?_) (fun c_215 => ?_)
                    · skip
                      exact absurd rfl c_215
                    · skip
                      refine lv_lload hx hb d_Mo_cross_218 (lv_at hl 1 rfl) ?_
                      refine lv_lconst (v := 0) hx hb d_Mo_cross_220 (by decide) ?_
                      refine W.lcmp hx hb d_Mo_cross_221 ?_
                      refine lv_if_ge (tgt := 231) hx hb d_Mo_cross_222 (by decide) (fun c_222 => ?_) (fun c_222 => ?_)
                      · skip
                        exact absurd c_222 c_195
                      · skip
                        refine lv_lload hx hb d_Mo_cross_225 (lv_at hl 1 rfl) ?_
                        refine lv_lneg hx hb d_Mo_cross_227 ?_
                        refine lv_goto (tgt := 233) hx hb d_Mo_cross_228 (by decide) ?_
                        refine lv_lstore (lv' := [(12, .long (-lp)), (10, .long lq), (8, .long lp), (6, .long lb), (4, .long la), (0, .ref m0), (1, .int x), (2, .int y), (3, .int i)]) hx hb d_Mo_cross_233 hl (by decide) rfl (fun ls hl => ?_)
                        refine lv_lload hx hb d_Mo_cross_235 (lv_at hl 1 rfl) ?_
                        refine lv_lconst (v := 0) hx hb d_Mo_cross_237 (by decide) ?_
                        refine W.lcmp hx hb d_Mo_cross_238 ?_
                        refine lv_if_ge (tgt := 248) hx hb d_Mo_cross_239 (by decide) (fun c_239 => ?_) (fun c_239 => ?_)
                        · skip
                          exact absurd c_239 c_207
                        · skip
                          refine lv_lload hx hb d_Mo_cross_242 (lv_at hl 1 rfl) ?_
                          refine lv_lneg hx hb d_Mo_cross_244 ?_
                          refine lv_goto (tgt := 250) hx hb d_Mo_cross_245 (by decide) ?_
                          refine lv_lstore (lv' := [(14, .long (-lq)), (12, .long (-lp)), (10, .long lq), (8, .long lp), (6, .long lb), (4, .long la), (0, .ref m0), (1, .int x), (2, .int y), (3, .int i)]) hx hb d_Mo_cross_250 hl (by decide) rfl (fun ls hl => ?_)
                          refine lv_lload hx hb d_Mo_cross_252 (lv_at hl 1 rfl) ?_
                          refine lv_lload hx hb d_Mo_cross_254 (lv_at hl 0 rfl) ?_
                          refine W.lcmp hx hb d_Mo_cross_256 ?_
                          refine lv_if_gt (tgt := 286) hx hb d_Mo_cross_257 (by decide) (fun c_257 => ?_) (fun c_257 => ?_)
                          · skip
                            refine lv_iinc (v := i + 1) (lv' := [(3, .int (i + 1)), (14, .long (-lq)), (12, .long (-lp)), (10, .long lq), (8, .long lp), (6, .long lb), (4, .long la), (0, .ref m0), (1, .int x), (2, .int y)]) hx hb d_Mo_cross_286 hl (k := 9) rfl rfl (by decide) rfl (fun ls hl => ?_)
                            refine lv_goto (tgt := 7) hx hb d_Mo_cross_289 (by decide) ?_
                            exact ih_7 (q + 1) (i + 1) n1 f1 f2 f3 _ _ _ (by rw [hi]; exact nI_1 q) (hkn) (by first | exact sw_mc_no hs hla hlb hlp e_lq (by simp [sw_mcd, sw_lng, sw_lab, hi, hq, hs, ho, c_12, c_161, c_173, c_181, c_188, c_195, c_207, c_215, c_222, c_239, c_257]) | exact sw_mc_yes hs hla hlb hlp e_lq (by simp [sw_mcd, sw_lng, sw_lab, hi, hq, hs, ho, c_12, c_161, c_173, c_181, c_188, c_195, c_207, c_215, c_222, c_239, c_257]) (by simp [sw_mid, hi, hi, hq, hs, ho, c_12, c_161, c_173, c_181, c_188, c_195, c_207, c_215, c_222, c_239, c_257]) (by simp [sw_lab, hi, hq, hs, ho, c_12, c_161, c_173, c_181, c_188, c_195, c_207, c_215, c_222, c_239, c_257]) (by simp [sw_lab, hi, hq, hs, ho, c_12, c_161, c_173, c_181, c_188, c_195, c_207, c_215, c_222, c_239, c_257])) (by first | exact sw_ok_mono ho (Nat.le_succ q) | exact (sw_ok_succ ho (by omega)).1) (by omega) (hP.sub [0, 1, 2, 3, 4, 5, 6, 7, 8] rfl) (hD.sub [0, 1, 2, 3, 4, 5, 6, 7, 8] (by decide) rfl) hS (lv_sub hl [7, 8, 9, 0] rfl)
                          · skip
                            refine lv_aload_n hx hb d_Mo_cross_260 rfl (lv_at hl 6 rfl) ?_
                            refine lv_lload hx hb d_Mo_cross_261 (lv_at hl 3 rfl) ?_
                            refine lv_lconst (v := 0) hx hb d_Mo_cross_263 (by decide) ?_
                            refine W.lcmp hx hb d_Mo_cross_264 ?_
                            refine lv_if_ge (tgt := 274) hx hb d_Mo_cross_265 (by decide) (fun c_265 => ?_) (fun c_265 => ?_)
                            · skip
                              exact absurd c_265 c_222
                            · skip
                              refine lv_iconst (v := 2) hx hb d_Mo_cross_268 (by decide) ?_
                              refine lv_iload_n hx hb d_Mo_cross_269 rfl (lv_at hl 9 rfl) ?_
                              refine lv_imul hx hb d_Mo_cross_270 ?_
                              refine lv_goto (tgt := 279) hx hb d_Mo_cross_271 (by decide) ?_
                              refine lv_lload hx hb d_Mo_cross_279 (lv_at hl 1 rfl) ?_
                              refine lv_lload hx hb d_Mo_cross_281 (lv_at hl 0 rfl) ?_
                              refine sw_kv0 (wr := [(z9, .inl (cI, 64, .inl p1)), (z10, .inl (cI, 64, .inl p2)), (z11, .inl (cI, 64, .inl p3)), (z12, .inl (cI, 64, .inl p4)), (z18, .inl (cI, 4, .inl bw))]) (va_runV (As := [.int (2 * i), .long (-lp), .long (-lq)]) (rest := []) ⟨hx, hb, hml, hown, hw⟩ (c_Mo_add l D cI cL tq _ m0 (2 * i) (-lp) (-lq) th z1 z2 nv z3 z4 ns z5 z6 z7 z8 nw z9 z10 z11 z12 z13 z14 z15 z16 gv gs gw nb sd z17 z18 z19 z20 z21 nt z22 z23 z24 n1 fs f1 f2 f3 (sw_ok_mono ho (by omega))) (cwV 3 hw (sw_gV kw_ce4d7d59 kw_75e800c7 kw_54344836 kw_82e72072 kc_Mo_add) rfl rfl rfl ⟨rfl, yd_Mo_add⟩ ⟨Nat.le_of_ble_eq_true rfl, Nat.le_of_ble_eq_true rfl⟩) (sw_preV hK hP hD hS hA hG [0, 6, 7, 8] rfl (by decide) 5 0 rfl rfl) rfl rfl hl.1 rfl (lv_room (Nat.le_of_ble_eq_true rfl)) d_Mo_cross_283 ⟨Nat.le_of_ble_eq_true rfl, Nat.le_of_ble_eq_true rfl⟩) hP hD hS hA [0, 6, 7, 8] [1, 2, 3, 4, 5] rfl rfl (by decide) (by decide) (fun u_283 H locs hp_283 hP hD hS => ?_)
                              obtain ⟨cr2_283, cp2_283, cq2_283⟩ := u_283
                              try dsimp only at hp_283
                              obtain ⟨rfl, rfl, rfl⟩ := hp_283
                              replace hP : va_P D sw_cl [(z9, .inl (cI, 64, .inl p1)), (z10, .inl (cI, 64, .inl p2)), (z11, .inl (cI, 64, .inl p3)), (z12, .inl (cI, 64, .inl p4)), (z18, .inl (cI, 4, .inl bw)), (m0, .inr (5, [.int th, .ref z1, .ref z2, .int nv, .ref z3, .ref z4, .int ns, .ref z5, .ref z6, .ref z7, .ref z8, .int nw, .ref z9, .ref z10, .ref z11, .ref z12, .ref z13, .ref z14, .ref z15, .ref z16, .int gv, .int gs, .int gw, .int nb, .int sd, .ref z17, .ref z18, .ref z19, .ref z20, .ref z21, .int nt, .ref z22, .ref z23, .ref z24, .int (n1 + 1), .int fs])), (z22, .inl (cI, 64, .inl ((sw_adf (2 * i) (-lp) (-lq) n1.toNatClampNeg (f1, f2, f3)).1))), (z23, .inl (cL, 64, .inr (.inl ((sw_adf (2 * i) (-lp) (-lq) n1.toNatClampNeg (f1, f2, f3)).2.1)))), (z24, .inl (cL, 64, .inr (.inl ((sw_adf (2 * i) (-lp) (-lq) n1.toNatClampNeg (f1, f2, f3)).2.2))))] H := hP
                              replace hD : va_D A [(z9, .inl (cI, 64, .inl p1)), (z10, .inl (cI, 64, .inl p2)), (z11, .inl (cI, 64, .inl p3)), (z12, .inl (cI, 64, .inl p4)), (z18, .inl (cI, 4, .inl bw)), (m0, .inr (5, [.int th, .ref z1, .ref z2, .int nv, .ref z3, .ref z4, .int ns, .ref z5, .ref z6, .ref z7, .ref z8, .int nw, .ref z9, .ref z10, .ref z11, .ref z12, .ref z13, .ref z14, .ref z15, .ref z16, .int gv, .int gs, .int gw, .int nb, .int sd, .ref z17, .ref z18, .ref z19, .ref z20, .ref z21, .int nt, .ref z22, .ref z23, .ref z24, .int (n1 + 1), .int fs])), (z22, .inl (cI, 64, .inl ((sw_adf (2 * i) (-lp) (-lq) n1.toNatClampNeg (f1, f2, f3)).1))), (z23, .inl (cL, 64, .inr (.inl ((sw_adf (2 * i) (-lp) (-lq) n1.toNatClampNeg (f1, f2, f3)).2.1)))), (z24, .inl (cL, 64, .inr (.inl ((sw_adf (2 * i) (-lp) (-lq) n1.toNatClampNeg (f1, f2, f3)).2.2))))] := hD
                              refine lv_iinc (v := i + 1) (lv' := [(3, .int (i + 1)), (14, .long (-lq)), (12, .long (-lp)), (10, .long lq), (8, .long lp), (6, .long lb), (4, .long la), (0, .ref m0), (1, .int x), (2, .int y)]) hx hb d_Mo_cross_286 hl (k := 9) rfl rfl (by decide) rfl (fun ls hl => ?_)
                              refine lv_goto (tgt := 7) hx hb d_Mo_cross_289 (by decide) ?_
                              exact ih_7 (q + 1) (i + 1) (n1 + 1) ((sw_adf (2 * i) (-lp) (-lq) n1.toNatClampNeg (f1, f2, f3)).1) ((sw_adf (2 * i) (-lp) (-lq) n1.toNatClampNeg (f1, f2, f3)).2.1) ((sw_adf (2 * i) (-lp) (-lq) n1.toNatClampNeg (f1, f2, f3)).2.2) _ _ _ (by rw [hi]; exact nI_1 q) (hkn) (by first | exact sw_mc_no hs hla hlb hlp e_lq (by simp [sw_mcd, sw_lng, sw_lab, hi, hq, hs, ho, c_12, c_161, c_173, c_181, c_188, c_195, c_207, c_215, c_222, c_239, c_257, c_265]) | exact sw_mc_yes hs hla hlb hlp e_lq (by simp [sw_mcd, sw_lng, sw_lab, hi, hq, hs, ho, c_12, c_161, c_173, c_181, c_188, c_195, c_207, c_215, c_222, c_239, c_257, c_265]) (by simp [sw_mid, hi, hi, hq, hs, ho, c_12, c_161, c_173, c_181, c_188, c_195, c_207, c_215, c_222, c_239, c_257, c_265]) (by simp [sw_lab, hi, hq, hs, ho, c_12, c_161, c_173, c_181, c_188, c_195, c_207, c_215, c_222, c_239, c_257, c_265]) (by simp [sw_lab, hi, hq, hs, ho, c_12, c_161, c_173, c_181, c_188, c_195, c_207, c_215, c_222, c_239, c_257, c_265])) (by first | exact sw_ok_mono ho (Nat.le_succ q) | exact (sw_ok_succ ho (by omega)).1) (by omega) (hP.sub [5, 0, 1, 2, 3, 4, 6, 7, 8] rfl) (hD.sub [5, 0, 1, 2, 3, 4, 6, 7, 8] (by decide) rfl) hS (lv_sub hl [7, 8, 9, 0] rfl)
        · skip
          refine lv_iconst (v := 1) hx hb d_Mo_cross_164 (by decide) ?_
          refine lv_goto (tgt := 169) hx hb d_Mo_cross_165 (by decide) ?_
          refine lv_lload hx hb d_Mo_cross_169 (lv_at hl 2 rfl) ?_
          refine lv_lconst (v := 0) hx hb d_Mo_cross_171 (by decide) ?_
          refine W.lcmp hx hb d_Mo_cross_172 ?_
          refine lv_if_ge (tgt := 180) hx hb d_Mo_cross_173 (by decide) (fun c_173 => ?_) (fun c_173 => ?_)
          · skip
            refine lv_iconst (v := 0) hx hb d_Mo_cross_180 (by decide) ?_
            refine lv_icmp_eq (tgt := 286) hx hb d_Mo_cross_181 (by decide) (fun c_181 => ?_) (fun c_181 => ?_)
            · skip
              exact absurd c_181 (by decide)
            · skip
              refine lv_lload hx hb d_Mo_cross_184 (lv_at hl 1 rfl) ?_
              refine lv_lconst (v := 0) hx hb d_Mo_cross_186 (by decide) ?_
              refine W.lcmp hx hb d_Mo_cross_187 ?_
              refine lv_if_eq (tgt := 286) hx hb d_Mo_cross_188 (by decide) (fun c_188 => ?_) (fun c_188 => ?_)
              · skip
                refine lv_iinc (v := i + 1) (lv' := [(3, .int (i + 1)), (10, .long lq), (8, .long lp), (6, .long lb), (4, .long la), (0, .ref m0), (1, .int x), (2, .int y)]) hx hb d_Mo_cross_286 hl (k := 7) rfl rfl (by decide) rfl (fun ls hl => ?_)
                refine lv_goto (tgt := 7) hx hb d_Mo_cross_289 (by decide) ?_
                exact ih_7 (q + 1) (i + 1) n1 f1 f2 f3 _ _ _ (by rw [hi]; exact nI_1 q) (hkn) (by first | exact sw_mc_no hs hla hlb hlp e_lq (by simp [sw_mcd, sw_lng, sw_lab, hi, hq, hs, ho, c_12, c_161, c_173, c_181, c_188]) | exact sw_mc_yes hs hla hlb hlp e_lq (by simp [sw_mcd, sw_lng, sw_lab, hi, hq, hs, ho, c_12, c_161, c_173, c_181, c_188]) (by simp [sw_mid, hi, hi, hq, hs, ho, c_12, c_161, c_173, c_181, c_188]) (by simp [sw_lab, hi, hq, hs, ho, c_12, c_161, c_173, c_181, c_188]) (by simp [sw_lab, hi, hq, hs, ho, c_12, c_161, c_173, c_181, c_188])) (by first | exact sw_ok_mono ho (Nat.le_succ q) | exact (sw_ok_succ ho (by omega)).1) (by omega) (hP.sub [0, 1, 2, 3, 4, 5, 6, 7, 8] rfl) (hD.sub [0, 1, 2, 3, 4, 5, 6, 7, 8] (by decide) rfl) hS (lv_sub hl [5, 6, 7, 0] rfl)
              · skip
                refine lv_lload hx hb d_Mo_cross_191 (lv_at hl 1 rfl) ?_
                refine lv_lconst (v := 0) hx hb d_Mo_cross_193 (by decide) ?_
                refine W.lcmp hx hb d_Mo_cross_194 ?_
                refine lv_if_ge (tgt := 202) hx hb d_Mo_cross_195 (by decide) (fun c_195 => ?_) (fun c_195 => ?_)
                · skip
                  refine lv_iconst (v := 0) hx hb d_Mo_cross_202 (by decide) ?_
                  refine lv_lload hx hb d_Mo_cross_203 (lv_at hl 0 rfl) ?_
                  refine lv_lconst (v := 0) hx hb d_Mo_cross_205 (by decide) ?_
                  refine W.lcmp hx hb d_Mo_cross_206 ?_
                  refine lv_if_ge (tgt := 214) hx hb d_Mo_cross_207 (by decide) (fun c_207 => ?_) (fun c_207 => ?_)
                  · skip
                    refine lv_iconst (v := 0) hx hb d_Mo_cross_214 (by decide) ?_
                    refine lv_icmp_ne (tgt := 286) hx hb d_Mo_cross_215 (by decide) (fun c_215 => ?_) (fun c_215 => ?_)
                    · skip
                      exact absurd rfl c_215
                    · skip
                      refine lv_lload hx hb d_Mo_cross_218 (lv_at hl 1 rfl) ?_
                      refine lv_lconst (v := 0) hx hb d_Mo_cross_220 (by decide) ?_
                      refine W.lcmp hx hb d_Mo_cross_221 ?_
                      refine lv_if_ge (tgt := 231) hx hb d_Mo_cross_222 (by decide) (fun c_222 => ?_) (fun c_222 => ?_)
                      · skip
                        refine lv_lload hx hb d_Mo_cross_231 (lv_at hl 1 rfl) ?_
                        refine lv_lstore (lv' := [(12, .long lp), (10, .long lq), (8, .long lp), (6, .long lb), (4, .long la), (0, .ref m0), (1, .int x), (2, .int y), (3, .int i)]) hx hb d_Mo_cross_233 hl (by decide) rfl (fun ls hl => ?_)
                        refine lv_lload hx hb d_Mo_cross_235 (lv_at hl 1 rfl) ?_
                        refine lv_lconst (v := 0) hx hb d_Mo_cross_237 (by decide) ?_
                        refine W.lcmp hx hb d_Mo_cross_238 ?_
                        refine lv_if_ge (tgt := 248) hx hb d_Mo_cross_239 (by decide) (fun c_239 => ?_) (fun c_239 => ?_)
                        · skip
                          refine lv_lload hx hb d_Mo_cross_248 (lv_at hl 1 rfl) ?_
                          refine lv_lstore (lv' := [(14, .long lq), (12, .long lp), (10, .long lq), (8, .long lp), (6, .long lb), (4, .long la), (0, .ref m0), (1, .int x), (2, .int y), (3, .int i)]) hx hb d_Mo_cross_250 hl (by decide) rfl (fun ls hl => ?_)
                          refine lv_lload hx hb d_Mo_cross_252 (lv_at hl 1 rfl) ?_
                          refine lv_lload hx hb d_Mo_cross_254 (lv_at hl 0 rfl) ?_
                          refine W.lcmp hx hb d_Mo_cross_256 ?_
                          refine lv_if_gt (tgt := 286) hx hb d_Mo_cross_257 (by decide) (fun c_257 => ?_) (fun c_257 => ?_)
                          · skip
                            refine lv_iinc (v := i + 1) (lv' := [(3, .int (i + 1)), (14, .long lq), (12, .long lp), (10, .long lq), (8, .long lp), (6, .long lb), (4, .long la), (0, .ref m0), (1, .int x), (2, .int y)]) hx hb d_Mo_cross_286 hl (k := 9) rfl rfl (by decide) rfl (fun ls hl => ?_)
                            refine lv_goto (tgt := 7) hx hb d_Mo_cross_289 (by decide) ?_
                            exact ih_7 (q + 1) (i + 1) n1 f1 f2 f3 _ _ _ (by rw [hi]; exact nI_1 q) (hkn) (by first | exact sw_mc_no hs hla hlb hlp e_lq (by simp [sw_mcd, sw_lng, sw_lab, hi, hq, hs, ho, c_12, c_161, c_173, c_181, c_188, c_195, c_207, c_215, c_222, c_239, c_257]) | exact sw_mc_yes hs hla hlb hlp e_lq (by simp [sw_mcd, sw_lng, sw_lab, hi, hq, hs, ho, c_12, c_161, c_173, c_181, c_188, c_195, c_207, c_215, c_222, c_239, c_257]) (by simp [sw_mid, hi, hi, hq, hs, ho, c_12, c_161, c_173, c_181, c_188, c_195, c_207, c_215, c_222, c_239, c_257]) (by simp [sw_lab, hi, hq, hs, ho, c_12, c_161, c_173, c_181, c_188, c_195, c_207, c_215, c_222, c_239, c_257]) (by simp [sw_lab, hi, hq, hs, ho, c_12, c_161, c_173, c_181, c_188, c_195, c_207, c_215, c_222, c_239, c_257])) (by first | exact sw_ok_mono ho (Nat.le_succ q) | exact (sw_ok_succ ho (by omega)).1) (by omega) (hP.sub [0, 1, 2, 3, 4, 5, 6, 7, 8] rfl) (hD.sub [0, 1, 2, 3, 4, 5, 6, 7, 8] (by decide) rfl) hS (lv_sub hl [7, 8, 9, 0] rfl)
                          · skip
                            refine lv_aload_n hx hb d_Mo_cross_260 rfl (lv_at hl 6 rfl) ?_
                            refine lv_lload hx hb d_Mo_cross_261 (lv_at hl 3 rfl) ?_
                            refine lv_lconst (v := 0) hx hb d_Mo_cross_263 (by decide) ?_
                            refine W.lcmp hx hb d_Mo_cross_264 ?_
                            refine lv_if_ge (tgt := 274) hx hb d_Mo_cross_265 (by decide) (fun c_265 => ?_) (fun c_265 => ?_)
                            · skip
                              refine lv_iconst (v := 2) hx hb d_Mo_cross_274 (by decide) ?_
                              refine lv_iload_n hx hb d_Mo_cross_275 rfl (lv_at hl 9 rfl) ?_
                              refine lv_imul hx hb d_Mo_cross_276 ?_
                              refine lv_iconst (v := 1) hx hb d_Mo_cross_277 (by decide) ?_
                              refine lv_iadd hx hb d_Mo_cross_278 ?_
                              refine lv_lload hx hb d_Mo_cross_279 (lv_at hl 1 rfl) ?_
                              refine lv_lload hx hb d_Mo_cross_281 (lv_at hl 0 rfl) ?_
                              refine sw_kv0 (wr := [(z9, .inl (cI, 64, .inl p1)), (z10, .inl (cI, 64, .inl p2)), (z11, .inl (cI, 64, .inl p3)), (z12, .inl (cI, 64, .inl p4)), (z18, .inl (cI, 4, .inl bw))]) (va_runV (As := [.int ((2 * i) + 1), .long lp, .long lq]) (rest := []) ⟨hx, hb, hml, hown, hw⟩ (c_Mo_add l D cI cL tq _ m0 ((2 * i) + 1) lp lq th z1 z2 nv z3 z4 ns z5 z6 z7 z8 nw z9 z10 z11 z12 z13 z14 z15 z16 gv gs gw nb sd z17 z18 z19 z20 z21 nt z22 z23 z24 n1 fs f1 f2 f3 (sw_ok_mono ho (by omega))) (cwV 3 hw (sw_gV kw_ce4d7d59 kw_75e800c7 kw_54344836 kw_82e72072 kc_Mo_add) rfl rfl rfl ⟨rfl, yd_Mo_add⟩ ⟨Nat.le_of_ble_eq_true rfl, Nat.le_of_ble_eq_true rfl⟩) (sw_preV hK hP hD hS hA hG [0, 6, 7, 8] rfl (by decide) 5 0 rfl rfl) rfl rfl hl.1 rfl (lv_room (Nat.le_of_ble_eq_true rfl)) d_Mo_cross_283 ⟨Nat.le_of_ble_eq_true rfl, Nat.le_of_ble_eq_true rfl⟩) hP hD hS hA [0, 6, 7, 8] [1, 2, 3, 4, 5] rfl rfl (by decide) (by decide) (fun u_283 H locs hp_283 hP hD hS => ?_)
                              obtain ⟨cr2_283, cp2_283, cq2_283⟩ := u_283
                              try dsimp only at hp_283
                              obtain ⟨rfl, rfl, rfl⟩ := hp_283
                              replace hP : va_P D sw_cl [(z9, .inl (cI, 64, .inl p1)), (z10, .inl (cI, 64, .inl p2)), (z11, .inl (cI, 64, .inl p3)), (z12, .inl (cI, 64, .inl p4)), (z18, .inl (cI, 4, .inl bw)), (m0, .inr (5, [.int th, .ref z1, .ref z2, .int nv, .ref z3, .ref z4, .int ns, .ref z5, .ref z6, .ref z7, .ref z8, .int nw, .ref z9, .ref z10, .ref z11, .ref z12, .ref z13, .ref z14, .ref z15, .ref z16, .int gv, .int gs, .int gw, .int nb, .int sd, .ref z17, .ref z18, .ref z19, .ref z20, .ref z21, .int nt, .ref z22, .ref z23, .ref z24, .int (n1 + 1), .int fs])), (z22, .inl (cI, 64, .inl ((sw_adf ((2 * i) + 1) lp lq n1.toNatClampNeg (f1, f2, f3)).1))), (z23, .inl (cL, 64, .inr (.inl ((sw_adf ((2 * i) + 1) lp lq n1.toNatClampNeg (f1, f2, f3)).2.1)))), (z24, .inl (cL, 64, .inr (.inl ((sw_adf ((2 * i) + 1) lp lq n1.toNatClampNeg (f1, f2, f3)).2.2))))] H := hP
                              replace hD : va_D A [(z9, .inl (cI, 64, .inl p1)), (z10, .inl (cI, 64, .inl p2)), (z11, .inl (cI, 64, .inl p3)), (z12, .inl (cI, 64, .inl p4)), (z18, .inl (cI, 4, .inl bw)), (m0, .inr (5, [.int th, .ref z1, .ref z2, .int nv, .ref z3, .ref z4, .int ns, .ref z5, .ref z6, .ref z7, .ref z8, .int nw, .ref z9, .ref z10, .ref z11, .ref z12, .ref z13, .ref z14, .ref z15, .ref z16, .int gv, .int gs, .int gw, .int nb, .int sd, .ref z17, .ref z18, .ref z19, .ref z20, .ref z21, .int nt, .ref z22, .ref z23, .ref z24, .int (n1 + 1), .int fs])), (z22, .inl (cI, 64, .inl ((sw_adf ((2 * i) + 1) lp lq n1.toNatClampNeg (f1, f2, f3)).1))), (z23, .inl (cL, 64, .inr (.inl ((sw_adf ((2 * i) + 1) lp lq n1.toNatClampNeg (f1, f2, f3)).2.1)))), (z24, .inl (cL, 64, .inr (.inl ((sw_adf ((2 * i) + 1) lp lq n1.toNatClampNeg (f1, f2, f3)).2.2))))] := hD
                              refine lv_iinc (v := i + 1) (lv' := [(3, .int (i + 1)), (14, .long lq), (12, .long lp), (10, .long lq), (8, .long lp), (6, .long lb), (4, .long la), (0, .ref m0), (1, .int x), (2, .int y)]) hx hb d_Mo_cross_286 hl (k := 9) rfl rfl (by decide) rfl (fun ls hl => ?_)
                              refine lv_goto (tgt := 7) hx hb d_Mo_cross_289 (by decide) ?_
                              exact ih_7 (q + 1) (i + 1) (n1 + 1) ((sw_adf ((2 * i) + 1) lp lq n1.toNatClampNeg (f1, f2, f3)).1) ((sw_adf ((2 * i) + 1) lp lq n1.toNatClampNeg (f1, f2, f3)).2.1) ((sw_adf ((2 * i) + 1) lp lq n1.toNatClampNeg (f1, f2, f3)).2.2) _ _ _ (by rw [hi]; exact nI_1 q) (hkn) (by first | exact sw_mc_no hs hla hlb hlp e_lq (by simp [sw_mcd, sw_lng, sw_lab, hi, hq, hs, ho, c_12, c_161, c_173, c_181, c_188, c_195, c_207, c_215, c_222, c_239, c_257, c_265]) | exact sw_mc_yes hs hla hlb hlp e_lq (by simp [sw_mcd, sw_lng, sw_lab, hi, hq, hs, ho, c_12, c_161, c_173, c_181, c_188, c_195, c_207, c_215, c_222, c_239, c_257, c_265]) (by simp [sw_mid, hi, hi, hq, hs, ho, c_12, c_161, c_173, c_181, c_188, c_195, c_207, c_215, c_222, c_239, c_257, c_265]) (by simp [sw_lab, hi, hq, hs, ho, c_12, c_161, c_173, c_181, c_188, c_195, c_207, c_215, c_222, c_239, c_257, c_265]) (by simp [sw_lab, hi, hq, hs, ho, c_12, c_161, c_173, c_181, c_188, c_195, c_207, c_215, c_222, c_239, c_257, c_265])) (by first | exact sw_ok_mono ho (Nat.le_succ q) | exact (sw_ok_succ ho (by omega)).1) (by omega) (hP.sub [5, 0, 1, 2, 3, 4, 6, 7, 8] rfl) (hD.sub [5, 0, 1, 2, 3, 4, 6, 7, 8] (by decide) rfl) hS (lv_sub hl [7, 8, 9, 0] rfl)
                            · skip
                              exact absurd c_222 c_265
                        · skip
                          exact absurd c_207 c_239
                      · skip
                        exact absurd c_195 c_222
                  · skip
                    refine lv_iconst (v := 1) hx hb d_Mo_cross_210 (by decide) ?_
                    refine lv_goto (tgt := 215) hx hb d_Mo_cross_211 (by decide) ?_
                    refine lv_icmp_ne (tgt := 286) hx hb d_Mo_cross_215 (by decide) (fun c_215 => ?_) (fun c_215 => ?_)
                    · skip
                      refine lv_iinc (v := i + 1) (lv' := [(3, .int (i + 1)), (10, .long lq), (8, .long lp), (6, .long lb), (4, .long la), (0, .ref m0), (1, .int x), (2, .int y)]) hx hb d_Mo_cross_286 hl (k := 7) rfl rfl (by decide) rfl (fun ls hl => ?_)
                      refine lv_goto (tgt := 7) hx hb d_Mo_cross_289 (by decide) ?_
                      exact ih_7 (q + 1) (i + 1) n1 f1 f2 f3 _ _ _ (by rw [hi]; exact nI_1 q) (hkn) (by first | exact sw_mc_no hs hla hlb hlp e_lq (by simp [sw_mcd, sw_lng, sw_lab, hi, hq, hs, ho, c_12, c_161, c_173, c_181, c_188, c_195, c_207, c_215]) | exact sw_mc_yes hs hla hlb hlp e_lq (by simp [sw_mcd, sw_lng, sw_lab, hi, hq, hs, ho, c_12, c_161, c_173, c_181, c_188, c_195, c_207, c_215]) (by simp [sw_mid, hi, hi, hq, hs, ho, c_12, c_161, c_173, c_181, c_188, c_195, c_207, c_215]) (by simp [sw_lab, hi, hq, hs, ho, c_12, c_161, c_173, c_181, c_188, c_195, c_207, c_215]) (by simp [sw_lab, hi, hq, hs, ho, c_12, c_161, c_173, c_181, c_188, c_195, c_207, c_215])) (by first | exact sw_ok_mono ho (Nat.le_succ q) | exact (sw_ok_succ ho (by omega)).1) (by omega) (hP.sub [0, 1, 2, 3, 4, 5, 6, 7, 8] rfl) (hD.sub [0, 1, 2, 3, 4, 5, 6, 7, 8] (by decide) rfl) hS (lv_sub hl [5, 6, 7, 0] rfl)
                    · skip
                      exact absurd c_215 (by decide)
                · skip
                  refine lv_iconst (v := 1) hx hb d_Mo_cross_198 (by decide) ?_
                  refine lv_goto (tgt := 203) hx hb d_Mo_cross_199 (by decide) ?_
                  refine lv_lload hx hb d_Mo_cross_203 (lv_at hl 0 rfl) ?_
                  refine lv_lconst (v := 0) hx hb d_Mo_cross_205 (by decide) ?_
                  refine W.lcmp hx hb d_Mo_cross_206 ?_
                  refine lv_if_ge (tgt := 214) hx hb d_Mo_cross_207 (by decide) (fun c_207 => ?_) (fun c_207 => ?_)
                  · skip
                    refine lv_iconst (v := 0) hx hb d_Mo_cross_214 (by decide) ?_
                    refine lv_icmp_ne (tgt := 286) hx hb d_Mo_cross_215 (by decide) (fun c_215 => ?_) (fun c_215 => ?_)
                    · skip
                      refine lv_iinc (v := i + 1) (lv' := [(3, .int (i + 1)), (10, .long lq), (8, .long lp), (6, .long lb), (4, .long la), (0, .ref m0), (1, .int x), (2, .int y)]) hx hb d_Mo_cross_286 hl (k := 7) rfl rfl (by decide) rfl (fun ls hl => ?_)
                      refine lv_goto (tgt := 7) hx hb d_Mo_cross_289 (by decide) ?_
                      exact ih_7 (q + 1) (i + 1) n1 f1 f2 f3 _ _ _ (by rw [hi]; exact nI_1 q) (hkn) (by first | exact sw_mc_no hs hla hlb hlp e_lq (by simp [sw_mcd, sw_lng, sw_lab, hi, hq, hs, ho, c_12, c_161, c_173, c_181, c_188, c_195, c_207, c_215]) | exact sw_mc_yes hs hla hlb hlp e_lq (by simp [sw_mcd, sw_lng, sw_lab, hi, hq, hs, ho, c_12, c_161, c_173, c_181, c_188, c_195, c_207, c_215]) (by simp [sw_mid, hi, hi, hq, hs, ho, c_12, c_161, c_173, c_181, c_188, c_195, c_207, c_215]) (by simp [sw_lab, hi, hq, hs, ho, c_12, c_161, c_173, c_181, c_188, c_195, c_207, c_215]) (by simp [sw_lab, hi, hq, hs, ho, c_12, c_161, c_173, c_181, c_188, c_195, c_207, c_215])) (by first | exact sw_ok_mono ho (Nat.le_succ q) | exact (sw_ok_succ ho (by omega)).1) (by omega) (hP.sub [0, 1, 2, 3, 4, 5, 6, 7, 8] rfl) (hD.sub [0, 1, 2, 3, 4, 5, 6, 7, 8] (by decide) rfl) hS (lv_sub hl [5, 6, 7, 0] rfl)
                    · skip
                      exact absurd c_215 (by decide)
                  · skip
                    refine lv_iconst (v := 1) hx hb d_Mo_cross_210 (by decide) ?_
                    refine lv_goto (tgt := 215) hx hb d_Mo_cross_211 (by decide) ?_
                    refine lv_icmp_ne (tgt := 286) hx hb d_Mo_cross_215 (by decide) (fun c_215 => ?_) (fun c_215 => ?_)
                    · skip
                      exact absurd rfl c_215
                    · skip
                      refine lv_lload hx hb d_Mo_cross_218 (lv_at hl 1 rfl) ?_
                      refine lv_lconst (v := 0) hx hb d_Mo_cross_220 (by decide) ?_
                      refine W.lcmp hx hb d_Mo_cross_221 ?_
                      refine lv_if_ge (tgt := 231) hx hb d_Mo_cross_222 (by decide) (fun c_222 => ?_) (fun c_222 => ?_)
                      · skip
                        exact absurd c_222 c_195
                      · skip
                        refine lv_lload hx hb d_Mo_cross_225 (lv_at hl 1 rfl) ?_
                        refine lv_lneg hx hb d_Mo_cross_227 ?_
                        refine lv_goto (tgt := 233) hx hb d_Mo_cross_228 (by decide) ?_
                        refine lv_lstore (lv' := [(12, .long (-lp)), (10, .long lq), (8, .long lp), (6, .long lb), (4, .long la), (0, .ref m0), (1, .int x), (2, .int y), (3, .int i)]) hx hb d_Mo_cross_233 hl (by decide) rfl (fun ls hl => ?_)
                        refine lv_lload hx hb d_Mo_cross_235 (lv_at hl 1 rfl) ?_
                        refine lv_lconst (v := 0) hx hb d_Mo_cross_237 (by decide) ?_
                        refine W.lcmp hx hb d_Mo_cross_238 ?_
                        refine lv_if_ge (tgt := 248) hx hb d_Mo_cross_239 (by decide) (fun c_239 => ?_) (fun c_239 => ?_)
                        · skip
                          exact absurd c_239 c_207
                        · skip
                          refine lv_lload hx hb d_Mo_cross_242 (lv_at hl 1 rfl) ?_
                          refine lv_lneg hx hb d_Mo_cross_244 ?_
                          refine lv_goto (tgt := 250) hx hb d_Mo_cross_245 (by decide) ?_
                          refine lv_lstore (lv' := [(14, .long (-lq)), (12, .long (-lp)), (10, .long lq), (8, .long lp), (6, .long lb), (4, .long la), (0, .ref m0), (1, .int x), (2, .int y), (3, .int i)]) hx hb d_Mo_cross_250 hl (by decide) rfl (fun ls hl => ?_)
                          refine lv_lload hx hb d_Mo_cross_252 (lv_at hl 1 rfl) ?_
                          refine lv_lload hx hb d_Mo_cross_254 (lv_at hl 0 rfl) ?_
                          refine W.lcmp hx hb d_Mo_cross_256 ?_
                          refine lv_if_gt (tgt := 286) hx hb d_Mo_cross_257 (by decide) (fun c_257 => ?_) (fun c_257 => ?_)
                          · skip
                            refine lv_iinc (v := i + 1) (lv' := [(3, .int (i + 1)), (14, .long (-lq)), (12, .long (-lp)), (10, .long lq), (8, .long lp), (6, .long lb), (4, .long la), (0, .ref m0), (1, .int x), (2, .int y)]) hx hb d_Mo_cross_286 hl (k := 9) rfl rfl (by decide) rfl (fun ls hl => ?_)
                            refine lv_goto (tgt := 7) hx hb d_Mo_cross_289 (by decide) ?_
                            exact ih_7 (q + 1) (i + 1) n1 f1 f2 f3 _ _ _ (by rw [hi]; exact nI_1 q) (hkn) (by first | exact sw_mc_no hs hla hlb hlp e_lq (by simp [sw_mcd, sw_lng, sw_lab, hi, hq, hs, ho, c_12, c_161, c_173, c_181, c_188, c_195, c_207, c_215, c_222, c_239, c_257]) | exact sw_mc_yes hs hla hlb hlp e_lq (by simp [sw_mcd, sw_lng, sw_lab, hi, hq, hs, ho, c_12, c_161, c_173, c_181, c_188, c_195, c_207, c_215, c_222, c_239, c_257]) (by simp [sw_mid, hi, hi, hq, hs, ho, c_12, c_161, c_173, c_181, c_188, c_195, c_207, c_215, c_222, c_239, c_257]) (by simp [sw_lab, hi, hq, hs, ho, c_12, c_161, c_173, c_181, c_188, c_195, c_207, c_215, c_222, c_239, c_257]) (by simp [sw_lab, hi, hq, hs, ho, c_12, c_161, c_173, c_181, c_188, c_195, c_207, c_215, c_222, c_239, c_257])) (by first | exact sw_ok_mono ho (Nat.le_succ q) | exact (sw_ok_succ ho (by omega)).1) (by omega) (hP.sub [0, 1, 2, 3, 4, 5, 6, 7, 8] rfl) (hD.sub [0, 1, 2, 3, 4, 5, 6, 7, 8] (by decide) rfl) hS (lv_sub hl [7, 8, 9, 0] rfl)
                          · skip
                            refine lv_aload_n hx hb d_Mo_cross_260 rfl (lv_at hl 6 rfl) ?_
                            refine lv_lload hx hb d_Mo_cross_261 (lv_at hl 3 rfl) ?_
                            refine lv_lconst (v := 0) hx hb d_Mo_cross_263 (by decide) ?_
                            refine W.lcmp hx hb d_Mo_cross_264 ?_
                            refine lv_if_ge (tgt := 274) hx hb d_Mo_cross_265 (by decide) (fun c_265 => ?_) (fun c_265 => ?_)
                            · skip
                              exact absurd c_265 c_222
                            · skip
                              refine lv_iconst (v := 2) hx hb d_Mo_cross_268 (by decide) ?_
                              refine lv_iload_n hx hb d_Mo_cross_269 rfl (lv_at hl 9 rfl) ?_
                              refine lv_imul hx hb d_Mo_cross_270 ?_
                              refine lv_goto (tgt := 279) hx hb d_Mo_cross_271 (by decide) ?_
                              refine lv_lload hx hb d_Mo_cross_279 (lv_at hl 1 rfl) ?_
                              refine lv_lload hx hb d_Mo_cross_281 (lv_at hl 0 rfl) ?_
                              refine sw_kv0 (wr := [(z9, .inl (cI, 64, .inl p1)), (z10, .inl (cI, 64, .inl p2)), (z11, .inl (cI, 64, .inl p3)), (z12, .inl (cI, 64, .inl p4)), (z18, .inl (cI, 4, .inl bw))]) (va_runV (As := [.int (2 * i), .long (-lp), .long (-lq)]) (rest := []) ⟨hx, hb, hml, hown, hw⟩ (c_Mo_add l D cI cL tq _ m0 (2 * i) (-lp) (-lq) th z1 z2 nv z3 z4 ns z5 z6 z7 z8 nw z9 z10 z11 z12 z13 z14 z15 z16 gv gs gw nb sd z17 z18 z19 z20 z21 nt z22 z23 z24 n1 fs f1 f2 f3 (sw_ok_mono ho (by omega))) (cwV 3 hw (sw_gV kw_ce4d7d59 kw_75e800c7 kw_54344836 kw_82e72072 kc_Mo_add) rfl rfl rfl ⟨rfl, yd_Mo_add⟩ ⟨Nat.le_of_ble_eq_true rfl, Nat.le_of_ble_eq_true rfl⟩) (sw_preV hK hP hD hS hA hG [0, 6, 7, 8] rfl (by decide) 5 0 rfl rfl) rfl rfl hl.1 rfl (lv_room (Nat.le_of_ble_eq_true rfl)) d_Mo_cross_283 ⟨Nat.le_of_ble_eq_true rfl, Nat.le_of_ble_eq_true rfl⟩) hP hD hS hA [0, 6, 7, 8] [1, 2, 3, 4, 5] rfl rfl (by decide) (by decide) (fun u_283 H locs hp_283 hP hD hS => ?_)
                              obtain ⟨cr2_283, cp2_283, cq2_283⟩ := u_283
                              try dsimp only at hp_283
                              obtain ⟨rfl, rfl, rfl⟩ := hp_283
                              replace hP : va_P D sw_cl [(z9, .inl (cI, 64, .inl p1)), (z10, .inl (cI, 64, .inl p2)), (z11, .inl (cI, 64, .inl p3)), (z12, .inl (cI, 64, .inl p4)), (z18, .inl (cI, 4, .inl bw)), (m0, .inr (5, [.int th, .ref z1, .ref z2, .int nv, .ref z3, .ref z4, .int ns, .ref z5, .ref z6, .ref z7, .ref z8, .int nw, .ref z9, .ref z10, .ref z11, .ref z12, .ref z13, .ref z14, .ref z15, .ref z16, .int gv, .int gs, .int gw, .int nb, .int sd, .ref z17, .ref z18, .ref z19, .ref z20, .ref z21, .int nt, .ref z22, .ref z23, .ref z24, .int (n1 + 1), .int fs])), (z22, .inl (cI, 64, .inl ((sw_adf (2 * i) (-lp) (-lq) n1.toNatClampNeg (f1, f2, f3)).1))), (z23, .inl (cL, 64, .inr (.inl ((sw_adf (2 * i) (-lp) (-lq) n1.toNatClampNeg (f1, f2, f3)).2.1)))), (z24, .inl (cL, 64, .inr (.inl ((sw_adf (2 * i) (-lp) (-lq) n1.toNatClampNeg (f1, f2, f3)).2.2))))] H := hP
                              replace hD : va_D A [(z9, .inl (cI, 64, .inl p1)), (z10, .inl (cI, 64, .inl p2)), (z11, .inl (cI, 64, .inl p3)), (z12, .inl (cI, 64, .inl p4)), (z18, .inl (cI, 4, .inl bw)), (m0, .inr (5, [.int th, .ref z1, .ref z2, .int nv, .ref z3, .ref z4, .int ns, .ref z5, .ref z6, .ref z7, .ref z8, .int nw, .ref z9, .ref z10, .ref z11, .ref z12, .ref z13, .ref z14, .ref z15, .ref z16, .int gv, .int gs, .int gw, .int nb, .int sd, .ref z17, .ref z18, .ref z19, .ref z20, .ref z21, .int nt, .ref z22, .ref z23, .ref z24, .int (n1 + 1), .int fs])), (z22, .inl (cI, 64, .inl ((sw_adf (2 * i) (-lp) (-lq) n1.toNatClampNeg (f1, f2, f3)).1))), (z23, .inl (cL, 64, .inr (.inl ((sw_adf (2 * i) (-lp) (-lq) n1.toNatClampNeg (f1, f2, f3)).2.1)))), (z24, .inl (cL, 64, .inr (.inl ((sw_adf (2 * i) (-lp) (-lq) n1.toNatClampNeg (f1, f2, f3)).2.2))))] := hD
                              refine lv_iinc (v := i + 1) (lv' := [(3, .int (i + 1)), (14, .long (-lq)), (12, .long (-lp)), (10, .long lq), (8, .long lp), (6, .long lb), (4, .long la), (0, .ref m0), (1, .int x), (2, .int y)]) hx hb d_Mo_cross_286 hl (k := 9) rfl rfl (by decide) rfl (fun ls hl => ?_)
                              refine lv_goto (tgt := 7) hx hb d_Mo_cross_289 (by decide) ?_
                              exact ih_7 (q + 1) (i + 1) (n1 + 1) ((sw_adf (2 * i) (-lp) (-lq) n1.toNatClampNeg (f1, f2, f3)).1) ((sw_adf (2 * i) (-lp) (-lq) n1.toNatClampNeg (f1, f2, f3)).2.1) ((sw_adf (2 * i) (-lp) (-lq) n1.toNatClampNeg (f1, f2, f3)).2.2) _ _ _ (by rw [hi]; exact nI_1 q) (hkn) (by first | exact sw_mc_no hs hla hlb hlp e_lq (by simp [sw_mcd, sw_lng, sw_lab, hi, hq, hs, ho, c_12, c_161, c_173, c_181, c_188, c_195, c_207, c_215, c_222, c_239, c_257, c_265]) | exact sw_mc_yes hs hla hlb hlp e_lq (by simp [sw_mcd, sw_lng, sw_lab, hi, hq, hs, ho, c_12, c_161, c_173, c_181, c_188, c_195, c_207, c_215, c_222, c_239, c_257, c_265]) (by simp [sw_mid, hi, hi, hq, hs, ho, c_12, c_161, c_173, c_181, c_188, c_195, c_207, c_215, c_222, c_239, c_257, c_265]) (by simp [sw_lab, hi, hq, hs, ho, c_12, c_161, c_173, c_181, c_188, c_195, c_207, c_215, c_222, c_239, c_257, c_265]) (by simp [sw_lab, hi, hq, hs, ho, c_12, c_161, c_173, c_181, c_188, c_195, c_207, c_215, c_222, c_239, c_257, c_265])) (by first | exact sw_ok_mono ho (Nat.le_succ q) | exact (sw_ok_succ ho (by omega)).1) (by omega) (hP.sub [5, 0, 1, 2, 3, 4, 6, 7, 8] rfl) (hD.sub [5, 0, 1, 2, 3, 4, 6, 7, 8] (by decide) rfl) hS (lv_sub hl [7, 8, 9, 0] rfl)
          · skip
            refine lv_iconst (v := 1) hx hb d_Mo_cross_176 (by decide) ?_
            refine lv_goto (tgt := 181) hx hb d_Mo_cross_177 (by decide) ?_
            refine lv_icmp_eq (tgt := 286) hx hb d_Mo_cross_181 (by decide) (fun c_181 => ?_) (fun c_181 => ?_)
            · skip
              refine lv_iinc (v := i + 1) (lv' := [(3, .int (i + 1)), (10, .long lq), (8, .long lp), (6, .long lb), (4, .long la), (0, .ref m0), (1, .int x), (2, .int y)]) hx hb d_Mo_cross_286 hl (k := 7) rfl rfl (by decide) rfl (fun ls hl => ?_)
              refine lv_goto (tgt := 7) hx hb d_Mo_cross_289 (by decide) ?_
              exact ih_7 (q + 1) (i + 1) n1 f1 f2 f3 _ _ _ (by rw [hi]; exact nI_1 q) (hkn) (by first | exact sw_mc_no hs hla hlb hlp e_lq (by simp [sw_mcd, sw_lng, sw_lab, hi, hq, hs, ho, c_12, c_161, c_173, c_181]) | exact sw_mc_yes hs hla hlb hlp e_lq (by simp [sw_mcd, sw_lng, sw_lab, hi, hq, hs, ho, c_12, c_161, c_173, c_181]) (by simp [sw_mid, hi, hi, hq, hs, ho, c_12, c_161, c_173, c_181]) (by simp [sw_lab, hi, hq, hs, ho, c_12, c_161, c_173, c_181]) (by simp [sw_lab, hi, hq, hs, ho, c_12, c_161, c_173, c_181])) (by first | exact sw_ok_mono ho (Nat.le_succ q) | exact (sw_ok_succ ho (by omega)).1) (by omega) (hP.sub [0, 1, 2, 3, 4, 5, 6, 7, 8] rfl) (hD.sub [0, 1, 2, 3, 4, 5, 6, 7, 8] (by decide) rfl) hS (lv_sub hl [5, 6, 7, 0] rfl)
            · skip
              exact absurd rfl c_181
  exact lp_7 _ 0 0 0 cr cp cq _ _ _ (nI_0.symm) (Nat.zero_le _) (rfl) (⟨by decide, by decide⟩) (Nat.lt_succ_self _) (hP.sub [0, 1, 2, 3, 4, 5, 6, 7, 8] rfl) (hD.sub [0, 1, 2, 3, 4, 5, 6, 7, 8] (by decide) rfl) hS (lv_sub hl [1, 2, 3, 0] rfl)
