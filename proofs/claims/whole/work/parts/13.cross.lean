abbrev rm_Cr_comesFromFront : Room := { frames := 0, cells := 0, slots := 0, locals := 0 }
abbrev q_Cr_comesFromFront (D : va_G) (cI cL : ClassId) (A : Nat → Prop) (k : Nat) (x : Int32) (k1 : Nat) (k2 : Nat) (k3 : Nat) (nk : Int32) (fs : Int32) (pp : Nat → Int32) : Array Value → State → Outcome → State → Prop := va_Qi (S := Unit) (fun (r : Int32) => fun (_ : Unit) => r = sw_b (!(decide (0 ≤ pp x.toNatClampNeg)))) (sw_R D A (fun (_ : Unit) => [(k, .inr (4, [.ref k1, .ref k2, .ref k3, .int nk, .int fs])), (k2, .inl (cI, 64, .inl pp))])) A
set_option maxHeartbeats 4000000 in
set_option maxRecDepth 100000 in
theorem c_Cr_comesFromFront (l : Launch) (D : va_G) (cI cL : ClassId) (tq sz : Nat) (k : Nat) (x : Int32) (k1 : Nat) (k2 : Nat) (k3 : Nat) (nk : Int32) (fs : Int32) (pp : Nat → Int32) (ix : vp_in x 64) : Met l y_Cr_comesFromFront w_Cr_comesFromFront rm_Cr_comesFromFront (va_Pc [.ref k, .int x] (sw_B D cI cL tq sz [(k, .inr (4, [.ref k1, .ref k2, .ref k3, .int nk, .int fs])), (k2, .inl (cI, 64, .inl pp))])) (q_Cr_comesFromFront D cI cL (va_A [(k, .inr (4, [.ref k1, .ref k2, .ref k3, .int nk, .int fs])), (k2, .inl (cI, 64, .inl pp))] sz) k x k1 k2 k3 nk fs pp) 0 0 (va_A [(k, .inr (4, [.ref k1, .ref k2, .ref k3, .int nk, .int fs])), (k2, .inl (cI, 64, .inl pp))] sz) := by
  refine Met.ofW (cc := b_Cr_comesFromFront) (maxL := 2) (ret := (some .boolean)) (by decide) rfl ?_
  intro mp me s mm args below meth mk s₁ B hml hv
  obtain ⟨rfl, hsz, hP, hK, hD0, hG⟩ := hv
  have hx := B.exec
  have hb := B.bytes
  have hr := B.returns
  have hts := atoms_spec (ws := w_Cr_comesFromFront) B.pre
  have hw : ∀ w ∈ sw_words, w.before _ s = true := fun w h => hts w (List.mem_cons_of_mem _ h)
  have hown : s.vm.findClass R_Cr = some mm.cls := findClass_of_methodNamed B.named
  have hlocks := B.notSynchronized
  subst hsz
  have hD := hD0.self (sz := s.heap.size)
  generalize hAe : va_A [(k, .inr (4, [.ref k1, .ref k2, .ref k3, .int nk, .int fs])), (k2, .inl (cI, 64, .inl pp))] s.heap.size = A at hD hG ⊢
  have hA : ∀ q : Nat, s.heap.size ≤ q → A q := fun q h => by rw [← hAe]; exact Or.inr h
  have hS : va_S A s.heap s.heap [] := va_S.rf
  have hl := lv_entry ([.ref k, .int x]) (n := 2) (Nat.le_of_ble_eq_true rfl)
  rw [lg_entry_eq]
  generalize (lg_sl ([.ref k, .int x]) ++ List.replicate (2 - (lg_sl ([.ref k, .int x])).length) Slot.unset).toArray = ls at hl ⊢
  have hl : lv_has ls 2 [(0, .ref k), (1, .int x)] := hl
  refine lv_aload_n hx hb d_Cr_comesFromFront_0 rfl (lv_at hl 0 rfl) ?_
  refine va_get (D := D) (ci := 4) (v := .ref k2) (C := R_Cr) (T := F_Cr) (N := 5) hx hb hw ku_Cr hown hK hP 0 rfl rfl 1 (by decide) (hw _ kw_600bd2b2) (fun _ h9 => h9) rfl d_Cr_comesFromFront_1 ?_
  refine lv_iload_n hx hb d_Cr_comesFromFront_4 rfl (lv_at hl 1 rfl) ?_
  refine va_iald hx hb hK hP 1 0 rfl rfl (by assumption) d_Cr_comesFromFront_5 ?_
  refine lv_if_ge (tgt := 13) hx hb d_Cr_comesFromFront_6 (by decide) (fun c_6 => ?_) (fun c_6 => ?_)
  · skip
    refine lv_iconst (v := 0) hx hb d_Cr_comesFromFront_13 (by decide) ?_
    have hP9 := hP.sub (ws' := [(k, .inr (4, [.ref k1, .ref k2, .ref k3, .int nk, .int fs])), (k2, .inl (cI, 64, .inl pp))]) [0, 1] rfl
    have hD9 := hD.sub (ws' := [(k, .inr (4, [.ref k1, .ref k2, .ref k3, .int nk, .int fs])), (k2, .inl (cI, 64, .inl pp))]) [0, 1] (by decide) rfl
    exact W.zret (ty := .boolean) (v := 0) hx hb hr (rfl) (fun T9 hT9 hW9 => ⟨⟨0, (), rfl, by simp [sw_b, c_6], by rw [hT9]; exact hP9, hD9⟩, hS.F hT9⟩) hS.2.2 d_Cr_comesFromFront_14
  · skip
    refine lv_iconst (v := 1) hx hb d_Cr_comesFromFront_9 (by decide) ?_
    refine lv_goto (tgt := 14) hx hb d_Cr_comesFromFront_10 (by decide) ?_
    have hP9 := hP.sub (ws' := [(k, .inr (4, [.ref k1, .ref k2, .ref k3, .int nk, .int fs])), (k2, .inl (cI, 64, .inl pp))]) [0, 1] rfl
    have hD9 := hD.sub (ws' := [(k, .inr (4, [.ref k1, .ref k2, .ref k3, .int nk, .int fs])), (k2, .inl (cI, 64, .inl pp))]) [0, 1] (by decide) rfl
    exact W.zret (ty := .boolean) (v := 1) hx hb hr (rfl) (fun T9 hT9 hW9 => ⟨⟨1, (), rfl, by simp [sw_b, c_6], by rw [hT9]; exact hP9, hD9⟩, hS.F hT9⟩) hS.2.2 d_Cr_comesFromFront_14

abbrev rm_Cr_isUpToOne : Room := { frames := 0, cells := 0, slots := 0, locals := 0 }
abbrev q_Cr_isUpToOne (D : va_G) (cI cL : ClassId) (A : Nat → Prop) (x : Int32) (y : Int32) : Array Value → State → Outcome → State → Prop := va_Qi (S := Unit) (fun (r : Int32) => fun (_ : Unit) => r = sw_b (sw_up1 x y)) (sw_R D A (fun (_ : Unit) => [])) A
set_option maxHeartbeats 4000000 in
set_option maxRecDepth 100000 in
theorem c_Cr_isUpToOne (l : Launch) (D : va_G) (cI cL : ClassId) (tq sz : Nat) (x : Int32) (y : Int32) : Met l y_Cr_isUpToOne w_Cr_isUpToOne rm_Cr_isUpToOne (va_Pc [.int x, .int y] (sw_B D cI cL tq sz [])) (q_Cr_isUpToOne D cI cL (va_A [] sz) x y) 0 0 (va_A [] sz) := by
  refine Met.ofW (cc := b_Cr_isUpToOne) (maxL := 2) (ret := (some .boolean)) (by decide) rfl ?_
  intro mp me s mm args below meth mk s₁ B hml hv
  obtain ⟨rfl, hsz, hP, hK, hD0, hG⟩ := hv
  have hx := B.exec
  have hb := B.bytes
  have hr := B.returns
  have hts := atoms_spec (ws := w_Cr_isUpToOne) B.pre
  have hw : ∀ w ∈ sw_words, w.before _ s = true := fun w h => hts w (List.mem_cons_of_mem _ h)
  have hown : s.vm.findClass R_Cr = some mm.cls := findClass_of_methodNamed B.named
  have hlocks := B.notSynchronized
  subst hsz
  have hD := hD0.self (sz := s.heap.size)
  generalize hAe : va_A [] s.heap.size = A at hD hG ⊢
  have hA : ∀ q : Nat, s.heap.size ≤ q → A q := fun q h => by rw [← hAe]; exact Or.inr h
  have hS : va_S A s.heap s.heap [] := va_S.rf
  have hl := lv_entry ([.int x, .int y]) (n := 2) (Nat.le_of_ble_eq_true rfl)
  rw [lg_entry_eq]
  generalize (lg_sl ([.int x, .int y]) ++ List.replicate (2 - (lg_sl ([.int x, .int y])).length) Slot.unset).toArray = ls at hl ⊢
  have hl : lv_has ls 2 [(0, .int x), (1, .int y)] := hl
  refine lv_iload_n hx hb d_Cr_isUpToOne_0 rfl (lv_at hl 1 rfl) ?_
  refine lv_if_le (tgt := 21) hx hb d_Cr_isUpToOne_1 (by decide) (fun c_1 => ?_) (fun c_1 => ?_)
  · skip
    refine lv_iload_n hx hb d_Cr_isUpToOne_21 rfl (lv_at hl 0 rfl) ?_
    refine lv_if_ge (tgt := 34) hx hb d_Cr_isUpToOne_22 (by decide) (fun c_22 => ?_) (fun c_22 => ?_)
    · skip
      refine lv_iconst (v := 0) hx hb d_Cr_isUpToOne_34 (by decide) ?_
      have hP9 := hP.sub (ws' := []) [] rfl
      have hD9 := hD.sub (ws' := []) [] (by decide) rfl
      exact W.zret (ty := .boolean) (v := 0) hx hb hr (rfl) (fun T9 hT9 hW9 => ⟨⟨0, (), rfl, by simp [sw_b, sw_up1, c_1, c_22], by rw [hT9]; exact hP9, hD9⟩, hS.F hT9⟩) hS.2.2 d_Cr_isUpToOne_35
    · skip
      refine lv_iload_n hx hb d_Cr_isUpToOne_25 rfl (lv_at hl 0 rfl) ?_
      refine lv_iload_n hx hb d_Cr_isUpToOne_26 rfl (lv_at hl 1 rfl) ?_
      refine lv_icmp_lt (tgt := 34) hx hb d_Cr_isUpToOne_27 (by decide) (fun c_27 => ?_) (fun c_27 => ?_)
      · skip
        refine lv_iconst (v := 0) hx hb d_Cr_isUpToOne_34 (by decide) ?_
        have hP9 := hP.sub (ws' := []) [] rfl
        have hD9 := hD.sub (ws' := []) [] (by decide) rfl
        exact W.zret (ty := .boolean) (v := 0) hx hb hr (rfl) (fun T9 hT9 hW9 => ⟨⟨0, (), rfl, by simp [sw_b, sw_up1, c_1, c_22, c_27], by rw [hT9]; exact hP9, hD9⟩, hS.F hT9⟩) hS.2.2 d_Cr_isUpToOne_35
      · skip
        refine lv_iconst (v := 1) hx hb d_Cr_isUpToOne_30 (by decide) ?_
        refine lv_goto (tgt := 35) hx hb d_Cr_isUpToOne_31 (by decide) ?_
        have hP9 := hP.sub (ws' := []) [] rfl
        have hD9 := hD.sub (ws' := []) [] (by decide) rfl
        exact W.zret (ty := .boolean) (v := 1) hx hb hr (rfl) (fun T9 hT9 hW9 => ⟨⟨1, (), rfl, by simp [sw_b, sw_up1, c_1, c_22, c_27], by rw [hT9]; exact hP9, hD9⟩, hS.F hT9⟩) hS.2.2 d_Cr_isUpToOne_35
  · skip
    refine lv_iload_n hx hb d_Cr_isUpToOne_4 rfl (lv_at hl 0 rfl) ?_
    refine lv_if_le (tgt := 17) hx hb d_Cr_isUpToOne_5 (by decide) (fun c_5 => ?_) (fun c_5 => ?_)
    · skip
      refine lv_iconst (v := 0) hx hb d_Cr_isUpToOne_17 (by decide) ?_
      refine lv_goto (tgt := 35) hx hb d_Cr_isUpToOne_18 (by decide) ?_
      have hP9 := hP.sub (ws' := []) [] rfl
      have hD9 := hD.sub (ws' := []) [] (by decide) rfl
      exact W.zret (ty := .boolean) (v := 0) hx hb hr (rfl) (fun T9 hT9 hW9 => ⟨⟨0, (), rfl, by simp [sw_b, sw_up1, c_1, c_5], by rw [hT9]; exact hP9, hD9⟩, hS.F hT9⟩) hS.2.2 d_Cr_isUpToOne_35
    · skip
      refine lv_iload_n hx hb d_Cr_isUpToOne_8 rfl (lv_at hl 0 rfl) ?_
      refine lv_iload_n hx hb d_Cr_isUpToOne_9 rfl (lv_at hl 1 rfl) ?_
      refine lv_icmp_gt (tgt := 17) hx hb d_Cr_isUpToOne_10 (by decide) (fun c_10 => ?_) (fun c_10 => ?_)
      · skip
        refine lv_iconst (v := 0) hx hb d_Cr_isUpToOne_17 (by decide) ?_
        refine lv_goto (tgt := 35) hx hb d_Cr_isUpToOne_18 (by decide) ?_
        have hP9 := hP.sub (ws' := []) [] rfl
        have hD9 := hD.sub (ws' := []) [] (by decide) rfl
        exact W.zret (ty := .boolean) (v := 0) hx hb hr (rfl) (fun T9 hT9 hW9 => ⟨⟨0, (), rfl, by simp [sw_b, sw_up1, c_1, c_5, c_10], by rw [hT9]; exact hP9, hD9⟩, hS.F hT9⟩) hS.2.2 d_Cr_isUpToOne_35
      · skip
        refine lv_iconst (v := 1) hx hb d_Cr_isUpToOne_13 (by decide) ?_
        refine lv_goto (tgt := 35) hx hb d_Cr_isUpToOne_14 (by decide) ?_
        have hP9 := hP.sub (ws' := []) [] rfl
        have hD9 := hD.sub (ws' := []) [] (by decide) rfl
        exact W.zret (ty := .boolean) (v := 1) hx hb hr (rfl) (fun T9 hT9 hW9 => ⟨⟨1, (), rfl, by simp [sw_b, sw_up1, c_1, c_5, c_10], by rw [hT9]; exact hP9, hD9⟩, hS.F hT9⟩) hS.2.2 d_Cr_isUpToOne_35

abbrev rm_Cr_isFarther : Room := { frames := 1, cells := 0, slots := 0, locals := 15 }
abbrev q_Cr_isFarther (D : va_G) (cI cL : ClassId) (A : Nat → Prop) (k : Nat) (x : Int32) (y : Int32) (k1 : Nat) (k2 : Nat) (k3 : Nat) (nk : Int32) (fs : Int32) (pp : Nat → Int32) (qq : Nat → Int32) : Array Value → State → Outcome → State → Prop := va_Qi (S := Unit) (fun (r : Int32) => fun (_ : Unit) => r = sw_b (sw_far pp qq x.toNatClampNeg y.toNatClampNeg)) (sw_R D A (fun (_ : Unit) => [(k, .inr (4, [.ref k1, .ref k2, .ref k3, .int nk, .int fs])), (k2, .inl (cI, 64, .inl pp)), (k3, .inl (cI, 64, .inl qq))])) A
set_option maxHeartbeats 4000000 in
set_option maxRecDepth 100000 in
theorem c_Cr_isFarther (l : Launch) (D : va_G) (cI cL : ClassId) (tq sz : Nat) (k : Nat) (x : Int32) (y : Int32) (k1 : Nat) (k2 : Nat) (k3 : Nat) (nk : Int32) (fs : Int32) (pp : Nat → Int32) (qq : Nat → Int32) (ix : vp_in x 64) (iy : vp_in y 64) : Met l y_Cr_isFarther w_Cr_isFarther rm_Cr_isFarther (va_Pc [.ref k, .int x, .int y] (sw_B D cI cL tq sz [(k, .inr (4, [.ref k1, .ref k2, .ref k3, .int nk, .int fs])), (k2, .inl (cI, 64, .inl pp)), (k3, .inl (cI, 64, .inl qq))])) (q_Cr_isFarther D cI cL (va_A [(k, .inr (4, [.ref k1, .ref k2, .ref k3, .int nk, .int fs])), (k2, .inl (cI, 64, .inl pp)), (k3, .inl (cI, 64, .inl qq))] sz) k x y k1 k2 k3 nk fs pp qq) 0 0 (va_A [(k, .inr (4, [.ref k1, .ref k2, .ref k3, .int nk, .int fs])), (k2, .inl (cI, 64, .inl pp)), (k3, .inl (cI, 64, .inl qq))] sz) := by
  refine Met.ofW (cc := b_Cr_isFarther) (maxL := 7) (ret := (some .boolean)) (by decide) rfl ?_
  intro mp me s mm args below meth mk s₁ B hml hv
  obtain ⟨rfl, hsz, hP, hK, hD0, hG⟩ := hv
  have hx := B.exec
  have hb := B.bytes
  have hr := B.returns
  have hts := atoms_spec (ws := w_Cr_isFarther) B.pre
  have hw : ∀ w ∈ sw_words, w.before _ s = true := fun w h => hts w (List.mem_cons_of_mem _ h)
  have hown : s.vm.findClass R_Cr = some mm.cls := findClass_of_methodNamed B.named
  have hlocks := B.notSynchronized
  subst hsz
  have hD := hD0.self (sz := s.heap.size)
  generalize hAe : va_A [(k, .inr (4, [.ref k1, .ref k2, .ref k3, .int nk, .int fs])), (k2, .inl (cI, 64, .inl pp)), (k3, .inl (cI, 64, .inl qq))] s.heap.size = A at hD hG ⊢
  have hA : ∀ q : Nat, s.heap.size ≤ q → A q := fun q h => by rw [← hAe]; exact Or.inr h
  have hS : va_S A s.heap s.heap [] := va_S.rf
  have hl := lv_entry ([.ref k, .int x, .int y]) (n := 7) (Nat.le_of_ble_eq_true rfl)
  rw [lg_entry_eq]
  generalize (lg_sl ([.ref k, .int x, .int y]) ++ List.replicate (7 - (lg_sl ([.ref k, .int x, .int y])).length) Slot.unset).toArray = ls at hl ⊢
  have hl : lv_has ls 7 [(0, .ref k), (1, .int x), (2, .int y)] := hl
  refine lv_aload_n hx hb d_Cr_isFarther_0 rfl (lv_at hl 0 rfl) ?_
  refine va_get (D := D) (ci := 4) (v := .ref k2) (C := R_Cr) (T := F_Cr) (N := 5) hx hb hw ku_Cr hown hK hP 0 rfl rfl 1 (by decide) (hw _ kw_600bd2b2) (fun _ h9 => h9) rfl d_Cr_isFarther_1 ?_
  refine lv_iload_n hx hb d_Cr_isFarther_4 rfl (lv_at hl 1 rfl) ?_
  refine va_iald hx hb hK hP 1 0 rfl rfl (by assumption) d_Cr_isFarther_5 ?_
  refine va_mabs hx hb (hml.trans hl.1.symm) hown (hw _ kw_f084e442) (hw _ kw_09634540) (hw _ kw_0f7fb0a1) (hw _ kc_Math_abs) (Nat.le_of_ble_eq_true rfl) (Nat.le_of_ble_eq_true rfl) (Nat.le_of_ble_eq_true rfl) (Nat.le_of_ble_eq_true rfl) d_Cr_isFarther_6 ?_
  refine lv_i2l hx hb d_Cr_isFarther_9 rfl ?_
  refine lv_aload_n hx hb d_Cr_isFarther_10 rfl (lv_at hl 0 rfl) ?_
  refine va_get (D := D) (ci := 4) (v := .ref k3) (C := R_Cr) (T := F_Cr) (N := 5) hx hb hw ku_Cr hown hK hP 0 rfl rfl 2 (by decide) (hw _ kw_47a18be0) (fun _ h9 => h9) rfl d_Cr_isFarther_11 ?_
  refine lv_iload_n hx hb d_Cr_isFarther_14 rfl (lv_at hl 2 rfl) ?_
  refine va_iald hx hb hK hP 2 0 rfl rfl (by assumption) d_Cr_isFarther_15 ?_
  refine va_mabs hx hb (hml.trans hl.1.symm) hown (hw _ kw_f084e442) (hw _ kw_09634540) (hw _ kw_0f7fb0a1) (hw _ kc_Math_abs) (Nat.le_of_ble_eq_true rfl) (Nat.le_of_ble_eq_true rfl) (Nat.le_of_ble_eq_true rfl) (Nat.le_of_ble_eq_true rfl) d_Cr_isFarther_16 ?_
  refine lv_i2l hx hb d_Cr_isFarther_19 rfl ?_
  refine lv_lmul hx hb d_Cr_isFarther_20 ?_
  refine lv_lstore_n (lv' := [(3, .long (((sw_ab (pp x.toNatClampNeg)).toInt64) * ((sw_ab (qq y.toNatClampNeg)).toInt64))), (0, .ref k), (1, .int x), (2, .int y)]) hx hb d_Cr_isFarther_21 rfl hl (by decide) rfl (fun ls hl => ?_)
  refine lv_aload_n hx hb d_Cr_isFarther_22 rfl (lv_at hl 1 rfl) ?_
  refine va_get (D := D) (ci := 4) (v := .ref k2) (C := R_Cr) (T := F_Cr) (N := 5) hx hb hw ku_Cr hown hK hP 0 rfl rfl 1 (by decide) (hw _ kw_600bd2b2) (fun _ h9 => h9) rfl d_Cr_isFarther_23 ?_
  refine lv_iload_n hx hb d_Cr_isFarther_26 rfl (lv_at hl 3 rfl) ?_
  refine va_iald hx hb hK hP 1 0 rfl rfl (by assumption) d_Cr_isFarther_27 ?_
  refine va_mabs hx hb (hml.trans hl.1.symm) hown (hw _ kw_f084e442) (hw _ kw_09634540) (hw _ kw_0f7fb0a1) (hw _ kc_Math_abs) (Nat.le_of_ble_eq_true rfl) (Nat.le_of_ble_eq_true rfl) (Nat.le_of_ble_eq_true rfl) (Nat.le_of_ble_eq_true rfl) d_Cr_isFarther_28 ?_
  refine lv_i2l hx hb d_Cr_isFarther_31 rfl ?_
  refine lv_aload_n hx hb d_Cr_isFarther_32 rfl (lv_at hl 1 rfl) ?_
  refine va_get (D := D) (ci := 4) (v := .ref k3) (C := R_Cr) (T := F_Cr) (N := 5) hx hb hw ku_Cr hown hK hP 0 rfl rfl 2 (by decide) (hw _ kw_47a18be0) (fun _ h9 => h9) rfl d_Cr_isFarther_33 ?_
  refine lv_iload_n hx hb d_Cr_isFarther_36 rfl (lv_at hl 2 rfl) ?_
  refine va_iald hx hb hK hP 2 0 rfl rfl (by assumption) d_Cr_isFarther_37 ?_
  refine va_mabs hx hb (hml.trans hl.1.symm) hown (hw _ kw_f084e442) (hw _ kw_09634540) (hw _ kw_0f7fb0a1) (hw _ kc_Math_abs) (Nat.le_of_ble_eq_true rfl) (Nat.le_of_ble_eq_true rfl) (Nat.le_of_ble_eq_true rfl) (Nat.le_of_ble_eq_true rfl) d_Cr_isFarther_38 ?_
  refine lv_i2l hx hb d_Cr_isFarther_41 rfl ?_
  refine lv_lmul hx hb d_Cr_isFarther_42 ?_
  refine lv_lstore (lv' := [(5, .long (((sw_ab (pp y.toNatClampNeg)).toInt64) * ((sw_ab (qq x.toNatClampNeg)).toInt64))), (3, .long (((sw_ab (pp x.toNatClampNeg)).toInt64) * ((sw_ab (qq y.toNatClampNeg)).toInt64))), (0, .ref k), (1, .int x), (2, .int y)]) hx hb d_Cr_isFarther_43 hl (by decide) rfl (fun ls hl => ?_)
  refine lv_lload_n hx hb d_Cr_isFarther_45 rfl (lv_at hl 1 rfl) ?_
  refine lv_lload hx hb d_Cr_isFarther_46 (lv_at hl 0 rfl) ?_
  refine W.lcmp hx hb d_Cr_isFarther_48 ?_
  refine lv_if_le (tgt := 56) hx hb d_Cr_isFarther_49 (by decide) (fun c_49 => ?_) (fun c_49 => ?_)
  · skip
    replace c_49 : ((lg_cmp (((sw_ab (pp x.toNatClampNeg)).toInt64) * ((sw_ab (qq y.toNatClampNeg)).toInt64)) (((sw_ab (pp y.toNatClampNeg)).toInt64) * ((sw_ab (qq x.toNatClampNeg)).toInt64))) ≤ 0) := c_49
    refine lv_iconst (v := 0) hx hb d_Cr_isFarther_56 (by decide) ?_
    have hP9 := hP.sub (ws' := [(k, .inr (4, [.ref k1, .ref k2, .ref k3, .int nk, .int fs])), (k2, .inl (cI, 64, .inl pp)), (k3, .inl (cI, 64, .inl qq))]) [0, 1, 2] rfl
    have hD9 := hD.sub (ws' := [(k, .inr (4, [.ref k1, .ref k2, .ref k3, .int nk, .int fs])), (k2, .inl (cI, 64, .inl pp)), (k3, .inl (cI, 64, .inl qq))]) [0, 1, 2] (by decide) rfl
    exact W.zret (ty := .boolean) (v := 0) hx hb hr (rfl) (fun T9 hT9 hW9 => ⟨⟨0, (), rfl, by simp [sw_b, sw_far, c_49], by rw [hT9]; exact hP9, hD9⟩, hS.F hT9⟩) hS.2.2 d_Cr_isFarther_57
  · skip
    replace c_49 : ¬ ((lg_cmp (((sw_ab (pp x.toNatClampNeg)).toInt64) * ((sw_ab (qq y.toNatClampNeg)).toInt64)) (((sw_ab (pp y.toNatClampNeg)).toInt64) * ((sw_ab (qq x.toNatClampNeg)).toInt64))) ≤ 0) := c_49
    refine lv_iconst (v := 1) hx hb d_Cr_isFarther_52 (by decide) ?_
    refine lv_goto (tgt := 57) hx hb d_Cr_isFarther_53 (by decide) ?_
    have hP9 := hP.sub (ws' := [(k, .inr (4, [.ref k1, .ref k2, .ref k3, .int nk, .int fs])), (k2, .inl (cI, 64, .inl pp)), (k3, .inl (cI, 64, .inl qq))]) [0, 1, 2] rfl
    have hD9 := hD.sub (ws' := [(k, .inr (4, [.ref k1, .ref k2, .ref k3, .int nk, .int fs])), (k2, .inl (cI, 64, .inl pp)), (k3, .inl (cI, 64, .inl qq))]) [0, 1, 2] (by decide) rfl
    exact W.zret (ty := .boolean) (v := 1) hx hb hr (rfl) (fun T9 hT9 hW9 => ⟨⟨1, (), rfl, by simp [sw_b, sw_far, c_49], by rw [hT9]; exact hP9, hD9⟩, hS.F hT9⟩) hS.2.2 d_Cr_isFarther_57

abbrev rm_Cr_sectorBehind : Room := { frames := 1, cells := 0, slots := 0, locals := 21 }
abbrev q_Cr_sectorBehind (D : va_G) (cI cL : ClassId) (A : Nat → Prop) (k : Nat) (p : Nat) (x : Int32) (k1 : Nat) (k2 : Nat) (k3 : Nat) (nk : Int32) (fs : Int32) (od : Nat → Int32) (pp : Nat → Int32) (pX : Nat) (pY : Nat) (pF : Nat) (pC : Nat) (pA : Nat) (pB : Nat) (pR : Nat) (pK : Nat) (nv : Int32) (ns : Int32) (nw : Int32) (fr : Nat → Int32) (bk : Nat → Int32) : Array Value → State → Outcome → State → Prop := va_Qi (S := Unit) (fun (r : Int32) => fun (_ : Unit) => r = if nk = 0 then x else if 0 ≤ pp (od (nk - 1).toNatClampNeg).toNatClampNeg then fr (od (nk - 1).toNatClampNeg).toNatClampNeg else bk (od (nk - 1).toNatClampNeg).toNatClampNeg) (sw_R D A (fun (_ : Unit) => [(k, .inr (4, [.ref k1, .ref k2, .ref k3, .int nk, .int fs])), (k1, .inl (cI, 64, .inl od)), (k2, .inl (cI, 64, .inl pp)), (p, .inr (1, [.ref pX, .ref pY, .ref pF, .ref pC, .ref pA, .ref pB, .ref pR, .ref pK, .int nv, .int ns, .int nw])), (pR, .inl (cI, 64, .inl fr)), (pK, .inl (cI, 64, .inl bk))])) A
set_option maxHeartbeats 4000000 in
set_option maxRecDepth 100000 in
theorem c_Cr_sectorBehind (l : Launch) (D : va_G) (cI cL : ClassId) (tq sz : Nat) (k : Nat) (p : Nat) (x : Int32) (k1 : Nat) (k2 : Nat) (k3 : Nat) (nk : Int32) (fs : Int32) (od : Nat → Int32) (pp : Nat → Int32) (pX : Nat) (pY : Nat) (pF : Nat) (pC : Nat) (pA : Nat) (pB : Nat) (pR : Nat) (pK : Nat) (nv : Int32) (ns : Int32) (nw : Int32) (fr : Nat → Int32) (bk : Nat → Int32) (hn : sw_ok nk 64) (he : ¬ nk = 0 → vp_in (od (nk - 1).toNatClampNeg) 64) : Met l y_Cr_sectorBehind w_Cr_sectorBehind rm_Cr_sectorBehind (va_Pc [.ref k, .ref p, .int x] (sw_B D cI cL tq sz [(k, .inr (4, [.ref k1, .ref k2, .ref k3, .int nk, .int fs])), (k1, .inl (cI, 64, .inl od)), (k2, .inl (cI, 64, .inl pp)), (p, .inr (1, [.ref pX, .ref pY, .ref pF, .ref pC, .ref pA, .ref pB, .ref pR, .ref pK, .int nv, .int ns, .int nw])), (pR, .inl (cI, 64, .inl fr)), (pK, .inl (cI, 64, .inl bk))])) (q_Cr_sectorBehind D cI cL (va_A [(k, .inr (4, [.ref k1, .ref k2, .ref k3, .int nk, .int fs])), (k1, .inl (cI, 64, .inl od)), (k2, .inl (cI, 64, .inl pp)), (p, .inr (1, [.ref pX, .ref pY, .ref pF, .ref pC, .ref pA, .ref pB, .ref pR, .ref pK, .int nv, .int ns, .int nw])), (pR, .inl (cI, 64, .inl fr)), (pK, .inl (cI, 64, .inl bk))] sz) k p x k1 k2 k3 nk fs od pp pX pY pF pC pA pB pR pK nv ns nw fr bk) 0 0 (va_A [(k, .inr (4, [.ref k1, .ref k2, .ref k3, .int nk, .int fs])), (k1, .inl (cI, 64, .inl od)), (k2, .inl (cI, 64, .inl pp)), (p, .inr (1, [.ref pX, .ref pY, .ref pF, .ref pC, .ref pA, .ref pB, .ref pR, .ref pK, .int nv, .int ns, .int nw])), (pR, .inl (cI, 64, .inl fr)), (pK, .inl (cI, 64, .inl bk))] sz) := by
  refine Met.ofW (cc := b_Cr_sectorBehind) (maxL := 4) (ret := (some .int)) (by decide) rfl ?_
  intro mp me s mm args below meth mk s₁ B hml hv
  obtain ⟨rfl, hsz, hP, hK, hD0, hG⟩ := hv
  have hx := B.exec
  have hb := B.bytes
  have hr := B.returns
  have hts := atoms_spec (ws := w_Cr_sectorBehind) B.pre
  have hw : ∀ w ∈ sw_words, w.before _ s = true := fun w h => hts w (List.mem_cons_of_mem _ h)
  have hown : s.vm.findClass R_Cr = some mm.cls := findClass_of_methodNamed B.named
  have hlocks := B.notSynchronized
  subst hsz
  have hD := hD0.self (sz := s.heap.size)
  generalize hAe : va_A [(k, .inr (4, [.ref k1, .ref k2, .ref k3, .int nk, .int fs])), (k1, .inl (cI, 64, .inl od)), (k2, .inl (cI, 64, .inl pp)), (p, .inr (1, [.ref pX, .ref pY, .ref pF, .ref pC, .ref pA, .ref pB, .ref pR, .ref pK, .int nv, .int ns, .int nw])), (pR, .inl (cI, 64, .inl fr)), (pK, .inl (cI, 64, .inl bk))] s.heap.size = A at hD hG ⊢
  have hA : ∀ q : Nat, s.heap.size ≤ q → A q := fun q h => by rw [← hAe]; exact Or.inr h
  have hS : va_S A s.heap s.heap [] := va_S.rf
  have hl := lv_entry ([.ref k, .ref p, .int x]) (n := 4) (Nat.le_of_ble_eq_true rfl)
  rw [lg_entry_eq]
  generalize (lg_sl ([.ref k, .ref p, .int x]) ++ List.replicate (4 - (lg_sl ([.ref k, .ref p, .int x])).length) Slot.unset).toArray = ls at hl ⊢
  have hl : lv_has ls 4 [(0, .ref k), (1, .ref p), (2, .int x)] := hl
  refine lv_aload_n hx hb d_Cr_sectorBehind_0 rfl (lv_at hl 0 rfl) ?_
  refine va_get (D := D) (ci := 4) (v := .int nk) (C := R_Cr) (T := F_Cr) (N := 5) hx hb hw ku_Cr hown hK hP 0 rfl rfl 3 (by decide) (hw _ kw_7f5cc8e8) (fun _ h9 => h9) rfl d_Cr_sectorBehind_1 ?_
  refine lv_if_ne (tgt := 9) hx hb d_Cr_sectorBehind_4 (by decide) (fun c_4 => ?_) (fun c_4 => ?_)
  · skip
    have hm := sw_okm1 hn (by decide) c_4
    have hj := he c_4
    refine lv_aload_n hx hb d_Cr_sectorBehind_9 rfl (lv_at hl 0 rfl) ?_
    refine va_get (D := D) (ci := 4) (v := .ref k1) (C := R_Cr) (T := F_Cr) (N := 5) hx hb hw ku_Cr hown hK hP 0 rfl rfl 0 (by decide) (hw _ kw_053bb905) (fun _ h9 => h9) rfl d_Cr_sectorBehind_10 ?_
    refine lv_aload_n hx hb d_Cr_sectorBehind_13 rfl (lv_at hl 0 rfl) ?_
    refine va_get (D := D) (ci := 4) (v := .int nk) (C := R_Cr) (T := F_Cr) (N := 5) hx hb hw ku_Cr hown hK hP 0 rfl rfl 3 (by decide) (hw _ kw_7f5cc8e8) (fun _ h9 => h9) rfl d_Cr_sectorBehind_14 ?_
    refine lv_iconst (v := 1) hx hb d_Cr_sectorBehind_17 (by decide) ?_
    refine lv_isub hx hb d_Cr_sectorBehind_18 ?_
    refine va_iald hx hb hK hP 1 0 rfl rfl (by assumption) d_Cr_sectorBehind_19 ?_
    refine lv_istore_n (lv' := [(3, .int (od (nk - 1).toNatClampNeg)), (0, .ref k), (1, .ref p), (2, .int x)]) hx hb d_Cr_sectorBehind_20 rfl hl (by decide) rfl (fun ls hl => ?_)
    refine lv_aload_n hx hb d_Cr_sectorBehind_21 rfl (lv_at hl 1 rfl) ?_
    refine lv_iload_n hx hb d_Cr_sectorBehind_22 rfl (lv_at hl 0 rfl) ?_
    refine sw_ki0 (wr := [(k1, .inl (cI, 64, .inl od)), (p, .inr (1, [.ref pX, .ref pY, .ref pF, .ref pC, .ref pA, .ref pB, .ref pR, .ref pK, .int nv, .int ns, .int nw])), (pR, .inl (cI, 64, .inl fr)), (pK, .inl (cI, 64, .inl bk))]) (va_runV (As := [.int (od (nk - 1).toNatClampNeg)]) (rest := []) ⟨hx, hb, hml, hown, hw⟩ (c_Cr_comesFromFront l D cI cL tq _ k (od (nk - 1).toNatClampNeg) k1 k2 k3 nk fs pp (by assumption)) (cwV 1 hw (sw_gV kw_53f2f32e kw_fc808330 kw_c20cbe3c kw_7f626125 kc_Cr_comesFromFront) rfl rfl rfl ⟨rfl, yd_Cr_comesFromFront⟩ ⟨Nat.le_of_ble_eq_true rfl, Nat.le_of_ble_eq_true rfl⟩) (sw_preV hK hP hD hS hA hG [0, 2] rfl (by decide) 4 0 rfl rfl) rfl rfl hl.1 rfl (lv_room (Nat.le_of_ble_eq_true rfl)) d_Cr_sectorBehind_23 ⟨Nat.le_of_ble_eq_true rfl, Nat.le_of_ble_eq_true rfl⟩) hP hD hS hA [0, 2] [1, 3, 4, 5] rfl rfl (by decide) (by decide) (fun r_23 _ H locs hp_23 hP hD hS => ?_)
    replace hP : va_P D sw_cl [(k1, .inl (cI, 64, .inl od)), (p, .inr (1, [.ref pX, .ref pY, .ref pF, .ref pC, .ref pA, .ref pB, .ref pR, .ref pK, .int nv, .int ns, .int nw])), (pR, .inl (cI, 64, .inl fr)), (pK, .inl (cI, 64, .inl bk)), (k, .inr (4, [.ref k1, .ref k2, .ref k3, .int nk, .int fs])), (k2, .inl (cI, 64, .inl pp))] H := hP
    replace hD : va_D A [(k1, .inl (cI, 64, .inl od)), (p, .inr (1, [.ref pX, .ref pY, .ref pF, .ref pC, .ref pA, .ref pB, .ref pR, .ref pK, .int nv, .int ns, .int nw])), (pR, .inl (cI, 64, .inl fr)), (pK, .inl (cI, 64, .inl bk)), (k, .inr (4, [.ref k1, .ref k2, .ref k3, .int nk, .int fs])), (k2, .inl (cI, 64, .inl pp))] := hD
    try dsimp only at hp_23
    subst hp_23
    refine lv_if_eq (tgt := 38) hx hb d_Cr_sectorBehind_26 (by decide) (fun c_26 => ?_) (fun c_26 => ?_)
    · skip
      replace c_26 := sw_b0.mp c_26
      refine lv_aload_n hx hb d_Cr_sectorBehind_38 rfl (lv_at hl 2 rfl) ?_
      refine va_get (D := D) (ci := 1) (v := .ref pR) (C := R_Pl) (T := F_Pl) (N := 11) hx hb hw ku_Pl hown hK hP 1 rfl rfl 6 (by decide) (hw _ kw_d6cc6d58) (fun _ h9 => h9) rfl d_Cr_sectorBehind_39 ?_
      refine lv_iload_n hx hb d_Cr_sectorBehind_42 rfl (lv_at hl 0 rfl) ?_
      refine va_iald hx hb hK hP 2 0 rfl rfl (by assumption) d_Cr_sectorBehind_43 ?_
      have hP9 := hP.sub (ws' := [(k, .inr (4, [.ref k1, .ref k2, .ref k3, .int nk, .int fs])), (k1, .inl (cI, 64, .inl od)), (k2, .inl (cI, 64, .inl pp)), (p, .inr (1, [.ref pX, .ref pY, .ref pF, .ref pC, .ref pA, .ref pB, .ref pR, .ref pK, .int nv, .int ns, .int nw])), (pR, .inl (cI, 64, .inl fr)), (pK, .inl (cI, 64, .inl bk))]) [4, 0, 5, 1, 2, 3] rfl
      have hD9 := hD.sub (ws' := [(k, .inr (4, [.ref k1, .ref k2, .ref k3, .int nk, .int fs])), (k1, .inl (cI, 64, .inl od)), (k2, .inl (cI, 64, .inl pp)), (p, .inr (1, [.ref pX, .ref pY, .ref pF, .ref pC, .ref pA, .ref pB, .ref pR, .ref pK, .int nv, .int ns, .int nw])), (pR, .inl (cI, 64, .inl fr)), (pK, .inl (cI, 64, .inl bk))]) [4, 0, 5, 1, 2, 3] (by decide) rfl
      exact W.iret (v := fr (od (nk - 1).toNatClampNeg).toNatClampNeg) hx hb hr (fun T9 hT9 hW9 => ⟨⟨fr (od (nk - 1).toNatClampNeg).toNatClampNeg, (), rfl, by rw [if_neg c_4]; first | rw [if_pos (of_decide_eq_true (by simpa using c_26))] | rw [if_neg (of_decide_eq_false (by simpa using c_26))], by rw [hT9]; exact hP9, hD9⟩, hS.F hT9⟩) hS.2.2 d_Cr_sectorBehind_44
    · skip
      replace c_26 := sw_bn.mp c_26
      refine lv_aload_n hx hb d_Cr_sectorBehind_29 rfl (lv_at hl 2 rfl) ?_
      refine va_get (D := D) (ci := 1) (v := .ref pK) (C := R_Pl) (T := F_Pl) (N := 11) hx hb hw ku_Pl hown hK hP 1 rfl rfl 7 (by decide) (hw _ kw_20b713e0) (fun _ h9 => h9) rfl d_Cr_sectorBehind_30 ?_
      refine lv_iload_n hx hb d_Cr_sectorBehind_33 rfl (lv_at hl 0 rfl) ?_
      refine va_iald hx hb hK hP 3 0 rfl rfl (by assumption) d_Cr_sectorBehind_34 ?_
      refine lv_goto (tgt := 44) hx hb d_Cr_sectorBehind_35 (by decide) ?_
      have hP9 := hP.sub (ws' := [(k, .inr (4, [.ref k1, .ref k2, .ref k3, .int nk, .int fs])), (k1, .inl (cI, 64, .inl od)), (k2, .inl (cI, 64, .inl pp)), (p, .inr (1, [.ref pX, .ref pY, .ref pF, .ref pC, .ref pA, .ref pB, .ref pR, .ref pK, .int nv, .int ns, .int nw])), (pR, .inl (cI, 64, .inl fr)), (pK, .inl (cI, 64, .inl bk))]) [4, 0, 5, 1, 2, 3] rfl
      have hD9 := hD.sub (ws' := [(k, .inr (4, [.ref k1, .ref k2, .ref k3, .int nk, .int fs])), (k1, .inl (cI, 64, .inl od)), (k2, .inl (cI, 64, .inl pp)), (p, .inr (1, [.ref pX, .ref pY, .ref pF, .ref pC, .ref pA, .ref pB, .ref pR, .ref pK, .int nv, .int ns, .int nw])), (pR, .inl (cI, 64, .inl fr)), (pK, .inl (cI, 64, .inl bk))]) [4, 0, 5, 1, 2, 3] (by decide) rfl
      exact W.iret (v := bk (od (nk - 1).toNatClampNeg).toNatClampNeg) hx hb hr (fun T9 hT9 hW9 => ⟨⟨bk (od (nk - 1).toNatClampNeg).toNatClampNeg, (), rfl, by rw [if_neg c_4]; first | rw [if_pos (of_decide_eq_true (by simpa using c_26))] | rw [if_neg (of_decide_eq_false (by simpa using c_26))], by rw [hT9]; exact hP9, hD9⟩, hS.F hT9⟩) hS.2.2 d_Cr_sectorBehind_44
  · skip
    refine lv_iload_n hx hb d_Cr_sectorBehind_7 rfl (lv_at hl 2 rfl) ?_
    have hP9 := hP.sub (ws' := [(k, .inr (4, [.ref k1, .ref k2, .ref k3, .int nk, .int fs])), (k1, .inl (cI, 64, .inl od)), (k2, .inl (cI, 64, .inl pp)), (p, .inr (1, [.ref pX, .ref pY, .ref pF, .ref pC, .ref pA, .ref pB, .ref pR, .ref pK, .int nv, .int ns, .int nw])), (pR, .inl (cI, 64, .inl fr)), (pK, .inl (cI, 64, .inl bk))]) [0, 1, 2, 3, 4, 5] rfl
    have hD9 := hD.sub (ws' := [(k, .inr (4, [.ref k1, .ref k2, .ref k3, .int nk, .int fs])), (k1, .inl (cI, 64, .inl od)), (k2, .inl (cI, 64, .inl pp)), (p, .inr (1, [.ref pX, .ref pY, .ref pF, .ref pC, .ref pA, .ref pB, .ref pR, .ref pK, .int nv, .int ns, .int nw])), (pR, .inl (cI, 64, .inl fr)), (pK, .inl (cI, 64, .inl bk))]) [0, 1, 2, 3, 4, 5] (by decide) rfl
    exact W.iret (v := x) hx hb hr (fun T9 hT9 hW9 => ⟨⟨x, (), rfl, by simp [c_4], by rw [hT9]; exact hP9, hD9⟩, hS.F hT9⟩) hS.2.2 d_Cr_sectorBehind_8

abbrev rm_Cr_insert : Room := { frames := 2, cells := 0, slots := 0, locals := 41 }
abbrev q_Cr_insert (D : va_G) (cI cL : ClassId) (A : Nat → Prop) (k : Nat) (x : Int32) (k1 : Nat) (k2 : Nat) (k3 : Nat) (nk : Int32) (fs : Int32) (od : Nat → Int32) (pp : Nat → Int32) (qq : Nat → Int32) : Array Value → State → Outcome → State → Prop := va_Qv (S := (Nat → Int32)) (fun (od2 : Nat → Int32) => od2 = sw_insf (fun v => sw_far pp qq v.toNatClampNeg x.toNatClampNeg) x nk.toNatClampNeg od) (sw_R D A (fun (od2 : Nat → Int32) => [(k, .inr (4, [.ref k1, .ref k2, .ref k3, .int (nk + 1), .int fs])), (k1, .inl (cI, 64, .inl od2)), (k2, .inl (cI, 64, .inl pp)), (k3, .inl (cI, 64, .inl qq))])) A
set_option maxHeartbeats 4000000 in
set_option maxRecDepth 100000 in
theorem c_Cr_insert (l : Launch) (D : va_G) (cI cL : ClassId) (tq sz : Nat) (k : Nat) (x : Int32) (k1 : Nat) (k2 : Nat) (k3 : Nat) (nk : Int32) (fs : Int32) (od : Nat → Int32) (pp : Nat → Int32) (qq : Nat → Int32) (hn : sw_ok nk 63) (ix : vp_in x 64) (hv : ∀ j : Nat, j < nk.toNatClampNeg → vp_in (od j) 64) : Met l y_Cr_insert w_Cr_insert rm_Cr_insert (va_Pc [.ref k, .int x] (sw_B D cI cL tq sz [(k, .inr (4, [.ref k1, .ref k2, .ref k3, .int nk, .int fs])), (k1, .inl (cI, 64, .inl od)), (k2, .inl (cI, 64, .inl pp)), (k3, .inl (cI, 64, .inl qq))])) (q_Cr_insert D cI cL (va_A [(k, .inr (4, [.ref k1, .ref k2, .ref k3, .int nk, .int fs])), (k1, .inl (cI, 64, .inl od)), (k2, .inl (cI, 64, .inl pp)), (k3, .inl (cI, 64, .inl qq))] sz) k x k1 k2 k3 nk fs od pp qq) 0 0 (va_A [(k, .inr (4, [.ref k1, .ref k2, .ref k3, .int nk, .int fs])), (k1, .inl (cI, 64, .inl od)), (k2, .inl (cI, 64, .inl pp)), (k3, .inl (cI, 64, .inl qq))] sz) := by
  refine Met.ofW (cc := b_Cr_insert) (maxL := 3) (ret := none) (by decide) rfl ?_
  intro mp me s mm args below meth mk s₁ B hml hv
  obtain ⟨rfl, hsz, hP, hK, hD0, hG⟩ := hv
  have hx := B.exec
  have hb := B.bytes
  have hr := B.returns
  have hts := atoms_spec (ws := w_Cr_insert) B.pre
  have hw : ∀ w ∈ sw_words, w.before _ s = true := fun w h => hts w (List.mem_cons_of_mem _ h)
  have hown : s.vm.findClass R_Cr = some mm.cls := findClass_of_methodNamed B.named
  have hlocks := B.notSynchronized
  subst hsz
  have hD := hD0.self (sz := s.heap.size)
  generalize hAe : va_A [(k, .inr (4, [.ref k1, .ref k2, .ref k3, .int nk, .int fs])), (k1, .inl (cI, 64, .inl od)), (k2, .inl (cI, 64, .inl pp)), (k3, .inl (cI, 64, .inl qq))] s.heap.size = A at hD hG ⊢
  have hA : ∀ q : Nat, s.heap.size ≤ q → A q := fun q h => by rw [← hAe]; exact Or.inr h
  have hS : va_S A s.heap s.heap [] := va_S.rf
  have hl := lv_entry ([.ref k, .int x]) (n := 3) (Nat.le_of_ble_eq_true rfl)
  rw [lg_entry_eq]
  generalize (lg_sl ([.ref k, .int x]) ++ List.replicate (3 - (lg_sl ([.ref k, .int x])).length) Slot.unset).toArray = ls at hl ⊢
  have hl : lv_has ls 3 [(0, .ref k), (1, .int x)] := hl
  have hn6 := hn.2
  refine lv_aload_n hx hb d_Cr_insert_0 rfl (lv_at hl 0 rfl) ?_
  refine va_get (D := D) (ci := 4) (v := .int nk) (C := R_Cr) (T := F_Cr) (N := 5) hx hb hw ku_Cr hown hK hP 0 rfl rfl 3 (by decide) (hw _ kw_7f5cc8e8) (fun _ h9 => h9) rfl d_Cr_insert_1 ?_
  refine lv_istore_n (lv' := [(2, .int nk), (0, .ref k), (1, .int x)]) hx hb d_Cr_insert_4 rfl hl (by decide) rfl (fun ls hl => ?_)
  have lp_5 : ∀ (n : Nat) (q : Nat) (i : Int32) (f : Nat → Int32) (H : Heap) (locs : List Loc) (ls : Array Slot), (i = nI q) → (q ≤ nk.toNatClampNeg) → (∀ j : Nat, j < q → f j = od j) → (sw_insf (fun v => sw_far pp qq v.toNatClampNeg x.toNatClampNeg) x q f = sw_insf (fun v => sw_far pp qq v.toNatClampNeg x.toNatClampNeg) x nk.toNatClampNeg od) → q < n → va_P D sw_cl [(k, .inr (4, [.ref k1, .ref k2, .ref k3, .int nk, .int fs])), (k1, .inl (cI, 64, .inl f)), (k2, .inl (cI, 64, .inl pp)), (k3, .inl (cI, 64, .inl qq))] H → va_D A [(k, .inr (4, [.ref k1, .ref k2, .ref k3, .int nk, .int fs])), (k1, .inl (cI, 64, .inl f)), (k2, .inl (cI, 64, .inl pp)), (k3, .inl (cI, 64, .inl qq))] → va_S A s.heap H locs → lv_has ls 3 [(0, .ref k), (1, .int x), (2, .int i)] → W mp l me (headSpec w_Cr_insert rm_Cr_insert).room s mm ([.ref k, .int x]).toArray below meth mk H locs 0 0 (MQ below (q_Cr_insert D cI cL A k x k1 k2 k3 nk fs od pp qq) ([.ref k, .int x]).toArray s 0 0 A) (F0 mm 5 ls []) := by
    intro n
    induction n with
    | zero => intro q i f H locs ls hi hq hf hs hm; exact absurd hm (Nat.not_lt_zero _)
    | succ n ih_5 =>
      intro q i f H locs ls hi hq hf hs hm hP hD hS hl
      refine lv_iload_n hx hb d_Cr_insert_5 rfl (lv_at hl 2 rfl) ?_
      refine lv_if_le (tgt := 45) hx hb d_Cr_insert_6 (by decide) (fun c_6 => ?_) (fun c_6 => ?_)
      · skip
        have hin2 : vp_in i 64 := by rw [hi]; exact vp_in_nI (by omega) (by omega)
        refine lv_aload_n hx hb d_Cr_insert_45 rfl (lv_at hl 0 rfl) ?_
        refine va_get (D := D) (ci := 4) (v := .ref k1) (C := R_Cr) (T := F_Cr) (N := 5) hx hb hw ku_Cr hown hK hP 0 rfl rfl 0 (by decide) (hw _ kw_053bb905) (fun _ h9 => h9) rfl d_Cr_insert_46 ?_
        refine lv_iload_n hx hb d_Cr_insert_49 rfl (lv_at hl 2 rfl) ?_
        refine lv_iload_n hx hb d_Cr_insert_50 rfl (lv_at hl 1 rfl) ?_
        refine va_iast hx hb hK hP hD hS 1 0 rfl rfl (by assumption) d_Cr_insert_51 (fun H locs hP hD hS => ?_)
        replace hP : va_P D sw_cl [(k, .inr (4, [.ref k1, .ref k2, .ref k3, .int nk, .int fs])), (k1, .inl (cI, 64, .inl (upd f i.toNatClampNeg x))), (k2, .inl (cI, 64, .inl pp)), (k3, .inl (cI, 64, .inl qq))] H := hP
        replace hD : va_D A [(k, .inr (4, [.ref k1, .ref k2, .ref k3, .int nk, .int fs])), (k1, .inl (cI, 64, .inl (upd f i.toNatClampNeg x))), (k2, .inl (cI, 64, .inl pp)), (k3, .inl (cI, 64, .inl qq))] := hD
        refine lv_aload_n hx hb d_Cr_insert_52 rfl (lv_at hl 0 rfl) ?_
        refine lv_dup hx hb d_Cr_insert_53 rfl ?_
        refine va_get (D := D) (ci := 4) (v := .int nk) (C := R_Cr) (T := F_Cr) (N := 5) hx hb hw ku_Cr hown hK hP 0 rfl rfl 3 (by decide) (hw _ kw_7f5cc8e8) (fun _ h9 => h9) rfl d_Cr_insert_54 ?_
        refine lv_iconst (v := 1) hx hb d_Cr_insert_57 (by decide) ?_
        refine lv_iadd hx hb d_Cr_insert_58 ?_
        refine va_put (D := D) (ci := 4) (v := .int (nk + 1)) (ty := t_Cr 3) (C := R_Cr) (T := F_Cr) (N := 5) hx hb hw ku_Cr t_Cr t_Cr_ok n_Cr hown hK hP hD hS 0 rfl rfl 3 (by decide) (hw _ kw_7f5cc8e8) (fun _ h9 => h9) rfl (t_Cr_ok 3 (by decide)) rfl rfl (Nat.le_of_ble_eq_true rfl) d_Cr_insert_59 (fun H locs hP hD hS => ?_)
        replace hP : va_P D sw_cl [(k, .inr (4, [.ref k1, .ref k2, .ref k3, .int (nk + 1), .int fs])), (k1, .inl (cI, 64, .inl (upd f i.toNatClampNeg x))), (k2, .inl (cI, 64, .inl pp)), (k3, .inl (cI, 64, .inl qq))] H := hP
        replace hD : va_D A [(k, .inr (4, [.ref k1, .ref k2, .ref k3, .int (nk + 1), .int fs])), (k1, .inl (cI, 64, .inl (upd f i.toNatClampNeg x))), (k2, .inl (cI, 64, .inl pp)), (k3, .inl (cI, 64, .inl qq))] := hD
        have hP9 := hP.sub (ws' := [(k, .inr (4, [.ref k1, .ref k2, .ref k3, .int (nk + 1), .int fs])), (k1, .inl (cI, 64, .inl (upd f i.toNatClampNeg x))), (k2, .inl (cI, 64, .inl pp)), (k3, .inl (cI, 64, .inl qq))]) [0, 1, 2, 3] rfl
        have hD9 := hD.sub (ws' := [(k, .inr (4, [.ref k1, .ref k2, .ref k3, .int (nk + 1), .int fs])), (k1, .inl (cI, 64, .inl (upd f i.toNatClampNeg x))), (k2, .inl (cI, 64, .inl pp)), (k3, .inl (cI, 64, .inl qq))]) [0, 1, 2, 3] (by decide) rfl
        exact W.vret hx hb hr (fun T9 hT9 hW9 => ⟨⟨(upd f i.toNatClampNeg x), rfl, by first | trivial | (first | (obtain rfl := sw_zero hi (by omega) c_6; rw [← hs, hi, nI_clamp (by decide)]; rfl) | (rw [← hs, hi3]; rw [hi2] at c_22; simp [sw_insf, c_22])), by rw [hT9]; exact hP9, hD9⟩, hS.F hT9⟩) hS.2.2 d_Cr_insert_62
      · skip
        obtain ⟨z, rfl⟩ := sw_pos hi (by omega) c_6
        have hi1 : i - 1 = nI z := by rw [hi]; exact nI_pred z
        have hi2 : (i - 1).toNatClampNeg = z := by rw [hi1]; exact nI_clamp (by omega)
        have hi3 : i.toNatClampNeg = z + 1 := by rw [hi]; exact nI_clamp (by omega)
        have hfz : vp_in (f (i - 1).toNatClampNeg) 64 := by rw [hi2, hf z (by omega)]; exact hv z (by omega)
        have hin1 : vp_in (i - 1) 64 := by rw [hi1]; exact vp_in_nI (by omega) (by omega)
        have hin2 : vp_in i 64 := by rw [hi]; exact vp_in_nI (by omega) (by omega)
        refine lv_aload_n hx hb d_Cr_insert_9 rfl (lv_at hl 0 rfl) ?_
        refine lv_aload_n hx hb d_Cr_insert_10 rfl (lv_at hl 0 rfl) ?_
        refine va_get (D := D) (ci := 4) (v := .ref k1) (C := R_Cr) (T := F_Cr) (N := 5) hx hb hw ku_Cr hown hK hP 0 rfl rfl 0 (by decide) (hw _ kw_053bb905) (fun _ h9 => h9) rfl d_Cr_insert_11 ?_
        refine lv_iload_n hx hb d_Cr_insert_14 rfl (lv_at hl 2 rfl) ?_
        refine lv_iconst (v := 1) hx hb d_Cr_insert_15 (by decide) ?_
        refine lv_isub hx hb d_Cr_insert_16 ?_
        refine va_iald hx hb hK hP 1 0 rfl rfl (by assumption) d_Cr_insert_17 ?_
        refine lv_iload_n hx hb d_Cr_insert_18 rfl (lv_at hl 1 rfl) ?_
        refine sw_ki0 (wr := [(k1, .inl (cI, 64, .inl f))]) (va_runV (As := [.int (f (i - 1).toNatClampNeg), .int x]) (rest := []) ⟨hx, hb, hml, hown, hw⟩ (c_Cr_isFarther l D cI cL tq _ k (f (i - 1).toNatClampNeg) x k1 k2 k3 nk fs pp qq (by assumption) (by assumption)) (cwV 2 hw (sw_gV kw_1a4b003e kw_a1abe97f kw_f1434ec2 kw_7f626125 kc_Cr_isFarther) rfl rfl rfl ⟨rfl, yd_Cr_isFarther⟩ ⟨Nat.le_of_ble_eq_true rfl, Nat.le_of_ble_eq_true rfl⟩) (sw_preV hK hP hD hS hA hG [0, 2, 3] rfl (by decide) 4 0 rfl rfl) rfl rfl hl.1 rfl (lv_room (Nat.le_of_ble_eq_true rfl)) d_Cr_insert_19 ⟨Nat.le_of_ble_eq_true rfl, Nat.le_of_ble_eq_true rfl⟩) hP hD hS hA [0, 2, 3] [1] rfl rfl (by decide) (by decide) (fun r_19 _ H locs hp_19 hP hD hS => ?_)
        replace hP : va_P D sw_cl [(k1, .inl (cI, 64, .inl f)), (k, .inr (4, [.ref k1, .ref k2, .ref k3, .int nk, .int fs])), (k2, .inl (cI, 64, .inl pp)), (k3, .inl (cI, 64, .inl qq))] H := hP
        replace hD : va_D A [(k1, .inl (cI, 64, .inl f)), (k, .inr (4, [.ref k1, .ref k2, .ref k3, .int nk, .int fs])), (k2, .inl (cI, 64, .inl pp)), (k3, .inl (cI, 64, .inl qq))] := hD
        try dsimp only at hp_19
        subst hp_19
        refine lv_if_eq (tgt := 45) hx hb d_Cr_insert_22 (by decide) (fun c_22 => ?_) (fun c_22 => ?_)
        · skip
          replace c_22 := sw_b0.mp c_22
          have hin2 : vp_in i 64 := by rw [hi]; exact vp_in_nI (by omega) (by omega)
          refine lv_aload_n hx hb d_Cr_insert_45 rfl (lv_at hl 0 rfl) ?_
          refine va_get (D := D) (ci := 4) (v := .ref k1) (C := R_Cr) (T := F_Cr) (N := 5) hx hb hw ku_Cr hown hK hP 1 rfl rfl 0 (by decide) (hw _ kw_053bb905) (fun _ h9 => h9) rfl d_Cr_insert_46 ?_
          refine lv_iload_n hx hb d_Cr_insert_49 rfl (lv_at hl 2 rfl) ?_
          refine lv_iload_n hx hb d_Cr_insert_50 rfl (lv_at hl 1 rfl) ?_
          refine va_iast hx hb hK hP hD hS 0 0 rfl rfl (by assumption) d_Cr_insert_51 (fun H locs hP hD hS => ?_)
          replace hP : va_P D sw_cl [(k1, .inl (cI, 64, .inl (upd f i.toNatClampNeg x))), (k, .inr (4, [.ref k1, .ref k2, .ref k3, .int nk, .int fs])), (k2, .inl (cI, 64, .inl pp)), (k3, .inl (cI, 64, .inl qq))] H := hP
          replace hD : va_D A [(k1, .inl (cI, 64, .inl (upd f i.toNatClampNeg x))), (k, .inr (4, [.ref k1, .ref k2, .ref k3, .int nk, .int fs])), (k2, .inl (cI, 64, .inl pp)), (k3, .inl (cI, 64, .inl qq))] := hD
          refine lv_aload_n hx hb d_Cr_insert_52 rfl (lv_at hl 0 rfl) ?_
          refine lv_dup hx hb d_Cr_insert_53 rfl ?_
          refine va_get (D := D) (ci := 4) (v := .int nk) (C := R_Cr) (T := F_Cr) (N := 5) hx hb hw ku_Cr hown hK hP 1 rfl rfl 3 (by decide) (hw _ kw_7f5cc8e8) (fun _ h9 => h9) rfl d_Cr_insert_54 ?_
          refine lv_iconst (v := 1) hx hb d_Cr_insert_57 (by decide) ?_
          refine lv_iadd hx hb d_Cr_insert_58 ?_
          refine va_put (D := D) (ci := 4) (v := .int (nk + 1)) (ty := t_Cr 3) (C := R_Cr) (T := F_Cr) (N := 5) hx hb hw ku_Cr t_Cr t_Cr_ok n_Cr hown hK hP hD hS 1 rfl rfl 3 (by decide) (hw _ kw_7f5cc8e8) (fun _ h9 => h9) rfl (t_Cr_ok 3 (by decide)) rfl rfl (Nat.le_of_ble_eq_true rfl) d_Cr_insert_59 (fun H locs hP hD hS => ?_)
          replace hP : va_P D sw_cl [(k1, .inl (cI, 64, .inl (upd f i.toNatClampNeg x))), (k, .inr (4, [.ref k1, .ref k2, .ref k3, .int (nk + 1), .int fs])), (k2, .inl (cI, 64, .inl pp)), (k3, .inl (cI, 64, .inl qq))] H := hP
          replace hD : va_D A [(k1, .inl (cI, 64, .inl (upd f i.toNatClampNeg x))), (k, .inr (4, [.ref k1, .ref k2, .ref k3, .int (nk + 1), .int fs])), (k2, .inl (cI, 64, .inl pp)), (k3, .inl (cI, 64, .inl qq))] := hD
          have hP9 := hP.sub (ws' := [(k, .inr (4, [.ref k1, .ref k2, .ref k3, .int (nk + 1), .int fs])), (k1, .inl (cI, 64, .inl (upd f i.toNatClampNeg x))), (k2, .inl (cI, 64, .inl pp)), (k3, .inl (cI, 64, .inl qq))]) [1, 0, 2, 3] rfl
          have hD9 := hD.sub (ws' := [(k, .inr (4, [.ref k1, .ref k2, .ref k3, .int (nk + 1), .int fs])), (k1, .inl (cI, 64, .inl (upd f i.toNatClampNeg x))), (k2, .inl (cI, 64, .inl pp)), (k3, .inl (cI, 64, .inl qq))]) [1, 0, 2, 3] (by decide) rfl
          exact W.vret hx hb hr (fun T9 hT9 hW9 => ⟨⟨(upd f i.toNatClampNeg x), rfl, by first | trivial | (first | (obtain rfl := sw_zero hi (by omega) c_6; rw [← hs, hi, nI_clamp (by decide)]; rfl) | (rw [← hs, hi3]; rw [hi2] at c_22; simp [sw_insf, c_22])), by rw [hT9]; exact hP9, hD9⟩, hS.F hT9⟩) hS.2.2 d_Cr_insert_62
        · skip
          replace c_22 := sw_bn.mp c_22
          refine lv_aload_n hx hb d_Cr_insert_25 rfl (lv_at hl 0 rfl) ?_
          refine va_get (D := D) (ci := 4) (v := .ref k1) (C := R_Cr) (T := F_Cr) (N := 5) hx hb hw ku_Cr hown hK hP 1 rfl rfl 0 (by decide) (hw _ kw_053bb905) (fun _ h9 => h9) rfl d_Cr_insert_26 ?_
          refine lv_iload_n hx hb d_Cr_insert_29 rfl (lv_at hl 2 rfl) ?_
          refine lv_aload_n hx hb d_Cr_insert_30 rfl (lv_at hl 0 rfl) ?_
          refine va_get (D := D) (ci := 4) (v := .ref k1) (C := R_Cr) (T := F_Cr) (N := 5) hx hb hw ku_Cr hown hK hP 1 rfl rfl 0 (by decide) (hw _ kw_053bb905) (fun _ h9 => h9) rfl d_Cr_insert_31 ?_
          refine lv_iload_n hx hb d_Cr_insert_34 rfl (lv_at hl 2 rfl) ?_
          refine lv_iconst (v := 1) hx hb d_Cr_insert_35 (by decide) ?_
          refine lv_isub hx hb d_Cr_insert_36 ?_
          refine va_iald hx hb hK hP 0 0 rfl rfl (by assumption) d_Cr_insert_37 ?_
          refine va_iast hx hb hK hP hD hS 0 0 rfl rfl (by assumption) d_Cr_insert_38 (fun H locs hP hD hS => ?_)
          replace hP : va_P D sw_cl [(k1, .inl (cI, 64, .inl (upd f i.toNatClampNeg (f (i - 1).toNatClampNeg)))), (k, .inr (4, [.ref k1, .ref k2, .ref k3, .int nk, .int fs])), (k2, .inl (cI, 64, .inl pp)), (k3, .inl (cI, 64, .inl qq))] H := hP
          replace hD : va_D A [(k1, .inl (cI, 64, .inl (upd f i.toNatClampNeg (f (i - 1).toNatClampNeg)))), (k, .inr (4, [.ref k1, .ref k2, .ref k3, .int nk, .int fs])), (k2, .inl (cI, 64, .inl pp)), (k3, .inl (cI, 64, .inl qq))] := hD
          refine lv_iinc (v := i + (-1)) (lv' := [(2, .int (i + (-1))), (0, .ref k), (1, .int x)]) hx hb d_Cr_insert_39 hl (k := 2) rfl rfl (by decide) rfl (fun ls hl => ?_)
          refine lv_goto (tgt := 5) hx hb d_Cr_insert_42 (by decide) ?_
          exact ih_5 z (i + (-1)) (upd f i.toNatClampNeg (f (i - 1).toNatClampNeg)) _ _ _ (by rw [hi]; exact pk_m1 z) (by omega) (fun j hj => by rw [hi3, pk_un (by omega)]; exact hf j (by omega)) (by rw [← hs, hi3, hi2]; rw [hi2] at c_22; simp [sw_insf, c_22]) (by omega) (hP.sub [1, 0, 2, 3] rfl) (hD.sub [1, 0, 2, 3] (by decide) rfl) hS (lv_sub hl [1, 2, 0] rfl)
  exact lp_5 _ nk.toNatClampNeg nk od _ _ _ (hn.1) (Nat.le_refl _) (fun _ _ => rfl) (rfl) (Nat.lt_succ_self _) (hP.sub [0, 1, 2, 3] rfl) (hD.sub [0, 1, 2, 3] (by decide) rfl) hS (lv_sub hl [1, 2, 0] rfl)

abbrev rm_Cr_isCrossed : Room := { frames := 1, cells := 0, slots := 0, locals := 23 }
abbrev q_Cr_isCrossed (D : va_G) (cI cL : ClassId) (A : Nat → Prop) (k : Nat) (p : Nat) (x : Int32) (o : Nat) (y : Int32) (z : Int32) (k1 : Nat) (k2 : Nat) (k3 : Nat) (nk : Int32) (fs : Int32) (pp : Nat → Int32) (qq : Nat → Int32) (pX : Nat) (pY : Nat) (pF : Nat) (pC : Nat) (pA : Nat) (pB : Nat) (pR : Nat) (pK : Nat) (nv : Int32) (ns : Int32) (nw : Int32) (vx : Nat → Int32) (vy : Nat → Int32) (fa : Nat → Int32) (tb : Nat → Int32) (ox : Int32) (oy : Int32) (oa : Int32) (os : Int32) : Array Value → State → Outcome → State → Prop := va_Qi (S := (Nat → Int32) × (Nat → Int32)) (fun (r : Int32) => fun (u : (Nat → Int32) × (Nat → Int32)) => match u with | (pp2, qq2) => r = ((sw_isc vx vy fa tb ox oy y z pp qq x.toNatClampNeg).1) ∧ pp2 = ((sw_isc vx vy fa tb ox oy y z pp qq x.toNatClampNeg).2.1) ∧ qq2 = ((sw_isc vx vy fa tb ox oy y z pp qq x.toNatClampNeg).2.2)) (sw_R D A (fun (u : (Nat → Int32) × (Nat → Int32)) => match u with | (pp2, qq2) => [(k, .inr (4, [.ref k1, .ref k2, .ref k3, .int nk, .int fs])), (k2, .inl (cI, 64, .inl pp2)), (k3, .inl (cI, 64, .inl qq2)), (p, .inr (1, [.ref pX, .ref pY, .ref pF, .ref pC, .ref pA, .ref pB, .ref pR, .ref pK, .int nv, .int ns, .int nw])), (pX, .inl (cI, 64, .inl vx)), (pY, .inl (cI, 64, .inl vy)), (pA, .inl (cI, 64, .inl fa)), (pB, .inl (cI, 64, .inl tb)), (o, .inr (3, [.int ox, .int oy, .int oa, .int os]))])) A
set_option maxHeartbeats 4000000 in
set_option maxRecDepth 100000 in
theorem c_Cr_isCrossed (l : Launch) (D : va_G) (cI cL : ClassId) (tq sz : Nat) (k : Nat) (p : Nat) (x : Int32) (o : Nat) (y : Int32) (z : Int32) (k1 : Nat) (k2 : Nat) (k3 : Nat) (nk : Int32) (fs : Int32) (pp : Nat → Int32) (qq : Nat → Int32) (pX : Nat) (pY : Nat) (pF : Nat) (pC : Nat) (pA : Nat) (pB : Nat) (pR : Nat) (pK : Nat) (nv : Int32) (ns : Int32) (nw : Int32) (vx : Nat → Int32) (vy : Nat → Int32) (fa : Nat → Int32) (tb : Nat → Int32) (ox : Int32) (oy : Int32) (oa : Int32) (os : Int32) (ix : vp_in x 64) (jx : vp_in (fa x.toNatClampNeg) 64) (kx : vp_in (tb x.toNatClampNeg) 64) : Met l y_Cr_isCrossed w_Cr_isCrossed rm_Cr_isCrossed (va_Pc [.ref k, .ref p, .int x, .ref o, .int y, .int z] (sw_B D cI cL tq sz [(k, .inr (4, [.ref k1, .ref k2, .ref k3, .int nk, .int fs])), (k2, .inl (cI, 64, .inl pp)), (k3, .inl (cI, 64, .inl qq)), (p, .inr (1, [.ref pX, .ref pY, .ref pF, .ref pC, .ref pA, .ref pB, .ref pR, .ref pK, .int nv, .int ns, .int nw])), (pX, .inl (cI, 64, .inl vx)), (pY, .inl (cI, 64, .inl vy)), (pA, .inl (cI, 64, .inl fa)), (pB, .inl (cI, 64, .inl tb)), (o, .inr (3, [.int ox, .int oy, .int oa, .int os]))])) (q_Cr_isCrossed D cI cL (va_A [(k, .inr (4, [.ref k1, .ref k2, .ref k3, .int nk, .int fs])), (k2, .inl (cI, 64, .inl pp)), (k3, .inl (cI, 64, .inl qq)), (p, .inr (1, [.ref pX, .ref pY, .ref pF, .ref pC, .ref pA, .ref pB, .ref pR, .ref pK, .int nv, .int ns, .int nw])), (pX, .inl (cI, 64, .inl vx)), (pY, .inl (cI, 64, .inl vy)), (pA, .inl (cI, 64, .inl fa)), (pB, .inl (cI, 64, .inl tb)), (o, .inr (3, [.int ox, .int oy, .int oa, .int os]))] sz) k p x o y z k1 k2 k3 nk fs pp qq pX pY pF pC pA pB pR pK nv ns nw vx vy fa tb ox oy oa os) 0 0 (va_A [(k, .inr (4, [.ref k1, .ref k2, .ref k3, .int nk, .int fs])), (k2, .inl (cI, 64, .inl pp)), (k3, .inl (cI, 64, .inl qq)), (p, .inr (1, [.ref pX, .ref pY, .ref pF, .ref pC, .ref pA, .ref pB, .ref pR, .ref pK, .int nv, .int ns, .int nw])), (pX, .inl (cI, 64, .inl vx)), (pY, .inl (cI, 64, .inl vy)), (pA, .inl (cI, 64, .inl fa)), (pB, .inl (cI, 64, .inl tb)), (o, .inr (3, [.int ox, .int oy, .int oa, .int os]))] sz) := by
  refine Met.ofW (cc := b_Cr_isCrossed) (maxL := 12) (ret := (some .boolean)) (by decide) rfl ?_
  intro mp me s mm args below meth mk s₁ B hml hv
  obtain ⟨rfl, hsz, hP, hK, hD0, hG⟩ := hv
  have hx := B.exec
  have hb := B.bytes
  have hr := B.returns
  have hts := atoms_spec (ws := w_Cr_isCrossed) B.pre
  have hw : ∀ w ∈ sw_words, w.before _ s = true := fun w h => hts w (List.mem_cons_of_mem _ h)
  have hown : s.vm.findClass R_Cr = some mm.cls := findClass_of_methodNamed B.named
  have hlocks := B.notSynchronized
  subst hsz
  have hD := hD0.self (sz := s.heap.size)
  generalize hAe : va_A [(k, .inr (4, [.ref k1, .ref k2, .ref k3, .int nk, .int fs])), (k2, .inl (cI, 64, .inl pp)), (k3, .inl (cI, 64, .inl qq)), (p, .inr (1, [.ref pX, .ref pY, .ref pF, .ref pC, .ref pA, .ref pB, .ref pR, .ref pK, .int nv, .int ns, .int nw])), (pX, .inl (cI, 64, .inl vx)), (pY, .inl (cI, 64, .inl vy)), (pA, .inl (cI, 64, .inl fa)), (pB, .inl (cI, 64, .inl tb)), (o, .inr (3, [.int ox, .int oy, .int oa, .int os]))] s.heap.size = A at hD hG ⊢
  have hA : ∀ q : Nat, s.heap.size ≤ q → A q := fun q h => by rw [← hAe]; exact Or.inr h
  have hS : va_S A s.heap s.heap [] := va_S.rf
  have hl := lv_entry ([.ref k, .ref p, .int x, .ref o, .int y, .int z]) (n := 12) (Nat.le_of_ble_eq_true rfl)
  rw [lg_entry_eq]
  generalize (lg_sl ([.ref k, .ref p, .int x, .ref o, .int y, .int z]) ++ List.replicate (12 - (lg_sl ([.ref k, .ref p, .int x, .ref o, .int y, .int z])).length) Slot.unset).toArray = ls at hl ⊢
  have hl : lv_has ls 12 [(0, .ref k), (1, .ref p), (2, .int x), (3, .ref o), (4, .int y), (5, .int z)] := hl
  refine lv_aload_n hx hb d_Cr_isCrossed_0 rfl (lv_at hl 1 rfl) ?_
  refine va_get (D := D) (ci := 1) (v := .ref pX) (C := R_Pl) (T := F_Pl) (N := 11) hx hb hw ku_Pl hown hK hP 3 rfl rfl 0 (by decide) (hw _ kw_b60aa6b2) (fun _ h9 => h9) rfl d_Cr_isCrossed_1 ?_
  refine lv_aload_n hx hb d_Cr_isCrossed_4 rfl (lv_at hl 1 rfl) ?_
  refine va_get (D := D) (ci := 1) (v := .ref pA) (C := R_Pl) (T := F_Pl) (N := 11) hx hb hw ku_Pl hown hK hP 3 rfl rfl 4 (by decide) (hw _ kw_d0b565cb) (fun _ h9 => h9) rfl d_Cr_isCrossed_5 ?_
  refine lv_iload_n hx hb d_Cr_isCrossed_8 rfl (lv_at hl 2 rfl) ?_
  refine va_iald hx hb hK hP 6 0 rfl rfl (by assumption) d_Cr_isCrossed_9 ?_
  refine va_iald hx hb hK hP 4 0 rfl rfl (by assumption) d_Cr_isCrossed_10 ?_
  refine lv_aload_n hx hb d_Cr_isCrossed_11 rfl (lv_at hl 3 rfl) ?_
  refine va_get (D := D) (ci := 3) (v := .int ox) (C := R_St) (T := F_St) (N := 4) hx hb hw ku_St hown hK hP 8 rfl rfl 0 (by decide) (hw _ kw_488ca1e4) (fun _ h9 => h9) rfl d_Cr_isCrossed_12 ?_
  refine lv_isub hx hb d_Cr_isCrossed_15 ?_
  refine lv_topi (fun ax e_ax => ?_)
  refine lv_istore (lv' := [(6, .int ax), (0, .ref k), (1, .ref p), (2, .int x), (3, .ref o), (4, .int y), (5, .int z)]) hx hb d_Cr_isCrossed_16 hl (by decide) rfl (fun ls hl => ?_)
  refine lv_aload_n hx hb d_Cr_isCrossed_18 rfl (lv_at hl 2 rfl) ?_
  refine va_get (D := D) (ci := 1) (v := .ref pY) (C := R_Pl) (T := F_Pl) (N := 11) hx hb hw ku_Pl hown hK hP 3 rfl rfl 1 (by decide) (hw _ kw_8fd15a10) (fun _ h9 => h9) rfl d_Cr_isCrossed_19 ?_
  refine lv_aload_n hx hb d_Cr_isCrossed_22 rfl (lv_at hl 2 rfl) ?_
  refine va_get (D := D) (ci := 1) (v := .ref pA) (C := R_Pl) (T := F_Pl) (N := 11) hx hb hw ku_Pl hown hK hP 3 rfl rfl 4 (by decide) (hw _ kw_d0b565cb) (fun _ h9 => h9) rfl d_Cr_isCrossed_23 ?_
  refine lv_iload_n hx hb d_Cr_isCrossed_26 rfl (lv_at hl 3 rfl) ?_
  refine va_iald hx hb hK hP 6 0 rfl rfl (by assumption) d_Cr_isCrossed_27 ?_
  refine va_iald hx hb hK hP 5 0 rfl rfl (by assumption) d_Cr_isCrossed_28 ?_
  refine lv_aload_n hx hb d_Cr_isCrossed_29 rfl (lv_at hl 4 rfl) ?_
  refine va_get (D := D) (ci := 3) (v := .int oy) (C := R_St) (T := F_St) (N := 4) hx hb hw ku_St hown hK hP 8 rfl rfl 1 (by decide) (hw _ kw_23641763) (fun _ h9 => h9) rfl d_Cr_isCrossed_30 ?_
  refine lv_isub hx hb d_Cr_isCrossed_33 ?_
  refine lv_topi (fun ay e_ay => ?_)
  refine lv_istore (lv' := [(7, .int ay), (6, .int ax), (0, .ref k), (1, .ref p), (2, .int x), (3, .ref o), (4, .int y), (5, .int z)]) hx hb d_Cr_isCrossed_34 hl (by decide) rfl (fun ls hl => ?_)
  refine lv_aload_n hx hb d_Cr_isCrossed_36 rfl (lv_at hl 3 rfl) ?_
  refine va_get (D := D) (ci := 1) (v := .ref pX) (C := R_Pl) (T := F_Pl) (N := 11) hx hb hw ku_Pl hown hK hP 3 rfl rfl 0 (by decide) (hw _ kw_b60aa6b2) (fun _ h9 => h9) rfl d_Cr_isCrossed_37 ?_
  refine lv_aload_n hx hb d_Cr_isCrossed_40 rfl (lv_at hl 3 rfl) ?_
  refine va_get (D := D) (ci := 1) (v := .ref pB) (C := R_Pl) (T := F_Pl) (N := 11) hx hb hw ku_Pl hown hK hP 3 rfl rfl 5 (by decide) (hw _ kw_b917b49a) (fun _ h9 => h9) rfl d_Cr_isCrossed_41 ?_
  refine lv_iload_n hx hb d_Cr_isCrossed_44 rfl (lv_at hl 4 rfl) ?_
  refine va_iald hx hb hK hP 7 0 rfl rfl (by assumption) d_Cr_isCrossed_45 ?_
  refine va_iald hx hb hK hP 4 0 rfl rfl (by assumption) d_Cr_isCrossed_46 ?_
  refine lv_aload_n hx hb d_Cr_isCrossed_47 rfl (lv_at hl 5 rfl) ?_
  refine va_get (D := D) (ci := 3) (v := .int ox) (C := R_St) (T := F_St) (N := 4) hx hb hw ku_St hown hK hP 8 rfl rfl 0 (by decide) (hw _ kw_488ca1e4) (fun _ h9 => h9) rfl d_Cr_isCrossed_48 ?_
  refine lv_isub hx hb d_Cr_isCrossed_51 ?_
  refine lv_topi (fun bx e_bx => ?_)
  refine lv_istore (lv' := [(8, .int bx), (7, .int ay), (6, .int ax), (0, .ref k), (1, .ref p), (2, .int x), (3, .ref o), (4, .int y), (5, .int z)]) hx hb d_Cr_isCrossed_52 hl (by decide) rfl (fun ls hl => ?_)
  refine lv_aload_n hx hb d_Cr_isCrossed_54 rfl (lv_at hl 4 rfl) ?_
  refine va_get (D := D) (ci := 1) (v := .ref pY) (C := R_Pl) (T := F_Pl) (N := 11) hx hb hw ku_Pl hown hK hP 3 rfl rfl 1 (by decide) (hw _ kw_8fd15a10) (fun _ h9 => h9) rfl d_Cr_isCrossed_55 ?_
  refine lv_aload_n hx hb d_Cr_isCrossed_58 rfl (lv_at hl 4 rfl) ?_
  refine va_get (D := D) (ci := 1) (v := .ref pB) (C := R_Pl) (T := F_Pl) (N := 11) hx hb hw ku_Pl hown hK hP 3 rfl rfl 5 (by decide) (hw _ kw_b917b49a) (fun _ h9 => h9) rfl d_Cr_isCrossed_59 ?_
  refine lv_iload_n hx hb d_Cr_isCrossed_62 rfl (lv_at hl 5 rfl) ?_
  refine va_iald hx hb hK hP 7 0 rfl rfl (by assumption) d_Cr_isCrossed_63 ?_
  refine va_iald hx hb hK hP 5 0 rfl rfl (by assumption) d_Cr_isCrossed_64 ?_
  refine lv_aload_n hx hb d_Cr_isCrossed_65 rfl (lv_at hl 6 rfl) ?_
  refine va_get (D := D) (ci := 3) (v := .int oy) (C := R_St) (T := F_St) (N := 4) hx hb hw ku_St hown hK hP 8 rfl rfl 1 (by decide) (hw _ kw_23641763) (fun _ h9 => h9) rfl d_Cr_isCrossed_66 ?_
  refine lv_isub hx hb d_Cr_isCrossed_69 ?_
  refine lv_topi (fun bz e_bz => ?_)
  refine lv_istore (lv' := [(9, .int bz), (8, .int bx), (7, .int ay), (6, .int ax), (0, .ref k), (1, .ref p), (2, .int x), (3, .ref o), (4, .int y), (5, .int z)]) hx hb d_Cr_isCrossed_70 hl (by decide) rfl (fun ls hl => ?_)
  refine lv_iload hx hb d_Cr_isCrossed_72 (lv_at hl 8 rfl) ?_
  refine lv_iload hx hb d_Cr_isCrossed_74 (lv_at hl 9 rfl) ?_
  refine lv_iload hx hb d_Cr_isCrossed_76 (lv_at hl 3 rfl) ?_
  refine lv_iload hx hb d_Cr_isCrossed_78 (lv_at hl 2 rfl) ?_
  refine sw_ki0 (wr := [(k, .inr (4, [.ref k1, .ref k2, .ref k3, .int nk, .int fs])), (k2, .inl (cI, 64, .inl pp)), (k3, .inl (cI, 64, .inl qq)), (p, .inr (1, [.ref pX, .ref pY, .ref pF, .ref pC, .ref pA, .ref pB, .ref pR, .ref pK, .int nv, .int ns, .int nw])), (pX, .inl (cI, 64, .inl vx)), (pY, .inl (cI, 64, .inl vy)), (pA, .inl (cI, 64, .inl fa)), (pB, .inl (cI, 64, .inl tb)), (o, .inr (3, [.int ox, .int oy, .int oa, .int os]))]) (va_runSN (host := "SectorWalk") (As := [.int y, .int z, .int ax, .int ay]) (rest := []) ⟨hx, hb, hml, hown, hw⟩ (c_SW_cross l D cI cL tq _ y z ax ay) ⟨va_cnB 4 hw (sw_gN kc_SW_cross) rfl rfl rfl (hG.nest (by decide +kernel)) (hw _ kw_7ea4a733) yd_SW_cross ⟨Nat.le_of_ble_eq_true rfl, Nat.le_of_ble_eq_true rfl⟩, hw _ kw_b1bc16be, trivial⟩ (sw_preS hK hP hD hS hA hG [] rfl (by decide)) rfl rfl hl.1 rfl (lv_room (Nat.le_of_ble_eq_true rfl)) d_Cr_isCrossed_80 ⟨Nat.le_of_ble_eq_true rfl, Nat.le_of_ble_eq_true rfl⟩) hP hD hS hA [] [0, 1, 2, 3, 4, 5, 6, 7, 8] rfl rfl (by decide) (by decide) (fun r_80 _ H locs hp_80 hP hD hS => ?_)
  replace hP : va_P D sw_cl [(k, .inr (4, [.ref k1, .ref k2, .ref k3, .int nk, .int fs])), (k2, .inl (cI, 64, .inl pp)), (k3, .inl (cI, 64, .inl qq)), (p, .inr (1, [.ref pX, .ref pY, .ref pF, .ref pC, .ref pA, .ref pB, .ref pR, .ref pK, .int nv, .int ns, .int nw])), (pX, .inl (cI, 64, .inl vx)), (pY, .inl (cI, 64, .inl vy)), (pA, .inl (cI, 64, .inl fa)), (pB, .inl (cI, 64, .inl tb)), (o, .inr (3, [.int ox, .int oy, .int oa, .int os]))] H := hP
  replace hD : va_D A [(k, .inr (4, [.ref k1, .ref k2, .ref k3, .int nk, .int fs])), (k2, .inl (cI, 64, .inl pp)), (k3, .inl (cI, 64, .inl qq)), (p, .inr (1, [.ref pX, .ref pY, .ref pF, .ref pC, .ref pA, .ref pB, .ref pR, .ref pK, .int nv, .int ns, .int nw])), (pX, .inl (cI, 64, .inl vx)), (pY, .inl (cI, 64, .inl vy)), (pA, .inl (cI, 64, .inl fa)), (pB, .inl (cI, 64, .inl tb)), (o, .inr (3, [.int ox, .int oy, .int oa, .int os]))] := hD
  try dsimp only at hp_80
  subst hp_80
  refine lv_topi (fun ca e_ca => ?_)
  refine lv_istore (lv' := [(10, .int ca), (9, .int bz), (8, .int bx), (7, .int ay), (6, .int ax), (0, .ref k), (1, .ref p), (2, .int x), (3, .ref o), (4, .int y), (5, .int z)]) hx hb d_Cr_isCrossed_83 hl (by decide) rfl (fun ls hl => ?_)
  refine lv_iload hx hb d_Cr_isCrossed_85 (lv_at hl 9 rfl) ?_
  refine lv_iload hx hb d_Cr_isCrossed_87 (lv_at hl 10 rfl) ?_
  refine lv_iload hx hb d_Cr_isCrossed_89 (lv_at hl 2 rfl) ?_
  refine lv_iload hx hb d_Cr_isCrossed_91 (lv_at hl 1 rfl) ?_
  refine sw_ki0 (wr := [(k, .inr (4, [.ref k1, .ref k2, .ref k3, .int nk, .int fs])), (k2, .inl (cI, 64, .inl pp)), (k3, .inl (cI, 64, .inl qq)), (p, .inr (1, [.ref pX, .ref pY, .ref pF, .ref pC, .ref pA, .ref pB, .ref pR, .ref pK, .int nv, .int ns, .int nw])), (pX, .inl (cI, 64, .inl vx)), (pY, .inl (cI, 64, .inl vy)), (pA, .inl (cI, 64, .inl fa)), (pB, .inl (cI, 64, .inl tb)), (o, .inr (3, [.int ox, .int oy, .int oa, .int os]))]) (va_runSN (host := "SectorWalk") (As := [.int y, .int z, .int bx, .int bz]) (rest := []) ⟨hx, hb, hml, hown, hw⟩ (c_SW_cross l D cI cL tq _ y z bx bz) ⟨va_cnB 4 hw (sw_gN kc_SW_cross) rfl rfl rfl (hG.nest (by decide +kernel)) (hw _ kw_7ea4a733) yd_SW_cross ⟨Nat.le_of_ble_eq_true rfl, Nat.le_of_ble_eq_true rfl⟩, hw _ kw_b1bc16be, trivial⟩ (sw_preS hK hP hD hS hA hG [] rfl (by decide)) rfl rfl hl.1 rfl (lv_room (Nat.le_of_ble_eq_true rfl)) d_Cr_isCrossed_93 ⟨Nat.le_of_ble_eq_true rfl, Nat.le_of_ble_eq_true rfl⟩) hP hD hS hA [] [0, 1, 2, 3, 4, 5, 6, 7, 8] rfl rfl (by decide) (by decide) (fun r_93 _ H locs hp_93 hP hD hS => ?_)
  replace hP : va_P D sw_cl [(k, .inr (4, [.ref k1, .ref k2, .ref k3, .int nk, .int fs])), (k2, .inl (cI, 64, .inl pp)), (k3, .inl (cI, 64, .inl qq)), (p, .inr (1, [.ref pX, .ref pY, .ref pF, .ref pC, .ref pA, .ref pB, .ref pR, .ref pK, .int nv, .int ns, .int nw])), (pX, .inl (cI, 64, .inl vx)), (pY, .inl (cI, 64, .inl vy)), (pA, .inl (cI, 64, .inl fa)), (pB, .inl (cI, 64, .inl tb)), (o, .inr (3, [.int ox, .int oy, .int oa, .int os]))] H := hP
  replace hD : va_D A [(k, .inr (4, [.ref k1, .ref k2, .ref k3, .int nk, .int fs])), (k2, .inl (cI, 64, .inl pp)), (k3, .inl (cI, 64, .inl qq)), (p, .inr (1, [.ref pX, .ref pY, .ref pF, .ref pC, .ref pA, .ref pB, .ref pR, .ref pK, .int nv, .int ns, .int nw])), (pX, .inl (cI, 64, .inl vx)), (pY, .inl (cI, 64, .inl vy)), (pA, .inl (cI, 64, .inl fa)), (pB, .inl (cI, 64, .inl tb)), (o, .inr (3, [.int ox, .int oy, .int oa, .int os]))] := hD
  try dsimp only at hp_93
  subst hp_93
  refine lv_topi (fun cb e_cb => ?_)
  refine lv_istore (lv' := [(11, .int cb), (10, .int ca), (9, .int bz), (8, .int bx), (7, .int ay), (6, .int ax), (0, .ref k), (1, .ref p), (2, .int x), (3, .ref o), (4, .int y), (5, .int z)]) hx hb d_Cr_isCrossed_96 hl (by decide) rfl (fun ls hl => ?_)
  refine lv_iload hx hb d_Cr_isCrossed_98 (lv_at hl 1 rfl) ?_
  refine lv_if_ge (tgt := 107) hx hb d_Cr_isCrossed_100 (by decide) (fun c_100 => ?_) (fun c_100 => ?_)
  · skip
    refine lv_iconst (v := 0) hx hb d_Cr_isCrossed_107 (by decide) ?_
    refine lv_iload hx hb d_Cr_isCrossed_108 (lv_at hl 0 rfl) ?_
    refine lv_if_ge (tgt := 117) hx hb d_Cr_isCrossed_110 (by decide) (fun c_110 => ?_) (fun c_110 => ?_)
    · skip
      refine lv_iconst (v := 0) hx hb d_Cr_isCrossed_117 (by decide) ?_
      refine lv_icmp_ne (tgt := 123) hx hb d_Cr_isCrossed_118 (by decide) (fun c_118 => ?_) (fun c_118 => ?_)
      · skip
        exact absurd rfl c_118
      · skip
        refine lv_iconst (v := 0) hx hb d_Cr_isCrossed_121 (by decide) ?_
        have hP9 := hP.sub (ws' := [(k, .inr (4, [.ref k1, .ref k2, .ref k3, .int nk, .int fs])), (k2, .inl (cI, 64, .inl pp)), (k3, .inl (cI, 64, .inl qq)), (p, .inr (1, [.ref pX, .ref pY, .ref pF, .ref pC, .ref pA, .ref pB, .ref pR, .ref pK, .int nv, .int ns, .int nw])), (pX, .inl (cI, 64, .inl vx)), (pY, .inl (cI, 64, .inl vy)), (pA, .inl (cI, 64, .inl fa)), (pB, .inl (cI, 64, .inl tb)), (o, .inr (3, [.int ox, .int oy, .int oa, .int os]))]) [0, 1, 2, 3, 4, 5, 6, 7, 8] rfl
        have hD9 := hD.sub (ws' := [(k, .inr (4, [.ref k1, .ref k2, .ref k3, .int nk, .int fs])), (k2, .inl (cI, 64, .inl pp)), (k3, .inl (cI, 64, .inl qq)), (p, .inr (1, [.ref pX, .ref pY, .ref pF, .ref pC, .ref pA, .ref pB, .ref pR, .ref pK, .int nv, .int ns, .int nw])), (pX, .inl (cI, 64, .inl vx)), (pY, .inl (cI, 64, .inl vy)), (pA, .inl (cI, 64, .inl fa)), (pB, .inl (cI, 64, .inl tb)), (o, .inr (3, [.int ox, .int oy, .int oa, .int os]))]) [0, 1, 2, 3, 4, 5, 6, 7, 8] (by decide) rfl
        exact W.zret (ty := .boolean) (v := 0) hx hb hr (rfl) (fun T9 hT9 hW9 => ⟨⟨0, (pp, qq), rfl, by subst e_cb e_ca e_bz e_bx e_ay e_ax; simp [sw_isc, sw_cra, sw_crp, upd, c_100, c_110, c_118], by rw [hT9]; exact hP9, hD9⟩, hS.F hT9⟩) hS.2.2 d_Cr_isCrossed_122
    · skip
      refine lv_iconst (v := 1) hx hb d_Cr_isCrossed_113 (by decide) ?_
      refine lv_goto (tgt := 118) hx hb d_Cr_isCrossed_114 (by decide) ?_
      refine lv_icmp_ne (tgt := 123) hx hb d_Cr_isCrossed_118 (by decide) (fun c_118 => ?_) (fun c_118 => ?_)
      · skip
        refine lv_aload_n hx hb d_Cr_isCrossed_123 rfl (lv_at hl 6 rfl) ?_
        refine va_get (D := D) (ci := 4) (v := .ref k2) (C := R_Cr) (T := F_Cr) (N := 5) hx hb hw ku_Cr hown hK hP 0 rfl rfl 1 (by decide) (hw _ kw_600bd2b2) (fun _ h9 => h9) rfl d_Cr_isCrossed_124 ?_
        refine lv_iload_n hx hb d_Cr_isCrossed_127 rfl (lv_at hl 8 rfl) ?_
        refine lv_iload hx hb d_Cr_isCrossed_128 (lv_at hl 5 rfl) ?_
        refine lv_iload hx hb d_Cr_isCrossed_130 (lv_at hl 4 rfl) ?_
        refine lv_iload hx hb d_Cr_isCrossed_132 (lv_at hl 3 rfl) ?_
        refine lv_iload hx hb d_Cr_isCrossed_134 (lv_at hl 5 rfl) ?_
        refine lv_isub hx hb d_Cr_isCrossed_136 ?_
        refine lv_iload hx hb d_Cr_isCrossed_137 (lv_at hl 2 rfl) ?_
        refine lv_iload hx hb d_Cr_isCrossed_139 (lv_at hl 4 rfl) ?_
        refine lv_isub hx hb d_Cr_isCrossed_141 ?_
        refine sw_ki0 (wr := [(k, .inr (4, [.ref k1, .ref k2, .ref k3, .int nk, .int fs])), (k2, .inl (cI, 64, .inl pp)), (k3, .inl (cI, 64, .inl qq)), (p, .inr (1, [.ref pX, .ref pY, .ref pF, .ref pC, .ref pA, .ref pB, .ref pR, .ref pK, .int nv, .int ns, .int nw])), (pX, .inl (cI, 64, .inl vx)), (pY, .inl (cI, 64, .inl vy)), (pA, .inl (cI, 64, .inl fa)), (pB, .inl (cI, 64, .inl tb)), (o, .inr (3, [.int ox, .int oy, .int oa, .int os]))]) (va_runSN (host := "SectorWalk") (As := [.int ax, .int ay, .int (bx - ax), .int (bz - ay)]) (rest := [.int x, .ref k2]) ⟨hx, hb, hml, hown, hw⟩ (c_SW_cross l D cI cL tq _ ax ay (bx - ax) (bz - ay)) ⟨va_cnB 4 hw (sw_gN kc_SW_cross) rfl rfl rfl (hG.nest (by decide +kernel)) (hw _ kw_7ea4a733) yd_SW_cross ⟨Nat.le_of_ble_eq_true rfl, Nat.le_of_ble_eq_true rfl⟩, hw _ kw_b1bc16be, trivial⟩ (sw_preS hK hP hD hS hA hG [] rfl (by decide)) rfl rfl hl.1 rfl (lv_room (Nat.le_of_ble_eq_true rfl)) d_Cr_isCrossed_142 ⟨Nat.le_of_ble_eq_true rfl, Nat.le_of_ble_eq_true rfl⟩) hP hD hS hA [] [0, 1, 2, 3, 4, 5, 6, 7, 8] rfl rfl (by decide) (by decide) (fun r_142 _ H locs hp_142 hP hD hS => ?_)
        replace hP : va_P D sw_cl [(k, .inr (4, [.ref k1, .ref k2, .ref k3, .int nk, .int fs])), (k2, .inl (cI, 64, .inl pp)), (k3, .inl (cI, 64, .inl qq)), (p, .inr (1, [.ref pX, .ref pY, .ref pF, .ref pC, .ref pA, .ref pB, .ref pR, .ref pK, .int nv, .int ns, .int nw])), (pX, .inl (cI, 64, .inl vx)), (pY, .inl (cI, 64, .inl vy)), (pA, .inl (cI, 64, .inl fa)), (pB, .inl (cI, 64, .inl tb)), (o, .inr (3, [.int ox, .int oy, .int oa, .int os]))] H := hP
        replace hD : va_D A [(k, .inr (4, [.ref k1, .ref k2, .ref k3, .int nk, .int fs])), (k2, .inl (cI, 64, .inl pp)), (k3, .inl (cI, 64, .inl qq)), (p, .inr (1, [.ref pX, .ref pY, .ref pF, .ref pC, .ref pA, .ref pB, .ref pR, .ref pK, .int nv, .int ns, .int nw])), (pX, .inl (cI, 64, .inl vx)), (pY, .inl (cI, 64, .inl vy)), (pA, .inl (cI, 64, .inl fa)), (pB, .inl (cI, 64, .inl tb)), (o, .inr (3, [.int ox, .int oy, .int oa, .int os]))] := hD
        try dsimp only at hp_142
        subst hp_142
        refine va_iast hx hb hK hP hD hS 1 0 rfl rfl (by assumption) d_Cr_isCrossed_145 (fun H locs hP hD hS => ?_)
        replace hP : va_P D sw_cl [(k, .inr (4, [.ref k1, .ref k2, .ref k3, .int nk, .int fs])), (k2, .inl (cI, 64, .inl (upd pp x.toNatClampNeg (ax * (bz - ay) - ay * (bx - ax))))), (k3, .inl (cI, 64, .inl qq)), (p, .inr (1, [.ref pX, .ref pY, .ref pF, .ref pC, .ref pA, .ref pB, .ref pR, .ref pK, .int nv, .int ns, .int nw])), (pX, .inl (cI, 64, .inl vx)), (pY, .inl (cI, 64, .inl vy)), (pA, .inl (cI, 64, .inl fa)), (pB, .inl (cI, 64, .inl tb)), (o, .inr (3, [.int ox, .int oy, .int oa, .int os]))] H := hP
        replace hD : va_D A [(k, .inr (4, [.ref k1, .ref k2, .ref k3, .int nk, .int fs])), (k2, .inl (cI, 64, .inl (upd pp x.toNatClampNeg (ax * (bz - ay) - ay * (bx - ax))))), (k3, .inl (cI, 64, .inl qq)), (p, .inr (1, [.ref pX, .ref pY, .ref pF, .ref pC, .ref pA, .ref pB, .ref pR, .ref pK, .int nv, .int ns, .int nw])), (pX, .inl (cI, 64, .inl vx)), (pY, .inl (cI, 64, .inl vy)), (pA, .inl (cI, 64, .inl fa)), (pB, .inl (cI, 64, .inl tb)), (o, .inr (3, [.int ox, .int oy, .int oa, .int os]))] := hD
        refine lv_aload_n hx hb d_Cr_isCrossed_146 rfl (lv_at hl 6 rfl) ?_
        refine va_get (D := D) (ci := 4) (v := .ref k3) (C := R_Cr) (T := F_Cr) (N := 5) hx hb hw ku_Cr hown hK hP 0 rfl rfl 2 (by decide) (hw _ kw_47a18be0) (fun _ h9 => h9) rfl d_Cr_isCrossed_147 ?_
        refine lv_iload_n hx hb d_Cr_isCrossed_150 rfl (lv_at hl 8 rfl) ?_
        refine lv_iload hx hb d_Cr_isCrossed_151 (lv_at hl 0 rfl) ?_
        refine lv_iload hx hb d_Cr_isCrossed_153 (lv_at hl 1 rfl) ?_
        refine lv_isub hx hb d_Cr_isCrossed_155 ?_
        refine va_iast hx hb hK hP hD hS 2 0 rfl rfl (by assumption) d_Cr_isCrossed_156 (fun H locs hP hD hS => ?_)
        replace hP : va_P D sw_cl [(k, .inr (4, [.ref k1, .ref k2, .ref k3, .int nk, .int fs])), (k2, .inl (cI, 64, .inl (upd pp x.toNatClampNeg (ax * (bz - ay) - ay * (bx - ax))))), (k3, .inl (cI, 64, .inl (upd qq x.toNatClampNeg (cb - ca)))), (p, .inr (1, [.ref pX, .ref pY, .ref pF, .ref pC, .ref pA, .ref pB, .ref pR, .ref pK, .int nv, .int ns, .int nw])), (pX, .inl (cI, 64, .inl vx)), (pY, .inl (cI, 64, .inl vy)), (pA, .inl (cI, 64, .inl fa)), (pB, .inl (cI, 64, .inl tb)), (o, .inr (3, [.int ox, .int oy, .int oa, .int os]))] H := hP
        replace hD : va_D A [(k, .inr (4, [.ref k1, .ref k2, .ref k3, .int nk, .int fs])), (k2, .inl (cI, 64, .inl (upd pp x.toNatClampNeg (ax * (bz - ay) - ay * (bx - ax))))), (k3, .inl (cI, 64, .inl (upd qq x.toNatClampNeg (cb - ca)))), (p, .inr (1, [.ref pX, .ref pY, .ref pF, .ref pC, .ref pA, .ref pB, .ref pR, .ref pK, .int nv, .int ns, .int nw])), (pX, .inl (cI, 64, .inl vx)), (pY, .inl (cI, 64, .inl vy)), (pA, .inl (cI, 64, .inl fa)), (pB, .inl (cI, 64, .inl tb)), (o, .inr (3, [.int ox, .int oy, .int oa, .int os]))] := hD
        refine lv_aload_n hx hb d_Cr_isCrossed_157 rfl (lv_at hl 6 rfl) ?_
        refine va_get (D := D) (ci := 4) (v := .ref k2) (C := R_Cr) (T := F_Cr) (N := 5) hx hb hw ku_Cr hown hK hP 0 rfl rfl 1 (by decide) (hw _ kw_600bd2b2) (fun _ h9 => h9) rfl d_Cr_isCrossed_158 ?_
        refine lv_iload_n hx hb d_Cr_isCrossed_161 rfl (lv_at hl 8 rfl) ?_
        refine va_iald hx hb hK hP 1 0 rfl rfl (by assumption) d_Cr_isCrossed_162 ?_
        refine lv_aload_n hx hb d_Cr_isCrossed_163 rfl (lv_at hl 6 rfl) ?_
        refine va_get (D := D) (ci := 4) (v := .ref k3) (C := R_Cr) (T := F_Cr) (N := 5) hx hb hw ku_Cr hown hK hP 0 rfl rfl 2 (by decide) (hw _ kw_47a18be0) (fun _ h9 => h9) rfl d_Cr_isCrossed_164 ?_
        refine lv_iload_n hx hb d_Cr_isCrossed_167 rfl (lv_at hl 8 rfl) ?_
        refine va_iald hx hb hK hP 2 0 rfl rfl (by assumption) d_Cr_isCrossed_168 ?_
        refine sw_ki0 (wr := [(k, .inr (4, [.ref k1, .ref k2, .ref k3, .int nk, .int fs])), (k2, .inl (cI, 64, .inl (upd pp x.toNatClampNeg (ax * (bz - ay) - ay * (bx - ax))))), (k3, .inl (cI, 64, .inl (upd qq x.toNatClampNeg (cb - ca)))), (p, .inr (1, [.ref pX, .ref pY, .ref pF, .ref pC, .ref pA, .ref pB, .ref pR, .ref pK, .int nv, .int ns, .int nw])), (pX, .inl (cI, 64, .inl vx)), (pY, .inl (cI, 64, .inl vy)), (pA, .inl (cI, 64, .inl fa)), (pB, .inl (cI, 64, .inl tb)), (o, .inr (3, [.int ox, .int oy, .int oa, .int os]))]) (va_runS (As := [.int ((upd pp x.toNatClampNeg (ax * (bz - ay) - ay * (bx - ax))) x.toNatClampNeg), .int ((upd qq x.toNatClampNeg (cb - ca)) x.toNatClampNeg)]) (rest := []) ⟨hx, hb, hml, hown, hw⟩ (c_Cr_isUpToOne l D cI cL tq _ ((upd pp x.toNatClampNeg (ax * (bz - ay) - ay * (bx - ax))) x.toNatClampNeg) ((upd qq x.toNatClampNeg (cb - ca)) x.toNatClampNeg)) (cwS 2 hw (sw_gS kw_c47a1d87 kw_b5409a40 kw_7f626125 kc_Cr_isUpToOne) rfl rfl rfl ⟨rfl, yd_Cr_isUpToOne⟩ ⟨Nat.le_of_ble_eq_true rfl, Nat.le_of_ble_eq_true rfl⟩) (sw_preS hK hP hD hS hA hG [] rfl (by decide)) rfl rfl hl.1 rfl (lv_room (Nat.le_of_ble_eq_true rfl)) d_Cr_isCrossed_169 ⟨Nat.le_of_ble_eq_true rfl, Nat.le_of_ble_eq_true rfl⟩) hP hD hS hA [] [0, 1, 2, 3, 4, 5, 6, 7, 8] rfl rfl (by decide) (by decide) (fun r_169 _ H locs hp_169 hP hD hS => ?_)
        replace hP : va_P D sw_cl [(k, .inr (4, [.ref k1, .ref k2, .ref k3, .int nk, .int fs])), (k2, .inl (cI, 64, .inl (upd pp x.toNatClampNeg (ax * (bz - ay) - ay * (bx - ax))))), (k3, .inl (cI, 64, .inl (upd qq x.toNatClampNeg (cb - ca)))), (p, .inr (1, [.ref pX, .ref pY, .ref pF, .ref pC, .ref pA, .ref pB, .ref pR, .ref pK, .int nv, .int ns, .int nw])), (pX, .inl (cI, 64, .inl vx)), (pY, .inl (cI, 64, .inl vy)), (pA, .inl (cI, 64, .inl fa)), (pB, .inl (cI, 64, .inl tb)), (o, .inr (3, [.int ox, .int oy, .int oa, .int os]))] H := hP
        replace hD : va_D A [(k, .inr (4, [.ref k1, .ref k2, .ref k3, .int nk, .int fs])), (k2, .inl (cI, 64, .inl (upd pp x.toNatClampNeg (ax * (bz - ay) - ay * (bx - ax))))), (k3, .inl (cI, 64, .inl (upd qq x.toNatClampNeg (cb - ca)))), (p, .inr (1, [.ref pX, .ref pY, .ref pF, .ref pC, .ref pA, .ref pB, .ref pR, .ref pK, .int nv, .int ns, .int nw])), (pX, .inl (cI, 64, .inl vx)), (pY, .inl (cI, 64, .inl vy)), (pA, .inl (cI, 64, .inl fa)), (pB, .inl (cI, 64, .inl tb)), (o, .inr (3, [.int ox, .int oy, .int oa, .int os]))] := hD
        try dsimp only at hp_169
        subst hp_169
        have hP9 := hP.sub (ws' := [(k, .inr (4, [.ref k1, .ref k2, .ref k3, .int nk, .int fs])), (k2, .inl (cI, 64, .inl (upd pp x.toNatClampNeg (ax * (bz - ay) - ay * (bx - ax))))), (k3, .inl (cI, 64, .inl (upd qq x.toNatClampNeg (cb - ca)))), (p, .inr (1, [.ref pX, .ref pY, .ref pF, .ref pC, .ref pA, .ref pB, .ref pR, .ref pK, .int nv, .int ns, .int nw])), (pX, .inl (cI, 64, .inl vx)), (pY, .inl (cI, 64, .inl vy)), (pA, .inl (cI, 64, .inl fa)), (pB, .inl (cI, 64, .inl tb)), (o, .inr (3, [.int ox, .int oy, .int oa, .int os]))]) [0, 1, 2, 3, 4, 5, 6, 7, 8] rfl
        have hD9 := hD.sub (ws' := [(k, .inr (4, [.ref k1, .ref k2, .ref k3, .int nk, .int fs])), (k2, .inl (cI, 64, .inl (upd pp x.toNatClampNeg (ax * (bz - ay) - ay * (bx - ax))))), (k3, .inl (cI, 64, .inl (upd qq x.toNatClampNeg (cb - ca)))), (p, .inr (1, [.ref pX, .ref pY, .ref pF, .ref pC, .ref pA, .ref pB, .ref pR, .ref pK, .int nv, .int ns, .int nw])), (pX, .inl (cI, 64, .inl vx)), (pY, .inl (cI, 64, .inl vy)), (pA, .inl (cI, 64, .inl fa)), (pB, .inl (cI, 64, .inl tb)), (o, .inr (3, [.int ox, .int oy, .int oa, .int os]))]) [0, 1, 2, 3, 4, 5, 6, 7, 8] (by decide) rfl
        exact W.zret (ty := .boolean) (v := sw_b (sw_up1 ((upd pp x.toNatClampNeg (ax * (bz - ay) - ay * (bx - ax))) x.toNatClampNeg) ((upd qq x.toNatClampNeg (cb - ca)) x.toNatClampNeg))) hx hb hr (sw_bnar _) (fun T9 hT9 hW9 => ⟨⟨sw_b (sw_up1 ((upd pp x.toNatClampNeg (ax * (bz - ay) - ay * (bx - ax))) x.toNatClampNeg) ((upd qq x.toNatClampNeg (cb - ca)) x.toNatClampNeg)), (upd pp x.toNatClampNeg (ax * (bz - ay) - ay * (bx - ax)), upd qq x.toNatClampNeg (cb - ca)), rfl, by subst e_cb e_ca e_bz e_bx e_ay e_ax; simp [sw_isc, sw_cra, sw_crp, upd, c_100, c_110, c_118], by rw [hT9]; exact hP9, hD9⟩, hS.F hT9⟩) hS.2.2 d_Cr_isCrossed_172
      · skip
        exact absurd c_118 (by decide)
  · skip
    refine lv_iconst (v := 1) hx hb d_Cr_isCrossed_103 (by decide) ?_
    refine lv_goto (tgt := 108) hx hb d_Cr_isCrossed_104 (by decide) ?_
    refine lv_iload hx hb d_Cr_isCrossed_108 (lv_at hl 0 rfl) ?_
    refine lv_if_ge (tgt := 117) hx hb d_Cr_isCrossed_110 (by decide) (fun c_110 => ?_) (fun c_110 => ?_)
    · skip
      refine lv_iconst (v := 0) hx hb d_Cr_isCrossed_117 (by decide) ?_
      refine lv_icmp_ne (tgt := 123) hx hb d_Cr_isCrossed_118 (by decide) (fun c_118 => ?_) (fun c_118 => ?_)
      · skip
        refine lv_aload_n hx hb d_Cr_isCrossed_123 rfl (lv_at hl 6 rfl) ?_
        refine va_get (D := D) (ci := 4) (v := .ref k2) (C := R_Cr) (T := F_Cr) (N := 5) hx hb hw ku_Cr hown hK hP 0 rfl rfl 1 (by decide) (hw _ kw_600bd2b2) (fun _ h9 => h9) rfl d_Cr_isCrossed_124 ?_
        refine lv_iload_n hx hb d_Cr_isCrossed_127 rfl (lv_at hl 8 rfl) ?_
        refine lv_iload hx hb d_Cr_isCrossed_128 (lv_at hl 5 rfl) ?_
        refine lv_iload hx hb d_Cr_isCrossed_130 (lv_at hl 4 rfl) ?_
        refine lv_iload hx hb d_Cr_isCrossed_132 (lv_at hl 3 rfl) ?_
        refine lv_iload hx hb d_Cr_isCrossed_134 (lv_at hl 5 rfl) ?_
        refine lv_isub hx hb d_Cr_isCrossed_136 ?_
        refine lv_iload hx hb d_Cr_isCrossed_137 (lv_at hl 2 rfl) ?_
        refine lv_iload hx hb d_Cr_isCrossed_139 (lv_at hl 4 rfl) ?_
        refine lv_isub hx hb d_Cr_isCrossed_141 ?_
        refine sw_ki0 (wr := [(k, .inr (4, [.ref k1, .ref k2, .ref k3, .int nk, .int fs])), (k2, .inl (cI, 64, .inl pp)), (k3, .inl (cI, 64, .inl qq)), (p, .inr (1, [.ref pX, .ref pY, .ref pF, .ref pC, .ref pA, .ref pB, .ref pR, .ref pK, .int nv, .int ns, .int nw])), (pX, .inl (cI, 64, .inl vx)), (pY, .inl (cI, 64, .inl vy)), (pA, .inl (cI, 64, .inl fa)), (pB, .inl (cI, 64, .inl tb)), (o, .inr (3, [.int ox, .int oy, .int oa, .int os]))]) (va_runSN (host := "SectorWalk") (As := [.int ax, .int ay, .int (bx - ax), .int (bz - ay)]) (rest := [.int x, .ref k2]) ⟨hx, hb, hml, hown, hw⟩ (c_SW_cross l D cI cL tq _ ax ay (bx - ax) (bz - ay)) ⟨va_cnB 4 hw (sw_gN kc_SW_cross) rfl rfl rfl (hG.nest (by decide +kernel)) (hw _ kw_7ea4a733) yd_SW_cross ⟨Nat.le_of_ble_eq_true rfl, Nat.le_of_ble_eq_true rfl⟩, hw _ kw_b1bc16be, trivial⟩ (sw_preS hK hP hD hS hA hG [] rfl (by decide)) rfl rfl hl.1 rfl (lv_room (Nat.le_of_ble_eq_true rfl)) d_Cr_isCrossed_142 ⟨Nat.le_of_ble_eq_true rfl, Nat.le_of_ble_eq_true rfl⟩) hP hD hS hA [] [0, 1, 2, 3, 4, 5, 6, 7, 8] rfl rfl (by decide) (by decide) (fun r_142 _ H locs hp_142 hP hD hS => ?_)
        replace hP : va_P D sw_cl [(k, .inr (4, [.ref k1, .ref k2, .ref k3, .int nk, .int fs])), (k2, .inl (cI, 64, .inl pp)), (k3, .inl (cI, 64, .inl qq)), (p, .inr (1, [.ref pX, .ref pY, .ref pF, .ref pC, .ref pA, .ref pB, .ref pR, .ref pK, .int nv, .int ns, .int nw])), (pX, .inl (cI, 64, .inl vx)), (pY, .inl (cI, 64, .inl vy)), (pA, .inl (cI, 64, .inl fa)), (pB, .inl (cI, 64, .inl tb)), (o, .inr (3, [.int ox, .int oy, .int oa, .int os]))] H := hP
        replace hD : va_D A [(k, .inr (4, [.ref k1, .ref k2, .ref k3, .int nk, .int fs])), (k2, .inl (cI, 64, .inl pp)), (k3, .inl (cI, 64, .inl qq)), (p, .inr (1, [.ref pX, .ref pY, .ref pF, .ref pC, .ref pA, .ref pB, .ref pR, .ref pK, .int nv, .int ns, .int nw])), (pX, .inl (cI, 64, .inl vx)), (pY, .inl (cI, 64, .inl vy)), (pA, .inl (cI, 64, .inl fa)), (pB, .inl (cI, 64, .inl tb)), (o, .inr (3, [.int ox, .int oy, .int oa, .int os]))] := hD
        try dsimp only at hp_142
        subst hp_142
        refine va_iast hx hb hK hP hD hS 1 0 rfl rfl (by assumption) d_Cr_isCrossed_145 (fun H locs hP hD hS => ?_)
        replace hP : va_P D sw_cl [(k, .inr (4, [.ref k1, .ref k2, .ref k3, .int nk, .int fs])), (k2, .inl (cI, 64, .inl (upd pp x.toNatClampNeg (ax * (bz - ay) - ay * (bx - ax))))), (k3, .inl (cI, 64, .inl qq)), (p, .inr (1, [.ref pX, .ref pY, .ref pF, .ref pC, .ref pA, .ref pB, .ref pR, .ref pK, .int nv, .int ns, .int nw])), (pX, .inl (cI, 64, .inl vx)), (pY, .inl (cI, 64, .inl vy)), (pA, .inl (cI, 64, .inl fa)), (pB, .inl (cI, 64, .inl tb)), (o, .inr (3, [.int ox, .int oy, .int oa, .int os]))] H := hP
        replace hD : va_D A [(k, .inr (4, [.ref k1, .ref k2, .ref k3, .int nk, .int fs])), (k2, .inl (cI, 64, .inl (upd pp x.toNatClampNeg (ax * (bz - ay) - ay * (bx - ax))))), (k3, .inl (cI, 64, .inl qq)), (p, .inr (1, [.ref pX, .ref pY, .ref pF, .ref pC, .ref pA, .ref pB, .ref pR, .ref pK, .int nv, .int ns, .int nw])), (pX, .inl (cI, 64, .inl vx)), (pY, .inl (cI, 64, .inl vy)), (pA, .inl (cI, 64, .inl fa)), (pB, .inl (cI, 64, .inl tb)), (o, .inr (3, [.int ox, .int oy, .int oa, .int os]))] := hD
        refine lv_aload_n hx hb d_Cr_isCrossed_146 rfl (lv_at hl 6 rfl) ?_
        refine va_get (D := D) (ci := 4) (v := .ref k3) (C := R_Cr) (T := F_Cr) (N := 5) hx hb hw ku_Cr hown hK hP 0 rfl rfl 2 (by decide) (hw _ kw_47a18be0) (fun _ h9 => h9) rfl d_Cr_isCrossed_147 ?_
        refine lv_iload_n hx hb d_Cr_isCrossed_150 rfl (lv_at hl 8 rfl) ?_
        refine lv_iload hx hb d_Cr_isCrossed_151 (lv_at hl 0 rfl) ?_
        refine lv_iload hx hb d_Cr_isCrossed_153 (lv_at hl 1 rfl) ?_
        refine lv_isub hx hb d_Cr_isCrossed_155 ?_
        refine va_iast hx hb hK hP hD hS 2 0 rfl rfl (by assumption) d_Cr_isCrossed_156 (fun H locs hP hD hS => ?_)
        replace hP : va_P D sw_cl [(k, .inr (4, [.ref k1, .ref k2, .ref k3, .int nk, .int fs])), (k2, .inl (cI, 64, .inl (upd pp x.toNatClampNeg (ax * (bz - ay) - ay * (bx - ax))))), (k3, .inl (cI, 64, .inl (upd qq x.toNatClampNeg (cb - ca)))), (p, .inr (1, [.ref pX, .ref pY, .ref pF, .ref pC, .ref pA, .ref pB, .ref pR, .ref pK, .int nv, .int ns, .int nw])), (pX, .inl (cI, 64, .inl vx)), (pY, .inl (cI, 64, .inl vy)), (pA, .inl (cI, 64, .inl fa)), (pB, .inl (cI, 64, .inl tb)), (o, .inr (3, [.int ox, .int oy, .int oa, .int os]))] H := hP
        replace hD : va_D A [(k, .inr (4, [.ref k1, .ref k2, .ref k3, .int nk, .int fs])), (k2, .inl (cI, 64, .inl (upd pp x.toNatClampNeg (ax * (bz - ay) - ay * (bx - ax))))), (k3, .inl (cI, 64, .inl (upd qq x.toNatClampNeg (cb - ca)))), (p, .inr (1, [.ref pX, .ref pY, .ref pF, .ref pC, .ref pA, .ref pB, .ref pR, .ref pK, .int nv, .int ns, .int nw])), (pX, .inl (cI, 64, .inl vx)), (pY, .inl (cI, 64, .inl vy)), (pA, .inl (cI, 64, .inl fa)), (pB, .inl (cI, 64, .inl tb)), (o, .inr (3, [.int ox, .int oy, .int oa, .int os]))] := hD
        refine lv_aload_n hx hb d_Cr_isCrossed_157 rfl (lv_at hl 6 rfl) ?_
        refine va_get (D := D) (ci := 4) (v := .ref k2) (C := R_Cr) (T := F_Cr) (N := 5) hx hb hw ku_Cr hown hK hP 0 rfl rfl 1 (by decide) (hw _ kw_600bd2b2) (fun _ h9 => h9) rfl d_Cr_isCrossed_158 ?_
        refine lv_iload_n hx hb d_Cr_isCrossed_161 rfl (lv_at hl 8 rfl) ?_
        refine va_iald hx hb hK hP 1 0 rfl rfl (by assumption) d_Cr_isCrossed_162 ?_
        refine lv_aload_n hx hb d_Cr_isCrossed_163 rfl (lv_at hl 6 rfl) ?_
        refine va_get (D := D) (ci := 4) (v := .ref k3) (C := R_Cr) (T := F_Cr) (N := 5) hx hb hw ku_Cr hown hK hP 0 rfl rfl 2 (by decide) (hw _ kw_47a18be0) (fun _ h9 => h9) rfl d_Cr_isCrossed_164 ?_
        refine lv_iload_n hx hb d_Cr_isCrossed_167 rfl (lv_at hl 8 rfl) ?_
        refine va_iald hx hb hK hP 2 0 rfl rfl (by assumption) d_Cr_isCrossed_168 ?_
        refine sw_ki0 (wr := [(k, .inr (4, [.ref k1, .ref k2, .ref k3, .int nk, .int fs])), (k2, .inl (cI, 64, .inl (upd pp x.toNatClampNeg (ax * (bz - ay) - ay * (bx - ax))))), (k3, .inl (cI, 64, .inl (upd qq x.toNatClampNeg (cb - ca)))), (p, .inr (1, [.ref pX, .ref pY, .ref pF, .ref pC, .ref pA, .ref pB, .ref pR, .ref pK, .int nv, .int ns, .int nw])), (pX, .inl (cI, 64, .inl vx)), (pY, .inl (cI, 64, .inl vy)), (pA, .inl (cI, 64, .inl fa)), (pB, .inl (cI, 64, .inl tb)), (o, .inr (3, [.int ox, .int oy, .int oa, .int os]))]) (va_runS (As := [.int ((upd pp x.toNatClampNeg (ax * (bz - ay) - ay * (bx - ax))) x.toNatClampNeg), .int ((upd qq x.toNatClampNeg (cb - ca)) x.toNatClampNeg)]) (rest := []) ⟨hx, hb, hml, hown, hw⟩ (c_Cr_isUpToOne l D cI cL tq _ ((upd pp x.toNatClampNeg (ax * (bz - ay) - ay * (bx - ax))) x.toNatClampNeg) ((upd qq x.toNatClampNeg (cb - ca)) x.toNatClampNeg)) (cwS 2 hw (sw_gS kw_c47a1d87 kw_b5409a40 kw_7f626125 kc_Cr_isUpToOne) rfl rfl rfl ⟨rfl, yd_Cr_isUpToOne⟩ ⟨Nat.le_of_ble_eq_true rfl, Nat.le_of_ble_eq_true rfl⟩) (sw_preS hK hP hD hS hA hG [] rfl (by decide)) rfl rfl hl.1 rfl (lv_room (Nat.le_of_ble_eq_true rfl)) d_Cr_isCrossed_169 ⟨Nat.le_of_ble_eq_true rfl, Nat.le_of_ble_eq_true rfl⟩) hP hD hS hA [] [0, 1, 2, 3, 4, 5, 6, 7, 8] rfl rfl (by decide) (by decide) (fun r_169 _ H locs hp_169 hP hD hS => ?_)
        replace hP : va_P D sw_cl [(k, .inr (4, [.ref k1, .ref k2, .ref k3, .int nk, .int fs])), (k2, .inl (cI, 64, .inl (upd pp x.toNatClampNeg (ax * (bz - ay) - ay * (bx - ax))))), (k3, .inl (cI, 64, .inl (upd qq x.toNatClampNeg (cb - ca)))), (p, .inr (1, [.ref pX, .ref pY, .ref pF, .ref pC, .ref pA, .ref pB, .ref pR, .ref pK, .int nv, .int ns, .int nw])), (pX, .inl (cI, 64, .inl vx)), (pY, .inl (cI, 64, .inl vy)), (pA, .inl (cI, 64, .inl fa)), (pB, .inl (cI, 64, .inl tb)), (o, .inr (3, [.int ox, .int oy, .int oa, .int os]))] H := hP
        replace hD : va_D A [(k, .inr (4, [.ref k1, .ref k2, .ref k3, .int nk, .int fs])), (k2, .inl (cI, 64, .inl (upd pp x.toNatClampNeg (ax * (bz - ay) - ay * (bx - ax))))), (k3, .inl (cI, 64, .inl (upd qq x.toNatClampNeg (cb - ca)))), (p, .inr (1, [.ref pX, .ref pY, .ref pF, .ref pC, .ref pA, .ref pB, .ref pR, .ref pK, .int nv, .int ns, .int nw])), (pX, .inl (cI, 64, .inl vx)), (pY, .inl (cI, 64, .inl vy)), (pA, .inl (cI, 64, .inl fa)), (pB, .inl (cI, 64, .inl tb)), (o, .inr (3, [.int ox, .int oy, .int oa, .int os]))] := hD
        try dsimp only at hp_169
        subst hp_169
        have hP9 := hP.sub (ws' := [(k, .inr (4, [.ref k1, .ref k2, .ref k3, .int nk, .int fs])), (k2, .inl (cI, 64, .inl (upd pp x.toNatClampNeg (ax * (bz - ay) - ay * (bx - ax))))), (k3, .inl (cI, 64, .inl (upd qq x.toNatClampNeg (cb - ca)))), (p, .inr (1, [.ref pX, .ref pY, .ref pF, .ref pC, .ref pA, .ref pB, .ref pR, .ref pK, .int nv, .int ns, .int nw])), (pX, .inl (cI, 64, .inl vx)), (pY, .inl (cI, 64, .inl vy)), (pA, .inl (cI, 64, .inl fa)), (pB, .inl (cI, 64, .inl tb)), (o, .inr (3, [.int ox, .int oy, .int oa, .int os]))]) [0, 1, 2, 3, 4, 5, 6, 7, 8] rfl
        have hD9 := hD.sub (ws' := [(k, .inr (4, [.ref k1, .ref k2, .ref k3, .int nk, .int fs])), (k2, .inl (cI, 64, .inl (upd pp x.toNatClampNeg (ax * (bz - ay) - ay * (bx - ax))))), (k3, .inl (cI, 64, .inl (upd qq x.toNatClampNeg (cb - ca)))), (p, .inr (1, [.ref pX, .ref pY, .ref pF, .ref pC, .ref pA, .ref pB, .ref pR, .ref pK, .int nv, .int ns, .int nw])), (pX, .inl (cI, 64, .inl vx)), (pY, .inl (cI, 64, .inl vy)), (pA, .inl (cI, 64, .inl fa)), (pB, .inl (cI, 64, .inl tb)), (o, .inr (3, [.int ox, .int oy, .int oa, .int os]))]) [0, 1, 2, 3, 4, 5, 6, 7, 8] (by decide) rfl
        exact W.zret (ty := .boolean) (v := sw_b (sw_up1 ((upd pp x.toNatClampNeg (ax * (bz - ay) - ay * (bx - ax))) x.toNatClampNeg) ((upd qq x.toNatClampNeg (cb - ca)) x.toNatClampNeg))) hx hb hr (sw_bnar _) (fun T9 hT9 hW9 => ⟨⟨sw_b (sw_up1 ((upd pp x.toNatClampNeg (ax * (bz - ay) - ay * (bx - ax))) x.toNatClampNeg) ((upd qq x.toNatClampNeg (cb - ca)) x.toNatClampNeg)), (upd pp x.toNatClampNeg (ax * (bz - ay) - ay * (bx - ax)), upd qq x.toNatClampNeg (cb - ca)), rfl, by subst e_cb e_ca e_bz e_bx e_ay e_ax; simp [sw_isc, sw_cra, sw_crp, upd, c_100, c_110, c_118], by rw [hT9]; exact hP9, hD9⟩, hS.F hT9⟩) hS.2.2 d_Cr_isCrossed_172
      · skip
        exact absurd c_118 (by decide)
    · skip
      refine lv_iconst (v := 1) hx hb d_Cr_isCrossed_113 (by decide) ?_
      refine lv_goto (tgt := 118) hx hb d_Cr_isCrossed_114 (by decide) ?_
      refine lv_icmp_ne (tgt := 123) hx hb d_Cr_isCrossed_118 (by decide) (fun c_118 => ?_) (fun c_118 => ?_)
      · skip
        exact absurd rfl c_118
      · skip
        refine lv_iconst (v := 0) hx hb d_Cr_isCrossed_121 (by decide) ?_
        have hP9 := hP.sub (ws' := [(k, .inr (4, [.ref k1, .ref k2, .ref k3, .int nk, .int fs])), (k2, .inl (cI, 64, .inl pp)), (k3, .inl (cI, 64, .inl qq)), (p, .inr (1, [.ref pX, .ref pY, .ref pF, .ref pC, .ref pA, .ref pB, .ref pR, .ref pK, .int nv, .int ns, .int nw])), (pX, .inl (cI, 64, .inl vx)), (pY, .inl (cI, 64, .inl vy)), (pA, .inl (cI, 64, .inl fa)), (pB, .inl (cI, 64, .inl tb)), (o, .inr (3, [.int ox, .int oy, .int oa, .int os]))]) [0, 1, 2, 3, 4, 5, 6, 7, 8] rfl
        have hD9 := hD.sub (ws' := [(k, .inr (4, [.ref k1, .ref k2, .ref k3, .int nk, .int fs])), (k2, .inl (cI, 64, .inl pp)), (k3, .inl (cI, 64, .inl qq)), (p, .inr (1, [.ref pX, .ref pY, .ref pF, .ref pC, .ref pA, .ref pB, .ref pR, .ref pK, .int nv, .int ns, .int nw])), (pX, .inl (cI, 64, .inl vx)), (pY, .inl (cI, 64, .inl vy)), (pA, .inl (cI, 64, .inl fa)), (pB, .inl (cI, 64, .inl tb)), (o, .inr (3, [.int ox, .int oy, .int oa, .int os]))]) [0, 1, 2, 3, 4, 5, 6, 7, 8] (by decide) rfl
        exact W.zret (ty := .boolean) (v := 0) hx hb hr (rfl) (fun T9 hT9 hW9 => ⟨⟨0, (pp, qq), rfl, by subst e_cb e_ca e_bz e_bx e_ay e_ax; simp [sw_isc, sw_cra, sw_crp, upd, c_100, c_110, c_118], by rw [hT9]; exact hP9, hD9⟩, hS.F hT9⟩) hS.2.2 d_Cr_isCrossed_122

abbrev rm_Cr_fill : Room := { frames := 3, cells := 0, slots := 0, locals := 63 }
abbrev q_Cr_fill (D : va_G) (cI cL : ClassId) (A : Nat → Prop) (k : Nat) (p : Nat) (o : Nat) (y : Int32) (z : Int32) (k1 : Nat) (k2 : Nat) (k3 : Nat) (od : Nat → Int32) (pp : Nat → Int32) (qq : Nat → Int32) (pX : Nat) (pY : Nat) (pF : Nat) (pC : Nat) (pA : Nat) (pB : Nat) (pR : Nat) (pK : Nat) (nv : Int32) (ns : Int32) (nw : Int32) (vx : Nat → Int32) (vy : Nat → Int32) (fl : Nat → Int32) (ce : Nat → Int32) (fa : Nat → Int32) (tb : Nat → Int32) (fr : Nat → Int32) (bk : Nat → Int32) (ox : Int32) (oy : Int32) (oa : Int32) (os : Int32) : Array Value → State → Outcome → State → Prop := va_Qv (S := Int32 × Int32 × (Nat → Int32) × (Nat → Int32) × (Nat → Int32)) (fun (u : Int32 × Int32 × (Nat → Int32) × (Nat → Int32) × (Nat → Int32)) => match u with | (nk2, fs2, od2, pp2, qq2) => nk2 = ((sw_fs1 vx vy fa tb ox oy y z od pp qq nw.toNatClampNeg).1) ∧ fs2 = (sw_fst (fun v : Int32 => sw_stop fl ce fr bk v.toNatClampNeg (!(decide (0 ≤ (sw_fs1 vx vy fa tb ox oy y z od pp qq nw.toNatClampNeg).2.2.1 v.toNatClampNeg)))) (sw_fs1 vx vy fa tb ox oy y z od pp qq nw.toNatClampNeg).2.1 (sw_fs1 vx vy fa tb ox oy y z od pp qq nw.toNatClampNeg).1.toNatClampNeg) ∧ od2 = ((sw_fs1 vx vy fa tb ox oy y z od pp qq nw.toNatClampNeg).2.1) ∧ pp2 = ((sw_fs1 vx vy fa tb ox oy y z od pp qq nw.toNatClampNeg).2.2.1) ∧ qq2 = ((sw_fs1 vx vy fa tb ox oy y z od pp qq nw.toNatClampNeg).2.2.2)) (sw_R D A (fun (u : Int32 × Int32 × (Nat → Int32) × (Nat → Int32) × (Nat → Int32)) => match u with | (nk2, fs2, od2, pp2, qq2) => [(k, .inr (4, [.ref k1, .ref k2, .ref k3, .int nk2, .int fs2])), (k1, .inl (cI, 64, .inl od2)), (k2, .inl (cI, 64, .inl pp2)), (k3, .inl (cI, 64, .inl qq2)), (p, .inr (1, [.ref pX, .ref pY, .ref pF, .ref pC, .ref pA, .ref pB, .ref pR, .ref pK, .int nv, .int ns, .int nw])), (pX, .inl (cI, 64, .inl vx)), (pY, .inl (cI, 64, .inl vy)), (pF, .inl (cI, 16, .inl fl)), (pC, .inl (cI, 16, .inl ce)), (pA, .inl (cI, 64, .inl fa)), (pB, .inl (cI, 64, .inl tb)), (pR, .inl (cI, 64, .inl fr)), (pK, .inl (cI, 64, .inl bk)), (o, .inr (3, [.int ox, .int oy, .int oa, .int os]))])) A
set_option maxHeartbeats 4000000 in
set_option maxRecDepth 100000 in
theorem c_Cr_fill (l : Launch) (D : va_G) (cI cL : ClassId) (tq sz : Nat) (k : Nat) (p : Nat) (o : Nat) (y : Int32) (z : Int32) (k1 : Nat) (k2 : Nat) (k3 : Nat) (od : Nat → Int32) (pp : Nat → Int32) (qq : Nat → Int32) (pX : Nat) (pY : Nat) (pF : Nat) (pC : Nat) (pA : Nat) (pB : Nat) (pR : Nat) (pK : Nat) (nv : Int32) (ns : Int32) (nw : Int32) (vx : Nat → Int32) (vy : Nat → Int32) (fl : Nat → Int32) (ce : Nat → Int32) (fa : Nat → Int32) (tb : Nat → Int32) (fr : Nat → Int32) (bk : Nat → Int32) (ox : Int32) (oy : Int32) (oa : Int32) (os : Int32) (hn : sw_ok nw 64) (hv : ∀ j : Nat, j < nw.toNatClampNeg → vp_in (fa j) 64 ∧ vp_in (tb j) 64 ∧ vp_in (fr j) 16 ∧ (bk j = -1 ∨ vp_in (bk j) 16)) : Met l y_Cr_fill w_Cr_fill rm_Cr_fill (va_Pc [.ref k, .ref p, .ref o, .int y, .int z] (sw_B D cI cL tq sz [(k, .inr (4, [.ref k1, .ref k2, .ref k3, .int 0, .int (-1)])), (k1, .inl (cI, 64, .inl od)), (k2, .inl (cI, 64, .inl pp)), (k3, .inl (cI, 64, .inl qq)), (p, .inr (1, [.ref pX, .ref pY, .ref pF, .ref pC, .ref pA, .ref pB, .ref pR, .ref pK, .int nv, .int ns, .int nw])), (pX, .inl (cI, 64, .inl vx)), (pY, .inl (cI, 64, .inl vy)), (pF, .inl (cI, 16, .inl fl)), (pC, .inl (cI, 16, .inl ce)), (pA, .inl (cI, 64, .inl fa)), (pB, .inl (cI, 64, .inl tb)), (pR, .inl (cI, 64, .inl fr)), (pK, .inl (cI, 64, .inl bk)), (o, .inr (3, [.int ox, .int oy, .int oa, .int os]))])) (q_Cr_fill D cI cL (va_A [(k, .inr (4, [.ref k1, .ref k2, .ref k3, .int 0, .int (-1)])), (k1, .inl (cI, 64, .inl od)), (k2, .inl (cI, 64, .inl pp)), (k3, .inl (cI, 64, .inl qq)), (p, .inr (1, [.ref pX, .ref pY, .ref pF, .ref pC, .ref pA, .ref pB, .ref pR, .ref pK, .int nv, .int ns, .int nw])), (pX, .inl (cI, 64, .inl vx)), (pY, .inl (cI, 64, .inl vy)), (pF, .inl (cI, 16, .inl fl)), (pC, .inl (cI, 16, .inl ce)), (pA, .inl (cI, 64, .inl fa)), (pB, .inl (cI, 64, .inl tb)), (pR, .inl (cI, 64, .inl fr)), (pK, .inl (cI, 64, .inl bk)), (o, .inr (3, [.int ox, .int oy, .int oa, .int os]))] sz) k p o y z k1 k2 k3 od pp qq pX pY pF pC pA pB pR pK nv ns nw vx vy fl ce fa tb fr bk ox oy oa os) 0 0 (va_A [(k, .inr (4, [.ref k1, .ref k2, .ref k3, .int 0, .int (-1)])), (k1, .inl (cI, 64, .inl od)), (k2, .inl (cI, 64, .inl pp)), (k3, .inl (cI, 64, .inl qq)), (p, .inr (1, [.ref pX, .ref pY, .ref pF, .ref pC, .ref pA, .ref pB, .ref pR, .ref pK, .int nv, .int ns, .int nw])), (pX, .inl (cI, 64, .inl vx)), (pY, .inl (cI, 64, .inl vy)), (pF, .inl (cI, 16, .inl fl)), (pC, .inl (cI, 16, .inl ce)), (pA, .inl (cI, 64, .inl fa)), (pB, .inl (cI, 64, .inl tb)), (pR, .inl (cI, 64, .inl fr)), (pK, .inl (cI, 64, .inl bk)), (o, .inr (3, [.int ox, .int oy, .int oa, .int os]))] sz) := by
  refine Met.ofW (cc := b_Cr_fill) (maxL := 6) (ret := none) (by decide) rfl ?_
  intro mp me s mm args below meth mk s₁ B hml hv
  obtain ⟨rfl, hsz, hP, hK, hD0, hG⟩ := hv
  have hx := B.exec
  have hb := B.bytes
  have hr := B.returns
  have hts := atoms_spec (ws := w_Cr_fill) B.pre
  have hw : ∀ w ∈ sw_words, w.before _ s = true := fun w h => hts w (List.mem_cons_of_mem _ h)
  have hown : s.vm.findClass R_Cr = some mm.cls := findClass_of_methodNamed B.named
  have hlocks := B.notSynchronized
  subst hsz
  have hD := hD0.self (sz := s.heap.size)
  generalize hAe : va_A [(k, .inr (4, [.ref k1, .ref k2, .ref k3, .int 0, .int (-1)])), (k1, .inl (cI, 64, .inl od)), (k2, .inl (cI, 64, .inl pp)), (k3, .inl (cI, 64, .inl qq)), (p, .inr (1, [.ref pX, .ref pY, .ref pF, .ref pC, .ref pA, .ref pB, .ref pR, .ref pK, .int nv, .int ns, .int nw])), (pX, .inl (cI, 64, .inl vx)), (pY, .inl (cI, 64, .inl vy)), (pF, .inl (cI, 16, .inl fl)), (pC, .inl (cI, 16, .inl ce)), (pA, .inl (cI, 64, .inl fa)), (pB, .inl (cI, 64, .inl tb)), (pR, .inl (cI, 64, .inl fr)), (pK, .inl (cI, 64, .inl bk)), (o, .inr (3, [.int ox, .int oy, .int oa, .int os]))] s.heap.size = A at hD hG ⊢
  have hA : ∀ q : Nat, s.heap.size ≤ q → A q := fun q h => by rw [← hAe]; exact Or.inr h
  have hS : va_S A s.heap s.heap [] := va_S.rf
  have hl := lv_entry ([.ref k, .ref p, .ref o, .int y, .int z]) (n := 6) (Nat.le_of_ble_eq_true rfl)
  rw [lg_entry_eq]
  generalize (lg_sl ([.ref k, .ref p, .ref o, .int y, .int z]) ++ List.replicate (6 - (lg_sl ([.ref k, .ref p, .ref o, .int y, .int z])).length) Slot.unset).toArray = ls at hl ⊢
  have hl : lv_has ls 6 [(0, .ref k), (1, .ref p), (2, .ref o), (3, .int y), (4, .int z)] := hl
  have hn6 := hn.2
  refine lv_iconst (v := 0) hx hb d_Cr_fill_0 (by decide) ?_
  refine lv_istore (lv' := [(5, .int 0), (0, .ref k), (1, .ref p), (2, .ref o), (3, .int y), (4, .int z)]) hx hb d_Cr_fill_1 hl (by decide) rfl (fun ls hl => ?_)
  have lp_3 : ∀ (n : Nat) (q : Nat) (i : Int32) (n1 : Int32) (f1 : Nat → Int32) (f2 : Nat → Int32) (f3 : Nat → Int32) (H : Heap) (locs : List Loc) (ls : Array Slot), (i = nI q) → (q ≤ nw.toNatClampNeg) → ((n1, f1, f2, f3) = sw_fs1 vx vy fa tb ox oy y z od pp qq q) → (sw_od n1 f1 q) → (nw.toNatClampNeg - q) < n → va_P D sw_cl [(k, .inr (4, [.ref k1, .ref k2, .ref k3, .int n1, .int (-1)])), (k1, .inl (cI, 64, .inl f1)), (k2, .inl (cI, 64, .inl f2)), (k3, .inl (cI, 64, .inl f3)), (p, .inr (1, [.ref pX, .ref pY, .ref pF, .ref pC, .ref pA, .ref pB, .ref pR, .ref pK, .int nv, .int ns, .int nw])), (pX, .inl (cI, 64, .inl vx)), (pY, .inl (cI, 64, .inl vy)), (pF, .inl (cI, 16, .inl fl)), (pC, .inl (cI, 16, .inl ce)), (pA, .inl (cI, 64, .inl fa)), (pB, .inl (cI, 64, .inl tb)), (pR, .inl (cI, 64, .inl fr)), (pK, .inl (cI, 64, .inl bk)), (o, .inr (3, [.int ox, .int oy, .int oa, .int os]))] H → va_D A [(k, .inr (4, [.ref k1, .ref k2, .ref k3, .int n1, .int (-1)])), (k1, .inl (cI, 64, .inl f1)), (k2, .inl (cI, 64, .inl f2)), (k3, .inl (cI, 64, .inl f3)), (p, .inr (1, [.ref pX, .ref pY, .ref pF, .ref pC, .ref pA, .ref pB, .ref pR, .ref pK, .int nv, .int ns, .int nw])), (pX, .inl (cI, 64, .inl vx)), (pY, .inl (cI, 64, .inl vy)), (pF, .inl (cI, 16, .inl fl)), (pC, .inl (cI, 16, .inl ce)), (pA, .inl (cI, 64, .inl fa)), (pB, .inl (cI, 64, .inl tb)), (pR, .inl (cI, 64, .inl fr)), (pK, .inl (cI, 64, .inl bk)), (o, .inr (3, [.int ox, .int oy, .int oa, .int os]))] → va_S A s.heap H locs → lv_has ls 6 [(0, .ref k), (1, .ref p), (2, .ref o), (3, .int y), (4, .int z), (5, .int i)] → W mp l me (headSpec w_Cr_fill rm_Cr_fill).room s mm ([.ref k, .ref p, .ref o, .int y, .int z]).toArray below meth mk H locs 0 0 (MQ below (q_Cr_fill D cI cL A k p o y z k1 k2 k3 od pp qq pX pY pF pC pA pB pR pK nv ns nw vx vy fl ce fa tb fr bk ox oy oa os) ([.ref k, .ref p, .ref o, .int y, .int z]).toArray s 0 0 A) (F0 mm 3 ls []) := by
    intro n
    induction n with
    | zero => intro q i n1 f1 f2 f3 H locs ls hi hq hs ho hm; exact absurd hm (Nat.not_lt_zero _)
    | succ n ih_3 =>
      intro q i n1 f1 f2 f3 H locs ls hi hq hs ho hm hP hD hS hl
      refine lv_iload hx hb d_Cr_fill_3 (lv_at hl 5 rfl) ?_
      refine lv_aload_n hx hb d_Cr_fill_5 rfl (lv_at hl 1 rfl) ?_
      refine va_get (D := D) (ci := 1) (v := .int nw) (C := R_Pl) (T := F_Pl) (N := 11) hx hb hw ku_Pl hown hK hP 4 rfl rfl 10 (by decide) (hw _ kw_0adfc9a3) (fun _ h9 => h9) rfl d_Cr_fill_6 ?_
      refine lv_icmp_ge (tgt := 38) hx hb d_Cr_fill_9 (by decide) (fun c_9 => ?_) (fun c_9 => ?_)
      · skip
        have hqe : nw.toNatClampNeg = q := sw_end hn (by decide) hi hq c_9
        have hn1 : sw_ok n1 64 := sw_ok_mono ho.1 (by omega)
        have hn7 := hn1.2
        refine lv_iconst (v := 0) hx hb d_Cr_fill_38 (by decide) ?_
        refine lv_istore (lv' := [(5, .int 0), (0, .ref k), (1, .ref p), (2, .ref o), (3, .int y), (4, .int z)]) hx hb d_Cr_fill_39 hl (by decide) rfl (fun ls hl => ?_)
        have lp_41 : ∀ (n : Nat) (a : Nat) (j : Int32) (f5 : Int32) (H : Heap) (locs : List Loc) (ls : Array Slot), (j = nI a) → (a ≤ n1.toNatClampNeg) → (f5 = sw_fst (fun v : Int32 => sw_stop fl ce fr bk v.toNatClampNeg (!(decide (0 ≤ f2 v.toNatClampNeg)))) f1 a) → (n1.toNatClampNeg - a) < n → va_P D sw_cl [(k, .inr (4, [.ref k1, .ref k2, .ref k3, .int n1, .int f5])), (k1, .inl (cI, 64, .inl f1)), (k2, .inl (cI, 64, .inl f2)), (k3, .inl (cI, 64, .inl f3)), (p, .inr (1, [.ref pX, .ref pY, .ref pF, .ref pC, .ref pA, .ref pB, .ref pR, .ref pK, .int nv, .int ns, .int nw])), (pX, .inl (cI, 64, .inl vx)), (pY, .inl (cI, 64, .inl vy)), (pF, .inl (cI, 16, .inl fl)), (pC, .inl (cI, 16, .inl ce)), (pA, .inl (cI, 64, .inl fa)), (pB, .inl (cI, 64, .inl tb)), (pR, .inl (cI, 64, .inl fr)), (pK, .inl (cI, 64, .inl bk)), (o, .inr (3, [.int ox, .int oy, .int oa, .int os]))] H → va_D A [(k, .inr (4, [.ref k1, .ref k2, .ref k3, .int n1, .int f5])), (k1, .inl (cI, 64, .inl f1)), (k2, .inl (cI, 64, .inl f2)), (k3, .inl (cI, 64, .inl f3)), (p, .inr (1, [.ref pX, .ref pY, .ref pF, .ref pC, .ref pA, .ref pB, .ref pR, .ref pK, .int nv, .int ns, .int nw])), (pX, .inl (cI, 64, .inl vx)), (pY, .inl (cI, 64, .inl vy)), (pF, .inl (cI, 16, .inl fl)), (pC, .inl (cI, 16, .inl ce)), (pA, .inl (cI, 64, .inl fa)), (pB, .inl (cI, 64, .inl tb)), (pR, .inl (cI, 64, .inl fr)), (pK, .inl (cI, 64, .inl bk)), (o, .inr (3, [.int ox, .int oy, .int oa, .int os]))] → va_S A s.heap H locs → lv_has ls 6 [(0, .ref k), (1, .ref p), (2, .ref o), (3, .int y), (4, .int z), (5, .int j)] → W mp l me (headSpec w_Cr_fill rm_Cr_fill).room s mm ([.ref k, .ref p, .ref o, .int y, .int z]).toArray below meth mk H locs 0 0 (MQ below (q_Cr_fill D cI cL A k p o y z k1 k2 k3 od pp qq pX pY pF pC pA pB pR pK nv ns nw vx vy fl ce fa tb fr bk ox oy oa os) ([.ref k, .ref p, .ref o, .int y, .int z]).toArray s 0 0 A) (F0 mm 41 ls []) := by
          intro n
          induction n with
          | zero => intro a j f5 H locs ls hj ha hf5 hm; exact absurd hm (Nat.not_lt_zero _)
          | succ n ih_41 =>
            intro a j f5 H locs ls hj ha hf5 hm hP hD hS hl
            refine lv_iload hx hb d_Cr_fill_41 (lv_at hl 5 rfl) ?_
            refine lv_aload_n hx hb d_Cr_fill_43 rfl (lv_at hl 0 rfl) ?_
            refine va_get (D := D) (ci := 4) (v := .int n1) (C := R_Cr) (T := F_Cr) (N := 5) hx hb hw ku_Cr hown hK hP 0 rfl rfl 3 (by decide) (hw _ kw_7f5cc8e8) (fun _ h9 => h9) rfl d_Cr_fill_44 ?_
            refine lv_icmp_ge (tgt := 100) hx hb d_Cr_fill_47 (by decide) (fun c_47 => ?_) (fun c_47 => ?_)
            · skip
              have hP9 := hP.sub (ws' := [(k, .inr (4, [.ref k1, .ref k2, .ref k3, .int n1, .int f5])), (k1, .inl (cI, 64, .inl f1)), (k2, .inl (cI, 64, .inl f2)), (k3, .inl (cI, 64, .inl f3)), (p, .inr (1, [.ref pX, .ref pY, .ref pF, .ref pC, .ref pA, .ref pB, .ref pR, .ref pK, .int nv, .int ns, .int nw])), (pX, .inl (cI, 64, .inl vx)), (pY, .inl (cI, 64, .inl vy)), (pF, .inl (cI, 16, .inl fl)), (pC, .inl (cI, 16, .inl ce)), (pA, .inl (cI, 64, .inl fa)), (pB, .inl (cI, 64, .inl tb)), (pR, .inl (cI, 64, .inl fr)), (pK, .inl (cI, 64, .inl bk)), (o, .inr (3, [.int ox, .int oy, .int oa, .int os]))]) [0, 1, 2, 3, 4, 5, 6, 7, 8, 9, 10, 11, 12, 13] rfl
              have hD9 := hD.sub (ws' := [(k, .inr (4, [.ref k1, .ref k2, .ref k3, .int n1, .int f5])), (k1, .inl (cI, 64, .inl f1)), (k2, .inl (cI, 64, .inl f2)), (k3, .inl (cI, 64, .inl f3)), (p, .inr (1, [.ref pX, .ref pY, .ref pF, .ref pC, .ref pA, .ref pB, .ref pR, .ref pK, .int nv, .int ns, .int nw])), (pX, .inl (cI, 64, .inl vx)), (pY, .inl (cI, 64, .inl vy)), (pF, .inl (cI, 16, .inl fl)), (pC, .inl (cI, 16, .inl ce)), (pA, .inl (cI, 64, .inl fa)), (pB, .inl (cI, 64, .inl tb)), (pR, .inl (cI, 64, .inl fr)), (pK, .inl (cI, 64, .inl bk)), (o, .inr (3, [.int ox, .int oy, .int oa, .int os]))]) [0, 1, 2, 3, 4, 5, 6, 7, 8, 9, 10, 11, 12, 13] (by decide) rfl
              exact W.vret hx hb hr (fun T9 hT9 hW9 => ⟨⟨(n1, f5, f1, f2, f3), rfl, by first | trivial | (rw [hqe, ← hs]; refine ⟨rfl, ?_, rfl, rfl, rfl⟩; first | (rw [hf5, sw_end hn1 (by decide) hj ha c_47]) | (rw [hf5]; exact (sw_fst_stay (by rw [← hf5]; exact c_55) ha).symm)), by rw [hT9]; exact hP9, hD9⟩, hS.F hT9⟩) hS.2.2 d_Cr_fill_100
            · skip
              refine lv_aload_n hx hb d_Cr_fill_50 rfl (lv_at hl 0 rfl) ?_
              refine va_get (D := D) (ci := 4) (v := .int f5) (C := R_Cr) (T := F_Cr) (N := 5) hx hb hw ku_Cr hown hK hP 0 rfl rfl 4 (by decide) (hw _ kw_767774d4) (fun _ h9 => h9) rfl d_Cr_fill_51 ?_
              refine lv_iconst (v := (-1)) hx hb d_Cr_fill_54 (by decide) ?_
              refine lv_icmp_ne (tgt := 100) hx hb d_Cr_fill_55 (by decide) (fun c_55 => ?_) (fun c_55 => ?_)
              · skip
                have hP9 := hP.sub (ws' := [(k, .inr (4, [.ref k1, .ref k2, .ref k3, .int n1, .int f5])), (k1, .inl (cI, 64, .inl f1)), (k2, .inl (cI, 64, .inl f2)), (k3, .inl (cI, 64, .inl f3)), (p, .inr (1, [.ref pX, .ref pY, .ref pF, .ref pC, .ref pA, .ref pB, .ref pR, .ref pK, .int nv, .int ns, .int nw])), (pX, .inl (cI, 64, .inl vx)), (pY, .inl (cI, 64, .inl vy)), (pF, .inl (cI, 16, .inl fl)), (pC, .inl (cI, 16, .inl ce)), (pA, .inl (cI, 64, .inl fa)), (pB, .inl (cI, 64, .inl tb)), (pR, .inl (cI, 64, .inl fr)), (pK, .inl (cI, 64, .inl bk)), (o, .inr (3, [.int ox, .int oy, .int oa, .int os]))]) [0, 1, 2, 3, 4, 5, 6, 7, 8, 9, 10, 11, 12, 13] rfl
                have hD9 := hD.sub (ws' := [(k, .inr (4, [.ref k1, .ref k2, .ref k3, .int n1, .int f5])), (k1, .inl (cI, 64, .inl f1)), (k2, .inl (cI, 64, .inl f2)), (k3, .inl (cI, 64, .inl f3)), (p, .inr (1, [.ref pX, .ref pY, .ref pF, .ref pC, .ref pA, .ref pB, .ref pR, .ref pK, .int nv, .int ns, .int nw])), (pX, .inl (cI, 64, .inl vx)), (pY, .inl (cI, 64, .inl vy)), (pF, .inl (cI, 16, .inl fl)), (pC, .inl (cI, 16, .inl ce)), (pA, .inl (cI, 64, .inl fa)), (pB, .inl (cI, 64, .inl tb)), (pR, .inl (cI, 64, .inl fr)), (pK, .inl (cI, 64, .inl bk)), (o, .inr (3, [.int ox, .int oy, .int oa, .int os]))]) [0, 1, 2, 3, 4, 5, 6, 7, 8, 9, 10, 11, 12, 13] (by decide) rfl
                exact W.vret hx hb hr (fun T9 hT9 hW9 => ⟨⟨(n1, f5, f1, f2, f3), rfl, by first | trivial | (rw [hqe, ← hs]; refine ⟨rfl, ?_, rfl, rfl, rfl⟩; first | (rw [hf5, sw_end hn1 (by decide) hj ha c_47]) | (rw [hf5]; exact (sw_fst_stay (by rw [← hf5]; exact c_55) ha).symm)), by rw [hT9]; exact hP9, hD9⟩, hS.F hT9⟩) hS.2.2 d_Cr_fill_100
              · skip
                have hjn : a < n1.toNatClampNeg := sw_nle hn1 (by decide) hj ha c_47
                have hji : j.toNatClampNeg = a := by rw [hj]; exact nI_clamp (by omega)
                have hin1 : vp_in j 64 := by rw [hj]; exact vp_in_nI (by omega) (by omega)
                have hjv := sw_od_in ho hji hjn (by omega) (N := 64)
                have hj2 := hv (f1 j.toNatClampNeg).toNatClampNeg (by rw [hqe]; exact sw_od_lt ho hji hjn (by omega))
                refine lv_aload_n hx hb d_Cr_fill_58 rfl (lv_at hl 1 rfl) ?_
                refine lv_aload_n hx hb d_Cr_fill_59 rfl (lv_at hl 0 rfl) ?_
                refine va_get (D := D) (ci := 4) (v := .ref k1) (C := R_Cr) (T := F_Cr) (N := 5) hx hb hw ku_Cr hown hK hP 0 rfl rfl 0 (by decide) (hw _ kw_053bb905) (fun _ h9 => h9) rfl d_Cr_fill_60 ?_
                refine lv_iload hx hb d_Cr_fill_63 (lv_at hl 5 rfl) ?_
                refine va_iald hx hb hK hP 1 0 rfl rfl (by assumption) d_Cr_fill_65 ?_
                refine lv_aload_n hx hb d_Cr_fill_66 rfl (lv_at hl 0 rfl) ?_
                refine lv_aload_n hx hb d_Cr_fill_67 rfl (lv_at hl 0 rfl) ?_
                refine va_get (D := D) (ci := 4) (v := .ref k1) (C := R_Cr) (T := F_Cr) (N := 5) hx hb hw ku_Cr hown hK hP 0 rfl rfl 0 (by decide) (hw _ kw_053bb905) (fun _ h9 => h9) rfl d_Cr_fill_68 ?_
                refine lv_iload hx hb d_Cr_fill_71 (lv_at hl 5 rfl) ?_
                refine va_iald hx hb hK hP 1 0 rfl rfl (by assumption) d_Cr_fill_73 ?_
                refine sw_ki0 (wr := [(k1, .inl (cI, 64, .inl f1)), (k3, .inl (cI, 64, .inl f3)), (p, .inr (1, [.ref pX, .ref pY, .ref pF, .ref pC, .ref pA, .ref pB, .ref pR, .ref pK, .int nv, .int ns, .int nw])), (pX, .inl (cI, 64, .inl vx)), (pY, .inl (cI, 64, .inl vy)), (pF, .inl (cI, 16, .inl fl)), (pC, .inl (cI, 16, .inl ce)), (pA, .inl (cI, 64, .inl fa)), (pB, .inl (cI, 64, .inl tb)), (pR, .inl (cI, 64, .inl fr)), (pK, .inl (cI, 64, .inl bk)), (o, .inr (3, [.int ox, .int oy, .int oa, .int os]))]) (va_runV (As := [.int (f1 j.toNatClampNeg)]) (rest := [.int (f1 j.toNatClampNeg), .ref p]) ⟨hx, hb, hml, hown, hw⟩ (c_Cr_comesFromFront l D cI cL tq _ k (f1 j.toNatClampNeg) k1 k2 k3 n1 f5 f2 (hjv)) (cwV 1 hw (sw_gV kw_53f2f32e kw_fc808330 kw_c20cbe3c kw_7f626125 kc_Cr_comesFromFront) rfl rfl rfl ⟨rfl, yd_Cr_comesFromFront⟩ ⟨Nat.le_of_ble_eq_true rfl, Nat.le_of_ble_eq_true rfl⟩) (sw_preV hK hP hD hS hA hG [0, 2] rfl (by decide) 4 0 rfl rfl) rfl rfl hl.1 rfl (lv_room (Nat.le_of_ble_eq_true rfl)) d_Cr_fill_74 ⟨Nat.le_of_ble_eq_true rfl, Nat.le_of_ble_eq_true rfl⟩) hP hD hS hA [0, 2] [1, 3, 4, 5, 6, 7, 8, 9, 10, 11, 12, 13] rfl rfl (by decide) (by decide) (fun r_74 _ H locs hp_74 hP hD hS => ?_)
                replace hP : va_P D sw_cl [(k1, .inl (cI, 64, .inl f1)), (k3, .inl (cI, 64, .inl f3)), (p, .inr (1, [.ref pX, .ref pY, .ref pF, .ref pC, .ref pA, .ref pB, .ref pR, .ref pK, .int nv, .int ns, .int nw])), (pX, .inl (cI, 64, .inl vx)), (pY, .inl (cI, 64, .inl vy)), (pF, .inl (cI, 16, .inl fl)), (pC, .inl (cI, 16, .inl ce)), (pA, .inl (cI, 64, .inl fa)), (pB, .inl (cI, 64, .inl tb)), (pR, .inl (cI, 64, .inl fr)), (pK, .inl (cI, 64, .inl bk)), (o, .inr (3, [.int ox, .int oy, .int oa, .int os])), (k, .inr (4, [.ref k1, .ref k2, .ref k3, .int n1, .int f5])), (k2, .inl (cI, 64, .inl f2))] H := hP
                replace hD : va_D A [(k1, .inl (cI, 64, .inl f1)), (k3, .inl (cI, 64, .inl f3)), (p, .inr (1, [.ref pX, .ref pY, .ref pF, .ref pC, .ref pA, .ref pB, .ref pR, .ref pK, .int nv, .int ns, .int nw])), (pX, .inl (cI, 64, .inl vx)), (pY, .inl (cI, 64, .inl vy)), (pF, .inl (cI, 16, .inl fl)), (pC, .inl (cI, 16, .inl ce)), (pA, .inl (cI, 64, .inl fa)), (pB, .inl (cI, 64, .inl tb)), (pR, .inl (cI, 64, .inl fr)), (pK, .inl (cI, 64, .inl bk)), (o, .inr (3, [.int ox, .int oy, .int oa, .int os])), (k, .inr (4, [.ref k1, .ref k2, .ref k3, .int n1, .int f5])), (k2, .inl (cI, 64, .inl f2))] := hD
                try dsimp only at hp_74
                subst hp_74
                refine sw_ki0 (wr := [(k1, .inl (cI, 64, .inl f1)), (k3, .inl (cI, 64, .inl f3)), (pX, .inl (cI, 64, .inl vx)), (pY, .inl (cI, 64, .inl vy)), (pA, .inl (cI, 64, .inl fa)), (pB, .inl (cI, 64, .inl tb)), (o, .inr (3, [.int ox, .int oy, .int oa, .int os])), (k, .inr (4, [.ref k1, .ref k2, .ref k3, .int n1, .int f5])), (k2, .inl (cI, 64, .inl f2))]) (va_runV (As := [.int (f1 j.toNatClampNeg), .int (sw_b (!(decide (0 ≤ f2 (f1 j.toNatClampNeg).toNatClampNeg))))]) (rest := []) ⟨hx, hb, hml, hown, hw⟩ (c_Pl_stops l D cI cL tq _ p (f1 j.toNatClampNeg) (sw_b (!(decide (0 ≤ f2 (f1 j.toNatClampNeg).toNatClampNeg)))) pX pY pF pC pA pB pR pK nv ns nw fl ce fr bk (hjv) (hj2.2.2.1) (hj2.2.2.2)) (cwV 2 hw (sw_gV kw_3b5b9249 kw_b36b3d15 kw_4e123c4e kw_e4821dd4 kc_Pl_stops) rfl rfl rfl ⟨rfl, yd_Pl_stops⟩ ⟨Nat.le_of_ble_eq_true rfl, Nat.le_of_ble_eq_true rfl⟩) (sw_preV hK hP hD hS hA hG [2, 5, 6, 9, 10] rfl (by decide) 1 2 rfl rfl) rfl rfl hl.1 rfl (lv_room (Nat.le_of_ble_eq_true rfl)) d_Cr_fill_77 ⟨Nat.le_of_ble_eq_true rfl, Nat.le_of_ble_eq_true rfl⟩) hP hD hS hA [2, 5, 6, 9, 10] [0, 1, 3, 4, 7, 8, 11, 12, 13] rfl rfl (by decide) (by decide) (fun r_77 _ H locs hp_77 hP hD hS => ?_)
                replace hP : va_P D sw_cl [(k1, .inl (cI, 64, .inl f1)), (k3, .inl (cI, 64, .inl f3)), (pX, .inl (cI, 64, .inl vx)), (pY, .inl (cI, 64, .inl vy)), (pA, .inl (cI, 64, .inl fa)), (pB, .inl (cI, 64, .inl tb)), (o, .inr (3, [.int ox, .int oy, .int oa, .int os])), (k, .inr (4, [.ref k1, .ref k2, .ref k3, .int n1, .int f5])), (k2, .inl (cI, 64, .inl f2)), (p, .inr (1, [.ref pX, .ref pY, .ref pF, .ref pC, .ref pA, .ref pB, .ref pR, .ref pK, .int nv, .int ns, .int nw])), (pF, .inl (cI, 16, .inl fl)), (pC, .inl (cI, 16, .inl ce)), (pR, .inl (cI, 64, .inl fr)), (pK, .inl (cI, 64, .inl bk))] H := hP
                replace hD : va_D A [(k1, .inl (cI, 64, .inl f1)), (k3, .inl (cI, 64, .inl f3)), (pX, .inl (cI, 64, .inl vx)), (pY, .inl (cI, 64, .inl vy)), (pA, .inl (cI, 64, .inl fa)), (pB, .inl (cI, 64, .inl tb)), (o, .inr (3, [.int ox, .int oy, .int oa, .int os])), (k, .inr (4, [.ref k1, .ref k2, .ref k3, .int n1, .int f5])), (k2, .inl (cI, 64, .inl f2)), (p, .inr (1, [.ref pX, .ref pY, .ref pF, .ref pC, .ref pA, .ref pB, .ref pR, .ref pK, .int nv, .int ns, .int nw])), (pF, .inl (cI, 16, .inl fl)), (pC, .inl (cI, 16, .inl ce)), (pR, .inl (cI, 64, .inl fr)), (pK, .inl (cI, 64, .inl bk))] := hD
                try dsimp only at hp_77
                subst hp_77
                refine lv_if_eq (tgt := 94) hx hb d_Cr_fill_80 (by decide) (fun c_80 => ?_) (fun c_80 => ?_)
                · skip
                  replace c_80 := sw_b0.mp c_80
                  refine lv_iinc (v := j + 1) (lv' := [(5, .int (j + 1)), (0, .ref k), (1, .ref p), (2, .ref o), (3, .int y), (4, .int z)]) hx hb d_Cr_fill_94 hl (k := 5) rfl rfl (by decide) rfl (fun ls hl => ?_)
                  refine lv_goto (tgt := 41) hx hb d_Cr_fill_97 (by decide) ?_
                  exact ih_41 (a + 1) (j + 1) f5 _ _ _ (by rw [hj]; exact nI_1 a) (hjn) (by rw [hji, sw_bdec] at c_80; rw [c_55] at hf5; first | exact sw_fst_no hf5 c_80 c_55 | (rw [hji]; exact sw_fst_yes hf5 c_80)) (by omega) (hP.sub [7, 0, 8, 1, 9, 2, 3, 10, 11, 4, 5, 12, 13, 6] rfl) (hD.sub [7, 0, 8, 1, 9, 2, 3, 10, 11, 4, 5, 12, 13, 6] (by decide) rfl) hS (lv_sub hl [1, 2, 3, 4, 5, 0] rfl)
                · skip
                  replace c_80 := sw_bn.mp c_80
                  refine lv_aload_n hx hb d_Cr_fill_83 rfl (lv_at hl 0 rfl) ?_
                  refine lv_aload_n hx hb d_Cr_fill_84 rfl (lv_at hl 0 rfl) ?_
                  refine va_get (D := D) (ci := 4) (v := .ref k1) (C := R_Cr) (T := F_Cr) (N := 5) hx hb hw ku_Cr hown hK hP 7 rfl rfl 0 (by decide) (hw _ kw_053bb905) (fun _ h9 => h9) rfl d_Cr_fill_85 ?_
                  refine lv_iload hx hb d_Cr_fill_88 (lv_at hl 5 rfl) ?_
                  refine va_iald hx hb hK hP 0 0 rfl rfl (by assumption) d_Cr_fill_90 ?_
                  refine va_put (D := D) (ci := 4) (v := .int (f1 j.toNatClampNeg)) (ty := t_Cr 4) (C := R_Cr) (T := F_Cr) (N := 5) hx hb hw ku_Cr t_Cr t_Cr_ok n_Cr hown hK hP hD hS 7 rfl rfl 4 (by decide) (hw _ kw_767774d4) (fun _ h9 => h9) rfl (t_Cr_ok 4 (by decide)) rfl rfl (Nat.le_of_ble_eq_true rfl) d_Cr_fill_91 (fun H locs hP hD hS => ?_)
                  replace hP : va_P D sw_cl [(k1, .inl (cI, 64, .inl f1)), (k3, .inl (cI, 64, .inl f3)), (pX, .inl (cI, 64, .inl vx)), (pY, .inl (cI, 64, .inl vy)), (pA, .inl (cI, 64, .inl fa)), (pB, .inl (cI, 64, .inl tb)), (o, .inr (3, [.int ox, .int oy, .int oa, .int os])), (k, .inr (4, [.ref k1, .ref k2, .ref k3, .int n1, .int (f1 j.toNatClampNeg)])), (k2, .inl (cI, 64, .inl f2)), (p, .inr (1, [.ref pX, .ref pY, .ref pF, .ref pC, .ref pA, .ref pB, .ref pR, .ref pK, .int nv, .int ns, .int nw])), (pF, .inl (cI, 16, .inl fl)), (pC, .inl (cI, 16, .inl ce)), (pR, .inl (cI, 64, .inl fr)), (pK, .inl (cI, 64, .inl bk))] H := hP
                  replace hD : va_D A [(k1, .inl (cI, 64, .inl f1)), (k3, .inl (cI, 64, .inl f3)), (pX, .inl (cI, 64, .inl vx)), (pY, .inl (cI, 64, .inl vy)), (pA, .inl (cI, 64, .inl fa)), (pB, .inl (cI, 64, .inl tb)), (o, .inr (3, [.int ox, .int oy, .int oa, .int os])), (k, .inr (4, [.ref k1, .ref k2, .ref k3, .int n1, .int (f1 j.toNatClampNeg)])), (k2, .inl (cI, 64, .inl f2)), (p, .inr (1, [.ref pX, .ref pY, .ref pF, .ref pC, .ref pA, .ref pB, .ref pR, .ref pK, .int nv, .int ns, .int nw])), (pF, .inl (cI, 16, .inl fl)), (pC, .inl (cI, 16, .inl ce)), (pR, .inl (cI, 64, .inl fr)), (pK, .inl (cI, 64, .inl bk))] := hD
                  refine lv_iinc (v := j + 1) (lv' := [(5, .int (j + 1)), (0, .ref k), (1, .ref p), (2, .ref o), (3, .int y), (4, .int z)]) hx hb d_Cr_fill_94 hl (k := 5) rfl rfl (by decide) rfl (fun ls hl => ?_)
                  refine lv_goto (tgt := 41) hx hb d_Cr_fill_97 (by decide) ?_
                  exact ih_41 (a + 1) (j + 1) (f1 j.toNatClampNeg) _ _ _ (by rw [hj]; exact nI_1 a) (hjn) (by rw [hji, sw_bdec] at c_80; rw [c_55] at hf5; first | exact sw_fst_no hf5 c_80 c_55 | (rw [hji]; exact sw_fst_yes hf5 c_80)) (by omega) (hP.sub [7, 0, 8, 1, 9, 2, 3, 10, 11, 4, 5, 12, 13, 6] rfl) (hD.sub [7, 0, 8, 1, 9, 2, 3, 10, 11, 4, 5, 12, 13, 6] (by decide) rfl) hS (lv_sub hl [1, 2, 3, 4, 5, 0] rfl)
        exact lp_41 _ 0 0 (-1) _ _ _ (nI_0.symm) (Nat.zero_le _) (rfl) (Nat.lt_succ_self _) (hP.sub [0, 1, 2, 3, 4, 5, 6, 7, 8, 9, 10, 11, 12, 13] rfl) (hD.sub [0, 1, 2, 3, 4, 5, 6, 7, 8, 9, 10, 11, 12, 13] (by decide) rfl) hS (lv_sub hl [1, 2, 3, 4, 5, 0] rfl)
      · skip
        have hkn : q < nw.toNatClampNeg := sw_nle hn (by decide) hi hq c_9
        have hki : i.toNatClampNeg = q := by rw [hi]; exact nI_clamp (by omega)
        have hin1 : vp_in i 64 := by rw [hi]; exact vp_in_nI (by omega) (by omega)
        have hj1 := hv i.toNatClampNeg (by omega)
        refine lv_aload_n hx hb d_Cr_fill_12 rfl (lv_at hl 0 rfl) ?_
        refine lv_aload_n hx hb d_Cr_fill_13 rfl (lv_at hl 1 rfl) ?_
        refine lv_iload hx hb d_Cr_fill_14 (lv_at hl 5 rfl) ?_
        refine lv_aload_n hx hb d_Cr_fill_16 rfl (lv_at hl 2 rfl) ?_
        refine lv_iload_n hx hb d_Cr_fill_17 rfl (lv_at hl 3 rfl) ?_
        refine lv_iload hx hb d_Cr_fill_18 (lv_at hl 4 rfl) ?_
        refine sw_ki0 (wr := [(k1, .inl (cI, 64, .inl f1)), (pF, .inl (cI, 16, .inl fl)), (pC, .inl (cI, 16, .inl ce)), (pR, .inl (cI, 64, .inl fr)), (pK, .inl (cI, 64, .inl bk))]) (va_runV (As := [.ref p, .int i, .ref o, .int y, .int z]) (rest := []) ⟨hx, hb, hml, hown, hw⟩ (c_Cr_isCrossed l D cI cL tq _ k p i o y z k1 k2 k3 n1 (-1) f2 f3 pX pY pF pC pA pB pR pK nv ns nw vx vy fa tb ox oy oa os (hin1) (hj1.1) (hj1.2.1)) (cwV 5 hw (sw_gV kw_8b08a6ae kw_97d124a7 kw_c621ba1a kw_7f626125 kc_Cr_isCrossed) rfl rfl rfl ⟨rfl, yd_Cr_isCrossed⟩ ⟨Nat.le_of_ble_eq_true rfl, Nat.le_of_ble_eq_true rfl⟩) (sw_preV hK hP hD hS hA hG [0, 2, 3, 4, 5, 6, 9, 10, 13] rfl (by decide) 4 0 rfl rfl) rfl rfl hl.1 rfl (lv_room (Nat.le_of_ble_eq_true rfl)) d_Cr_fill_20 ⟨Nat.le_of_ble_eq_true rfl, Nat.le_of_ble_eq_true rfl⟩) hP hD hS hA [0, 2, 3, 4, 5, 6, 9, 10, 13] [1, 7, 8, 11, 12] rfl rfl (by decide) (by decide) (fun r_20 u_20 H locs hp_20 hP hD hS => ?_)
        obtain ⟨pp2_20, qq2_20⟩ := u_20
        try dsimp only at hp_20
        obtain ⟨rfl, rfl, rfl⟩ := hp_20
        replace hP : va_P D sw_cl [(k1, .inl (cI, 64, .inl f1)), (pF, .inl (cI, 16, .inl fl)), (pC, .inl (cI, 16, .inl ce)), (pR, .inl (cI, 64, .inl fr)), (pK, .inl (cI, 64, .inl bk)), (k, .inr (4, [.ref k1, .ref k2, .ref k3, .int n1, .int (-1)])), (k2, .inl (cI, 64, .inl ((sw_isc vx vy fa tb ox oy y z f2 f3 i.toNatClampNeg).2.1))), (k3, .inl (cI, 64, .inl ((sw_isc vx vy fa tb ox oy y z f2 f3 i.toNatClampNeg).2.2))), (p, .inr (1, [.ref pX, .ref pY, .ref pF, .ref pC, .ref pA, .ref pB, .ref pR, .ref pK, .int nv, .int ns, .int nw])), (pX, .inl (cI, 64, .inl vx)), (pY, .inl (cI, 64, .inl vy)), (pA, .inl (cI, 64, .inl fa)), (pB, .inl (cI, 64, .inl tb)), (o, .inr (3, [.int ox, .int oy, .int oa, .int os]))] H := hP
        replace hD : va_D A [(k1, .inl (cI, 64, .inl f1)), (pF, .inl (cI, 16, .inl fl)), (pC, .inl (cI, 16, .inl ce)), (pR, .inl (cI, 64, .inl fr)), (pK, .inl (cI, 64, .inl bk)), (k, .inr (4, [.ref k1, .ref k2, .ref k3, .int n1, .int (-1)])), (k2, .inl (cI, 64, .inl ((sw_isc vx vy fa tb ox oy y z f2 f3 i.toNatClampNeg).2.1))), (k3, .inl (cI, 64, .inl ((sw_isc vx vy fa tb ox oy y z f2 f3 i.toNatClampNeg).2.2))), (p, .inr (1, [.ref pX, .ref pY, .ref pF, .ref pC, .ref pA, .ref pB, .ref pR, .ref pK, .int nv, .int ns, .int nw])), (pX, .inl (cI, 64, .inl vx)), (pY, .inl (cI, 64, .inl vy)), (pA, .inl (cI, 64, .inl fa)), (pB, .inl (cI, 64, .inl tb)), (o, .inr (3, [.int ox, .int oy, .int oa, .int os]))] := hD
        refine lv_if_eq (tgt := 32) hx hb d_Cr_fill_23 (by decide) (fun c_23 => ?_) (fun c_23 => ?_)
        · skip
          refine lv_iinc (v := i + 1) (lv' := [(5, .int (i + 1)), (0, .ref k), (1, .ref p), (2, .ref o), (3, .int y), (4, .int z)]) hx hb d_Cr_fill_32 hl (k := 5) rfl rfl (by decide) rfl (fun ls hl => ?_)
          refine lv_goto (tgt := 3) hx hb d_Cr_fill_35 (by decide) ?_
          exact ih_3 (q + 1) (i + 1) n1 f1 ((sw_isc vx vy fa tb ox oy y z f2 f3 i.toNatClampNeg).2.1) ((sw_isc vx vy fa tb ox oy y z f2 f3 i.toNatClampNeg).2.2) _ _ _ (by rw [hi]; exact nI_1 q) (hkn) (by rw [hki] at c_23 ⊢; first | exact sw_fs1_no hs c_23 | (rw [hp_29, hi, nI_clamp (by omega)]; exact sw_fs1_yes hs c_23)) (by first | exact sw_od_no ho | (rw [hp_29, hki, hi]; exact sw_od_yes ho (by omega))) (by omega) (hP.sub [5, 0, 6, 7, 8, 9, 10, 1, 2, 11, 12, 3, 4, 13] rfl) (hD.sub [5, 0, 6, 7, 8, 9, 10, 1, 2, 11, 12, 3, 4, 13] (by decide) rfl) hS (lv_sub hl [1, 2, 3, 4, 5, 0] rfl)
        · skip
          refine lv_aload_n hx hb d_Cr_fill_26 rfl (lv_at hl 0 rfl) ?_
          refine lv_iload hx hb d_Cr_fill_27 (lv_at hl 5 rfl) ?_
          refine sw_kv0 (wr := [(pF, .inl (cI, 16, .inl fl)), (pC, .inl (cI, 16, .inl ce)), (pR, .inl (cI, 64, .inl fr)), (pK, .inl (cI, 64, .inl bk)), (p, .inr (1, [.ref pX, .ref pY, .ref pF, .ref pC, .ref pA, .ref pB, .ref pR, .ref pK, .int nv, .int ns, .int nw])), (pX, .inl (cI, 64, .inl vx)), (pY, .inl (cI, 64, .inl vy)), (pA, .inl (cI, 64, .inl fa)), (pB, .inl (cI, 64, .inl tb)), (o, .inr (3, [.int ox, .int oy, .int oa, .int os]))]) (va_runV (As := [.int i]) (rest := []) ⟨hx, hb, hml, hown, hw⟩ (c_Cr_insert l D cI cL tq _ k i k1 k2 k3 n1 (-1) f1 ((sw_isc vx vy fa tb ox oy y z f2 f3 i.toNatClampNeg).2.1) ((sw_isc vx vy fa tb ox oy y z f2 f3 i.toNatClampNeg).2.2) (sw_ok_mono ho.1 (by omega)) (hin1) (fun j hj => sw_od_in ho rfl hj (by omega))) (cwV 1 hw (sw_gV kw_e298ac0b kw_855c9ef0 kw_3e4c02f2 kw_7f626125 kc_Cr_insert) rfl rfl rfl ⟨rfl, yd_Cr_insert⟩ ⟨Nat.le_of_ble_eq_true rfl, Nat.le_of_ble_eq_true rfl⟩) (sw_preV hK hP hD hS hA hG [5, 0, 6, 7] rfl (by decide) 4 5 rfl rfl) rfl rfl hl.1 rfl (lv_room (Nat.le_of_ble_eq_true rfl)) d_Cr_fill_29 ⟨Nat.le_of_ble_eq_true rfl, Nat.le_of_ble_eq_true rfl⟩) hP hD hS hA [5, 0, 6, 7] [1, 2, 3, 4, 8, 9, 10, 11, 12, 13] rfl rfl (by decide) (by decide) (fun od2_29 H locs hp_29 hP hD hS => ?_)
          replace hP : va_P D sw_cl [(pF, .inl (cI, 16, .inl fl)), (pC, .inl (cI, 16, .inl ce)), (pR, .inl (cI, 64, .inl fr)), (pK, .inl (cI, 64, .inl bk)), (p, .inr (1, [.ref pX, .ref pY, .ref pF, .ref pC, .ref pA, .ref pB, .ref pR, .ref pK, .int nv, .int ns, .int nw])), (pX, .inl (cI, 64, .inl vx)), (pY, .inl (cI, 64, .inl vy)), (pA, .inl (cI, 64, .inl fa)), (pB, .inl (cI, 64, .inl tb)), (o, .inr (3, [.int ox, .int oy, .int oa, .int os])), (k, .inr (4, [.ref k1, .ref k2, .ref k3, .int (n1 + 1), .int (-1)])), (k1, .inl (cI, 64, .inl od2_29)), (k2, .inl (cI, 64, .inl ((sw_isc vx vy fa tb ox oy y z f2 f3 i.toNatClampNeg).2.1))), (k3, .inl (cI, 64, .inl ((sw_isc vx vy fa tb ox oy y z f2 f3 i.toNatClampNeg).2.2)))] H := hP
          replace hD : va_D A [(pF, .inl (cI, 16, .inl fl)), (pC, .inl (cI, 16, .inl ce)), (pR, .inl (cI, 64, .inl fr)), (pK, .inl (cI, 64, .inl bk)), (p, .inr (1, [.ref pX, .ref pY, .ref pF, .ref pC, .ref pA, .ref pB, .ref pR, .ref pK, .int nv, .int ns, .int nw])), (pX, .inl (cI, 64, .inl vx)), (pY, .inl (cI, 64, .inl vy)), (pA, .inl (cI, 64, .inl fa)), (pB, .inl (cI, 64, .inl tb)), (o, .inr (3, [.int ox, .int oy, .int oa, .int os])), (k, .inr (4, [.ref k1, .ref k2, .ref k3, .int (n1 + 1), .int (-1)])), (k1, .inl (cI, 64, .inl od2_29)), (k2, .inl (cI, 64, .inl ((sw_isc vx vy fa tb ox oy y z f2 f3 i.toNatClampNeg).2.1))), (k3, .inl (cI, 64, .inl ((sw_isc vx vy fa tb ox oy y z f2 f3 i.toNatClampNeg).2.2)))] := hD
          try dsimp only at hp_29
          refine lv_iinc (v := i + 1) (lv' := [(5, .int (i + 1)), (0, .ref k), (1, .ref p), (2, .ref o), (3, .int y), (4, .int z)]) hx hb d_Cr_fill_32 hl (k := 5) rfl rfl (by decide) rfl (fun ls hl => ?_)
          refine lv_goto (tgt := 3) hx hb d_Cr_fill_35 (by decide) ?_
          exact ih_3 (q + 1) (i + 1) (n1 + 1) od2_29 ((sw_isc vx vy fa tb ox oy y z f2 f3 i.toNatClampNeg).2.1) ((sw_isc vx vy fa tb ox oy y z f2 f3 i.toNatClampNeg).2.2) _ _ _ (by rw [hi]; exact nI_1 q) (hkn) (by rw [hki] at c_23 ⊢; first | exact sw_fs1_no hs c_23 | (rw [hp_29, hi, nI_clamp (by omega)]; exact sw_fs1_yes hs c_23)) (by first | exact sw_od_no ho | (rw [hp_29, hki, hi]; exact sw_od_yes ho (by omega))) (by omega) (hP.sub [10, 11, 12, 13, 4, 5, 6, 0, 1, 7, 8, 2, 3, 9] rfl) (hD.sub [10, 11, 12, 13, 4, 5, 6, 0, 1, 7, 8, 2, 3, 9] (by decide) rfl) hS (lv_sub hl [1, 2, 3, 4, 5, 0] rfl)
  exact lp_3 _ 0 0 0 od pp qq _ _ _ (nI_0.symm) (Nat.zero_le _) (rfl) (sw_od_0) (Nat.lt_succ_self _) (hP.sub [0, 1, 2, 3, 4, 5, 6, 7, 8, 9, 10, 11, 12, 13] rfl) (hD.sub [0, 1, 2, 3, 4, 5, 6, 7, 8, 9, 10, 11, 12, 13] (by decide) rfl) hS (lv_sub hl [1, 2, 3, 4, 5, 0] rfl)
