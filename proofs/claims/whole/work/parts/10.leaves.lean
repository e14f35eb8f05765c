abbrev rm_Math_floorDiv : Room := { frames := 0, cells := 0, slots := 0, locals := 0 }
abbrev q_Math_floorDiv (D : va_G) (cI cL : ClassId) (A : Nat → Prop) (x : Int32) (y : Int32) : Array Value → State → Outcome → State → Prop := va_Qi (S := Unit) (fun (r : Int32) => fun (_ : Unit) => r = (sw_fd x y)) (sw_R D A (fun (_ : Unit) => [])) A
set_option maxHeartbeats 4000000 in
set_option maxRecDepth 100000 in
theorem c_Math_floorDiv (l : Launch) (D : va_G) (cI cL : ClassId) (tq sz : Nat) (x : Int32) (y : Int32) (hy : ¬ y = 0) : Met l y_Math_floorDiv w_Math_floorDiv rm_Math_floorDiv (va_Pc [.int x, .int y] (sw_B D cI cL tq sz [])) (q_Math_floorDiv D cI cL (va_A [] sz) x y) 0 0 (va_A [] sz) := by
  refine sw_ofW (cc := b_Math_floorDiv) (maxL := 3) (ret := (some .int)) (by decide +kernel) rfl ?_
  intro mp me s mm args below meth mk s₁ B hml hv
  obtain ⟨rfl, hsz, hP, hK, hD0, hG⟩ := hv
  have hx := B.exec
  have hb := B.bytes
  have hr := B.returns
  have hts := atoms_spec (ws := w_Math_floorDiv) B.pre
  have hw : ∀ w ∈ sw_words, w.before _ s = true := fun w h => hts w (List.mem_cons_of_mem _ h)
  have hown : s.vm.findClass R_Math = some mm.cls := findClass_of_methodNamed B.named
  have hlocks := B.notSynchronized
  subst hsz
  have hD := hD0.self (sz := s.heap.size)
  generalize hAe : va_A [] s.heap.size = A at hD hG ⊢
  have hA : ∀ q : Nat, s.heap.size ≤ q → A q := fun q h => by rw [← hAe]; exact Or.inr h
  have hS : va_S A s.heap s.heap [] := va_S.rf
  have hl := lv_entry ([.int x, .int y]) (n := 3) (Nat.le_of_ble_eq_true rfl)
  rw [lg_entry_eq]
  generalize (lg_sl ([.int x, .int y]) ++ List.replicate (3 - (lg_sl ([.int x, .int y])).length) Slot.unset).toArray = ls at hl ⊢
  have hl : lv_has ls 3 [(0, .int x), (1, .int y)] := hl
  refine lv_iload_n hx hb d_Math_floorDiv_0 rfl (lv_at hl 0 rfl) ?_
  refine lv_iload_n hx hb d_Math_floorDiv_1 rfl (lv_at hl 1 rfl) ?_
  refine lv_idiv hx hb d_Math_floorDiv_2 (hy) ?_
  refine lv_istore_n (lv' := [(2, .int (x / y)), (0, .int x), (1, .int y)]) hx hb d_Math_floorDiv_3 rfl hl (by decide) rfl (fun ls hl => ?_)
  refine lv_iload_n hx hb d_Math_floorDiv_4 rfl (lv_at hl 1 rfl) ?_
  refine lv_iload_n hx hb d_Math_floorDiv_5 rfl (lv_at hl 2 rfl) ?_
  refine lv_ixor hx hb d_Math_floorDiv_6 ?_
  refine lv_if_ge (tgt := 21) hx hb d_Math_floorDiv_7 (by decide) (fun c_7 => ?_) (fun c_7 => ?_)
  · skip
    refine lv_iload_n hx hb d_Math_floorDiv_21 rfl (lv_at hl 0 rfl) ?_
    have hP9 := hP.sub (ws' := []) [] rfl
    have hD9 := hD.sub (ws' := []) [] (by decide) rfl
    exact W.iret (v := x / y) hx hb hr (fun T9 hT9 hW9 => ⟨⟨x / y, (), rfl, by simp [sw_fd, c_7], by rw [hT9]; exact hP9, hD9⟩, hS.F hT9⟩) hS.2.2 d_Math_floorDiv_22
  · skip
    refine lv_iload_n hx hb d_Math_floorDiv_10 rfl (lv_at hl 0 rfl) ?_
    refine lv_iload_n hx hb d_Math_floorDiv_11 rfl (lv_at hl 2 rfl) ?_
    refine lv_imul hx hb d_Math_floorDiv_12 ?_
    refine lv_iload_n hx hb d_Math_floorDiv_13 rfl (lv_at hl 1 rfl) ?_
    refine lv_icmp_eq (tgt := 21) hx hb d_Math_floorDiv_14 (by decide) (fun c_14 => ?_) (fun c_14 => ?_)
    · skip
      refine lv_iload_n hx hb d_Math_floorDiv_21 rfl (lv_at hl 0 rfl) ?_
      have hP9 := hP.sub (ws' := []) [] rfl
      have hD9 := hD.sub (ws' := []) [] (by decide) rfl
      exact W.iret (v := x / y) hx hb hr (fun T9 hT9 hW9 => ⟨⟨x / y, (), rfl, by simp [sw_fd, c_7, c_14], by rw [hT9]; exact hP9, hD9⟩, hS.F hT9⟩) hS.2.2 d_Math_floorDiv_22
    · skip
      refine lv_iload_n hx hb d_Math_floorDiv_17 rfl (lv_at hl 0 rfl) ?_
      refine lv_iconst (v := 1) hx hb d_Math_floorDiv_18 (by decide) ?_
      refine lv_isub hx hb d_Math_floorDiv_19 ?_
      have hP9 := hP.sub (ws' := []) [] rfl
      have hD9 := hD.sub (ws' := []) [] (by decide) rfl
      exact W.iret (v := (x / y) - 1) hx hb hr (fun T9 hT9 hW9 => ⟨⟨(x / y) - 1, (), rfl, by simp [sw_fd, c_7, c_14], by rw [hT9]; exact hP9, hD9⟩, hS.F hT9⟩) hS.2.2 d_Math_floorDiv_20

abbrev rm_Math_floorMod : Room := { frames := 0, cells := 0, slots := 0, locals := 0 }
abbrev q_Math_floorMod (D : va_G) (cI cL : ClassId) (A : Nat → Prop) (x : Int32) (y : Int32) : Array Value → State → Outcome → State → Prop := va_Qi (S := Unit) (fun (r : Int32) => fun (_ : Unit) => r = (sw_fm x y)) (sw_R D A (fun (_ : Unit) => [])) A
set_option maxHeartbeats 4000000 in
set_option maxRecDepth 100000 in
theorem c_Math_floorMod (l : Launch) (D : va_G) (cI cL : ClassId) (tq sz : Nat) (x : Int32) (y : Int32) (hy : ¬ y = 0) : Met l y_Math_floorMod w_Math_floorMod rm_Math_floorMod (va_Pc [.int x, .int y] (sw_B D cI cL tq sz [])) (q_Math_floorMod D cI cL (va_A [] sz) x y) 0 0 (va_A [] sz) := by
  refine sw_ofW (cc := b_Math_floorMod) (maxL := 3) (ret := (some .int)) (by decide +kernel) rfl ?_
  intro mp me s mm args below meth mk s₁ B hml hv
  obtain ⟨rfl, hsz, hP, hK, hD0, hG⟩ := hv
  have hx := B.exec
  have hb := B.bytes
  have hr := B.returns
  have hts := atoms_spec (ws := w_Math_floorMod) B.pre
  have hw : ∀ w ∈ sw_words, w.before _ s = true := fun w h => hts w (List.mem_cons_of_mem _ h)
  have hown : s.vm.findClass R_Math = some mm.cls := findClass_of_methodNamed B.named
  have hlocks := B.notSynchronized
  subst hsz
  have hD := hD0.self (sz := s.heap.size)
  generalize hAe : va_A [] s.heap.size = A at hD hG ⊢
  have hA : ∀ q : Nat, s.heap.size ≤ q → A q := fun q h => by rw [← hAe]; exact Or.inr h
  have hS : va_S A s.heap s.heap [] := va_S.rf
  have hl := lv_entry ([.int x, .int y]) (n := 3) (Nat.le_of_ble_eq_true rfl)
  rw [lg_entry_eq]
  generalize (lg_sl ([.int x, .int y]) ++ List.replicate (3 - (lg_sl ([.int x, .int y])).length) Slot.unset).toArray = ls at hl ⊢
  have hl : lv_has ls 3 [(0, .int x), (1, .int y)] := hl
  refine lv_iload_n hx hb d_Math_floorMod_0 rfl (lv_at hl 0 rfl) ?_
  refine lv_iload_n hx hb d_Math_floorMod_1 rfl (lv_at hl 1 rfl) ?_
  refine lv_irem hx hb d_Math_floorMod_2 (hy) ?_
  refine lv_istore_n (lv' := [(2, .int (x - x / y * y)), (0, .int x), (1, .int y)]) hx hb d_Math_floorMod_3 rfl hl (by decide) rfl (fun ls hl => ?_)
  refine lv_iload_n hx hb d_Math_floorMod_4 rfl (lv_at hl 1 rfl) ?_
  refine lv_iload_n hx hb d_Math_floorMod_5 rfl (lv_at hl 2 rfl) ?_
  refine lv_ixor hx hb d_Math_floorMod_6 ?_
  refine lv_if_ge (tgt := 18) hx hb d_Math_floorMod_7 (by decide) (fun c_7 => ?_) (fun c_7 => ?_)
  · skip
    refine lv_iload_n hx hb d_Math_floorMod_18 rfl (lv_at hl 0 rfl) ?_
    have hP9 := hP.sub (ws' := []) [] rfl
    have hD9 := hD.sub (ws' := []) [] (by decide) rfl
    exact W.iret (v := x - x / y * y) hx hb hr (fun T9 hT9 hW9 => ⟨⟨x - x / y * y, (), rfl, by simp [sw_fm, c_7], by rw [hT9]; exact hP9, hD9⟩, hS.F hT9⟩) hS.2.2 d_Math_floorMod_19
  · skip
    refine lv_iload_n hx hb d_Math_floorMod_10 rfl (lv_at hl 0 rfl) ?_
    refine lv_if_eq (tgt := 18) hx hb d_Math_floorMod_11 (by decide) (fun c_11 => ?_) (fun c_11 => ?_)
    · skip
      refine lv_iload_n hx hb d_Math_floorMod_18 rfl (lv_at hl 0 rfl) ?_
      have hP9 := hP.sub (ws' := []) [] rfl
      have hD9 := hD.sub (ws' := []) [] (by decide) rfl
      exact W.iret (v := x - x / y * y) hx hb hr (fun T9 hT9 hW9 => ⟨⟨x - x / y * y, (), rfl, by simp [sw_fm, c_7, c_11], by rw [hT9]; exact hP9, hD9⟩, hS.F hT9⟩) hS.2.2 d_Math_floorMod_19
    · skip
      refine lv_iload_n hx hb d_Math_floorMod_14 rfl (lv_at hl 0 rfl) ?_
      refine lv_iload_n hx hb d_Math_floorMod_15 rfl (lv_at hl 2 rfl) ?_
      refine lv_iadd hx hb d_Math_floorMod_16 ?_
      have hP9 := hP.sub (ws' := []) [] rfl
      have hD9 := hD.sub (ws' := []) [] (by decide) rfl
      exact W.iret (v := (x - x / y * y) + y) hx hb hr (fun T9 hT9 hW9 => ⟨⟨(x - x / y * y) + y, (), rfl, by simp [sw_fm, c_7, c_11], by rw [hT9]; exact hP9, hD9⟩, hS.F hT9⟩) hS.2.2 d_Math_floorMod_17

abbrev rm_SW_isWithin : Room := { frames := 0, cells := 0, slots := 0, locals := 0 }
abbrev q_SW_isWithin (D : va_G) (cI cL : ClassId) (A : Nat → Prop) (x : Int32) (y : Int32) : Array Value → State → Outcome → State → Prop := va_Qi (S := Unit) (fun (r : Int32) => fun (_ : Unit) => r = sw_b (sw_wi x y)) (sw_R D A (fun (_ : Unit) => [])) A
set_option maxHeartbeats 4000000 in
set_option maxRecDepth 100000 in
theorem c_SW_isWithin (l : Launch) (D : va_G) (cI cL : ClassId) (tq sz : Nat) (x : Int32) (y : Int32) : Met l y_SW_isWithin w_SW_isWithin rm_SW_isWithin (va_Pc [.int x, .int y] (sw_B D cI cL tq sz [])) (q_SW_isWithin D cI cL (va_A [] sz) x y) 0 0 (va_A [] sz) := by
  refine Met.ofW (cc := b_SW_isWithin) (maxL := 2) (ret := (some .boolean)) (by decide) rfl ?_
  intro mp me s mm args below meth mk s₁ B hml hv
  obtain ⟨rfl, hsz, hP, hK, hD0, hG⟩ := hv
  have hx := B.exec
  have hb := B.bytes
  have hr := B.returns
  have hts := atoms_spec (ws := w_SW_isWithin) B.pre
  have hw : ∀ w ∈ sw_words, w.before _ s = true := fun w h => hts w (List.mem_cons_of_mem _ h)
  have hown : s.vm.findClass R_SW = some mm.cls := findClass_of_methodNamed B.named
  have hlocks := B.notSynchronized
  subst hsz
  have hD := hD0.self (sz := s.heap.size)
  generalize hAe : va_A [] s.heap.size = A at hD hG ⊢
  have hA : ∀ q : Nat, s.heap.size ≤ q → A q := fun q h => by rw [← hAe]; exact Or.inr h
  have hS : va_S A s.heap s.heap [] := va_S.rf
  have hl := lv_entry ([.int x, .int y]) (n := 2) (Nat.le_of_ble_eq_true rfl)
  rw [lg_entry_eq]
  generalize (lg_sl ([.int x, .int y]) ++ List.replicate (2 - (lg_sl ([.int x, .int y])).length) Slot.unset).toArray = ls at hl ⊢
  have hl : lv_has ls 2 [(0, .int x), (1, .int y)] := hl
  refine lv_iload_n hx hb d_SW_isWithin_0 rfl (lv_at hl 0 rfl) ?_
  refine lv_iload_n hx hb d_SW_isWithin_1 rfl (lv_at hl 1 rfl) ?_
  refine lv_ineg hx hb d_SW_isWithin_2 ?_
  refine lv_icmp_lt (tgt := 15) hx hb d_SW_isWithin_3 (by decide) (fun c_3 => ?_) (fun c_3 => ?_)
  · skip
    refine lv_iconst (v := 0) hx hb d_SW_isWithin_15 (by decide) ?_
    have hP9 := hP.sub (ws' := []) [] rfl
    have hD9 := hD.sub (ws' := []) [] (by decide) rfl
    exact W.zret (ty := .boolean) (v := 0) hx hb hr (rfl) (fun T9 hT9 hW9 => ⟨⟨0, (), rfl, by simp [sw_b, sw_wi, c_3], by rw [hT9]; exact hP9, hD9⟩, hS.F hT9⟩) hS.2.2 d_SW_isWithin_16
  · skip
    refine lv_iload_n hx hb d_SW_isWithin_6 rfl (lv_at hl 0 rfl) ?_
    refine lv_iload_n hx hb d_SW_isWithin_7 rfl (lv_at hl 1 rfl) ?_
    refine lv_icmp_gt (tgt := 15) hx hb d_SW_isWithin_8 (by decide) (fun c_8 => ?_) (fun c_8 => ?_)
    · skip
      refine lv_iconst (v := 0) hx hb d_SW_isWithin_15 (by decide) ?_
      have hP9 := hP.sub (ws' := []) [] rfl
      have hD9 := hD.sub (ws' := []) [] (by decide) rfl
      exact W.zret (ty := .boolean) (v := 0) hx hb hr (rfl) (fun T9 hT9 hW9 => ⟨⟨0, (), rfl, by simp [sw_b, sw_wi, c_3, c_8], by rw [hT9]; exact hP9, hD9⟩, hS.F hT9⟩) hS.2.2 d_SW_isWithin_16
    · skip
      refine lv_iconst (v := 1) hx hb d_SW_isWithin_11 (by decide) ?_
      refine lv_goto (tgt := 16) hx hb d_SW_isWithin_12 (by decide) ?_
      have hP9 := hP.sub (ws' := []) [] rfl
      have hD9 := hD.sub (ws' := []) [] (by decide) rfl
      exact W.zret (ty := .boolean) (v := 1) hx hb hr (rfl) (fun T9 hT9 hW9 => ⟨⟨1, (), rfl, by simp [sw_b, sw_wi, c_3, c_8], by rw [hT9]; exact hP9, hD9⟩, hS.F hT9⟩) hS.2.2 d_SW_isWithin_16

abbrev rm_SW_isPlaceOfWalker : Room := { frames := 1, cells := 0, slots := 0, locals := 21 }
abbrev q_SW_isPlaceOfWalker (D : va_G) (cI cL : ClassId) (A : Nat → Prop) (x : Int32) (y : Int32) : Array Value → State → Outcome → State → Prop := va_Qi (S := Unit) (fun (r : Int32) => fun (_ : Unit) => r = sw_b (sw_wi x 3000 && sw_wi y 3000)) (sw_R D A (fun (_ : Unit) => [])) A
set_option maxHeartbeats 4000000 in
set_option maxRecDepth 100000 in
theorem c_SW_isPlaceOfWalker (l : Launch) (D : va_G) (cI cL : ClassId) (tq sz : Nat) (x : Int32) (y : Int32) : Met l y_SW_isPlaceOfWalker w_SW_isPlaceOfWalker rm_SW_isPlaceOfWalker (va_Pc [.int x, .int y] (sw_B D cI cL tq sz [])) (q_SW_isPlaceOfWalker D cI cL (va_A [] sz) x y) 0 0 (va_A [] sz) := by
  refine Met.ofW (cc := b_SW_isPlaceOfWalker) (maxL := 2) (ret := (some .boolean)) (by decide) rfl ?_
  intro mp me s mm args below meth mk s₁ B hml hv
  obtain ⟨rfl, hsz, hP, hK, hD0, hG⟩ := hv
  have hx := B.exec
  have hb := B.bytes
  have hr := B.returns
  have hts := atoms_spec (ws := w_SW_isPlaceOfWalker) B.pre
  have hw : ∀ w ∈ sw_words, w.before _ s = true := fun w h => hts w (List.mem_cons_of_mem _ h)
  have hown : s.vm.findClass R_SW = some mm.cls := findClass_of_methodNamed B.named
  have hlocks := B.notSynchronized
  subst hsz
  have hD := hD0.self (sz := s.heap.size)
  generalize hAe : va_A [] s.heap.size = A at hD hG ⊢
  have hA : ∀ q : Nat, s.heap.size ≤ q → A q := fun q h => by rw [← hAe]; exact Or.inr h
  have hS : va_S A s.heap s.heap [] := va_S.rf
  have hl := lv_entry ([.int x, .int y]) (n := 2) (Nat.le_of_ble_eq_true rfl)
  rw [lg_entry_eq]
  generalize (lg_sl ([.int x, .int y]) ++ List.replicate (2 - (lg_sl ([.int x, .int y])).length) Slot.unset).toArray = ls at hl ⊢
  have hl : lv_has ls 2 [(0, .int x), (1, .int y)] := hl
  refine lv_iload_n hx hb d_SW_isPlaceOfWalker_0 rfl (lv_at hl 0 rfl) ?_
  refine lv_sipush (v := 3000) hx hb d_SW_isPlaceOfWalker_1 (by decide) ?_
  refine sw_ki0 (wr := []) (va_runS (As := [.int x, .int 3000]) (rest := []) ⟨hx, hb, hml, hown, hw⟩ (c_SW_isWithin l D cI cL tq _ x 3000) (cwS 2 hw (sw_gS kw_d0fc5bad kw_de2663c6 kw_7ea4a733 kc_SW_isWithin) rfl rfl rfl ⟨rfl, yd_SW_isWithin⟩ ⟨Nat.le_of_ble_eq_true rfl, Nat.le_of_ble_eq_true rfl⟩) (sw_preS hK hP hD hS hA hG [] rfl (by decide)) rfl rfl hl.1 rfl (lv_room (Nat.le_of_ble_eq_true rfl)) d_SW_isPlaceOfWalker_4 ⟨Nat.le_of_ble_eq_true rfl, Nat.le_of_ble_eq_true rfl⟩) hP hD hS hA [] [] rfl rfl (by decide) (by decide) (fun r_4 _ H locs hp_4 hP hD hS => ?_)
  replace hP : va_P D sw_cl [] H := hP
  replace hD : va_D A [] := hD
  try dsimp only at hp_4
  subst hp_4
  refine lv_if_eq (tgt := 24) hx hb d_SW_isPlaceOfWalker_7 (by decide) (fun c_7 => ?_) (fun c_7 => ?_)
  · skip
    replace c_7 := sw_b0.mp c_7
    refine lv_iconst (v := 0) hx hb d_SW_isPlaceOfWalker_24 (by decide) ?_
    have hP9 := hP.sub (ws' := []) [] rfl
    have hD9 := hD.sub (ws' := []) [] (by decide) rfl
    exact W.zret (ty := .boolean) (v := 0) hx hb hr (rfl) (fun T9 hT9 hW9 => ⟨⟨0, (), rfl, by simp [sw_b, c_7], by rw [hT9]; exact hP9, hD9⟩, hS.F hT9⟩) hS.2.2 d_SW_isPlaceOfWalker_25
  · skip
    replace c_7 := sw_bn.mp c_7
    refine lv_iload_n hx hb d_SW_isPlaceOfWalker_10 rfl (lv_at hl 1 rfl) ?_
    refine lv_sipush (v := 3000) hx hb d_SW_isPlaceOfWalker_11 (by decide) ?_
    refine sw_ki0 (wr := []) (va_runS (As := [.int y, .int 3000]) (rest := []) ⟨hx, hb, hml, hown, hw⟩ (c_SW_isWithin l D cI cL tq _ y 3000) (cwS 2 hw (sw_gS kw_d0fc5bad kw_de2663c6 kw_7ea4a733 kc_SW_isWithin) rfl rfl rfl ⟨rfl, yd_SW_isWithin⟩ ⟨Nat.le_of_ble_eq_true rfl, Nat.le_of_ble_eq_true rfl⟩) (sw_preS hK hP hD hS hA hG [] rfl (by decide)) rfl rfl hl.1 rfl (lv_room (Nat.le_of_ble_eq_true rfl)) d_SW_isPlaceOfWalker_14 ⟨Nat.le_of_ble_eq_true rfl, Nat.le_of_ble_eq_true rfl⟩) hP hD hS hA [] [] rfl rfl (by decide) (by decide) (fun r_14 _ H locs hp_14 hP hD hS => ?_)
    replace hP : va_P D sw_cl [] H := hP
    replace hD : va_D A [] := hD
    try dsimp only at hp_14
    subst hp_14
    refine lv_if_eq (tgt := 24) hx hb d_SW_isPlaceOfWalker_17 (by decide) (fun c_17 => ?_) (fun c_17 => ?_)
    · skip
      replace c_17 := sw_b0.mp c_17
      refine lv_iconst (v := 0) hx hb d_SW_isPlaceOfWalker_24 (by decide) ?_
      have hP9 := hP.sub (ws' := []) [] rfl
      have hD9 := hD.sub (ws' := []) [] (by decide) rfl
      exact W.zret (ty := .boolean) (v := 0) hx hb hr (rfl) (fun T9 hT9 hW9 => ⟨⟨0, (), rfl, by simp [sw_b, c_7, c_17], by rw [hT9]; exact hP9, hD9⟩, hS.F hT9⟩) hS.2.2 d_SW_isPlaceOfWalker_25
    · skip
      replace c_17 := sw_bn.mp c_17
      refine lv_iconst (v := 1) hx hb d_SW_isPlaceOfWalker_20 (by decide) ?_
      refine lv_goto (tgt := 25) hx hb d_SW_isPlaceOfWalker_21 (by decide) ?_
      have hP9 := hP.sub (ws' := []) [] rfl
      have hD9 := hD.sub (ws' := []) [] (by decide) rfl
      exact W.zret (ty := .boolean) (v := 1) hx hb hr (rfl) (fun T9 hT9 hW9 => ⟨⟨1, (), rfl, by simp [sw_b, c_7, c_17], by rw [hT9]; exact hP9, hD9⟩, hS.F hT9⟩) hS.2.2 d_SW_isPlaceOfWalker_25

abbrev rm_SW_isInput : Room := { frames := 1, cells := 0, slots := 0, locals := 21 }
abbrev q_SW_isInput (D : va_G) (cI cL : ClassId) (A : Nat → Prop) (x : Int32) (y : Int32) (z : Int32) : Array Value → State → Outcome → State → Prop := va_Qi (S := Unit) (fun (r : Int32) => fun (_ : Unit) => r = sw_b (sw_wi x 64 && sw_wi y 64 && sw_wi z 16)) (sw_R D A (fun (_ : Unit) => [])) A
set_option maxHeartbeats 4000000 in
set_option maxRecDepth 100000 in
theorem c_SW_isInput (l : Launch) (D : va_G) (cI cL : ClassId) (tq sz : Nat) (x : Int32) (y : Int32) (z : Int32) : Met l y_SW_isInput w_SW_isInput rm_SW_isInput (va_Pc [.int x, .int y, .int z] (sw_B D cI cL tq sz [])) (q_SW_isInput D cI cL (va_A [] sz) x y z) 0 0 (va_A [] sz) := by
  refine Met.ofW (cc := b_SW_isInput) (maxL := 3) (ret := (some .boolean)) (by decide) rfl ?_
  intro mp me s mm args below meth mk s₁ B hml hv
  obtain ⟨rfl, hsz, hP, hK, hD0, hG⟩ := hv
  have hx := B.exec
  have hb := B.bytes
  have hr := B.returns
  have hts := atoms_spec (ws := w_SW_isInput) B.pre
  have hw : ∀ w ∈ sw_words, w.before _ s = true := fun w h => hts w (List.mem_cons_of_mem _ h)
  have hown : s.vm.findClass R_SW = some mm.cls := findClass_of_methodNamed B.named
  have hlocks := B.notSynchronized
  subst hsz
  have hD := hD0.self (sz := s.heap.size)
  generalize hAe : va_A [] s.heap.size = A at hD hG ⊢
  have hA : ∀ q : Nat, s.heap.size ≤ q → A q := fun q h => by rw [← hAe]; exact Or.inr h
  have hS : va_S A s.heap s.heap [] := va_S.rf
  have hl := lv_entry ([.int x, .int y, .int z]) (n := 3) (Nat.le_of_ble_eq_true rfl)
  rw [lg_entry_eq]
  generalize (lg_sl ([.int x, .int y, .int z]) ++ List.replicate (3 - (lg_sl ([.int x, .int y, .int z])).length) Slot.unset).toArray = ls at hl ⊢
  have hl : lv_has ls 3 [(0, .int x), (1, .int y), (2, .int z)] := hl
  refine lv_iload_n hx hb d_SW_isInput_0 rfl (lv_at hl 0 rfl) ?_
  refine lv_bipush (v := 64) hx hb d_SW_isInput_1 (by decide) ?_
  refine sw_ki0 (wr := []) (va_runS (As := [.int x, .int 64]) (rest := []) ⟨hx, hb, hml, hown, hw⟩ (c_SW_isWithin l D cI cL tq _ x 64) (cwS 2 hw (sw_gS kw_d0fc5bad kw_de2663c6 kw_7ea4a733 kc_SW_isWithin) rfl rfl rfl ⟨rfl, yd_SW_isWithin⟩ ⟨Nat.le_of_ble_eq_true rfl, Nat.le_of_ble_eq_true rfl⟩) (sw_preS hK hP hD hS hA hG [] rfl (by decide)) rfl rfl hl.1 rfl (lv_room (Nat.le_of_ble_eq_true rfl)) d_SW_isInput_3 ⟨Nat.le_of_ble_eq_true rfl, Nat.le_of_ble_eq_true rfl⟩) hP hD hS hA [] [] rfl rfl (by decide) (by decide) (fun r_3 _ H locs hp_3 hP hD hS => ?_)
  replace hP : va_P D sw_cl [] H := hP
  replace hD : va_D A [] := hD
  try dsimp only at hp_3
  subst hp_3
  refine lv_if_eq (tgt := 31) hx hb d_SW_isInput_6 (by decide) (fun c_6 => ?_) (fun c_6 => ?_)
  · skip
    replace c_6 := sw_b0.mp c_6
    refine lv_iconst (v := 0) hx hb d_SW_isInput_31 (by decide) ?_
    have hP9 := hP.sub (ws' := []) [] rfl
    have hD9 := hD.sub (ws' := []) [] (by decide) rfl
    exact W.zret (ty := .boolean) (v := 0) hx hb hr (rfl) (fun T9 hT9 hW9 => ⟨⟨0, (), rfl, by simp [sw_b, c_6], by rw [hT9]; exact hP9, hD9⟩, hS.F hT9⟩) hS.2.2 d_SW_isInput_32
  · skip
    replace c_6 := sw_bn.mp c_6
    refine lv_iload_n hx hb d_SW_isInput_9 rfl (lv_at hl 1 rfl) ?_
    refine lv_bipush (v := 64) hx hb d_SW_isInput_10 (by decide) ?_
    refine sw_ki0 (wr := []) (va_runS (As := [.int y, .int 64]) (rest := []) ⟨hx, hb, hml, hown, hw⟩ (c_SW_isWithin l D cI cL tq _ y 64) (cwS 2 hw (sw_gS kw_d0fc5bad kw_de2663c6 kw_7ea4a733 kc_SW_isWithin) rfl rfl rfl ⟨rfl, yd_SW_isWithin⟩ ⟨Nat.le_of_ble_eq_true rfl, Nat.le_of_ble_eq_true rfl⟩) (sw_preS hK hP hD hS hA hG [] rfl (by decide)) rfl rfl hl.1 rfl (lv_room (Nat.le_of_ble_eq_true rfl)) d_SW_isInput_12 ⟨Nat.le_of_ble_eq_true rfl, Nat.le_of_ble_eq_true rfl⟩) hP hD hS hA [] [] rfl rfl (by decide) (by decide) (fun r_12 _ H locs hp_12 hP hD hS => ?_)
    replace hP : va_P D sw_cl [] H := hP
    replace hD : va_D A [] := hD
    try dsimp only at hp_12
    subst hp_12
    refine lv_if_eq (tgt := 31) hx hb d_SW_isInput_15 (by decide) (fun c_15 => ?_) (fun c_15 => ?_)
    · skip
      replace c_15 := sw_b0.mp c_15
      refine lv_iconst (v := 0) hx hb d_SW_isInput_31 (by decide) ?_
      have hP9 := hP.sub (ws' := []) [] rfl
      have hD9 := hD.sub (ws' := []) [] (by decide) rfl
      exact W.zret (ty := .boolean) (v := 0) hx hb hr (rfl) (fun T9 hT9 hW9 => ⟨⟨0, (), rfl, by simp [sw_b, c_6, c_15], by rw [hT9]; exact hP9, hD9⟩, hS.F hT9⟩) hS.2.2 d_SW_isInput_32
    · skip
      replace c_15 := sw_bn.mp c_15
      refine lv_iload_n hx hb d_SW_isInput_18 rfl (lv_at hl 2 rfl) ?_
      refine lv_bipush (v := 16) hx hb d_SW_isInput_19 (by decide) ?_
      refine sw_ki0 (wr := []) (va_runS (As := [.int z, .int 16]) (rest := []) ⟨hx, hb, hml, hown, hw⟩ (c_SW_isWithin l D cI cL tq _ z 16) (cwS 2 hw (sw_gS kw_d0fc5bad kw_de2663c6 kw_7ea4a733 kc_SW_isWithin) rfl rfl rfl ⟨rfl, yd_SW_isWithin⟩ ⟨Nat.le_of_ble_eq_true rfl, Nat.le_of_ble_eq_true rfl⟩) (sw_preS hK hP hD hS hA hG [] rfl (by decide)) rfl rfl hl.1 rfl (lv_room (Nat.le_of_ble_eq_true rfl)) d_SW_isInput_21 ⟨Nat.le_of_ble_eq_true rfl, Nat.le_of_ble_eq_true rfl⟩) hP hD hS hA [] [] rfl rfl (by decide) (by decide) (fun r_21 _ H locs hp_21 hP hD hS => ?_)
      replace hP : va_P D sw_cl [] H := hP
      replace hD : va_D A [] := hD
      try dsimp only at hp_21
      subst hp_21
      refine lv_if_eq (tgt := 31) hx hb d_SW_isInput_24 (by decide) (fun c_24 => ?_) (fun c_24 => ?_)
      · skip
        replace c_24 := sw_b0.mp c_24
        refine lv_iconst (v := 0) hx hb d_SW_isInput_31 (by decide) ?_
        have hP9 := hP.sub (ws' := []) [] rfl
        have hD9 := hD.sub (ws' := []) [] (by decide) rfl
        exact W.zret (ty := .boolean) (v := 0) hx hb hr (rfl) (fun T9 hT9 hW9 => ⟨⟨0, (), rfl, by simp [sw_b, c_6, c_15, c_24], by rw [hT9]; exact hP9, hD9⟩, hS.F hT9⟩) hS.2.2 d_SW_isInput_32
      · skip
        replace c_24 := sw_bn.mp c_24
        refine lv_iconst (v := 1) hx hb d_SW_isInput_27 (by decide) ?_
        refine lv_goto (tgt := 32) hx hb d_SW_isInput_28 (by decide) ?_
        have hP9 := hP.sub (ws' := []) [] rfl
        have hD9 := hD.sub (ws' := []) [] (by decide) rfl
        exact W.zret (ty := .boolean) (v := 1) hx hb hr (rfl) (fun T9 hT9 hW9 => ⟨⟨1, (), rfl, by simp [sw_b, c_6, c_15, c_24], by rw [hT9]; exact hP9, hD9⟩, hS.F hT9⟩) hS.2.2 d_SW_isInput_32

abbrev rm_SW_cross : Room := { frames := 0, cells := 0, slots := 0, locals := 0 }
abbrev q_SW_cross (D : va_G) (cI cL : ClassId) (A : Nat → Prop) (x : Int32) (y : Int32) (z : Int32) (v : Int32) : Array Value → State → Outcome → State → Prop := va_Qi (S := Unit) (fun (r : Int32) => fun (_ : Unit) => r = x * v - y * z) (sw_R D A (fun (_ : Unit) => [])) A
set_option maxHeartbeats 4000000 in
set_option maxRecDepth 100000 in
theorem c_SW_cross (l : Launch) (D : va_G) (cI cL : ClassId) (tq sz : Nat) (x : Int32) (y : Int32) (z : Int32) (v : Int32) : Met l y_SW_cross w_SW_cross rm_SW_cross (va_Pc [.int x, .int y, .int z, .int v] (sw_B D cI cL tq sz [])) (q_SW_cross D cI cL (va_A [] sz) x y z v) 0 0 (va_A [] sz) := by
  refine Met.ofW (cc := b_SW_cross) (maxL := 4) (ret := (some .int)) (by decide) rfl ?_
  intro mp me s mm args below meth mk s₁ B hml hv
  obtain ⟨rfl, hsz, hP, hK, hD0, hG⟩ := hv
  have hx := B.exec
  have hb := B.bytes
  have hr := B.returns
  have hts := atoms_spec (ws := w_SW_cross) B.pre
  have hw : ∀ w ∈ sw_words, w.before _ s = true := fun w h => hts w (List.mem_cons_of_mem _ h)
  have hown : s.vm.findClass R_SW = some mm.cls := findClass_of_methodNamed B.named
  have hlocks := B.notSynchronized
  subst hsz
  have hD := hD0.self (sz := s.heap.size)
  generalize hAe : va_A [] s.heap.size = A at hD hG ⊢
  have hA : ∀ q : Nat, s.heap.size ≤ q → A q := fun q h => by rw [← hAe]; exact Or.inr h
  have hS : va_S A s.heap s.heap [] := va_S.rf
  have hl := lv_entry ([.int x, .int y, .int z, .int v]) (n := 4) (Nat.le_of_ble_eq_true rfl)
  rw [lg_entry_eq]
  generalize (lg_sl ([.int x, .int y, .int z, .int v]) ++ List.replicate (4 - (lg_sl ([.int x, .int y, .int z, .int v])).length) Slot.unset).toArray = ls at hl ⊢
  have hl : lv_has ls 4 [(0, .int x), (1, .int y), (2, .int z), (3, .int v)] := hl
  refine lv_iload_n hx hb d_SW_cross_0 rfl (lv_at hl 0 rfl) ?_
  refine lv_iload_n hx hb d_SW_cross_1 rfl (lv_at hl 3 rfl) ?_
  refine lv_imul hx hb d_SW_cross_2 ?_
  refine lv_iload_n hx hb d_SW_cross_3 rfl (lv_at hl 1 rfl) ?_
  refine lv_iload_n hx hb d_SW_cross_4 rfl (lv_at hl 2 rfl) ?_
  refine lv_imul hx hb d_SW_cross_5 ?_
  refine lv_isub hx hb d_SW_cross_6 ?_
  have hP9 := hP.sub (ws' := []) [] rfl
  have hD9 := hD.sub (ws' := []) [] (by decide) rfl
  exact W.iret (v := (x * v) - (y * z)) hx hb hr (fun T9 hT9 hW9 => ⟨⟨(x * v) - (y * z), (), rfl, by rfl, by rw [hT9]; exact hP9, hD9⟩, hS.F hT9⟩) hS.2.2 d_SW_cross_7

abbrev rm_SW_cosineOf : Room := { frames := 1, cells := 0, slots := 0, locals := 22 }
abbrev q_SW_cosineOf (D : va_G) (cI cL : ClassId) (A : Nat → Prop) (x : Int32) : Array Value → State → Outcome → State → Prop := va_Qi (S := Unit) (fun (r : Int32) => fun (_ : Unit) => r = sw_cosf (sw_fm x 64)) (sw_R D A (fun (_ : Unit) => [])) A
set_option maxHeartbeats 4000000 in
set_option maxRecDepth 100000 in
theorem c_SW_cosineOf (l : Launch) (D : va_G) (cI cL : ClassId) (tq sz : Nat) (x : Int32) : Met l y_SW_cosineOf w_SW_cosineOf rm_SW_cosineOf (va_Pc [.int x] (sw_B D cI cL tq sz [])) (q_SW_cosineOf D cI cL (va_A [] sz) x) 0 0 (va_A [] sz) := by
  refine Met.ofW (cc := b_SW_cosineOf) (maxL := 3) (ret := (some .int)) (by decide) rfl ?_
  intro mp me s mm args below meth mk s₁ B hml hv
  obtain ⟨rfl, hsz, hP, hK, hD0, hG⟩ := hv
  have hx := B.exec
  have hb := B.bytes
  have hr := B.returns
  have hts := atoms_spec (ws := w_SW_cosineOf) B.pre
  have hw : ∀ w ∈ sw_words, w.before _ s = true := fun w h => hts w (List.mem_cons_of_mem _ h)
  have hown : s.vm.findClass R_SW = some mm.cls := findClass_of_methodNamed B.named
  have hlocks := B.notSynchronized
  subst hsz
  have hD := hD0.self (sz := s.heap.size)
  generalize hAe : va_A [] s.heap.size = A at hD hG ⊢
  have hA : ∀ q : Nat, s.heap.size ≤ q → A q := fun q h => by rw [← hAe]; exact Or.inr h
  have hS : va_S A s.heap s.heap [] := va_S.rf
  have hl := lv_entry ([.int x]) (n := 3) (Nat.le_of_ble_eq_true rfl)
  rw [lg_entry_eq]
  generalize (lg_sl ([.int x]) ++ List.replicate (3 - (lg_sl ([.int x])).length) Slot.unset).toArray = ls at hl ⊢
  have hl : lv_has ls 3 [(0, .int x)] := hl
  refine lv_iload_n hx hb d_SW_cosineOf_0 rfl (lv_at hl 0 rfl) ?_
  refine lv_bipush (v := 64) hx hb d_SW_cosineOf_1 (by decide) ?_
  refine sw_ki0 (wr := []) (va_runS (As := [.int x, .int 64]) (rest := []) ⟨hx, hb, hml, hown, hw⟩ (c_Math_floorMod l D cI cL tq _ x 64 (by decide)) (va_cwS 2 hw (sw_gT kw_a33f319e kw_464a0f65 kw_651ad336 kc_Math_floorMod) rfl rfl rfl yd_Math_floorMod ⟨Nat.le_of_ble_eq_true rfl, Nat.le_of_ble_eq_true rfl⟩) (sw_preS hK hP hD hS hA hG [] rfl (by decide)) rfl rfl hl.1 rfl (lv_room (Nat.le_of_ble_eq_true rfl)) d_SW_cosineOf_3 ⟨Nat.le_of_ble_eq_true rfl, Nat.le_of_ble_eq_true rfl⟩) hP hD hS hA [] [] rfl rfl (by decide) (by decide) (fun r_3 _ H locs hp_3 hP hD hS => ?_)
  try dsimp only at hp_3
  subst hp_3
  replace hP : va_P D sw_cl [] H := hP
  replace hD : va_D A [] := hD
  refine lv_topi (fun a e_a => ?_)
  refine lv_istore_n (lv' := [(1, .int a), (0, .int x)]) hx hb d_SW_cosineOf_6 rfl hl (by decide) rfl (fun ls hl => ?_)
  have ha1 : 0 ≤ a.toInt ∧ a.toInt < 64 := by rw [e_a]; exact sw_fm64 x
  refine lv_iload_n hx hb d_SW_cosineOf_7 rfl (lv_at hl 0 rfl) ?_
  refine lv_bipush (v := 32) hx hb d_SW_cosineOf_8 (by decide) ?_
  refine lv_icmp_gt (tgt := 17) hx hb d_SW_cosineOf_10 (by decide) (fun c_10 => ?_) (fun c_10 => ?_)
  · skip
    refine lv_bipush (v := 64) hx hb d_SW_cosineOf_17 (by decide) ?_
    refine lv_iload_n hx hb d_SW_cosineOf_19 rfl (lv_at hl 0 rfl) ?_
    refine lv_isub hx hb d_SW_cosineOf_20 ?_
    refine lv_istore_n (lv' := [(2, .int (64 - a)), (1, .int a), (0, .int x)]) hx hb d_SW_cosineOf_21 rfl hl (by decide) rfl (fun ls hl => ?_)
    refine lv_iload_n hx hb d_SW_cosineOf_22 rfl (lv_at hl 0 rfl) ?_
    refine lv_bipush (v := 16) hx hb d_SW_cosineOf_23 (by decide) ?_
    refine lv_icmp_gt (tgt := 34) hx hb d_SW_cosineOf_25 (by decide) (fun c_25 => ?_) (fun c_25 => ?_)
    · skip
      refine va_gets hx hb (v := .ref tq) (hG.1) hS hown (hw _ kw_9d0ddac9) (fun _ h9 => h9) d_SW_cosineOf_34 ?_
      refine lv_bipush (v := 32) hx hb d_SW_cosineOf_37 (by decide) ?_
      refine lv_iload_n hx hb d_SW_cosineOf_39 rfl (lv_at hl 0 rfl) ?_
      refine lv_isub hx hb d_SW_cosineOf_40 ?_
      refine va_ti hx hb (hG.2.1) hS (by first | exact sw_cin3 ha1 c_10 c_25 | exact sw_cin4 ha1 c_10 c_25) rfl d_SW_cosineOf_41 ?_
      refine lv_ineg hx hb d_SW_cosineOf_42 ?_
      have hP9 := hP.sub (ws' := []) [] rfl
      have hD9 := hD.sub (ws' := []) [] (by decide) rfl
      exact W.iret (v := -(sw_cos (32 - (64 - a)).toNatClampNeg)) hx hb hr (fun T9 hT9 hW9 => ⟨⟨-(sw_cos (32 - (64 - a)).toNatClampNeg), (), rfl, by subst e_a; simp [sw_cosf, c_10, c_25], by rw [hT9]; exact hP9, hD9⟩, hS.F hT9⟩) hS.2.2 d_SW_cosineOf_43
    · skip
      refine va_gets hx hb (v := .ref tq) (hG.1) hS hown (hw _ kw_9d0ddac9) (fun _ h9 => h9) d_SW_cosineOf_28 ?_
      refine lv_iload_n hx hb d_SW_cosineOf_31 rfl (lv_at hl 0 rfl) ?_
      refine va_ti hx hb (hG.2.1) hS (by first | exact sw_cin1 ha1 c_10 c_25 | exact sw_cin2 ha1 c_10 c_25) rfl d_SW_cosineOf_32 ?_
      have hP9 := hP.sub (ws' := []) [] rfl
      have hD9 := hD.sub (ws' := []) [] (by decide) rfl
      exact W.iret (v := sw_cos (64 - a).toNatClampNeg) hx hb hr (fun T9 hT9 hW9 => ⟨⟨sw_cos (64 - a).toNatClampNeg, (), rfl, by subst e_a; simp [sw_cosf, c_10, c_25], by rw [hT9]; exact hP9, hD9⟩, hS.F hT9⟩) hS.2.2 d_SW_cosineOf_33
  · skip
    refine lv_iload_n hx hb d_SW_cosineOf_13 rfl (lv_at hl 0 rfl) ?_
    refine lv_goto (tgt := 21) hx hb d_SW_cosineOf_14 (by decide) ?_
    refine lv_istore_n (lv' := [(2, .int a), (1, .int a), (0, .int x)]) hx hb d_SW_cosineOf_21 rfl hl (by decide) rfl (fun ls hl => ?_)
    refine lv_iload_n hx hb d_SW_cosineOf_22 rfl (lv_at hl 0 rfl) ?_
    refine lv_bipush (v := 16) hx hb d_SW_cosineOf_23 (by decide) ?_
    refine lv_icmp_gt (tgt := 34) hx hb d_SW_cosineOf_25 (by decide) (fun c_25 => ?_) (fun c_25 => ?_)
    · skip
      refine va_gets hx hb (v := .ref tq) (hG.1) hS hown (hw _ kw_9d0ddac9) (fun _ h9 => h9) d_SW_cosineOf_34 ?_
      refine lv_bipush (v := 32) hx hb d_SW_cosineOf_37 (by decide) ?_
      refine lv_iload_n hx hb d_SW_cosineOf_39 rfl (lv_at hl 0 rfl) ?_
      refine lv_isub hx hb d_SW_cosineOf_40 ?_
      refine va_ti hx hb (hG.2.1) hS (by first | exact sw_cin3 ha1 c_10 c_25 | exact sw_cin4 ha1 c_10 c_25) rfl d_SW_cosineOf_41 ?_
      refine lv_ineg hx hb d_SW_cosineOf_42 ?_
      have hP9 := hP.sub (ws' := []) [] rfl
      have hD9 := hD.sub (ws' := []) [] (by decide) rfl
      exact W.iret (v := -(sw_cos (32 - a).toNatClampNeg)) hx hb hr (fun T9 hT9 hW9 => ⟨⟨-(sw_cos (32 - a).toNatClampNeg), (), rfl, by subst e_a; simp [sw_cosf, c_10, c_25], by rw [hT9]; exact hP9, hD9⟩, hS.F hT9⟩) hS.2.2 d_SW_cosineOf_43
    · skip
      refine va_gets hx hb (v := .ref tq) (hG.1) hS hown (hw _ kw_9d0ddac9) (fun _ h9 => h9) d_SW_cosineOf_28 ?_
      refine lv_iload_n hx hb d_SW_cosineOf_31 rfl (lv_at hl 0 rfl) ?_
      refine va_ti hx hb (hG.2.1) hS (by first | exact sw_cin1 ha1 c_10 c_25 | exact sw_cin2 ha1 c_10 c_25) rfl d_SW_cosineOf_32 ?_
      have hP9 := hP.sub (ws' := []) [] rfl
      have hD9 := hD.sub (ws' := []) [] (by decide) rfl
      exact W.iret (v := sw_cos a.toNatClampNeg) hx hb hr (fun T9 hT9 hW9 => ⟨⟨sw_cos a.toNatClampNeg, (), rfl, by subst e_a; simp [sw_cosf, c_10, c_25], by rw [hT9]; exact hP9, hD9⟩, hS.F hT9⟩) hS.2.2 d_SW_cosineOf_33

abbrev rm_Pl_hasVertex : Room := { frames := 0, cells := 0, slots := 0, locals := 0 }
abbrev q_Pl_hasVertex (D : va_G) (cI cL : ClassId) (A : Nat → Prop) (p : Nat) (x : Int32) (pX : Nat) (pY : Nat) (pF : Nat) (pC : Nat) (pA : Nat) (pB : Nat) (pR : Nat) (pK : Nat) (nv : Int32) (ns : Int32) (nw : Int32) : Array Value → State → Outcome → State → Prop := va_Qi (S := Unit) (fun (r : Int32) => fun (_ : Unit) => r = sw_b (sw_hv x nv)) (sw_R D A (fun (_ : Unit) => [(p, .inr (1, [.ref pX, .ref pY, .ref pF, .ref pC, .ref pA, .ref pB, .ref pR, .ref pK, .int nv, .int ns, .int nw]))])) A
set_option maxHeartbeats 4000000 in
set_option maxRecDepth 100000 in
theorem c_Pl_hasVertex (l : Launch) (D : va_G) (cI cL : ClassId) (tq sz : Nat) (p : Nat) (x : Int32) (pX : Nat) (pY : Nat) (pF : Nat) (pC : Nat) (pA : Nat) (pB : Nat) (pR : Nat) (pK : Nat) (nv : Int32) (ns : Int32) (nw : Int32) : Met l y_Pl_hasVertex w_Pl_hasVertex rm_Pl_hasVertex (va_Pc [.ref p, .int x] (sw_B D cI cL tq sz [(p, .inr (1, [.ref pX, .ref pY, .ref pF, .ref pC, .ref pA, .ref pB, .ref pR, .ref pK, .int nv, .int ns, .int nw]))])) (q_Pl_hasVertex D cI cL (va_A [(p, .inr (1, [.ref pX, .ref pY, .ref pF, .ref pC, .ref pA, .ref pB, .ref pR, .ref pK, .int nv, .int ns, .int nw]))] sz) p x pX pY pF pC pA pB pR pK nv ns nw) 0 0 (va_A [(p, .inr (1, [.ref pX, .ref pY, .ref pF, .ref pC, .ref pA, .ref pB, .ref pR, .ref pK, .int nv, .int ns, .int nw]))] sz) := by
  refine Met.ofW (cc := b_Pl_hasVertex) (maxL := 2) (ret := (some .boolean)) (by decide) rfl ?_
  intro mp me s mm args below meth mk s₁ B hml hv
  obtain ⟨rfl, hsz, hP, hK, hD0, hG⟩ := hv
  have hx := B.exec
  have hb := B.bytes
  have hr := B.returns
  have hts := atoms_spec (ws := w_Pl_hasVertex) B.pre
  have hw : ∀ w ∈ sw_words, w.before _ s = true := fun w h => hts w (List.mem_cons_of_mem _ h)
  have hown : s.vm.findClass R_Pl = some mm.cls := findClass_of_methodNamed B.named
  have hlocks := B.notSynchronized
  subst hsz
  have hD := hD0.self (sz := s.heap.size)
  generalize hAe : va_A [(p, .inr (1, [.ref pX, .ref pY, .ref pF, .ref pC, .ref pA, .ref pB, .ref pR, .ref pK, .int nv, .int ns, .int nw]))] s.heap.size = A at hD hG ⊢
  have hA : ∀ q : Nat, s.heap.size ≤ q → A q := fun q h => by rw [← hAe]; exact Or.inr h
  have hS : va_S A s.heap s.heap [] := va_S.rf
  have hl := lv_entry ([.ref p, .int x]) (n := 2) (Nat.le_of_ble_eq_true rfl)
  rw [lg_entry_eq]
  generalize (lg_sl ([.ref p, .int x]) ++ List.replicate (2 - (lg_sl ([.ref p, .int x])).length) Slot.unset).toArray = ls at hl ⊢
  have hl : lv_has ls 2 [(0, .ref p), (1, .int x)] := hl
  refine lv_iload_n hx hb d_Pl_hasVertex_0 rfl (lv_at hl 1 rfl) ?_
  refine lv_if_lt (tgt := 16) hx hb d_Pl_hasVertex_1 (by decide) (fun c_1 => ?_) (fun c_1 => ?_)
  · skip
    refine lv_iconst (v := 0) hx hb d_Pl_hasVertex_16 (by decide) ?_
    have hP9 := hP.sub (ws' := [(p, .inr (1, [.ref pX, .ref pY, .ref pF, .ref pC, .ref pA, .ref pB, .ref pR, .ref pK, .int nv, .int ns, .int nw]))]) [0] rfl
    have hD9 := hD.sub (ws' := [(p, .inr (1, [.ref pX, .ref pY, .ref pF, .ref pC, .ref pA, .ref pB, .ref pR, .ref pK, .int nv, .int ns, .int nw]))]) [0] (by decide) rfl
    exact W.zret (ty := .boolean) (v := 0) hx hb hr (rfl) (fun T9 hT9 hW9 => ⟨⟨0, (), rfl, by simp [sw_b, sw_hv, c_1], by rw [hT9]; exact hP9, hD9⟩, hS.F hT9⟩) hS.2.2 d_Pl_hasVertex_17
  · skip
    refine lv_iload_n hx hb d_Pl_hasVertex_4 rfl (lv_at hl 1 rfl) ?_
    refine lv_aload_n hx hb d_Pl_hasVertex_5 rfl (lv_at hl 0 rfl) ?_
    refine va_get (D := D) (ci := 1) (v := .int nv) (C := R_Pl) (T := F_Pl) (N := 11) hx hb hw ku_Pl hown hK hP 0 rfl rfl 8 (by decide) (hw _ kw_ae77367f) (fun _ h9 => h9) rfl d_Pl_hasVertex_6 ?_
    refine lv_icmp_ge (tgt := 16) hx hb d_Pl_hasVertex_9 (by decide) (fun c_9 => ?_) (fun c_9 => ?_)
    · skip
      refine lv_iconst (v := 0) hx hb d_Pl_hasVertex_16 (by decide) ?_
      have hP9 := hP.sub (ws' := [(p, .inr (1, [.ref pX, .ref pY, .ref pF, .ref pC, .ref pA, .ref pB, .ref pR, .ref pK, .int nv, .int ns, .int nw]))]) [0] rfl
      have hD9 := hD.sub (ws' := [(p, .inr (1, [.ref pX, .ref pY, .ref pF, .ref pC, .ref pA, .ref pB, .ref pR, .ref pK, .int nv, .int ns, .int nw]))]) [0] (by decide) rfl
      exact W.zret (ty := .boolean) (v := 0) hx hb hr (rfl) (fun T9 hT9 hW9 => ⟨⟨0, (), rfl, by simp [sw_b, sw_hv, c_1, c_9], by rw [hT9]; exact hP9, hD9⟩, hS.F hT9⟩) hS.2.2 d_Pl_hasVertex_17
    · skip
      refine lv_iconst (v := 1) hx hb d_Pl_hasVertex_12 (by decide) ?_
      refine lv_goto (tgt := 17) hx hb d_Pl_hasVertex_13 (by decide) ?_
      have hP9 := hP.sub (ws' := [(p, .inr (1, [.ref pX, .ref pY, .ref pF, .ref pC, .ref pA, .ref pB, .ref pR, .ref pK, .int nv, .int ns, .int nw]))]) [0] rfl
      have hD9 := hD.sub (ws' := [(p, .inr (1, [.ref pX, .ref pY, .ref pF, .ref pC, .ref pA, .ref pB, .ref pR, .ref pK, .int nv, .int ns, .int nw]))]) [0] (by decide) rfl
      exact W.zret (ty := .boolean) (v := 1) hx hb hr (rfl) (fun T9 hT9 hW9 => ⟨⟨1, (), rfl, by simp [sw_b, sw_hv, c_1, c_9], by rw [hT9]; exact hP9, hD9⟩, hS.F hT9⟩) hS.2.2 d_Pl_hasVertex_17

abbrev rm_Pl_hasSector : Room := { frames := 0, cells := 0, slots := 0, locals := 0 }
abbrev q_Pl_hasSector (D : va_G) (cI cL : ClassId) (A : Nat → Prop) (p : Nat) (x : Int32) (pX : Nat) (pY : Nat) (pF : Nat) (pC : Nat) (pA : Nat) (pB : Nat) (pR : Nat) (pK : Nat) (nv : Int32) (ns : Int32) (nw : Int32) : Array Value → State → Outcome → State → Prop := va_Qi (S := Unit) (fun (r : Int32) => fun (_ : Unit) => r = sw_b (sw_hv x ns)) (sw_R D A (fun (_ : Unit) => [(p, .inr (1, [.ref pX, .ref pY, .ref pF, .ref pC, .ref pA, .ref pB, .ref pR, .ref pK, .int nv, .int ns, .int nw]))])) A
set_option maxHeartbeats 4000000 in
set_option maxRecDepth 100000 in
theorem c_Pl_hasSector (l : Launch) (D : va_G) (cI cL : ClassId) (tq sz : Nat) (p : Nat) (x : Int32) (pX : Nat) (pY : Nat) (pF : Nat) (pC : Nat) (pA : Nat) (pB : Nat) (pR : Nat) (pK : Nat) (nv : Int32) (ns : Int32) (nw : Int32) : Met l y_Pl_hasSector w_Pl_hasSector rm_Pl_hasSector (va_Pc [.ref p, .int x] (sw_B D cI cL tq sz [(p, .inr (1, [.ref pX, .ref pY, .ref pF, .ref pC, .ref pA, .ref pB, .ref pR, .ref pK, .int nv, .int ns, .int nw]))])) (q_Pl_hasSector D cI cL (va_A [(p, .inr (1, [.ref pX, .ref pY, .ref pF, .ref pC, .ref pA, .ref pB, .ref pR, .ref pK, .int nv, .int ns, .int nw]))] sz) p x pX pY pF pC pA pB pR pK nv ns nw) 0 0 (va_A [(p, .inr (1, [.ref pX, .ref pY, .ref pF, .ref pC, .ref pA, .ref pB, .ref pR, .ref pK, .int nv, .int ns, .int nw]))] sz) := by
  refine Met.ofW (cc := b_Pl_hasSector) (maxL := 2) (ret := (some .boolean)) (by decide) rfl ?_
  intro mp me s mm args below meth mk s₁ B hml hv
  obtain ⟨rfl, hsz, hP, hK, hD0, hG⟩ := hv
  have hx := B.exec
  have hb := B.bytes
  have hr := B.returns
  have hts := atoms_spec (ws := w_Pl_hasSector) B.pre
  have hw : ∀ w ∈ sw_words, w.before _ s = true := fun w h => hts w (List.mem_cons_of_mem _ h)
  have hown : s.vm.findClass R_Pl = some mm.cls := findClass_of_methodNamed B.named
  have hlocks := B.notSynchronized
  subst hsz
  have hD := hD0.self (sz := s.heap.size)
  generalize hAe : va_A [(p, .inr (1, [.ref pX, .ref pY, .ref pF, .ref pC, .ref pA, .ref pB, .ref pR, .ref pK, .int nv, .int ns, .int nw]))] s.heap.size = A at hD hG ⊢
  have hA : ∀ q : Nat, s.heap.size ≤ q → A q := fun q h => by rw [← hAe]; exact Or.inr h
  have hS : va_S A s.heap s.heap [] := va_S.rf
  have hl := lv_entry ([.ref p, .int x]) (n := 2) (Nat.le_of_ble_eq_true rfl)
  rw [lg_entry_eq]
  generalize (lg_sl ([.ref p, .int x]) ++ List.replicate (2 - (lg_sl ([.ref p, .int x])).length) Slot.unset).toArray = ls at hl ⊢
  have hl : lv_has ls 2 [(0, .ref p), (1, .int x)] := hl
  refine lv_iload_n hx hb d_Pl_hasSector_0 rfl (lv_at hl 1 rfl) ?_
  refine lv_if_lt (tgt := 16) hx hb d_Pl_hasSector_1 (by decide) (fun c_1 => ?_) (fun c_1 => ?_)
  · skip
    refine lv_iconst (v := 0) hx hb d_Pl_hasSector_16 (by decide) ?_
    have hP9 := hP.sub (ws' := [(p, .inr (1, [.ref pX, .ref pY, .ref pF, .ref pC, .ref pA, .ref pB, .ref pR, .ref pK, .int nv, .int ns, .int nw]))]) [0] rfl
    have hD9 := hD.sub (ws' := [(p, .inr (1, [.ref pX, .ref pY, .ref pF, .ref pC, .ref pA, .ref pB, .ref pR, .ref pK, .int nv, .int ns, .int nw]))]) [0] (by decide) rfl
    exact W.zret (ty := .boolean) (v := 0) hx hb hr (rfl) (fun T9 hT9 hW9 => ⟨⟨0, (), rfl, by simp [sw_b, sw_hv, c_1], by rw [hT9]; exact hP9, hD9⟩, hS.F hT9⟩) hS.2.2 d_Pl_hasSector_17
  · skip
    refine lv_iload_n hx hb d_Pl_hasSector_4 rfl (lv_at hl 1 rfl) ?_
    refine lv_aload_n hx hb d_Pl_hasSector_5 rfl (lv_at hl 0 rfl) ?_
    refine va_get (D := D) (ci := 1) (v := .int ns) (C := R_Pl) (T := F_Pl) (N := 11) hx hb hw ku_Pl hown hK hP 0 rfl rfl 9 (by decide) (hw _ kw_8591057a) (fun _ h9 => h9) rfl d_Pl_hasSector_6 ?_
    refine lv_icmp_ge (tgt := 16) hx hb d_Pl_hasSector_9 (by decide) (fun c_9 => ?_) (fun c_9 => ?_)
    · skip
      refine lv_iconst (v := 0) hx hb d_Pl_hasSector_16 (by decide) ?_
      have hP9 := hP.sub (ws' := [(p, .inr (1, [.ref pX, .ref pY, .ref pF, .ref pC, .ref pA, .ref pB, .ref pR, .ref pK, .int nv, .int ns, .int nw]))]) [0] rfl
      have hD9 := hD.sub (ws' := [(p, .inr (1, [.ref pX, .ref pY, .ref pF, .ref pC, .ref pA, .ref pB, .ref pR, .ref pK, .int nv, .int ns, .int nw]))]) [0] (by decide) rfl
      exact W.zret (ty := .boolean) (v := 0) hx hb hr (rfl) (fun T9 hT9 hW9 => ⟨⟨0, (), rfl, by simp [sw_b, sw_hv, c_1, c_9], by rw [hT9]; exact hP9, hD9⟩, hS.F hT9⟩) hS.2.2 d_Pl_hasSector_17
    · skip
      refine lv_iconst (v := 1) hx hb d_Pl_hasSector_12 (by decide) ?_
      refine lv_goto (tgt := 17) hx hb d_Pl_hasSector_13 (by decide) ?_
      have hP9 := hP.sub (ws' := [(p, .inr (1, [.ref pX, .ref pY, .ref pF, .ref pC, .ref pA, .ref pB, .ref pR, .ref pK, .int nv, .int ns, .int nw]))]) [0] rfl
      have hD9 := hD.sub (ws' := [(p, .inr (1, [.ref pX, .ref pY, .ref pF, .ref pC, .ref pA, .ref pB, .ref pR, .ref pK, .int nv, .int ns, .int nw]))]) [0] (by decide) rfl
      exact W.zret (ty := .boolean) (v := 1) hx hb hr (rfl) (fun T9 hT9 hW9 => ⟨⟨1, (), rfl, by simp [sw_b, sw_hv, c_1, c_9], by rw [hT9]; exact hP9, hD9⟩, hS.F hT9⟩) hS.2.2 d_Pl_hasSector_17

abbrev rm_Pl_isTaken : Room := { frames := 0, cells := 0, slots := 0, locals := 0 }
abbrev q_Pl_isTaken (D : va_G) (cI cL : ClassId) (A : Nat → Prop) (p : Nat) (x : Int32) (y : Int32) (pX : Nat) (pY : Nat) (pF : Nat) (pC : Nat) (pA : Nat) (pB : Nat) (pR : Nat) (pK : Nat) (nv : Int32) (ns : Int32) (nw : Int32) (vx : Nat → Int32) (vy : Nat → Int32) : Array Value → State → Outcome → State → Prop := va_Qi (S := Unit) (fun (r : Int32) => fun (_ : Unit) => r = sw_b (sw_tk vx vy x y nv.toNatClampNeg)) (sw_R D A (fun (_ : Unit) => [(p, .inr (1, [.ref pX, .ref pY, .ref pF, .ref pC, .ref pA, .ref pB, .ref pR, .ref pK, .int nv, .int ns, .int nw])), (pX, .inl (cI, 64, .inl vx)), (pY, .inl (cI, 64, .inl vy))])) A
set_option maxHeartbeats 4000000 in
set_option maxRecDepth 100000 in
theorem c_Pl_isTaken (l : Launch) (D : va_G) (cI cL : ClassId) (tq sz : Nat) (p : Nat) (x : Int32) (y : Int32) (pX : Nat) (pY : Nat) (pF : Nat) (pC : Nat) (pA : Nat) (pB : Nat) (pR : Nat) (pK : Nat) (nv : Int32) (ns : Int32) (nw : Int32) (vx : Nat → Int32) (vy : Nat → Int32) (hn : sw_ok nv 64) : Met l y_Pl_isTaken w_Pl_isTaken rm_Pl_isTaken (va_Pc [.ref p, .int x, .int y] (sw_B D cI cL tq sz [(p, .inr (1, [.ref pX, .ref pY, .ref pF, .ref pC, .ref pA, .ref pB, .ref pR, .ref pK, .int nv, .int ns, .int nw])), (pX, .inl (cI, 64, .inl vx)), (pY, .inl (cI, 64, .inl vy))])) (q_Pl_isTaken D cI cL (va_A [(p, .inr (1, [.ref pX, .ref pY, .ref pF, .ref pC, .ref pA, .ref pB, .ref pR, .ref pK, .int nv, .int ns, .int nw])), (pX, .inl (cI, 64, .inl vx)), (pY, .inl (cI, 64, .inl vy))] sz) p x y pX pY pF pC pA pB pR pK nv ns nw vx vy) 0 0 (va_A [(p, .inr (1, [.ref pX, .ref pY, .ref pF, .ref pC, .ref pA, .ref pB, .ref pR, .ref pK, .int nv, .int ns, .int nw])), (pX, .inl (cI, 64, .inl vx)), (pY, .inl (cI, 64, .inl vy))] sz) := by
  refine Met.ofW (cc := b_Pl_isTaken) (maxL := 4) (ret := (some .boolean)) (by decide) rfl ?_
  intro mp me s mm args below meth mk s₁ B hml hv
  obtain ⟨rfl, hsz, hP, hK, hD0, hG⟩ := hv
  have hx := B.exec
  have hb := B.bytes
  have hr := B.returns
  have hts := atoms_spec (ws := w_Pl_isTaken) B.pre
  have hw : ∀ w ∈ sw_words, w.before _ s = true := fun w h => hts w (List.mem_cons_of_mem _ h)
  have hown : s.vm.findClass R_Pl = some mm.cls := findClass_of_methodNamed B.named
  have hlocks := B.notSynchronized
  subst hsz
  have hD := hD0.self (sz := s.heap.size)
  generalize hAe : va_A [(p, .inr (1, [.ref pX, .ref pY, .ref pF, .ref pC, .ref pA, .ref pB, .ref pR, .ref pK, .int nv, .int ns, .int nw])), (pX, .inl (cI, 64, .inl vx)), (pY, .inl (cI, 64, .inl vy))] s.heap.size = A at hD hG ⊢
  have hA : ∀ q : Nat, s.heap.size ≤ q → A q := fun q h => by rw [← hAe]; exact Or.inr h
  have hS : va_S A s.heap s.heap [] := va_S.rf
  have hl := lv_entry ([.ref p, .int x, .int y]) (n := 4) (Nat.le_of_ble_eq_true rfl)
  rw [lg_entry_eq]
  generalize (lg_sl ([.ref p, .int x, .int y]) ++ List.replicate (4 - (lg_sl ([.ref p, .int x, .int y])).length) Slot.unset).toArray = ls at hl ⊢
  have hl : lv_has ls 4 [(0, .ref p), (1, .int x), (2, .int y)] := hl
  refine lv_iconst (v := 0) hx hb d_Pl_isTaken_0 (by decide) ?_
  refine lv_istore_n (lv' := [(3, .int 0), (0, .ref p), (1, .int x), (2, .int y)]) hx hb d_Pl_isTaken_1 rfl hl (by decide) rfl (fun ls hl => ?_)
  have lp_2 : ∀ (n : Nat) (k : Nat) (i : Int32) (H : Heap) (locs : List Loc) (ls : Array Slot), (i = nI k) → (k ≤ nv.toNatClampNeg) → (sw_tk vx vy x y k = false) → (nv.toNatClampNeg - k) < n → va_P D sw_cl [(p, .inr (1, [.ref pX, .ref pY, .ref pF, .ref pC, .ref pA, .ref pB, .ref pR, .ref pK, .int nv, .int ns, .int nw])), (pX, .inl (cI, 64, .inl vx)), (pY, .inl (cI, 64, .inl vy))] H → va_D A [(p, .inr (1, [.ref pX, .ref pY, .ref pF, .ref pC, .ref pA, .ref pB, .ref pR, .ref pK, .int nv, .int ns, .int nw])), (pX, .inl (cI, 64, .inl vx)), (pY, .inl (cI, 64, .inl vy))] → va_S A s.heap H locs → lv_has ls 4 [(0, .ref p), (1, .int x), (2, .int y), (3, .int i)] → W mp l me (headSpec w_Pl_isTaken rm_Pl_isTaken).room s mm ([.ref p, .int x, .int y]).toArray below meth mk H locs 0 0 (MQ below (q_Pl_isTaken D cI cL A p x y pX pY pF pC pA pB pR pK nv ns nw vx vy) ([.ref p, .int x, .int y]).toArray s 0 0 A) (F0 mm 2 ls []) := by
    intro n
    induction n with
    | zero => intro k i H locs ls hi hk ht hm; exact absurd hm (Nat.not_lt_zero _)
    | succ n ih_2 =>
      intro k i H locs ls hi hk ht hm hP hD hS hl
      refine lv_iload_n hx hb d_Pl_isTaken_2 rfl (lv_at hl 3 rfl) ?_
      refine lv_aload_n hx hb d_Pl_isTaken_3 rfl (lv_at hl 0 rfl) ?_
      refine va_get (D := D) (ci := 1) (v := .int nv) (C := R_Pl) (T := F_Pl) (N := 11) hx hb hw ku_Pl hown hK hP 0 rfl rfl 8 (by decide) (hw _ kw_ae77367f) (fun _ h9 => h9) rfl d_Pl_isTaken_4 ?_
      refine lv_icmp_ge (tgt := 38) hx hb d_Pl_isTaken_7 (by decide) (fun c_7 => ?_) (fun c_7 => ?_)
      · skip
        refine lv_iconst (v := 0) hx hb d_Pl_isTaken_38 (by decide) ?_
        have hP9 := hP.sub (ws' := [(p, .inr (1, [.ref pX, .ref pY, .ref pF, .ref pC, .ref pA, .ref pB, .ref pR, .ref pK, .int nv, .int ns, .int nw])), (pX, .inl (cI, 64, .inl vx)), (pY, .inl (cI, 64, .inl vy))]) [0, 1, 2] rfl
        have hD9 := hD.sub (ws' := [(p, .inr (1, [.ref pX, .ref pY, .ref pF, .ref pC, .ref pA, .ref pB, .ref pR, .ref pK, .int nv, .int ns, .int nw])), (pX, .inl (cI, 64, .inl vx)), (pY, .inl (cI, 64, .inl vy))]) [0, 1, 2] (by decide) rfl
        exact W.zret (ty := .boolean) (v := 0) hx hb hr (rfl) (fun T9 hT9 hW9 => ⟨⟨0, (), rfl, by rw [sw_end hn (by decide) hi hk c_7, ht]; rfl, by rw [hT9]; exact hP9, hD9⟩, hS.F hT9⟩) hS.2.2 d_Pl_isTaken_39
      · skip
        have hkn : k < nv.toNatClampNeg := sw_nle hn (by decide) hi hk c_7
        have hn6 := hn.2
        have hki : i.toNatClampNeg = k := by rw [hi]; exact nI_clamp (by omega)
        refine lv_aload_n hx hb d_Pl_isTaken_10 rfl (lv_at hl 0 rfl) ?_
        refine va_get (D := D) (ci := 1) (v := .ref pX) (C := R_Pl) (T := F_Pl) (N := 11) hx hb hw ku_Pl hown hK hP 0 rfl rfl 0 (by decide) (hw _ kw_8234c2ed) (fun _ h9 => h9) rfl d_Pl_isTaken_11 ?_
        refine lv_iload_n hx hb d_Pl_isTaken_14 rfl (lv_at hl 3 rfl) ?_
        refine va_iald hx hb hK hP 1 0 rfl rfl (by rw [hi]; exact vp_in_nI (by omega) (by omega)) d_Pl_isTaken_15 ?_
        refine lv_iload_n hx hb d_Pl_isTaken_16 rfl (lv_at hl 1 rfl) ?_
        refine lv_icmp_ne (tgt := 32) hx hb d_Pl_isTaken_17 (by decide) (fun c_17 => ?_) (fun c_17 => ?_)
        · skip
          try rw [hki] at c_17
          try rw [hki] at c_27
          refine lv_iinc (v := i + 1) (lv' := [(3, .int (i + 1)), (0, .ref p), (1, .int x), (2, .int y)]) hx hb d_Pl_isTaken_32 hl (k := 3) rfl rfl (by decide) rfl (fun ls hl => ?_)
          refine lv_goto (tgt := 2) hx hb d_Pl_isTaken_35 (by decide) ?_
          exact ih_2 (k + 1) (i + 1) _ _ _ (by rw [hi]; exact nI_1 k) (hkn) (by simp [sw_tk, ht, hi, hk, ht, c_7, c_17]) (by omega) (hP.sub [0, 1, 2] rfl) (hD.sub [0, 1, 2] (by decide) rfl) hS (lv_sub hl [1, 2, 3, 0] rfl)
        · skip
          rw [hki] at c_17
          refine lv_aload_n hx hb d_Pl_isTaken_20 rfl (lv_at hl 0 rfl) ?_
          refine va_get (D := D) (ci := 1) (v := .ref pY) (C := R_Pl) (T := F_Pl) (N := 11) hx hb hw ku_Pl hown hK hP 0 rfl rfl 1 (by decide) (hw _ kw_c8115e4c) (fun _ h9 => h9) rfl d_Pl_isTaken_21 ?_
          refine lv_iload_n hx hb d_Pl_isTaken_24 rfl (lv_at hl 3 rfl) ?_
          refine va_iald hx hb hK hP 2 0 rfl rfl (by rw [hi]; exact vp_in_nI (by omega) (by omega)) d_Pl_isTaken_25 ?_
          refine lv_iload_n hx hb d_Pl_isTaken_26 rfl (lv_at hl 2 rfl) ?_
          refine lv_icmp_ne (tgt := 32) hx hb d_Pl_isTaken_27 (by decide) (fun c_27 => ?_) (fun c_27 => ?_)
          · skip
            try rw [hki] at c_17
            try rw [hki] at c_27
            refine lv_iinc (v := i + 1) (lv' := [(3, .int (i + 1)), (0, .ref p), (1, .int x), (2, .int y)]) hx hb d_Pl_isTaken_32 hl (k := 3) rfl rfl (by decide) rfl (fun ls hl => ?_)
            refine lv_goto (tgt := 2) hx hb d_Pl_isTaken_35 (by decide) ?_
            exact ih_2 (k + 1) (i + 1) _ _ _ (by rw [hi]; exact nI_1 k) (hkn) (by simp [sw_tk, ht, hi, hk, ht, c_7, c_17, c_27]) (by omega) (hP.sub [0, 1, 2] rfl) (hD.sub [0, 1, 2] (by decide) rfl) hS (lv_sub hl [1, 2, 3, 0] rfl)
          · skip
            rw [hki] at c_27
            refine lv_iconst (v := 1) hx hb d_Pl_isTaken_30 (by decide) ?_
            have hP9 := hP.sub (ws' := [(p, .inr (1, [.ref pX, .ref pY, .ref pF, .ref pC, .ref pA, .ref pB, .ref pR, .ref pK, .int nv, .int ns, .int nw])), (pX, .inl (cI, 64, .inl vx)), (pY, .inl (cI, 64, .inl vy))]) [0, 1, 2] rfl
            have hD9 := hD.sub (ws' := [(p, .inr (1, [.ref pX, .ref pY, .ref pF, .ref pC, .ref pA, .ref pB, .ref pR, .ref pK, .int nv, .int ns, .int nw])), (pX, .inl (cI, 64, .inl vx)), (pY, .inl (cI, 64, .inl vy))]) [0, 1, 2] (by decide) rfl
            exact W.zret (ty := .boolean) (v := 1) hx hb hr (rfl) (fun T9 hT9 hW9 => ⟨⟨1, (), rfl, by rw [sw_tk_hit hkn c_17 c_27]; rfl, by rw [hT9]; exact hP9, hD9⟩, hS.F hT9⟩) hS.2.2 d_Pl_isTaken_31
  exact lp_2 _ 0 0 _ _ _ (nI_0.symm) (Nat.zero_le _) (rfl) (Nat.lt_succ_self _) (hP.sub [0, 1, 2] rfl) (hD.sub [0, 1, 2] (by decide) rfl) hS (lv_sub hl [1, 2, 3, 0] rfl)
