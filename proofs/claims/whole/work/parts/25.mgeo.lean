abbrev rm_Mo_k : Room := { frames := 0, cells := 0, slots := 0, locals := 0 }
abbrev q_Mo_k (D : va_G) (cI cL : ClassId) (A : Nat → Prop) (x : Int32) : Array Value → State → Outcome → State → Prop := va_Qi (S := Unit) (fun (r : Int32) => fun (_ : Unit) => r = sw_kk x) (sw_R D A (fun (_ : Unit) => [])) A
set_option maxHeartbeats 4000000 in
set_option maxRecDepth 100000 in
theorem c_Mo_k (l : Launch) (D : va_G) (cI cL : ClassId) (tq sz : Nat) (x : Int32) : Met l y_Mo_k w_Mo_k rm_Mo_k (va_Pc [.int x] (sw_B D cI cL tq sz [])) (q_Mo_k D cI cL (va_A [] sz) x) 0 0 (va_A [] sz) := by
  refine Met.ofW (cc := b_Mo_k) (maxL := 1) (ret := (some .int)) (by decide) rfl ?_
  intro mp me s mm args below meth mk s₁ B hml hv
  obtain ⟨rfl, hsz, hP, hK, hD0, hG⟩ := hv
  have hx := B.exec
  have hb := B.bytes
  have hr := B.returns
  have hts := atoms_spec (ws := w_Mo_k) B.pre
  have hw : ∀ w ∈ sw_words, w.before _ s = true := fun w h => hts w (List.mem_cons_of_mem _ h)
  have hown : s.vm.findClass R_Mo = some mm.cls := findClass_of_methodNamed B.named
  have hlocks := B.notSynchronized
  subst hsz
  have hD := hD0.self (sz := s.heap.size)
  generalize hAe : va_A [] s.heap.size = A at hD hG ⊢
  have hA : ∀ q : Nat, s.heap.size ≤ q → A q := fun q h => by rw [← hAe]; exact Or.inr h
  have hS : va_S A s.heap s.heap [] := va_S.rf
  have hl := lv_entry ([.int x]) (n := 1) (Nat.le_of_ble_eq_true rfl)
  rw [lg_entry_eq]
  generalize (lg_sl ([.int x]) ++ List.replicate (1 - (lg_sl ([.int x])).length) Slot.unset).toArray = ls at hl ⊢
  have hl : lv_has ls 1 [(0, .int x)] := hl
  refine lv_iload_n hx hb d_Mo_k_0 rfl (lv_at hl 0 rfl) ?_
  by_cases c_1 : (x.toInt < 0 ∨ 15 < x.toInt)
  · refine lv_tableOut (tgt := 139) hx hb d_Mo_k_1 c_1 (by decide) ?_
    refine lv_iconst (v := 0) hx hb d_Mo_k_139 (by decide) ?_
    have hP9 := hP.sub (ws' := []) [] rfl
    have hD9 := hD.sub (ws' := []) [] (by decide) rfl
    exact W.iret (v := 0) hx hb hr (fun T9 hT9 hW9 => ⟨⟨0, (), rfl, by first | (simp [sw_kk, c_1]; done) | (simp [sw_kk, show ¬ x.toInt = 0 by omega, show ¬ x.toInt = 1 by omega, show ¬ x.toInt = 2 by omega, show ¬ x.toInt = 3 by omega, show ¬ x.toInt = 4 by omega, show ¬ x.toInt = 5 by omega, show ¬ x.toInt = 6 by omega, show ¬ x.toInt = 7 by omega, show ¬ x.toInt = 8 by omega, show ¬ x.toInt = 9 by omega, show ¬ x.toInt = 10 by omega, show ¬ x.toInt = 11 by omega, show ¬ x.toInt = 12 by omega, show ¬ x.toInt = 13 by omega, show ¬ x.toInt = 14 by omega, show ¬ x.toInt = 15 by omega]), by rw [hT9]; exact hP9, hD9⟩, hS.F hT9⟩) hS.2.2 d_Mo_k_140
  · have h1_1 : ¬ x.toInt < 0 := fun h => c_1 (Or.inl h)
    have h2_1 : ¬ 15 < x.toInt := fun h => c_1 (Or.inr h)
    by_cases k_1_0 : x.toInt = 0
    · refine lv_tableIn (tgt := 80) hx hb d_Mo_k_1 h1_1 h2_1 (by rw [k_1_0]; rfl) (by decide) ?_
      refine lv_sipush (v := 256) hx hb d_Mo_k_80 (by decide) ?_
      have hP9 := hP.sub (ws' := []) [] rfl
      have hD9 := hD.sub (ws' := []) [] (by decide) rfl
      exact W.iret (v := 256) hx hb hr (fun T9 hT9 hW9 => ⟨⟨256, (), rfl, by first | (simp [sw_kk, k_1_0]; done) | (simp [sw_kk, show ¬ x.toInt = 0 by omega, show ¬ x.toInt = 1 by omega, show ¬ x.toInt = 2 by omega, show ¬ x.toInt = 3 by omega, show ¬ x.toInt = 4 by omega, show ¬ x.toInt = 5 by omega, show ¬ x.toInt = 6 by omega, show ¬ x.toInt = 7 by omega, show ¬ x.toInt = 8 by omega, show ¬ x.toInt = 9 by omega, show ¬ x.toInt = 10 by omega, show ¬ x.toInt = 11 by omega, show ¬ x.toInt = 12 by omega, show ¬ x.toInt = 13 by omega, show ¬ x.toInt = 14 by omega, show ¬ x.toInt = 15 by omega]), by rw [hT9]; exact hP9, hD9⟩, hS.F hT9⟩) hS.2.2 d_Mo_k_83
    by_cases k_1_1 : x.toInt = 1
    · refine lv_tableIn (tgt := 84) hx hb d_Mo_k_1 h1_1 h2_1 (by rw [k_1_1]; rfl) (by decide) ?_
      refine lv_sipush (v := 255) hx hb d_Mo_k_84 (by decide) ?_
      have hP9 := hP.sub (ws' := []) [] rfl
      have hD9 := hD.sub (ws' := []) [] (by decide) rfl
      exact W.iret (v := 255) hx hb hr (fun T9 hT9 hW9 => ⟨⟨255, (), rfl, by first | (simp [sw_kk, k_1_0, k_1_1]; done) | (simp [sw_kk, show ¬ x.toInt = 0 by omega, show ¬ x.toInt = 1 by omega, show ¬ x.toInt = 2 by omega, show ¬ x.toInt = 3 by omega, show ¬ x.toInt = 4 by omega, show ¬ x.toInt = 5 by omega, show ¬ x.toInt = 6 by omega, show ¬ x.toInt = 7 by omega, show ¬ x.toInt = 8 by omega, show ¬ x.toInt = 9 by omega, show ¬ x.toInt = 10 by omega, show ¬ x.toInt = 11 by omega, show ¬ x.toInt = 12 by omega, show ¬ x.toInt = 13 by omega, show ¬ x.toInt = 14 by omega, show ¬ x.toInt = 15 by omega]), by rw [hT9]; exact hP9, hD9⟩, hS.F hT9⟩) hS.2.2 d_Mo_k_87
    by_cases k_1_2 : x.toInt = 2
    · refine lv_tableIn (tgt := 88) hx hb d_Mo_k_1 h1_1 h2_1 (by rw [k_1_2]; rfl) (by decide) ?_
      refine lv_sipush (v := 251) hx hb d_Mo_k_88 (by decide) ?_
      have hP9 := hP.sub (ws' := []) [] rfl
      have hD9 := hD.sub (ws' := []) [] (by decide) rfl
      exact W.iret (v := 251) hx hb hr (fun T9 hT9 hW9 => ⟨⟨251, (), rfl, by first | (simp [sw_kk, k_1_0, k_1_1, k_1_2]; done) | (simp [sw_kk, show ¬ x.toInt = 0 by omega, show ¬ x.toInt = 1 by omega, show ¬ x.toInt = 2 by omega, show ¬ x.toInt = 3 by omega, show ¬ x.toInt = 4 by omega, show ¬ x.toInt = 5 by omega, show ¬ x.toInt = 6 by omega, show ¬ x.toInt = 7 by omega, show ¬ x.toInt = 8 by omega, show ¬ x.toInt = 9 by omega, show ¬ x.toInt = 10 by omega, show ¬ x.toInt = 11 by omega, show ¬ x.toInt = 12 by omega, show ¬ x.toInt = 13 by omega, show ¬ x.toInt = 14 by omega, show ¬ x.toInt = 15 by omega]), by rw [hT9]; exact hP9, hD9⟩, hS.F hT9⟩) hS.2.2 d_Mo_k_91
    by_cases k_1_3 : x.toInt = 3
    · refine lv_tableIn (tgt := 92) hx hb d_Mo_k_1 h1_1 h2_1 (by rw [k_1_3]; rfl) (by decide) ?_
      refine lv_sipush (v := 245) hx hb d_Mo_k_92 (by decide) ?_
      have hP9 := hP.sub (ws' := []) [] rfl
      have hD9 := hD.sub (ws' := []) [] (by decide) rfl
      exact W.iret (v := 245) hx hb hr (fun T9 hT9 hW9 => ⟨⟨245, (), rfl, by first | (simp [sw_kk, k_1_0, k_1_1, k_1_2, k_1_3]; done) | (simp [sw_kk, show ¬ x.toInt = 0 by omega, show ¬ x.toInt = 1 by omega, show ¬ x.toInt = 2 by omega, show ¬ x.toInt = 3 by omega, show ¬ x.toInt = 4 by omega, show ¬ x.toInt = 5 by omega, show ¬ x.toInt = 6 by omega, show ¬ x.toInt = 7 by omega, show ¬ x.toInt = 8 by omega, show ¬ x.toInt = 9 by omega, show ¬ x.toInt = 10 by omega, show ¬ x.toInt = 11 by omega, show ¬ x.toInt = 12 by omega, show ¬ x.toInt = 13 by omega, show ¬ x.toInt = 14 by omega, show ¬ x.toInt = 15 by omega]), by rw [hT9]; exact hP9, hD9⟩, hS.F hT9⟩) hS.2.2 d_Mo_k_95
    by_cases k_1_4 : x.toInt = 4
    · refine lv_tableIn (tgt := 96) hx hb d_Mo_k_1 h1_1 h2_1 (by rw [k_1_4]; rfl) (by decide) ?_
      refine lv_sipush (v := 237) hx hb d_Mo_k_96 (by decide) ?_
      have hP9 := hP.sub (ws' := []) [] rfl
      have hD9 := hD.sub (ws' := []) [] (by decide) rfl
      exact W.iret (v := 237) hx hb hr (fun T9 hT9 hW9 => ⟨⟨237, (), rfl, by first | (simp [sw_kk, k_1_0, k_1_1, k_1_2, k_1_3, k_1_4]; done) | (simp [sw_kk, show ¬ x.toInt = 0 by omega, show ¬ x.toInt = 1 by omega, show ¬ x.toInt = 2 by omega, show ¬ x.toInt = 3 by omega, show ¬ x.toInt = 4 by omega, show ¬ x.toInt = 5 by omega, show ¬ x.toInt = 6 by omega, show ¬ x.toInt = 7 by omega, show ¬ x.toInt = 8 by omega, show ¬ x.toInt = 9 by omega, show ¬ x.toInt = 10 by omega, show ¬ x.toInt = 11 by omega, show ¬ x.toInt = 12 by omega, show ¬ x.toInt = 13 by omega, show ¬ x.toInt = 14 by omega, show ¬ x.toInt = 15 by omega]), by rw [hT9]; exact hP9, hD9⟩, hS.F hT9⟩) hS.2.2 d_Mo_k_99
    by_cases k_1_5 : x.toInt = 5
    · refine lv_tableIn (tgt := 100) hx hb d_Mo_k_1 h1_1 h2_1 (by rw [k_1_5]; rfl) (by decide) ?_
      refine lv_sipush (v := 226) hx hb d_Mo_k_100 (by decide) ?_
      have hP9 := hP.sub (ws' := []) [] rfl
      have hD9 := hD.sub (ws' := []) [] (by decide) rfl
      exact W.iret (v := 226) hx hb hr (fun T9 hT9 hW9 => ⟨⟨226, (), rfl, by first | (simp [sw_kk, k_1_0, k_1_1, k_1_2, k_1_3, k_1_4, k_1_5]; done) | (simp [sw_kk, show ¬ x.toInt = 0 by omega, show ¬ x.toInt = 1 by omega, show ¬ x.toInt = 2 by omega, show ¬ x.toInt = 3 by omega, show ¬ x.toInt = 4 by omega, show ¬ x.toInt = 5 by omega, show ¬ x.toInt = 6 by omega, show ¬ x.toInt = 7 by omega, show ¬ x.toInt = 8 by omega, show ¬ x.toInt = 9 by omega, show ¬ x.toInt = 10 by omega, show ¬ x.toInt = 11 by omega, show ¬ x.toInt = 12 by omega, show ¬ x.toInt = 13 by omega, show ¬ x.toInt = 14 by omega, show ¬ x.toInt = 15 by omega]), by rw [hT9]; exact hP9, hD9⟩, hS.F hT9⟩) hS.2.2 d_Mo_k_103
    by_cases k_1_6 : x.toInt = 6
    · refine lv_tableIn (tgt := 104) hx hb d_Mo_k_1 h1_1 h2_1 (by rw [k_1_6]; rfl) (by decide) ?_
      refine lv_sipush (v := 213) hx hb d_Mo_k_104 (by decide) ?_
      have hP9 := hP.sub (ws' := []) [] rfl
      have hD9 := hD.sub (ws' := []) [] (by decide) rfl
      exact W.iret (v := 213) hx hb hr (fun T9 hT9 hW9 => ⟨⟨213, (), rfl, by first | (simp [sw_kk, k_1_0, k_1_1, k_1_2, k_1_3, k_1_4, k_1_5, k_1_6]; done) | (simp [sw_kk, show ¬ x.toInt = 0 by omega, show ¬ x.toInt = 1 by omega, show ¬ x.toInt = 2 by omega, show ¬ x.toInt = 3 by omega, show ¬ x.toInt = 4 by omega, show ¬ x.toInt = 5 by omega, show ¬ x.toInt = 6 by omega, show ¬ x.toInt = 7 by omega, show ¬ x.toInt = 8 by omega, show ¬ x.toInt = 9 by omega, show ¬ x.toInt = 10 by omega, show ¬ x.toInt = 11 by omega, show ¬ x.toInt = 12 by omega, show ¬ x.toInt = 13 by omega, show ¬ x.toInt = 14 by omega, show ¬ x.toInt = 15 by omega]), by rw [hT9]; exact hP9, hD9⟩, hS.F hT9⟩) hS.2.2 d_Mo_k_107
    by_cases k_1_7 : x.toInt = 7
    · refine lv_tableIn (tgt := 108) hx hb d_Mo_k_1 h1_1 h2_1 (by rw [k_1_7]; rfl) (by decide) ?_
      refine lv_sipush (v := 198) hx hb d_Mo_k_108 (by decide) ?_
      have hP9 := hP.sub (ws' := []) [] rfl
      have hD9 := hD.sub (ws' := []) [] (by decide) rfl
      exact W.iret (v := 198) hx hb hr (fun T9 hT9 hW9 => ⟨⟨198, (), rfl, by first | (simp [sw_kk, k_1_0, k_1_1, k_1_2, k_1_3, k_1_4, k_1_5, k_1_6, k_1_7]; done) | (simp [sw_kk, show ¬ x.toInt = 0 by omega, show ¬ x.toInt = 1 by omega, show ¬ x.toInt = 2 by omega, show ¬ x.toInt = 3 by omega, show ¬ x.toInt = 4 by omega, show ¬ x.toInt = 5 by omega, show ¬ x.toInt = 6 by omega, show ¬ x.toInt = 7 by omega, show ¬ x.toInt = 8 by omega, show ¬ x.toInt = 9 by omega, show ¬ x.toInt = 10 by omega, show ¬ x.toInt = 11 by omega, show ¬ x.toInt = 12 by omega, show ¬ x.toInt = 13 by omega, show ¬ x.toInt = 14 by omega, show ¬ x.toInt = 15 by omega]), by rw [hT9]; exact hP9, hD9⟩, hS.F hT9⟩) hS.2.2 d_Mo_k_111
    by_cases k_1_8 : x.toInt = 8
    · refine lv_tableIn (tgt := 112) hx hb d_Mo_k_1 h1_1 h2_1 (by rw [k_1_8]; rfl) (by decide) ?_
      refine lv_sipush (v := 181) hx hb d_Mo_k_112 (by decide) ?_
      have hP9 := hP.sub (ws' := []) [] rfl
      have hD9 := hD.sub (ws' := []) [] (by decide) rfl
      exact W.iret (v := 181) hx hb hr (fun T9 hT9 hW9 => ⟨⟨181, (), rfl, by first | (simp [sw_kk, k_1_0, k_1_1, k_1_2, k_1_3, k_1_4, k_1_5, k_1_6, k_1_7, k_1_8]; done) | (simp [sw_kk, show ¬ x.toInt = 0 by omega, show ¬ x.toInt = 1 by omega, show ¬ x.toInt = 2 by omega, show ¬ x.toInt = 3 by omega, show ¬ x.toInt = 4 by omega, show ¬ x.toInt = 5 by omega, show ¬ x.toInt = 6 by omega, show ¬ x.toInt = 7 by omega, show ¬ x.toInt = 8 by omega, show ¬ x.toInt = 9 by omega, show ¬ x.toInt = 10 by omega, show ¬ x.toInt = 11 by omega, show ¬ x.toInt = 12 by omega, show ¬ x.toInt = 13 by omega, show ¬ x.toInt = 14 by omega, show ¬ x.toInt = 15 by omega]), by rw [hT9]; exact hP9, hD9⟩, hS.F hT9⟩) hS.2.2 d_Mo_k_115
    by_cases k_1_9 : x.toInt = 9
    · refine lv_tableIn (tgt := 116) hx hb d_Mo_k_1 h1_1 h2_1 (by rw [k_1_9]; rfl) (by decide) ?_
      refine lv_sipush (v := 162) hx hb d_Mo_k_116 (by decide) ?_
      have hP9 := hP.sub (ws' := []) [] rfl
      have hD9 := hD.sub (ws' := []) [] (by decide) rfl
      exact W.iret (v := 162) hx hb hr (fun T9 hT9 hW9 => ⟨⟨162, (), rfl, by first | (simp [sw_kk, k_1_0, k_1_1, k_1_2, k_1_3, k_1_4, k_1_5, k_1_6, k_1_7, k_1_8, k_1_9]; done) | (simp [sw_kk, show ¬ x.toInt = 0 by omega, show ¬ x.toInt = 1 by omega, show ¬ x.toInt = 2 by omega, show ¬ x.toInt = 3 by omega, show ¬ x.toInt = 4 by omega, show ¬ x.toInt = 5 by omega, show ¬ x.toInt = 6 by omega, show ¬ x.toInt = 7 by omega, show ¬ x.toInt = 8 by omega, show ¬ x.toInt = 9 by omega, show ¬ x.toInt = 10 by omega, show ¬ x.toInt = 11 by omega, show ¬ x.toInt = 12 by omega, show ¬ x.toInt = 13 by omega, show ¬ x.toInt = 14 by omega, show ¬ x.toInt = 15 by omega]), by rw [hT9]; exact hP9, hD9⟩, hS.F hT9⟩) hS.2.2 d_Mo_k_119
    by_cases k_1_10 : x.toInt = 10
    · refine lv_tableIn (tgt := 120) hx hb d_Mo_k_1 h1_1 h2_1 (by rw [k_1_10]; rfl) (by decide) ?_
      refine lv_sipush (v := 142) hx hb d_Mo_k_120 (by decide) ?_
      have hP9 := hP.sub (ws' := []) [] rfl
      have hD9 := hD.sub (ws' := []) [] (by decide) rfl
      exact W.iret (v := 142) hx hb hr (fun T9 hT9 hW9 => ⟨⟨142, (), rfl, by first | (simp [sw_kk, k_1_0, k_1_1, k_1_2, k_1_3, k_1_4, k_1_5, k_1_6, k_1_7, k_1_8, k_1_9, k_1_10]; done) | (simp [sw_kk, show ¬ x.toInt = 0 by omega, show ¬ x.toInt = 1 by omega, show ¬ x.toInt = 2 by omega, show ¬ x.toInt = 3 by omega, show ¬ x.toInt = 4 by omega, show ¬ x.toInt = 5 by omega, show ¬ x.toInt = 6 by omega, show ¬ x.toInt = 7 by omega, show ¬ x.toInt = 8 by omega, show ¬ x.toInt = 9 by omega, show ¬ x.toInt = 10 by omega, show ¬ x.toInt = 11 by omega, show ¬ x.toInt = 12 by omega, show ¬ x.toInt = 13 by omega, show ¬ x.toInt = 14 by omega, show ¬ x.toInt = 15 by omega]), by rw [hT9]; exact hP9, hD9⟩, hS.F hT9⟩) hS.2.2 d_Mo_k_123
    by_cases k_1_11 : x.toInt = 11
    · refine lv_tableIn (tgt := 124) hx hb d_Mo_k_1 h1_1 h2_1 (by rw [k_1_11]; rfl) (by decide) ?_
      refine lv_bipush (v := 121) hx hb d_Mo_k_124 (by decide) ?_
      have hP9 := hP.sub (ws' := []) [] rfl
      have hD9 := hD.sub (ws' := []) [] (by decide) rfl
      exact W.iret (v := 121) hx hb hr (fun T9 hT9 hW9 => ⟨⟨121, (), rfl, by first | (simp [sw_kk, k_1_0, k_1_1, k_1_2, k_1_3, k_1_4, k_1_5, k_1_6, k_1_7, k_1_8, k_1_9, k_1_10, k_1_11]; done) | (simp [sw_kk, show ¬ x.toInt = 0 by omega, show ¬ x.toInt = 1 by omega, show ¬ x.toInt = 2 by omega, show ¬ x.toInt = 3 by omega, show ¬ x.toInt = 4 by omega, show ¬ x.toInt = 5 by omega, show ¬ x.toInt = 6 by omega, show ¬ x.toInt = 7 by omega, show ¬ x.toInt = 8 by omega, show ¬ x.toInt = 9 by omega, show ¬ x.toInt = 10 by omega, show ¬ x.toInt = 11 by omega, show ¬ x.toInt = 12 by omega, show ¬ x.toInt = 13 by omega, show ¬ x.toInt = 14 by omega, show ¬ x.toInt = 15 by omega]), by rw [hT9]; exact hP9, hD9⟩, hS.F hT9⟩) hS.2.2 d_Mo_k_126
    by_cases k_1_12 : x.toInt = 12
    · refine lv_tableIn (tgt := 127) hx hb d_Mo_k_1 h1_1 h2_1 (by rw [k_1_12]; rfl) (by decide) ?_
      refine lv_bipush (v := 98) hx hb d_Mo_k_127 (by decide) ?_
      have hP9 := hP.sub (ws' := []) [] rfl
      have hD9 := hD.sub (ws' := []) [] (by decide) rfl
      exact W.iret (v := 98) hx hb hr (fun T9 hT9 hW9 => ⟨⟨98, (), rfl, by first | (simp [sw_kk, k_1_0, k_1_1, k_1_2, k_1_3, k_1_4, k_1_5, k_1_6, k_1_7, k_1_8, k_1_9, k_1_10, k_1_11, k_1_12]; done) | (simp [sw_kk, show ¬ x.toInt = 0 by omega, show ¬ x.toInt = 1 by omega, show ¬ x.toInt = 2 by omega, show ¬ x.toInt = 3 by omega, show ¬ x.toInt = 4 by omega, show ¬ x.toInt = 5 by omega, show ¬ x.toInt = 6 by omega, show ¬ x.toInt = 7 by omega, show ¬ x.toInt = 8 by omega, show ¬ x.toInt = 9 by omega, show ¬ x.toInt = 10 by omega, show ¬ x.toInt = 11 by omega, show ¬ x.toInt = 12 by omega, show ¬ x.toInt = 13 by omega, show ¬ x.toInt = 14 by omega, show ¬ x.toInt = 15 by omega]), by rw [hT9]; exact hP9, hD9⟩, hS.F hT9⟩) hS.2.2 d_Mo_k_129
    by_cases k_1_13 : x.toInt = 13
    · refine lv_tableIn (tgt := 130) hx hb d_Mo_k_1 h1_1 h2_1 (by rw [k_1_13]; rfl) (by decide) ?_
      refine lv_bipush (v := 74) hx hb d_Mo_k_130 (by decide) ?_
      have hP9 := hP.sub (ws' := []) [] rfl
      have hD9 := hD.sub (ws' := []) [] (by decide) rfl
      exact W.iret (v := 74) hx hb hr (fun T9 hT9 hW9 => ⟨⟨74, (), rfl, by first | (simp [sw_kk, k_1_0, k_1_1, k_1_2, k_1_3, k_1_4, k_1_5, k_1_6, k_1_7, k_1_8, k_1_9, k_1_10, k_1_11, k_1_12, k_1_13]; done) | (simp [sw_kk, show ¬ x.toInt = 0 by omega, show ¬ x.toInt = 1 by omega, show ¬ x.toInt = 2 by omega, show ¬ x.toInt = 3 by omega, show ¬ x.toInt = 4 by omega, show ¬ x.toInt = 5 by omega, show ¬ x.toInt = 6 by omega, show ¬ x.toInt = 7 by omega, show ¬ x.toInt = 8 by omega, show ¬ x.toInt = 9 by omega, show ¬ x.toInt = 10 by omega, show ¬ x.toInt = 11 by omega, show ¬ x.toInt = 12 by omega, show ¬ x.toInt = 13 by omega, show ¬ x.toInt = 14 by omega, show ¬ x.toInt = 15 by omega]), by rw [hT9]; exact hP9, hD9⟩, hS.F hT9⟩) hS.2.2 d_Mo_k_132
    by_cases k_1_14 : x.toInt = 14
    · refine lv_tableIn (tgt := 133) hx hb d_Mo_k_1 h1_1 h2_1 (by rw [k_1_14]; rfl) (by decide) ?_
      refine lv_bipush (v := 50) hx hb d_Mo_k_133 (by decide) ?_
      have hP9 := hP.sub (ws' := []) [] rfl
      have hD9 := hD.sub (ws' := []) [] (by decide) rfl
      exact W.iret (v := 50) hx hb hr (fun T9 hT9 hW9 => ⟨⟨50, (), rfl, by first | (simp [sw_kk, k_1_0, k_1_1, k_1_2, k_1_3, k_1_4, k_1_5, k_1_6, k_1_7, k_1_8, k_1_9, k_1_10, k_1_11, k_1_12, k_1_13, k_1_14]; done) | (simp [sw_kk, show ¬ x.toInt = 0 by omega, show ¬ x.toInt = 1 by omega, show ¬ x.toInt = 2 by omega, show ¬ x.toInt = 3 by omega, show ¬ x.toInt = 4 by omega, show ¬ x.toInt = 5 by omega, show ¬ x.toInt = 6 by omega, show ¬ x.toInt = 7 by omega, show ¬ x.toInt = 8 by omega, show ¬ x.toInt = 9 by omega, show ¬ x.toInt = 10 by omega, show ¬ x.toInt = 11 by omega, show ¬ x.toInt = 12 by omega, show ¬ x.toInt = 13 by omega, show ¬ x.toInt = 14 by omega, show ¬ x.toInt = 15 by omega]), by rw [hT9]; exact hP9, hD9⟩, hS.F hT9⟩) hS.2.2 d_Mo_k_135
    have k_1_15 : x.toInt = 15 := by omega
    refine lv_tableIn (tgt := 136) hx hb d_Mo_k_1 h1_1 h2_1 (by rw [k_1_15]; rfl) (by decide) ?_
    refine lv_bipush (v := 25) hx hb d_Mo_k_136 (by decide) ?_
    have hP9 := hP.sub (ws' := []) [] rfl
    have hD9 := hD.sub (ws' := []) [] (by decide) rfl
    exact W.iret (v := 25) hx hb hr (fun T9 hT9 hW9 => ⟨⟨25, (), rfl, by first | (simp [sw_kk, k_1_0, k_1_1, k_1_2, k_1_3, k_1_4, k_1_5, k_1_6, k_1_7, k_1_8, k_1_9, k_1_10, k_1_11, k_1_12, k_1_13, k_1_14, k_1_15]; done) | (simp [sw_kk, show ¬ x.toInt = 0 by omega, show ¬ x.toInt = 1 by omega, show ¬ x.toInt = 2 by omega, show ¬ x.toInt = 3 by omega, show ¬ x.toInt = 4 by omega, show ¬ x.toInt = 5 by omega, show ¬ x.toInt = 6 by omega, show ¬ x.toInt = 7 by omega, show ¬ x.toInt = 8 by omega, show ¬ x.toInt = 9 by omega, show ¬ x.toInt = 10 by omega, show ¬ x.toInt = 11 by omega, show ¬ x.toInt = 12 by omega, show ¬ x.toInt = 13 by omega, show ¬ x.toInt = 14 by omega, show ¬ x.toInt = 15 by omega]), by rw [hT9]; exact hP9, hD9⟩, hS.F hT9⟩) hS.2.2 d_Mo_k_138

abbrev rm_Mo_c : Room := { frames := 1, cells := 0, slots := 0, locals := 20 }
abbrev q_Mo_c (D : va_G) (cI cL : ClassId) (A : Nat → Prop) (x : Int32) : Array Value → State → Outcome → State → Prop := va_Qi (S := Unit) (fun (r : Int32) => fun (_ : Unit) => r = sw_cm x) (sw_R D A (fun (_ : Unit) => [])) A
set_option maxHeartbeats 4000000 in
set_option maxRecDepth 100000 in
theorem c_Mo_c (l : Launch) (D : va_G) (cI cL : ClassId) (tq sz : Nat) (x : Int32) : Met l y_Mo_c w_Mo_c rm_Mo_c (va_Pc [.int x] (sw_B D cI cL tq sz [])) (q_Mo_c D cI cL (va_A [] sz) x) 0 0 (va_A [] sz) := by
  refine Met.ofW (cc := b_Mo_c) (maxL := 1) (ret := (some .int)) (by decide) rfl ?_
  intro mp me s mm args below meth mk s₁ B hml hv
  obtain ⟨rfl, hsz, hP, hK, hD0, hG⟩ := hv
  have hx := B.exec
  have hb := B.bytes
  have hr := B.returns
  have hts := atoms_spec (ws := w_Mo_c) B.pre
  have hw : ∀ w ∈ sw_words, w.before _ s = true := fun w h => hts w (List.mem_cons_of_mem _ h)
  have hown : s.vm.findClass R_Mo = some mm.cls := findClass_of_methodNamed B.named
  have hlocks := B.notSynchronized
  subst hsz
  have hD := hD0.self (sz := s.heap.size)
  generalize hAe : va_A [] s.heap.size = A at hD hG ⊢
  have hA : ∀ q : Nat, s.heap.size ≤ q → A q := fun q h => by rw [← hAe]; exact Or.inr h
  have hS : va_S A s.heap s.heap [] := va_S.rf
  have hl := lv_entry ([.int x]) (n := 1) (Nat.le_of_ble_eq_true rfl)
  rw [lg_entry_eq]
  generalize (lg_sl ([.int x]) ++ List.replicate (1 - (lg_sl ([.int x])).length) Slot.unset).toArray = ls at hl ⊢
  have hl : lv_has ls 1 [(0, .int x)] := hl
  refine lv_iload_n hx hb d_Mo_c_0 rfl (lv_at hl 0 rfl) ?_
  refine lv_bipush (v := 17) hx hb d_Mo_c_1 (by decide) ?_
  refine lv_icmp_ge (tgt := 13) hx hb d_Mo_c_3 (by decide) (fun c_3 => ?_) (fun c_3 => ?_)
  · skip
    refine lv_iload_n hx hb d_Mo_c_13 rfl (lv_at hl 0 rfl) ?_
    refine lv_bipush (v := 33) hx hb d_Mo_c_14 (by decide) ?_
    refine lv_icmp_ge (tgt := 30) hx hb d_Mo_c_16 (by decide) (fun c_16 => ?_) (fun c_16 => ?_)
    · skip
      refine lv_iload_n hx hb d_Mo_c_30 rfl (lv_at hl 0 rfl) ?_
      refine lv_bipush (v := 49) hx hb d_Mo_c_31 (by decide) ?_
      refine lv_icmp_ge (tgt := 47) hx hb d_Mo_c_33 (by decide) (fun c_33 => ?_) (fun c_33 => ?_)
      · skip
        refine lv_bipush (v := 64) hx hb d_Mo_c_47 (by decide) ?_
        refine lv_iload_n hx hb d_Mo_c_49 rfl (lv_at hl 0 rfl) ?_
        refine lv_isub hx hb d_Mo_c_50 ?_
        refine sw_ki0 (wr := []) (va_runS (As := [.int (64 - x)]) (rest := []) ⟨hx, hb, hml, hown, hw⟩ (c_Mo_k l D cI cL tq _ (64 - x)) (cwS 1 hw (sw_gS kw_d8d00ef1 kw_a30fcada kw_82e72072 kc_Mo_k) rfl rfl rfl ⟨rfl, yd_Mo_k⟩ ⟨Nat.le_of_ble_eq_true rfl, Nat.le_of_ble_eq_true rfl⟩) (sw_preS hK hP hD hS hA hG [] rfl (by decide)) rfl rfl hl.1 rfl (lv_room (Nat.le_of_ble_eq_true rfl)) d_Mo_c_51 ⟨Nat.le_of_ble_eq_true rfl, Nat.le_of_ble_eq_true rfl⟩) hP hD hS hA [] [] rfl rfl (by decide) (by decide) (fun r_51 _ H locs hp_51 hP hD hS => ?_)
        replace hP : va_P D sw_cl [] H := hP
        replace hD : va_D A [] := hD
        try dsimp only at hp_51
        subst hp_51
        have hP9 := hP.sub (ws' := []) [] rfl
        have hD9 := hD.sub (ws' := []) [] (by decide) rfl
        exact W.iret (v := sw_kk (64 - x)) hx hb hr (fun T9 hT9 hW9 => ⟨⟨sw_kk (64 - x), (), rfl, by simp [sw_cm, c_3, c_16, c_33], by rw [hT9]; exact hP9, hD9⟩, hS.F hT9⟩) hS.2.2 d_Mo_c_54
      · skip
        refine lv_iload_n hx hb d_Mo_c_36 rfl (lv_at hl 0 rfl) ?_
        refine lv_bipush (v := 32) hx hb d_Mo_c_37 (by decide) ?_
        refine lv_isub hx hb d_Mo_c_39 ?_
        refine sw_ki0 (wr := []) (va_runS (As := [.int (x - 32)]) (rest := []) ⟨hx, hb, hml, hown, hw⟩ (c_Mo_k l D cI cL tq _ (x - 32)) (cwS 1 hw (sw_gS kw_d8d00ef1 kw_a30fcada kw_82e72072 kc_Mo_k) rfl rfl rfl ⟨rfl, yd_Mo_k⟩ ⟨Nat.le_of_ble_eq_true rfl, Nat.le_of_ble_eq_true rfl⟩) (sw_preS hK hP hD hS hA hG [] rfl (by decide)) rfl rfl hl.1 rfl (lv_room (Nat.le_of_ble_eq_true rfl)) d_Mo_c_40 ⟨Nat.le_of_ble_eq_true rfl, Nat.le_of_ble_eq_true rfl⟩) hP hD hS hA [] [] rfl rfl (by decide) (by decide) (fun r_40 _ H locs hp_40 hP hD hS => ?_)
        replace hP : va_P D sw_cl [] H := hP
        replace hD : va_D A [] := hD
        try dsimp only at hp_40
        subst hp_40
        refine lv_ineg hx hb d_Mo_c_43 ?_
        refine lv_goto (tgt := 54) hx hb d_Mo_c_44 (by decide) ?_
        have hP9 := hP.sub (ws' := []) [] rfl
        have hD9 := hD.sub (ws' := []) [] (by decide) rfl
        exact W.iret (v := -(sw_kk (x - 32))) hx hb hr (fun T9 hT9 hW9 => ⟨⟨-(sw_kk (x - 32)), (), rfl, by simp [sw_cm, c_3, c_16, c_33], by rw [hT9]; exact hP9, hD9⟩, hS.F hT9⟩) hS.2.2 d_Mo_c_54
    · skip
      refine lv_bipush (v := 32) hx hb d_Mo_c_19 (by decide) ?_
      refine lv_iload_n hx hb d_Mo_c_21 rfl (lv_at hl 0 rfl) ?_
      refine lv_isub hx hb d_Mo_c_22 ?_
      refine sw_ki0 (wr := []) (va_runS (As := [.int (32 - x)]) (rest := []) ⟨hx, hb, hml, hown, hw⟩ (c_Mo_k l D cI cL tq _ (32 - x)) (cwS 1 hw (sw_gS kw_d8d00ef1 kw_a30fcada kw_82e72072 kc_Mo_k) rfl rfl rfl ⟨rfl, yd_Mo_k⟩ ⟨Nat.le_of_ble_eq_true rfl, Nat.le_of_ble_eq_true rfl⟩) (sw_preS hK hP hD hS hA hG [] rfl (by decide)) rfl rfl hl.1 rfl (lv_room (Nat.le_of_ble_eq_true rfl)) d_Mo_c_23 ⟨Nat.le_of_ble_eq_true rfl, Nat.le_of_ble_eq_true rfl⟩) hP hD hS hA [] [] rfl rfl (by decide) (by decide) (fun r_23 _ H locs hp_23 hP hD hS => ?_)
      replace hP : va_P D sw_cl [] H := hP
      replace hD : va_D A [] := hD
      try dsimp only at hp_23
      subst hp_23
      refine lv_ineg hx hb d_Mo_c_26 ?_
      refine lv_goto (tgt := 54) hx hb d_Mo_c_27 (by decide) ?_
      have hP9 := hP.sub (ws' := []) [] rfl
      have hD9 := hD.sub (ws' := []) [] (by decide) rfl
      exact W.iret (v := -(sw_kk (32 - x))) hx hb hr (fun T9 hT9 hW9 => ⟨⟨-(sw_kk (32 - x)), (), rfl, by simp [sw_cm, c_3, c_16], by rw [hT9]; exact hP9, hD9⟩, hS.F hT9⟩) hS.2.2 d_Mo_c_54
  · skip
    refine lv_iload_n hx hb d_Mo_c_6 rfl (lv_at hl 0 rfl) ?_
    refine sw_ki0 (wr := []) (va_runS (As := [.int x]) (rest := []) ⟨hx, hb, hml, hown, hw⟩ (c_Mo_k l D cI cL tq _ x) (cwS 1 hw (sw_gS kw_d8d00ef1 kw_a30fcada kw_82e72072 kc_Mo_k) rfl rfl rfl ⟨rfl, yd_Mo_k⟩ ⟨Nat.le_of_ble_eq_true rfl, Nat.le_of_ble_eq_true rfl⟩) (sw_preS hK hP hD hS hA hG [] rfl (by decide)) rfl rfl hl.1 rfl (lv_room (Nat.le_of_ble_eq_true rfl)) d_Mo_c_7 ⟨Nat.le_of_ble_eq_true rfl, Nat.le_of_ble_eq_true rfl⟩) hP hD hS hA [] [] rfl rfl (by decide) (by decide) (fun r_7 _ H locs hp_7 hP hD hS => ?_)
    replace hP : va_P D sw_cl [] H := hP
    replace hD : va_D A [] := hD
    try dsimp only at hp_7
    subst hp_7
    refine lv_goto (tgt := 54) hx hb d_Mo_c_10 (by decide) ?_
    have hP9 := hP.sub (ws' := []) [] rfl
    have hD9 := hD.sub (ws' := []) [] (by decide) rfl
    exact W.iret (v := sw_kk x) hx hb hr (fun T9 hT9 hW9 => ⟨⟨sw_kk x, (), rfl, by simp [sw_cm, c_3], by rw [hT9]; exact hP9, hD9⟩, hS.F hT9⟩) hS.2.2 d_Mo_c_54

abbrev rm_Mo_s : Room := { frames := 2, cells := 0, slots := 0, locals := 40 }
abbrev q_Mo_s (D : va_G) (cI cL : ClassId) (A : Nat → Prop) (x : Int32) : Array Value → State → Outcome → State → Prop := va_Qi (S := Unit) (fun (r : Int32) => fun (_ : Unit) => r = sw_cm ((x + 48) - (x + 48) / 64 * 64)) (sw_R D A (fun (_ : Unit) => [])) A
set_option maxHeartbeats 4000000 in
set_option maxRecDepth 100000 in
theorem c_Mo_s (l : Launch) (D : va_G) (cI cL : ClassId) (tq sz : Nat) (x : Int32) : Met l y_Mo_s w_Mo_s rm_Mo_s (va_Pc [.int x] (sw_B D cI cL tq sz [])) (q_Mo_s D cI cL (va_A [] sz) x) 0 0 (va_A [] sz) := by
  refine Met.ofW (cc := b_Mo_s) (maxL := 1) (ret := (some .int)) (by decide) rfl ?_
  intro mp me s mm args below meth mk s₁ B hml hv
  obtain ⟨rfl, hsz, hP, hK, hD0, hG⟩ := hv
  have hx := B.exec
  have hb := B.bytes
  have hr := B.returns
  have hts := atoms_spec (ws := w_Mo_s) B.pre
  have hw : ∀ w ∈ sw_words, w.before _ s = true := fun w h => hts w (List.mem_cons_of_mem _ h)
  have hown : s.vm.findClass R_Mo = some mm.cls := findClass_of_methodNamed B.named
  have hlocks := B.notSynchronized
  subst hsz
  have hD := hD0.self (sz := s.heap.size)
  generalize hAe : va_A [] s.heap.size = A at hD hG ⊢
  have hA : ∀ q : Nat, s.heap.size ≤ q → A q := fun q h => by rw [← hAe]; exact Or.inr h
  have hS : va_S A s.heap s.heap [] := va_S.rf
  have hl := lv_entry ([.int x]) (n := 1) (Nat.le_of_ble_eq_true rfl)
  rw [lg_entry_eq]
  generalize (lg_sl ([.int x]) ++ List.replicate (1 - (lg_sl ([.int x])).length) Slot.unset).toArray = ls at hl ⊢
  have hl : lv_has ls 1 [(0, .int x)] := hl
  refine lv_iload_n hx hb d_Mo_s_0 rfl (lv_at hl 0 rfl) ?_
  refine lv_bipush (v := 48) hx hb d_Mo_s_1 (by decide) ?_
  refine lv_iadd hx hb d_Mo_s_3 ?_
  refine lv_bipush (v := 64) hx hb d_Mo_s_4 (by decide) ?_
  refine lv_irem hx hb d_Mo_s_6 (by decide) ?_
  refine sw_ki0 (wr := []) (va_runS (As := [.int ((x + 48) - (x + 48) / 64 * 64)]) (rest := []) ⟨hx, hb, hml, hown, hw⟩ (c_Mo_c l D cI cL tq _ ((x + 48) - (x + 48) / 64 * 64)) (cwS 1 hw (sw_gS kw_81a4938c kw_add442e8 kw_82e72072 kc_Mo_c) rfl rfl rfl ⟨rfl, yd_Mo_c⟩ ⟨Nat.le_of_ble_eq_true rfl, Nat.le_of_ble_eq_true rfl⟩) (sw_preS hK hP hD hS hA hG [] rfl (by decide)) rfl rfl hl.1 rfl (lv_room (Nat.le_of_ble_eq_true rfl)) d_Mo_s_7 ⟨Nat.le_of_ble_eq_true rfl, Nat.le_of_ble_eq_true rfl⟩) hP hD hS hA [] [] rfl rfl (by decide) (by decide) (fun r_7 _ H locs hp_7 hP hD hS => ?_)
  replace hP : va_P D sw_cl [] H := hP
  replace hD : va_D A [] := hD
  try dsimp only at hp_7
  subst hp_7
  have hP9 := hP.sub (ws' := []) [] rfl
  have hD9 := hD.sub (ws' := []) [] (by decide) rfl
  exact W.iret (v := sw_cm ((x + 48) - (x + 48) / 64 * 64)) hx hb hr (fun T9 hT9 hW9 => ⟨⟨sw_cm ((x + 48) - (x + 48) / 64 * 64), (), rfl, by rfl, by rw [hT9]; exact hP9, hD9⟩, hS.F hT9⟩) hS.2.2 d_Mo_s_10

abbrev rm_Mo_part : Room := { frames := 0, cells := 0, slots := 0, locals := 0 }
abbrev q_Mo_part (D : va_G) (cI cL : ClassId) (A : Nat → Prop) (x : Int32) : Array Value → State → Outcome → State → Prop := va_Qi (S := Unit) (fun (r : Int32) => fun (_ : Unit) => r = sw_pt x) (sw_R D A (fun (_ : Unit) => [])) A
set_option maxHeartbeats 4000000 in
set_option maxRecDepth 100000 in
theorem c_Mo_part (l : Launch) (D : va_G) (cI cL : ClassId) (tq sz : Nat) (x : Int32) : Met l y_Mo_part w_Mo_part rm_Mo_part (va_Pc [.int x] (sw_B D cI cL tq sz [])) (q_Mo_part D cI cL (va_A [] sz) x) 0 0 (va_A [] sz) := by
  refine Met.ofW (cc := b_Mo_part) (maxL := 2) (ret := (some .int)) (by decide) rfl ?_
  intro mp me s mm args below meth mk s₁ B hml hv
  obtain ⟨rfl, hsz, hP, hK, hD0, hG⟩ := hv
  have hx := B.exec
  have hb := B.bytes
  have hr := B.returns
  have hts := atoms_spec (ws := w_Mo_part) B.pre
  have hw : ∀ w ∈ sw_words, w.before _ s = true := fun w h => hts w (List.mem_cons_of_mem _ h)
  have hown : s.vm.findClass R_Mo = some mm.cls := findClass_of_methodNamed B.named
  have hlocks := B.notSynchronized
  subst hsz
  have hD := hD0.self (sz := s.heap.size)
  generalize hAe : va_A [] s.heap.size = A at hD hG ⊢
  have hA : ∀ q : Nat, s.heap.size ≤ q → A q := fun q h => by rw [← hAe]; exact Or.inr h
  have hS : va_S A s.heap s.heap [] := va_S.rf
  have hl := lv_entry ([.int x]) (n := 2) (Nat.le_of_ble_eq_true rfl)
  rw [lg_entry_eq]
  generalize (lg_sl ([.int x]) ++ List.replicate (2 - (lg_sl ([.int x])).length) Slot.unset).toArray = ls at hl ⊢
  have hl : lv_has ls 2 [(0, .int x)] := hl
  refine lv_iload_n hx hb d_Mo_part_0 rfl (lv_at hl 0 rfl) ?_
  refine lv_sipush (v := 256) hx hb d_Mo_part_1 (by decide) ?_
  refine lv_idiv hx hb d_Mo_part_4 (by decide) ?_
  refine lv_istore_n (lv' := [(1, .int (x / 256)), (0, .int x)]) hx hb d_Mo_part_5 rfl hl (by decide) rfl (fun ls hl => ?_)
  refine lv_iload_n hx hb d_Mo_part_6 rfl (lv_at hl 1 rfl) ?_
  refine lv_if_ge (tgt := 25) hx hb d_Mo_part_7 (by decide) (fun c_7 => ?_) (fun c_7 => ?_)
  · skip
    refine lv_iload_n hx hb d_Mo_part_25 rfl (lv_at hl 0 rfl) ?_
    have hP9 := hP.sub (ws' := []) [] rfl
    have hD9 := hD.sub (ws' := []) [] (by decide) rfl
    exact W.iret (v := x / 256) hx hb hr (fun T9 hT9 hW9 => ⟨⟨x / 256, (), rfl, by simp [sw_pt, c_7], by rw [hT9]; exact hP9, hD9⟩, hS.F hT9⟩) hS.2.2 d_Mo_part_26
  · skip
    refine lv_iload_n hx hb d_Mo_part_10 rfl (lv_at hl 0 rfl) ?_
    refine lv_sipush (v := 256) hx hb d_Mo_part_11 (by decide) ?_
    refine lv_imul hx hb d_Mo_part_14 ?_
    refine lv_iload_n hx hb d_Mo_part_15 rfl (lv_at hl 1 rfl) ?_
    refine lv_icmp_eq (tgt := 25) hx hb d_Mo_part_16 (by decide) (fun c_16 => ?_) (fun c_16 => ?_)
    · skip
      refine lv_iload_n hx hb d_Mo_part_25 rfl (lv_at hl 0 rfl) ?_
      have hP9 := hP.sub (ws' := []) [] rfl
      have hD9 := hD.sub (ws' := []) [] (by decide) rfl
      exact W.iret (v := x / 256) hx hb hr (fun T9 hT9 hW9 => ⟨⟨x / 256, (), rfl, by simp [sw_pt, c_7, c_16], by rw [hT9]; exact hP9, hD9⟩, hS.F hT9⟩) hS.2.2 d_Mo_part_26
    · skip
      refine lv_iload_n hx hb d_Mo_part_19 rfl (lv_at hl 0 rfl) ?_
      refine lv_iconst (v := 1) hx hb d_Mo_part_20 (by decide) ?_
      refine lv_isub hx hb d_Mo_part_21 ?_
      refine lv_goto (tgt := 26) hx hb d_Mo_part_22 (by decide) ?_
      have hP9 := hP.sub (ws' := []) [] rfl
      have hD9 := hD.sub (ws' := []) [] (by decide) rfl
      exact W.iret (v := (x / 256) - 1) hx hb hr (fun T9 hT9 hW9 => ⟨⟨(x / 256) - 1, (), rfl, by simp [sw_pt, c_7, c_16], by rw [hT9]; exact hP9, hD9⟩, hS.F hT9⟩) hS.2.2 d_Mo_part_26

abbrev rm_Mo_side : Room := { frames := 0, cells := 0, slots := 0, locals := 0 }
abbrev q_Mo_side (D : va_G) (cI cL : ClassId) (A : Nat → Prop) (m0 : Nat) (x : Int32) (y : Int32) (z : Int32) (th : Int32) (z1 : Nat) (z2 : Nat) (nv : Int32) (z3 : Nat) (z4 : Nat) (ns : Int32) (z5 : Nat) (z6 : Nat) (z7 : Nat) (z8 : Nat) (nw : Int32) (z9 : Nat) (z10 : Nat) (z11 : Nat) (z12 : Nat) (z13 : Nat) (z14 : Nat) (z15 : Nat) (z16 : Nat) (gv : Int32) (gs : Int32) (gw : Int32) (nb : Int32) (sd : Int32) (z17 : Nat) (z18 : Nat) (z19 : Nat) (z20 : Nat) (z21 : Nat) (nt : Int32) (z22 : Nat) (z23 : Nat) (z24 : Nat) (nk : Int32) (fs : Int32) (vx : Nat → Int32) (vy : Nat → Int32) : Array Value → State → Outcome → State → Prop := va_Qi (S := Unit) (fun (r : Int32) => fun (_ : Unit) => r = sw_sg (sw_sdl vx vy x.toNatClampNeg y.toNatClampNeg z.toNatClampNeg)) (sw_R D A (fun (_ : Unit) => [(m0, .inr (5, [.int th, .ref z1, .ref z2, .int nv, .ref z3, .ref z4, .int ns, .ref z5, .ref z6, .ref z7, .ref z8, .int nw, .ref z9, .ref z10, .ref z11, .ref z12, .ref z13, .ref z14, .ref z15, .ref z16, .int gv, .int gs, .int gw, .int nb, .int sd, .ref z17, .ref z18, .ref z19, .ref z20, .ref z21, .int nt, .ref z22, .ref z23, .ref z24, .int nk, .int fs])), (z1, .inl (cI, 64, .inl vx)), (z2, .inl (cI, 64, .inl vy))])) A
set_option maxHeartbeats 4000000 in
set_option maxRecDepth 100000 in
theorem c_Mo_side (l : Launch) (D : va_G) (cI cL : ClassId) (tq sz : Nat) (m0 : Nat) (x : Int32) (y : Int32) (z : Int32) (th : Int32) (z1 : Nat) (z2 : Nat) (nv : Int32) (z3 : Nat) (z4 : Nat) (ns : Int32) (z5 : Nat) (z6 : Nat) (z7 : Nat) (z8 : Nat) (nw : Int32) (z9 : Nat) (z10 : Nat) (z11 : Nat) (z12 : Nat) (z13 : Nat) (z14 : Nat) (z15 : Nat) (z16 : Nat) (gv : Int32) (gs : Int32) (gw : Int32) (nb : Int32) (sd : Int32) (z17 : Nat) (z18 : Nat) (z19 : Nat) (z20 : Nat) (z21 : Nat) (nt : Int32) (z22 : Nat) (z23 : Nat) (z24 : Nat) (nk : Int32) (fs : Int32) (vx : Nat → Int32) (vy : Nat → Int32) (ix : vp_in x 64) (iy : vp_in y 64) (iz : vp_in z 64) : Met l y_Mo_side w_Mo_side rm_Mo_side (va_Pc [.ref m0, .int x, .int y, .int z] (sw_B D cI cL tq sz [(m0, .inr (5, [.int th, .ref z1, .ref z2, .int nv, .ref z3, .ref z4, .int ns, .ref z5, .ref z6, .ref z7, .ref z8, .int nw, .ref z9, .ref z10, .ref z11, .ref z12, .ref z13, .ref z14, .ref z15, .ref z16, .int gv, .int gs, .int gw, .int nb, .int sd, .ref z17, .ref z18, .ref z19, .ref z20, .ref z21, .int nt, .ref z22, .ref z23, .ref z24, .int nk, .int fs])), (z1, .inl (cI, 64, .inl vx)), (z2, .inl (cI, 64, .inl vy))])) (q_Mo_side D cI cL (va_A [(m0, .inr (5, [.int th, .ref z1, .ref z2, .int nv, .ref z3, .ref z4, .int ns, .ref z5, .ref z6, .ref z7, .ref z8, .int nw, .ref z9, .ref z10, .ref z11, .ref z12, .ref z13, .ref z14, .ref z15, .ref z16, .int gv, .int gs, .int gw, .int nb, .int sd, .ref z17, .ref z18, .ref z19, .ref z20, .ref z21, .int nt, .ref z22, .ref z23, .ref z24, .int nk, .int fs])), (z1, .inl (cI, 64, .inl vx)), (z2, .inl (cI, 64, .inl vy))] sz) m0 x y z th z1 z2 nv z3 z4 ns z5 z6 z7 z8 nw z9 z10 z11 z12 z13 z14 z15 z16 gv gs gw nb sd z17 z18 z19 z20 z21 nt z22 z23 z24 nk fs vx vy) 0 0 (va_A [(m0, .inr (5, [.int th, .ref z1, .ref z2, .int nv, .ref z3, .ref z4, .int ns, .ref z5, .ref z6, .ref z7, .ref z8, .int nw, .ref z9, .ref z10, .ref z11, .ref z12, .ref z13, .ref z14, .ref z15, .ref z16, .int gv, .int gs, .int gw, .int nb, .int sd, .ref z17, .ref z18, .ref z19, .ref z20, .ref z21, .int nt, .ref z22, .ref z23, .ref z24, .int nk, .int fs])), (z1, .inl (cI, 64, .inl vx)), (z2, .inl (cI, 64, .inl vy))] sz) := by
  refine Met.ofW (cc := b_Mo_side) (maxL := 6) (ret := (some .int)) (by decide) rfl ?_
  intro mp me s mm args below meth mk s₁ B hml hv
  obtain ⟨rfl, hsz, hP, hK, hD0, hG⟩ := hv
  have hx := B.exec
  have hb := B.bytes
  have hr := B.returns
  have hts := atoms_spec (ws := w_Mo_side) B.pre
  have hw : ∀ w ∈ sw_words, w.before _ s = true := fun w h => hts w (List.mem_cons_of_mem _ h)
  have hown : s.vm.findClass R_Mo = some mm.cls := findClass_of_methodNamed B.named
  have hlocks := B.notSynchronized
  subst hsz
  have hD := hD0.self (sz := s.heap.size)
  generalize hAe : va_A [(m0, .inr (5, [.int th, .ref z1, .ref z2, .int nv, .ref z3, .ref z4, .int ns, .ref z5, .ref z6, .ref z7, .ref z8, .int nw, .ref z9, .ref z10, .ref z11, .ref z12, .ref z13, .ref z14, .ref z15, .ref z16, .int gv, .int gs, .int gw, .int nb, .int sd, .ref z17, .ref z18, .ref z19, .ref z20, .ref z21, .int nt, .ref z22, .ref z23, .ref z24, .int nk, .int fs])), (z1, .inl (cI, 64, .inl vx)), (z2, .inl (cI, 64, .inl vy))] s.heap.size = A at hD hG ⊢
  have hA : ∀ q : Nat, s.heap.size ≤ q → A q := fun q h => by rw [← hAe]; exact Or.inr h
  have hS : va_S A s.heap s.heap [] := va_S.rf
  have hl := lv_entry ([.ref m0, .int x, .int y, .int z]) (n := 6) (Nat.le_of_ble_eq_true rfl)
  rw [lg_entry_eq]
  generalize (lg_sl ([.ref m0, .int x, .int y, .int z]) ++ List.replicate (6 - (lg_sl ([.ref m0, .int x, .int y, .int z])).length) Slot.unset).toArray = ls at hl ⊢
  have hl : lv_has ls 6 [(0, .ref m0), (1, .int x), (2, .int y), (3, .int z)] := hl
  refine lv_aload_n hx hb d_Mo_side_0 rfl (lv_at hl 0 rfl) ?_
  refine va_get (D := D) (ci := 5) (v := .ref z1) (C := R_Mo) (T := F_Mo) (N := 36) hx hb hw ku_Mo hown hK hP 0 rfl rfl 1 (by decide) (hw _ kw_8c268fd5) (fun _ h9 => h9) rfl d_Mo_side_1 ?_
  refine lv_iload_n hx hb d_Mo_side_4 rfl (lv_at hl 2 rfl) ?_
  refine va_iald hx hb hK hP 1 0 rfl rfl (by assumption) d_Mo_side_5 ?_
  refine lv_aload_n hx hb d_Mo_side_6 rfl (lv_at hl 0 rfl) ?_
  refine va_get (D := D) (ci := 5) (v := .ref z1) (C := R_Mo) (T := F_Mo) (N := 36) hx hb hw ku_Mo hown hK hP 0 rfl rfl 1 (by decide) (hw _ kw_8c268fd5) (fun _ h9 => h9) rfl d_Mo_side_7 ?_
  refine lv_iload_n hx hb d_Mo_side_10 rfl (lv_at hl 1 rfl) ?_
  refine va_iald hx hb hK hP 1 0 rfl rfl (by assumption) d_Mo_side_11 ?_
  refine lv_isub hx hb d_Mo_side_12 ?_
  refine lv_i2l hx hb d_Mo_side_13 rfl ?_
  refine lv_aload_n hx hb d_Mo_side_14 rfl (lv_at hl 0 rfl) ?_
  refine va_get (D := D) (ci := 5) (v := .ref z2) (C := R_Mo) (T := F_Mo) (N := 36) hx hb hw ku_Mo hown hK hP 0 rfl rfl 2 (by decide) (hw _ kw_c43ee8d8) (fun _ h9 => h9) rfl d_Mo_side_15 ?_
  refine lv_iload_n hx hb d_Mo_side_18 rfl (lv_at hl 3 rfl) ?_
  refine va_iald hx hb hK hP 2 0 rfl rfl (by assumption) d_Mo_side_19 ?_
  refine lv_aload_n hx hb d_Mo_side_20 rfl (lv_at hl 0 rfl) ?_
  refine va_get (D := D) (ci := 5) (v := .ref z2) (C := R_Mo) (T := F_Mo) (N := 36) hx hb hw ku_Mo hown hK hP 0 rfl rfl 2 (by decide) (hw _ kw_c43ee8d8) (fun _ h9 => h9) rfl d_Mo_side_21 ?_
  refine lv_iload_n hx hb d_Mo_side_24 rfl (lv_at hl 1 rfl) ?_
  refine va_iald hx hb hK hP 2 0 rfl rfl (by assumption) d_Mo_side_25 ?_
  refine lv_isub hx hb d_Mo_side_26 ?_
  refine lv_i2l hx hb d_Mo_side_27 rfl ?_
  refine lv_lmul hx hb d_Mo_side_28 ?_
  refine lv_aload_n hx hb d_Mo_side_29 rfl (lv_at hl 0 rfl) ?_
  refine va_get (D := D) (ci := 5) (v := .ref z2) (C := R_Mo) (T := F_Mo) (N := 36) hx hb hw ku_Mo hown hK hP 0 rfl rfl 2 (by decide) (hw _ kw_c43ee8d8) (fun _ h9 => h9) rfl d_Mo_side_30 ?_
  refine lv_iload_n hx hb d_Mo_side_33 rfl (lv_at hl 2 rfl) ?_
  refine va_iald hx hb hK hP 2 0 rfl rfl (by assumption) d_Mo_side_34 ?_
  refine lv_aload_n hx hb d_Mo_side_35 rfl (lv_at hl 0 rfl) ?_
  refine va_get (D := D) (ci := 5) (v := .ref z2) (C := R_Mo) (T := F_Mo) (N := 36) hx hb hw ku_Mo hown hK hP 0 rfl rfl 2 (by decide) (hw _ kw_c43ee8d8) (fun _ h9 => h9) rfl d_Mo_side_36 ?_
  refine lv_iload_n hx hb d_Mo_side_39 rfl (lv_at hl 1 rfl) ?_
  refine va_iald hx hb hK hP 2 0 rfl rfl (by assumption) d_Mo_side_40 ?_
  refine lv_isub hx hb d_Mo_side_41 ?_
  refine lv_i2l hx hb d_Mo_side_42 rfl ?_
  refine lv_aload_n hx hb d_Mo_side_43 rfl (lv_at hl 0 rfl) ?_
  refine va_get (D := D) (ci := 5) (v := .ref z1) (C := R_Mo) (T := F_Mo) (N := 36) hx hb hw ku_Mo hown hK hP 0 rfl rfl 1 (by decide) (hw _ kw_8c268fd5) (fun _ h9 => h9) rfl d_Mo_side_44 ?_
  refine lv_iload_n hx hb d_Mo_side_47 rfl (lv_at hl 3 rfl) ?_
  refine va_iald hx hb hK hP 1 0 rfl rfl (by assumption) d_Mo_side_48 ?_
  refine lv_aload_n hx hb d_Mo_side_49 rfl (lv_at hl 0 rfl) ?_
  refine va_get (D := D) (ci := 5) (v := .ref z1) (C := R_Mo) (T := F_Mo) (N := 36) hx hb hw ku_Mo hown hK hP 0 rfl rfl 1 (by decide) (hw _ kw_8c268fd5) (fun _ h9 => h9) rfl d_Mo_side_50 ?_
  refine lv_iload_n hx hb d_Mo_side_53 rfl (lv_at hl 1 rfl) ?_
  refine va_iald hx hb hK hP 1 0 rfl rfl (by assumption) d_Mo_side_54 ?_
  refine lv_isub hx hb d_Mo_side_55 ?_
  refine lv_i2l hx hb d_Mo_side_56 rfl ?_
  refine lv_lmul hx hb d_Mo_side_57 ?_
  refine lv_lsub hx hb d_Mo_side_58 ?_
  refine lv_topl (fun vv e_vv => ?_)
  refine lv_lstore (lv' := [(4, .long vv), (0, .ref m0), (1, .int x), (2, .int y), (3, .int z)]) hx hb d_Mo_side_59 hl (by decide) rfl (fun ls hl => ?_)
  refine lv_lload hx hb d_Mo_side_61 (lv_at hl 0 rfl) ?_
  refine lv_lconst (v := 0) hx hb d_Mo_side_63 (by decide) ?_
  refine W.lcmp hx hb d_Mo_side_64 ?_
  refine lv_if_ge (tgt := 72) hx hb d_Mo_side_65 (by decide) (fun c_65 => ?_) (fun c_65 => ?_)
  · skip
    refine lv_lload hx hb d_Mo_side_72 (lv_at hl 0 rfl) ?_
    refine lv_lconst (v := 0) hx hb d_Mo_side_74 (by decide) ?_
    refine W.lcmp hx hb d_Mo_side_75 ?_
    refine lv_if_le (tgt := 83) hx hb d_Mo_side_76 (by decide) (fun c_76 => ?_) (fun c_76 => ?_)
    · skip
      refine lv_iconst (v := 0) hx hb d_Mo_side_83 (by decide) ?_
      have hP9 := hP.sub (ws' := [(m0, .inr (5, [.int th, .ref z1, .ref z2, .int nv, .ref z3, .ref z4, .int ns, .ref z5, .ref z6, .ref z7, .ref z8, .int nw, .ref z9, .ref z10, .ref z11, .ref z12, .ref z13, .ref z14, .ref z15, .ref z16, .int gv, .int gs, .int gw, .int nb, .int sd, .ref z17, .ref z18, .ref z19, .ref z20, .ref z21, .int nt, .ref z22, .ref z23, .ref z24, .int nk, .int fs])), (z1, .inl (cI, 64, .inl vx)), (z2, .inl (cI, 64, .inl vy))]) [0, 1, 2] rfl
      have hD9 := hD.sub (ws' := [(m0, .inr (5, [.int th, .ref z1, .ref z2, .int nv, .ref z3, .ref z4, .int ns, .ref z5, .ref z6, .ref z7, .ref z8, .int nw, .ref z9, .ref z10, .ref z11, .ref z12, .ref z13, .ref z14, .ref z15, .ref z16, .int gv, .int gs, .int gw, .int nb, .int sd, .ref z17, .ref z18, .ref z19, .ref z20, .ref z21, .int nt, .ref z22, .ref z23, .ref z24, .int nk, .int fs])), (z1, .inl (cI, 64, .inl vx)), (z2, .inl (cI, 64, .inl vy))]) [0, 1, 2] (by decide) rfl
      exact W.iret (v := 0) hx hb hr (fun T9 hT9 hW9 => ⟨⟨0, (), rfl, by rw [← show vv = sw_sdl vx vy x.toNatClampNeg y.toNatClampNeg z.toNatClampNeg from e_vv]; simp [sw_sg, c_65, c_76], by rw [hT9]; exact hP9, hD9⟩, hS.F hT9⟩) hS.2.2 d_Mo_side_84
    · skip
      refine lv_iconst (v := 1) hx hb d_Mo_side_79 (by decide) ?_
      refine lv_goto (tgt := 84) hx hb d_Mo_side_80 (by decide) ?_
      have hP9 := hP.sub (ws' := [(m0, .inr (5, [.int th, .ref z1, .ref z2, .int nv, .ref z3, .ref z4, .int ns, .ref z5, .ref z6, .ref z7, .ref z8, .int nw, .ref z9, .ref z10, .ref z11, .ref z12, .ref z13, .ref z14, .ref z15, .ref z16, .int gv, .int gs, .int gw, .int nb, .int sd, .ref z17, .ref z18, .ref z19, .ref z20, .ref z21, .int nt, .ref z22, .ref z23, .ref z24, .int nk, .int fs])), (z1, .inl (cI, 64, .inl vx)), (z2, .inl (cI, 64, .inl vy))]) [0, 1, 2] rfl
      have hD9 := hD.sub (ws' := [(m0, .inr (5, [.int th, .ref z1, .ref z2, .int nv, .ref z3, .ref z4, .int ns, .ref z5, .ref z6, .ref z7, .ref z8, .int nw, .ref z9, .ref z10, .ref z11, .ref z12, .ref z13, .ref z14, .ref z15, .ref z16, .int gv, .int gs, .int gw, .int nb, .int sd, .ref z17, .ref z18, .ref z19, .ref z20, .ref z21, .int nt, .ref z22, .ref z23, .ref z24, .int nk, .int fs])), (z1, .inl (cI, 64, .inl vx)), (z2, .inl (cI, 64, .inl vy))]) [0, 1, 2] (by decide) rfl
      exact W.iret (v := 1) hx hb hr (fun T9 hT9 hW9 => ⟨⟨1, (), rfl, by rw [← show vv = sw_sdl vx vy x.toNatClampNeg y.toNatClampNeg z.toNatClampNeg from e_vv]; simp [sw_sg, c_65, c_76], by rw [hT9]; exact hP9, hD9⟩, hS.F hT9⟩) hS.2.2 d_Mo_side_84
  · skip
    refine lv_iconst (v := (-1)) hx hb d_Mo_side_68 (by decide) ?_
    refine lv_goto (tgt := 84) hx hb d_Mo_side_69 (by decide) ?_
    have hP9 := hP.sub (ws' := [(m0, .inr (5, [.int th, .ref z1, .ref z2, .int nv, .ref z3, .ref z4, .int ns, .ref z5, .ref z6, .ref z7, .ref z8, .int nw, .ref z9, .ref z10, .ref z11, .ref z12, .ref z13, .ref z14, .ref z15, .ref z16, .int gv, .int gs, .int gw, .int nb, .int sd, .ref z17, .ref z18, .ref z19, .ref z20, .ref z21, .int nt, .ref z22, .ref z23, .ref z24, .int nk, .int fs])), (z1, .inl (cI, 64, .inl vx)), (z2, .inl (cI, 64, .inl vy))]) [0, 1, 2] rfl
    have hD9 := hD.sub (ws' := [(m0, .inr (5, [.int th, .ref z1, .ref z2, .int nv, .ref z3, .ref z4, .int ns, .ref z5, .ref z6, .ref z7, .ref z8, .int nw, .ref z9, .ref z10, .ref z11, .ref z12, .ref z13, .ref z14, .ref z15, .ref z16, .int gv, .int gs, .int gw, .int nb, .int sd, .ref z17, .ref z18, .ref z19, .ref z20, .ref z21, .int nt, .ref z22, .ref z23, .ref z24, .int nk, .int fs])), (z1, .inl (cI, 64, .inl vx)), (z2, .inl (cI, 64, .inl vy))]) [0, 1, 2] (by decide) rfl
    exact W.iret (v := (-1)) hx hb hr (fun T9 hT9 hW9 => ⟨⟨(-1), (), rfl, by rw [← show vv = sw_sdl vx vy x.toNatClampNeg y.toNatClampNeg z.toNatClampNeg from e_vv]; simp [sw_sg, c_65], by rw [hT9]; exact hP9, hD9⟩, hS.F hT9⟩) hS.2.2 d_Mo_side_84

abbrev rm_Mo_isBetween : Room := { frames := 0, cells := 0, slots := 0, locals := 0 }
abbrev q_Mo_isBetween (D : va_G) (cI cL : ClassId) (A : Nat → Prop) (x : Int32) (y : Int32) (z : Int32) : Array Value → State → Outcome → State → Prop := va_Qi (S := Unit) (fun (r : Int32) => fun (_ : Unit) => r = sw_b (sw_btw x y z)) (sw_R D A (fun (_ : Unit) => [])) A
set_option maxHeartbeats 4000000 in
set_option maxRecDepth 100000 in
theorem c_Mo_isBetween (l : Launch) (D : va_G) (cI cL : ClassId) (tq sz : Nat) (x : Int32) (y : Int32) (z : Int32) : Met l y_Mo_isBetween w_Mo_isBetween rm_Mo_isBetween (va_Pc [.int x, .int y, .int z] (sw_B D cI cL tq sz [])) (q_Mo_isBetween D cI cL (va_A [] sz) x y z) 0 0 (va_A [] sz) := by
  refine Met.ofW (cc := b_Mo_isBetween) (maxL := 3) (ret := (some .boolean)) (by decide) rfl ?_
  intro mp me s mm args below meth mk s₁ B hml hv
  obtain ⟨rfl, hsz, hP, hK, hD0, hG⟩ := hv
  have hx := B.exec
  have hb := B.bytes
  have hr := B.returns
  have hts := atoms_spec (ws := w_Mo_isBetween) B.pre
  have hw : ∀ w ∈ sw_words, w.before _ s = true := fun w h => hts w (List.mem_cons_of_mem _ h)
  have hown : s.vm.findClass R_Mo = some mm.cls := findClass_of_methodNamed B.named
  have hlocks := B.notSynchronized
  subst hsz
  have hD := hD0.self (sz := s.heap.size)
  generalize hAe : va_A [] s.heap.size = A at hD hG ⊢
  have hA : ∀ q : Nat, s.heap.size ≤ q → A q := fun q h => by rw [← hAe]; exact Or.inr h
  have hS : va_S A s.heap s.heap [] := va_S.rf
  have hl := lv_entry ([.int x, .int y, .int z]) (n := 3) (Nat.le_of_ble_eq_true rfl)
  rw [lg_entry_eq]
  generalize (lg_sl ([.int x, .int y, .int z]) ++ List.replicate (3 - (lg_sl ([.int x, .int y, .int z])).length) Slot.unset).toArray = ls at hl ⊢
  have hl : lv_has ls 3 [(0, .int x), (1, .int y), (2, .int z)] := hl
  refine lv_iload_n hx hb d_Mo_isBetween_0 rfl (lv_at hl 1 rfl) ?_
  refine lv_iload_n hx hb d_Mo_isBetween_1 rfl (lv_at hl 2 rfl) ?_
  refine lv_icmp_ge (tgt := 23) hx hb d_Mo_isBetween_2 (by decide) (fun c_2 => ?_) (fun c_2 => ?_)
  · skip
    refine lv_iload_n hx hb d_Mo_isBetween_23 rfl (lv_at hl 0 rfl) ?_
    refine lv_iload_n hx hb d_Mo_isBetween_24 rfl (lv_at hl 2 rfl) ?_
    refine lv_icmp_lt (tgt := 37) hx hb d_Mo_isBetween_25 (by decide) (fun c_25 => ?_) (fun c_25 => ?_)
    · skip
      refine lv_iconst (v := 0) hx hb d_Mo_isBetween_37 (by decide) ?_
      have hP9 := hP.sub (ws' := []) [] rfl
      have hD9 := hD.sub (ws' := []) [] (by decide) rfl
      exact W.zret (ty := .boolean) (v := 0) hx hb hr (rfl) (fun T9 hT9 hW9 => ⟨⟨0, (), rfl, by simp [sw_b, sw_btw, c_2, c_25], by rw [hT9]; exact hP9, hD9⟩, hS.F hT9⟩) hS.2.2 d_Mo_isBetween_38
    · skip
      refine lv_iload_n hx hb d_Mo_isBetween_28 rfl (lv_at hl 0 rfl) ?_
      refine lv_iload_n hx hb d_Mo_isBetween_29 rfl (lv_at hl 1 rfl) ?_
      refine lv_icmp_gt (tgt := 37) hx hb d_Mo_isBetween_30 (by decide) (fun c_30 => ?_) (fun c_30 => ?_)
      · skip
        refine lv_iconst (v := 0) hx hb d_Mo_isBetween_37 (by decide) ?_
        have hP9 := hP.sub (ws' := []) [] rfl
        have hD9 := hD.sub (ws' := []) [] (by decide) rfl
        exact W.zret (ty := .boolean) (v := 0) hx hb hr (rfl) (fun T9 hT9 hW9 => ⟨⟨0, (), rfl, by simp [sw_b, sw_btw, c_2, c_25, c_30], by rw [hT9]; exact hP9, hD9⟩, hS.F hT9⟩) hS.2.2 d_Mo_isBetween_38
      · skip
        refine lv_iconst (v := 1) hx hb d_Mo_isBetween_33 (by decide) ?_
        refine lv_goto (tgt := 38) hx hb d_Mo_isBetween_34 (by decide) ?_
        have hP9 := hP.sub (ws' := []) [] rfl
        have hD9 := hD.sub (ws' := []) [] (by decide) rfl
        exact W.zret (ty := .boolean) (v := 1) hx hb hr (rfl) (fun T9 hT9 hW9 => ⟨⟨1, (), rfl, by simp [sw_b, sw_btw, c_2, c_25, c_30], by rw [hT9]; exact hP9, hD9⟩, hS.F hT9⟩) hS.2.2 d_Mo_isBetween_38
  · skip
    refine lv_iload_n hx hb d_Mo_isBetween_5 rfl (lv_at hl 0 rfl) ?_
    refine lv_iload_n hx hb d_Mo_isBetween_6 rfl (lv_at hl 1 rfl) ?_
    refine lv_icmp_lt (tgt := 19) hx hb d_Mo_isBetween_7 (by decide) (fun c_7 => ?_) (fun c_7 => ?_)
    · skip
      refine lv_iconst (v := 0) hx hb d_Mo_isBetween_19 (by decide) ?_
      refine lv_goto (tgt := 38) hx hb d_Mo_isBetween_20 (by decide) ?_
      have hP9 := hP.sub (ws' := []) [] rfl
      have hD9 := hD.sub (ws' := []) [] (by decide) rfl
      exact W.zret (ty := .boolean) (v := 0) hx hb hr (rfl) (fun T9 hT9 hW9 => ⟨⟨0, (), rfl, by simp [sw_b, sw_btw, c_2, c_7], by rw [hT9]; exact hP9, hD9⟩, hS.F hT9⟩) hS.2.2 d_Mo_isBetween_38
    · skip
      refine lv_iload_n hx hb d_Mo_isBetween_10 rfl (lv_at hl 0 rfl) ?_
      refine lv_iload_n hx hb d_Mo_isBetween_11 rfl (lv_at hl 2 rfl) ?_
      refine lv_icmp_gt (tgt := 19) hx hb d_Mo_isBetween_12 (by decide) (fun c_12 => ?_) (fun c_12 => ?_)
      · skip
        refine lv_iconst (v := 0) hx hb d_Mo_isBetween_19 (by decide) ?_
        refine lv_goto (tgt := 38) hx hb d_Mo_isBetween_20 (by decide) ?_
        have hP9 := hP.sub (ws' := []) [] rfl
        have hD9 := hD.sub (ws' := []) [] (by decide) rfl
        exact W.zret (ty := .boolean) (v := 0) hx hb hr (rfl) (fun T9 hT9 hW9 => ⟨⟨0, (), rfl, by simp [sw_b, sw_btw, c_2, c_7, c_12], by rw [hT9]; exact hP9, hD9⟩, hS.F hT9⟩) hS.2.2 d_Mo_isBetween_38
      · skip
        refine lv_iconst (v := 1) hx hb d_Mo_isBetween_15 (by decide) ?_
        refine lv_goto (tgt := 38) hx hb d_Mo_isBetween_16 (by decide) ?_
        have hP9 := hP.sub (ws' := []) [] rfl
        have hD9 := hD.sub (ws' := []) [] (by decide) rfl
        exact W.zret (ty := .boolean) (v := 1) hx hb hr (rfl) (fun T9 hT9 hW9 => ⟨⟨1, (), rfl, by simp [sw_b, sw_btw, c_2, c_7, c_12], by rw [hT9]; exact hP9, hD9⟩, hS.F hT9⟩) hS.2.2 d_Mo_isBetween_38

abbrev rm_Mo_isIn : Room := { frames := 1, cells := 0, slots := 0, locals := 25 }
abbrev q_Mo_isIn (D : va_G) (cI cL : ClassId) (A : Nat → Prop) (m0 : Nat) (x : Int32) (y : Int32) (th : Int32) (z1 : Nat) (z2 : Nat) (nv : Int32) (z3 : Nat) (z4 : Nat) (ns : Int32) (z5 : Nat) (z6 : Nat) (z7 : Nat) (z8 : Nat) (nw : Int32) (z9 : Nat) (z10 : Nat) (z11 : Nat) (z12 : Nat) (z13 : Nat) (z14 : Nat) (z15 : Nat) (z16 : Nat) (gv : Int32) (gs : Int32) (gw : Int32) (nb : Int32) (sd : Int32) (z17 : Nat) (z18 : Nat) (z19 : Nat) (z20 : Nat) (z21 : Nat) (nt : Int32) (z22 : Nat) (z23 : Nat) (z24 : Nat) (nk : Int32) (fs : Int32) (vx : Nat → Int32) (vy : Nat → Int32) (fa : Nat → Int32) (tb : Nat → Int32) : Array Value → State → Outcome → State → Prop := va_Qi (S := Unit) (fun (r : Int32) => fun (_ : Unit) => r = sw_b (sw_isin vx vy x (fa y.toNatClampNeg) (tb y.toNatClampNeg))) (sw_R D A (fun (_ : Unit) => [(m0, .inr (5, [.int th, .ref z1, .ref z2, .int nv, .ref z3, .ref z4, .int ns, .ref z5, .ref z6, .ref z7, .ref z8, .int nw, .ref z9, .ref z10, .ref z11, .ref z12, .ref z13, .ref z14, .ref z15, .ref z16, .int gv, .int gs, .int gw, .int nb, .int sd, .ref z17, .ref z18, .ref z19, .ref z20, .ref z21, .int nt, .ref z22, .ref z23, .ref z24, .int nk, .int fs])), (z1, .inl (cI, 64, .inl vx)), (z2, .inl (cI, 64, .inl vy)), (z5, .inl (cI, 64, .inl fa)), (z6, .inl (cI, 64, .inl tb))])) A
set_option maxHeartbeats 4000000 in
set_option maxRecDepth 100000 in
theorem c_Mo_isIn (l : Launch) (D : va_G) (cI cL : ClassId) (tq sz : Nat) (m0 : Nat) (x : Int32) (y : Int32) (th : Int32) (z1 : Nat) (z2 : Nat) (nv : Int32) (z3 : Nat) (z4 : Nat) (ns : Int32) (z5 : Nat) (z6 : Nat) (z7 : Nat) (z8 : Nat) (nw : Int32) (z9 : Nat) (z10 : Nat) (z11 : Nat) (z12 : Nat) (z13 : Nat) (z14 : Nat) (z15 : Nat) (z16 : Nat) (gv : Int32) (gs : Int32) (gw : Int32) (nb : Int32) (sd : Int32) (z17 : Nat) (z18 : Nat) (z19 : Nat) (z20 : Nat) (z21 : Nat) (nt : Int32) (z22 : Nat) (z23 : Nat) (z24 : Nat) (nk : Int32) (fs : Int32) (vx : Nat → Int32) (vy : Nat → Int32) (fa : Nat → Int32) (tb : Nat → Int32) (ix : vp_in x 64) (iy : vp_in y 64) (jy : vp_in (fa y.toNatClampNeg) 64) (ky : vp_in (tb y.toNatClampNeg) 64) : Met l y_Mo_isIn w_Mo_isIn rm_Mo_isIn (va_Pc [.ref m0, .int x, .int y] (sw_B D cI cL tq sz [(m0, .inr (5, [.int th, .ref z1, .ref z2, .int nv, .ref z3, .ref z4, .int ns, .ref z5, .ref z6, .ref z7, .ref z8, .int nw, .ref z9, .ref z10, .ref z11, .ref z12, .ref z13, .ref z14, .ref z15, .ref z16, .int gv, .int gs, .int gw, .int nb, .int sd, .ref z17, .ref z18, .ref z19, .ref z20, .ref z21, .int nt, .ref z22, .ref z23, .ref z24, .int nk, .int fs])), (z1, .inl (cI, 64, .inl vx)), (z2, .inl (cI, 64, .inl vy)), (z5, .inl (cI, 64, .inl fa)), (z6, .inl (cI, 64, .inl tb))])) (q_Mo_isIn D cI cL (va_A [(m0, .inr (5, [.int th, .ref z1, .ref z2, .int nv, .ref z3, .ref z4, .int ns, .ref z5, .ref z6, .ref z7, .ref z8, .int nw, .ref z9, .ref z10, .ref z11, .ref z12, .ref z13, .ref z14, .ref z15, .ref z16, .int gv, .int gs, .int gw, .int nb, .int sd, .ref z17, .ref z18, .ref z19, .ref z20, .ref z21, .int nt, .ref z22, .ref z23, .ref z24, .int nk, .int fs])), (z1, .inl (cI, 64, .inl vx)), (z2, .inl (cI, 64, .inl vy)), (z5, .inl (cI, 64, .inl fa)), (z6, .inl (cI, 64, .inl tb))] sz) m0 x y th z1 z2 nv z3 z4 ns z5 z6 z7 z8 nw z9 z10 z11 z12 z13 z14 z15 z16 gv gs gw nb sd z17 z18 z19 z20 z21 nt z22 z23 z24 nk fs vx vy fa tb) 0 0 (va_A [(m0, .inr (5, [.int th, .ref z1, .ref z2, .int nv, .ref z3, .ref z4, .int ns, .ref z5, .ref z6, .ref z7, .ref z8, .int nw, .ref z9, .ref z10, .ref z11, .ref z12, .ref z13, .ref z14, .ref z15, .ref z16, .int gv, .int gs, .int gw, .int nb, .int sd, .ref z17, .ref z18, .ref z19, .ref z20, .ref z21, .int nt, .ref z22, .ref z23, .ref z24, .int nk, .int fs])), (z1, .inl (cI, 64, .inl vx)), (z2, .inl (cI, 64, .inl vy)), (z5, .inl (cI, 64, .inl fa)), (z6, .inl (cI, 64, .inl tb))] sz) := by
  refine Met.ofW (cc := b_Mo_isIn) (maxL := 5) (ret := (some .boolean)) (by decide) rfl ?_
  intro mp me s mm args below meth mk s₁ B hml hv
  obtain ⟨rfl, hsz, hP, hK, hD0, hG⟩ := hv
  have hx := B.exec
  have hb := B.bytes
  have hr := B.returns
  have hts := atoms_spec (ws := w_Mo_isIn) B.pre
  have hw : ∀ w ∈ sw_words, w.before _ s = true := fun w h => hts w (List.mem_cons_of_mem _ h)
  have hown : s.vm.findClass R_Mo = some mm.cls := findClass_of_methodNamed B.named
  have hlocks := B.notSynchronized
  subst hsz
  have hD := hD0.self (sz := s.heap.size)
  generalize hAe : va_A [(m0, .inr (5, [.int th, .ref z1, .ref z2, .int nv, .ref z3, .ref z4, .int ns, .ref z5, .ref z6, .ref z7, .ref z8, .int nw, .ref z9, .ref z10, .ref z11, .ref z12, .ref z13, .ref z14, .ref z15, .ref z16, .int gv, .int gs, .int gw, .int nb, .int sd, .ref z17, .ref z18, .ref z19, .ref z20, .ref z21, .int nt, .ref z22, .ref z23, .ref z24, .int nk, .int fs])), (z1, .inl (cI, 64, .inl vx)), (z2, .inl (cI, 64, .inl vy)), (z5, .inl (cI, 64, .inl fa)), (z6, .inl (cI, 64, .inl tb))] s.heap.size = A at hD hG ⊢
  have hA : ∀ q : Nat, s.heap.size ≤ q → A q := fun q h => by rw [← hAe]; exact Or.inr h
  have hS : va_S A s.heap s.heap [] := va_S.rf
  have hl := lv_entry ([.ref m0, .int x, .int y]) (n := 5) (Nat.le_of_ble_eq_true rfl)
  rw [lg_entry_eq]
  generalize (lg_sl ([.ref m0, .int x, .int y]) ++ List.replicate (5 - (lg_sl ([.ref m0, .int x, .int y])).length) Slot.unset).toArray = ls at hl ⊢
  have hl : lv_has ls 5 [(0, .ref m0), (1, .int x), (2, .int y)] := hl
  refine lv_aload_n hx hb d_Mo_isIn_0 rfl (lv_at hl 0 rfl) ?_
  refine va_get (D := D) (ci := 5) (v := .ref z5) (C := R_Mo) (T := F_Mo) (N := 36) hx hb hw ku_Mo hown hK hP 0 rfl rfl 7 (by decide) (hw _ kw_67c6da3e) (fun _ h9 => h9) rfl d_Mo_isIn_1 ?_
  refine lv_iload_n hx hb d_Mo_isIn_4 rfl (lv_at hl 2 rfl) ?_
  refine va_iald hx hb hK hP 3 0 rfl rfl (by assumption) d_Mo_isIn_5 ?_
  refine lv_istore_n (lv' := [(3, .int (fa y.toNatClampNeg)), (0, .ref m0), (1, .int x), (2, .int y)]) hx hb d_Mo_isIn_6 rfl hl (by decide) rfl (fun ls hl => ?_)
  refine lv_aload_n hx hb d_Mo_isIn_7 rfl (lv_at hl 1 rfl) ?_
  refine va_get (D := D) (ci := 5) (v := .ref z6) (C := R_Mo) (T := F_Mo) (N := 36) hx hb hw ku_Mo hown hK hP 0 rfl rfl 8 (by decide) (hw _ kw_f2a9401b) (fun _ h9 => h9) rfl d_Mo_isIn_8 ?_
  refine lv_iload_n hx hb d_Mo_isIn_11 rfl (lv_at hl 3 rfl) ?_
  refine va_iald hx hb hK hP 4 0 rfl rfl (by assumption) d_Mo_isIn_12 ?_
  refine lv_istore (lv' := [(4, .int (tb y.toNatClampNeg)), (3, .int (fa y.toNatClampNeg)), (0, .ref m0), (1, .int x), (2, .int y)]) hx hb d_Mo_isIn_13 hl (by decide) rfl (fun ls hl => ?_)
  refine lv_iload_n hx hb d_Mo_isIn_15 rfl (lv_at hl 3 rfl) ?_
  refine lv_iload_n hx hb d_Mo_isIn_16 rfl (lv_at hl 1 rfl) ?_
  refine lv_icmp_eq (tgt := 91) hx hb d_Mo_isIn_17 (by decide) (fun c_17 => ?_) (fun c_17 => ?_)
  · skip
    refine lv_iconst (v := 0) hx hb d_Mo_isIn_91 (by decide) ?_
    have hP9 := hP.sub (ws' := [(m0, .inr (5, [.int th, .ref z1, .ref z2, .int nv, .ref z3, .ref z4, .int ns, .ref z5, .ref z6, .ref z7, .ref z8, .int nw, .ref z9, .ref z10, .ref z11, .ref z12, .ref z13, .ref z14, .ref z15, .ref z16, .int gv, .int gs, .int gw, .int nb, .int sd, .ref z17, .ref z18, .ref z19, .ref z20, .ref z21, .int nt, .ref z22, .ref z23, .ref z24, .int nk, .int fs])), (z1, .inl (cI, 64, .inl vx)), (z2, .inl (cI, 64, .inl vy)), (z5, .inl (cI, 64, .inl fa)), (z6, .inl (cI, 64, .inl tb))]) [0, 1, 2, 3, 4] rfl
    have hD9 := hD.sub (ws' := [(m0, .inr (5, [.int th, .ref z1, .ref z2, .int nv, .ref z3, .ref z4, .int ns, .ref z5, .ref z6, .ref z7, .ref z8, .int nw, .ref z9, .ref z10, .ref z11, .ref z12, .ref z13, .ref z14, .ref z15, .ref z16, .int gv, .int gs, .int gw, .int nb, .int sd, .ref z17, .ref z18, .ref z19, .ref z20, .ref z21, .int nt, .ref z22, .ref z23, .ref z24, .int nk, .int fs])), (z1, .inl (cI, 64, .inl vx)), (z2, .inl (cI, 64, .inl vy)), (z5, .inl (cI, 64, .inl fa)), (z6, .inl (cI, 64, .inl tb))]) [0, 1, 2, 3, 4] (by decide) rfl
    exact W.zret (ty := .boolean) (v := 0) hx hb hr (rfl) (fun T9 hT9 hW9 => ⟨⟨0, (), rfl, by simp [sw_b, sw_isin, c_17], by rw [hT9]; exact hP9, hD9⟩, hS.F hT9⟩) hS.2.2 d_Mo_isIn_92
  · skip
    refine lv_iload_n hx hb d_Mo_isIn_20 rfl (lv_at hl 3 rfl) ?_
    refine lv_iload hx hb d_Mo_isIn_21 (lv_at hl 0 rfl) ?_
    refine lv_icmp_eq (tgt := 91) hx hb d_Mo_isIn_23 (by decide) (fun c_23 => ?_) (fun c_23 => ?_)
    · skip
      refine lv_iconst (v := 0) hx hb d_Mo_isIn_91 (by decide) ?_
      have hP9 := hP.sub (ws' := [(m0, .inr (5, [.int th, .ref z1, .ref z2, .int nv, .ref z3, .ref z4, .int ns, .ref z5, .ref z6, .ref z7, .ref z8, .int nw, .ref z9, .ref z10, .ref z11, .ref z12, .ref z13, .ref z14, .ref z15, .ref z16, .int gv, .int gs, .int gw, .int nb, .int sd, .ref z17, .ref z18, .ref z19, .ref z20, .ref z21, .int nt, .ref z22, .ref z23, .ref z24, .int nk, .int fs])), (z1, .inl (cI, 64, .inl vx)), (z2, .inl (cI, 64, .inl vy)), (z5, .inl (cI, 64, .inl fa)), (z6, .inl (cI, 64, .inl tb))]) [0, 1, 2, 3, 4] rfl
      have hD9 := hD.sub (ws' := [(m0, .inr (5, [.int th, .ref z1, .ref z2, .int nv, .ref z3, .ref z4, .int ns, .ref z5, .ref z6, .ref z7, .ref z8, .int nw, .ref z9, .ref z10, .ref z11, .ref z12, .ref z13, .ref z14, .ref z15, .ref z16, .int gv, .int gs, .int gw, .int nb, .int sd, .ref z17, .ref z18, .ref z19, .ref z20, .ref z21, .int nt, .ref z22, .ref z23, .ref z24, .int nk, .int fs])), (z1, .inl (cI, 64, .inl vx)), (z2, .inl (cI, 64, .inl vy)), (z5, .inl (cI, 64, .inl fa)), (z6, .inl (cI, 64, .inl tb))]) [0, 1, 2, 3, 4] (by decide) rfl
      exact W.zret (ty := .boolean) (v := 0) hx hb hr (rfl) (fun T9 hT9 hW9 => ⟨⟨0, (), rfl, by simp [sw_b, sw_isin, c_17, c_23], by rw [hT9]; exact hP9, hD9⟩, hS.F hT9⟩) hS.2.2 d_Mo_isIn_92
    · skip
      refine lv_aload_n hx hb d_Mo_isIn_26 rfl (lv_at hl 2 rfl) ?_
      refine lv_iload_n hx hb d_Mo_isIn_27 rfl (lv_at hl 1 rfl) ?_
      refine lv_iload hx hb d_Mo_isIn_28 (lv_at hl 0 rfl) ?_
      refine lv_iload_n hx hb d_Mo_isIn_30 rfl (lv_at hl 3 rfl) ?_
      refine sw_ki0 (wr := [(z5, .inl (cI, 64, .inl fa)), (z6, .inl (cI, 64, .inl tb))]) (va_runV (As := [.int (fa y.toNatClampNeg), .int (tb y.toNatClampNeg), .int x]) (rest := []) ⟨hx, hb, hml, hown, hw⟩ (c_Mo_side l D cI cL tq _ m0 (fa y.toNatClampNeg) (tb y.toNatClampNeg) x th z1 z2 nv z3 z4 ns z5 z6 z7 z8 nw z9 z10 z11 z12 z13 z14 z15 z16 gv gs gw nb sd z17 z18 z19 z20 z21 nt z22 z23 z24 nk fs vx vy (by assumption) (by assumption) (by assumption)) (cwV 3 hw (sw_gV kw_56467ae0 kw_1867c90e kw_e64fbd0d kw_82e72072 kc_Mo_side) rfl rfl rfl ⟨rfl, yd_Mo_side⟩ ⟨Nat.le_of_ble_eq_true rfl, Nat.le_of_ble_eq_true rfl⟩) (sw_preV hK hP hD hS hA hG [0, 1, 2] rfl (by decide) 5 0 rfl rfl) rfl rfl hl.1 rfl (lv_room (Nat.le_of_ble_eq_true rfl)) d_Mo_isIn_31 ⟨Nat.le_of_ble_eq_true rfl, Nat.le_of_ble_eq_true rfl⟩) hP hD hS hA [0, 1, 2] [3, 4] rfl rfl (by decide) (by decide) (fun r_31 _ H locs hp_31 hP hD hS => ?_)
      replace hP : va_P D sw_cl [(z5, .inl (cI, 64, .inl fa)), (z6, .inl (cI, 64, .inl tb)), (m0, .inr (5, [.int th, .ref z1, .ref z2, .int nv, .ref z3, .ref z4, .int ns, .ref z5, .ref z6, .ref z7, .ref z8, .int nw, .ref z9, .ref z10, .ref z11, .ref z12, .ref z13, .ref z14, .ref z15, .ref z16, .int gv, .int gs, .int gw, .int nb, .int sd, .ref z17, .ref z18, .ref z19, .ref z20, .ref z21, .int nt, .ref z22, .ref z23, .ref z24, .int nk, .int fs])), (z1, .inl (cI, 64, .inl vx)), (z2, .inl (cI, 64, .inl vy))] H := hP
      replace hD : va_D A [(z5, .inl (cI, 64, .inl fa)), (z6, .inl (cI, 64, .inl tb)), (m0, .inr (5, [.int th, .ref z1, .ref z2, .int nv, .ref z3, .ref z4, .int ns, .ref z5, .ref z6, .ref z7, .ref z8, .int nw, .ref z9, .ref z10, .ref z11, .ref z12, .ref z13, .ref z14, .ref z15, .ref z16, .int gv, .int gs, .int gw, .int nb, .int sd, .ref z17, .ref z18, .ref z19, .ref z20, .ref z21, .int nt, .ref z22, .ref z23, .ref z24, .int nk, .int fs])), (z1, .inl (cI, 64, .inl vx)), (z2, .inl (cI, 64, .inl vy))] := hD
      try dsimp only at hp_31
      subst hp_31
      refine lv_if_ne (tgt := 91) hx hb d_Mo_isIn_34 (by decide) (fun c_34 => ?_) (fun c_34 => ?_)
      · skip
        refine lv_iconst (v := 0) hx hb d_Mo_isIn_91 (by decide) ?_
        have hP9 := hP.sub (ws' := [(m0, .inr (5, [.int th, .ref z1, .ref z2, .int nv, .ref z3, .ref z4, .int ns, .ref z5, .ref z6, .ref z7, .ref z8, .int nw, .ref z9, .ref z10, .ref z11, .ref z12, .ref z13, .ref z14, .ref z15, .ref z16, .int gv, .int gs, .int gw, .int nb, .int sd, .ref z17, .ref z18, .ref z19, .ref z20, .ref z21, .int nt, .ref z22, .ref z23, .ref z24, .int nk, .int fs])), (z1, .inl (cI, 64, .inl vx)), (z2, .inl (cI, 64, .inl vy)), (z5, .inl (cI, 64, .inl fa)), (z6, .inl (cI, 64, .inl tb))]) [2, 3, 4, 0, 1] rfl
        have hD9 := hD.sub (ws' := [(m0, .inr (5, [.int th, .ref z1, .ref z2, .int nv, .ref z3, .ref z4, .int ns, .ref z5, .ref z6, .ref z7, .ref z8, .int nw, .ref z9, .ref z10, .ref z11, .ref z12, .ref z13, .ref z14, .ref z15, .ref z16, .int gv, .int gs, .int gw, .int nb, .int sd, .ref z17, .ref z18, .ref z19, .ref z20, .ref z21, .int nt, .ref z22, .ref z23, .ref z24, .int nk, .int fs])), (z1, .inl (cI, 64, .inl vx)), (z2, .inl (cI, 64, .inl vy)), (z5, .inl (cI, 64, .inl fa)), (z6, .inl (cI, 64, .inl tb))]) [2, 3, 4, 0, 1] (by decide) rfl
        exact W.zret (ty := .boolean) (v := 0) hx hb hr (rfl) (fun T9 hT9 hW9 => ⟨⟨0, (), rfl, by simp [sw_b, sw_isin, c_17, c_23, c_34], by rw [hT9]; exact hP9, hD9⟩, hS.F hT9⟩) hS.2.2 d_Mo_isIn_92
      · skip
        refine lv_aload_n hx hb d_Mo_isIn_37 rfl (lv_at hl 2 rfl) ?_
        refine va_get (D := D) (ci := 5) (v := .ref z1) (C := R_Mo) (T := F_Mo) (N := 36) hx hb hw ku_Mo hown hK hP 2 rfl rfl 1 (by decide) (hw _ kw_8c268fd5) (fun _ h9 => h9) rfl d_Mo_isIn_38 ?_
        refine lv_iload_n hx hb d_Mo_isIn_41 rfl (lv_at hl 3 rfl) ?_
        refine va_iald hx hb hK hP 3 0 rfl rfl (by assumption) d_Mo_isIn_42 ?_
        refine lv_aload_n hx hb d_Mo_isIn_43 rfl (lv_at hl 2 rfl) ?_
        refine va_get (D := D) (ci := 5) (v := .ref z1) (C := R_Mo) (T := F_Mo) (N := 36) hx hb hw ku_Mo hown hK hP 2 rfl rfl 1 (by decide) (hw _ kw_8c268fd5) (fun _ h9 => h9) rfl d_Mo_isIn_44 ?_
        refine lv_iload_n hx hb d_Mo_isIn_47 rfl (lv_at hl 1 rfl) ?_
        refine va_iald hx hb hK hP 3 0 rfl rfl (by assumption) d_Mo_isIn_48 ?_
        refine lv_aload_n hx hb d_Mo_isIn_49 rfl (lv_at hl 2 rfl) ?_
        refine va_get (D := D) (ci := 5) (v := .ref z1) (C := R_Mo) (T := F_Mo) (N := 36) hx hb hw ku_Mo hown hK hP 2 rfl rfl 1 (by decide) (hw _ kw_8c268fd5) (fun _ h9 => h9) rfl d_Mo_isIn_50 ?_
        refine lv_iload hx hb d_Mo_isIn_53 (lv_at hl 0 rfl) ?_
        refine va_iald hx hb hK hP 3 0 rfl rfl (by assumption) d_Mo_isIn_55 ?_
        refine sw_ki0 (wr := [(z5, .inl (cI, 64, .inl fa)), (z6, .inl (cI, 64, .inl tb)), (m0, .inr (5, [.int th, .ref z1, .ref z2, .int nv, .ref z3, .ref z4, .int ns, .ref z5, .ref z6, .ref z7, .ref z8, .int nw, .ref z9, .ref z10, .ref z11, .ref z12, .ref z13, .ref z14, .ref z15, .ref z16, .int gv, .int gs, .int gw, .int nb, .int sd, .ref z17, .ref z18, .ref z19, .ref z20, .ref z21, .int nt, .ref z22, .ref z23, .ref z24, .int nk, .int fs])), (z1, .inl (cI, 64, .inl vx)), (z2, .inl (cI, 64, .inl vy))]) (va_runS (As := [.int (vx x.toNatClampNeg), .int (vx (fa y.toNatClampNeg).toNatClampNeg), .int (vx (tb y.toNatClampNeg).toNatClampNeg)]) (rest := []) ⟨hx, hb, hml, hown, hw⟩ (c_Mo_isBetween l D cI cL tq _ (vx x.toNatClampNeg) (vx (fa y.toNatClampNeg).toNatClampNeg) (vx (tb y.toNatClampNeg).toNatClampNeg)) (cwS 3 hw (sw_gS kw_d86ddaeb kw_dde162fb kw_82e72072 kc_Mo_isBetween) rfl rfl rfl ⟨rfl, yd_Mo_isBetween⟩ ⟨Nat.le_of_ble_eq_true rfl, Nat.le_of_ble_eq_true rfl⟩) (sw_preS hK hP hD hS hA hG [] rfl (by decide)) rfl rfl hl.1 rfl (lv_room (Nat.le_of_ble_eq_true rfl)) d_Mo_isIn_56 ⟨Nat.le_of_ble_eq_true rfl, Nat.le_of_ble_eq_true rfl⟩) hP hD hS hA [] [0, 1, 2, 3, 4] rfl rfl (by decide) (by decide) (fun r_56 _ H locs hp_56 hP hD hS => ?_)
        replace hP : va_P D sw_cl [(z5, .inl (cI, 64, .inl fa)), (z6, .inl (cI, 64, .inl tb)), (m0, .inr (5, [.int th, .ref z1, .ref z2, .int nv, .ref z3, .ref z4, .int ns, .ref z5, .ref z6, .ref z7, .ref z8, .int nw, .ref z9, .ref z10, .ref z11, .ref z12, .ref z13, .ref z14, .ref z15, .ref z16, .int gv, .int gs, .int gw, .int nb, .int sd, .ref z17, .ref z18, .ref z19, .ref z20, .ref z21, .int nt, .ref z22, .ref z23, .ref z24, .int nk, .int fs])), (z1, .inl (cI, 64, .inl vx)), (z2, .inl (cI, 64, .inl vy))] H := hP
        replace hD : va_D A [(z5, .inl (cI, 64, .inl fa)), (z6, .inl (cI, 64, .inl tb)), (m0, .inr (5, [.int th, .ref z1, .ref z2, .int nv, .ref z3, .ref z4, .int ns, .ref z5, .ref z6, .ref z7, .ref z8, .int nw, .ref z9, .ref z10, .ref z11, .ref z12, .ref z13, .ref z14, .ref z15, .ref z16, .int gv, .int gs, .int gw, .int nb, .int sd, .ref z17, .ref z18, .ref z19, .ref z20, .ref z21, .int nt, .ref z22, .ref z23, .ref z24, .int nk, .int fs])), (z1, .inl (cI, 64, .inl vx)), (z2, .inl (cI, 64, .inl vy))] := hD
        try dsimp only at hp_56
        subst hp_56
        refine lv_if_eq (tgt := 91) hx hb d_Mo_isIn_59 (by decide) (fun c_59 => ?_) (fun c_59 => ?_)
        · skip
          replace c_59 := sw_b0.mp c_59
          refine lv_iconst (v := 0) hx hb d_Mo_isIn_91 (by decide) ?_
          have hP9 := hP.sub (ws' := [(m0, .inr (5, [.int th, .ref z1, .ref z2, .int nv, .ref z3, .ref z4, .int ns, .ref z5, .ref z6, .ref z7, .ref z8, .int nw, .ref z9, .ref z10, .ref z11, .ref z12, .ref z13, .ref z14, .ref z15, .ref z16, .int gv, .int gs, .int gw, .int nb, .int sd, .ref z17, .ref z18, .ref z19, .ref z20, .ref z21, .int nt, .ref z22, .ref z23, .ref z24, .int nk, .int fs])), (z1, .inl (cI, 64, .inl vx)), (z2, .inl (cI, 64, .inl vy)), (z5, .inl (cI, 64, .inl fa)), (z6, .inl (cI, 64, .inl tb))]) [2, 3, 4, 0, 1] rfl
          have hD9 := hD.sub (ws' := [(m0, .inr (5, [.int th, .ref z1, .ref z2, .int nv, .ref z3, .ref z4, .int ns, .ref z5, .ref z6, .ref z7, .ref z8, .int nw, .ref z9, .ref z10, .ref z11, .ref z12, .ref z13, .ref z14, .ref z15, .ref z16, .int gv, .int gs, .int gw, .int nb, .int sd, .ref z17, .ref z18, .ref z19, .ref z20, .ref z21, .int nt, .ref z22, .ref z23, .ref z24, .int nk, .int fs])), (z1, .inl (cI, 64, .inl vx)), (z2, .inl (cI, 64, .inl vy)), (z5, .inl (cI, 64, .inl fa)), (z6, .inl (cI, 64, .inl tb))]) [2, 3, 4, 0, 1] (by decide) rfl
          exact W.zret (ty := .boolean) (v := 0) hx hb hr (rfl) (fun T9 hT9 hW9 => ⟨⟨0, (), rfl, by simp [sw_b, sw_isin, c_17, c_23, c_34, c_59], by rw [hT9]; exact hP9, hD9⟩, hS.F hT9⟩) hS.2.2 d_Mo_isIn_92
        · skip
          replace c_59 := sw_bn.mp c_59
          refine lv_aload_n hx hb d_Mo_isIn_62 rfl (lv_at hl 2 rfl) ?_
          refine va_get (D := D) (ci := 5) (v := .ref z2) (C := R_Mo) (T := F_Mo) (N := 36) hx hb hw ku_Mo hown hK hP 2 rfl rfl 2 (by decide) (hw _ kw_c43ee8d8) (fun _ h9 => h9) rfl d_Mo_isIn_63 ?_
          refine lv_iload_n hx hb d_Mo_isIn_66 rfl (lv_at hl 3 rfl) ?_
          refine va_iald hx hb hK hP 4 0 rfl rfl (by assumption) d_Mo_isIn_67 ?_
          refine lv_aload_n hx hb d_Mo_isIn_68 rfl (lv_at hl 2 rfl) ?_
          refine va_get (D := D) (ci := 5) (v := .ref z2) (C := R_Mo) (T := F_Mo) (N := 36) hx hb hw ku_Mo hown hK hP 2 rfl rfl 2 (by decide) (hw _ kw_c43ee8d8) (fun _ h9 => h9) rfl d_Mo_isIn_69 ?_
          refine lv_iload_n hx hb d_Mo_isIn_72 rfl (lv_at hl 1 rfl) ?_
          refine va_iald hx hb hK hP 4 0 rfl rfl (by assumption) d_Mo_isIn_73 ?_
          refine lv_aload_n hx hb d_Mo_isIn_74 rfl (lv_at hl 2 rfl) ?_
          refine va_get (D := D) (ci := 5) (v := .ref z2) (C := R_Mo) (T := F_Mo) (N := 36) hx hb hw ku_Mo hown hK hP 2 rfl rfl 2 (by decide) (hw _ kw_c43ee8d8) (fun _ h9 => h9) rfl d_Mo_isIn_75 ?_
          refine lv_iload hx hb d_Mo_isIn_78 (lv_at hl 0 rfl) ?_
          refine va_iald hx hb hK hP 4 0 rfl rfl (by assumption) d_Mo_isIn_80 ?_
          refine sw_ki0 (wr := [(z5, .inl (cI, 64, .inl fa)), (z6, .inl (cI, 64, .inl tb)), (m0, .inr (5, [.int th, .ref z1, .ref z2, .int nv, .ref z3, .ref z4, .int ns, .ref z5, .ref z6, .ref z7, .ref z8, .int nw, .ref z9, .ref z10, .ref z11, .ref z12, .ref z13, .ref z14, .ref z15, .ref z16, .int gv, .int gs, .int gw, .int nb, .int sd, .ref z17, .ref z18, .ref z19, .ref z20, .ref z21, .int nt, .ref z22, .ref z23, .ref z24, .int nk, .int fs])), (z1, .inl (cI, 64, .inl vx)), (z2, .inl (cI, 64, .inl vy))]) (va_runS (As := [.int (vy x.toNatClampNeg), .int (vy (fa y.toNatClampNeg).toNatClampNeg), .int (vy (tb y.toNatClampNeg).toNatClampNeg)]) (rest := []) ⟨hx, hb, hml, hown, hw⟩ (c_Mo_isBetween l D cI cL tq _ (vy x.toNatClampNeg) (vy (fa y.toNatClampNeg).toNatClampNeg) (vy (tb y.toNatClampNeg).toNatClampNeg)) (cwS 3 hw (sw_gS kw_d86ddaeb kw_dde162fb kw_82e72072 kc_Mo_isBetween) rfl rfl rfl ⟨rfl, yd_Mo_isBetween⟩ ⟨Nat.le_of_ble_eq_true rfl, Nat.le_of_ble_eq_true rfl⟩) (sw_preS hK hP hD hS hA hG [] rfl (by decide)) rfl rfl hl.1 rfl (lv_room (Nat.le_of_ble_eq_true rfl)) d_Mo_isIn_81 ⟨Nat.le_of_ble_eq_true rfl, Nat.le_of_ble_eq_true rfl⟩) hP hD hS hA [] [0, 1, 2, 3, 4] rfl rfl (by decide) (by decide) (fun r_81 _ H locs hp_81 hP hD hS => ?_)
          replace hP : va_P D sw_cl [(z5, .inl (cI, 64, .inl fa)), (z6, .inl (cI, 64, .inl tb)), (m0, .inr (5, [.int th, .ref z1, .ref z2, .int nv, .ref z3, .ref z4, .int ns, .ref z5, .ref z6, .ref z7, .ref z8, .int nw, .ref z9, .ref z10, .ref z11, .ref z12, .ref z13, .ref z14, .ref z15, .ref z16, .int gv, .int gs, .int gw, .int nb, .int sd, .ref z17, .ref z18, .ref z19, .ref z20, .ref z21, .int nt, .ref z22, .ref z23, .ref z24, .int nk, .int fs])), (z1, .inl (cI, 64, .inl vx)), (z2, .inl (cI, 64, .inl vy))] H := hP
          replace hD : va_D A [(z5, .inl (cI, 64, .inl fa)), (z6, .inl (cI, 64, .inl tb)), (m0, .inr (5, [.int th, .ref z1, .ref z2, .int nv, .ref z3, .ref z4, .int ns, .ref z5, .ref z6, .ref z7, .ref z8, .int nw, .ref z9, .ref z10, .ref z11, .ref z12, .ref z13, .ref z14, .ref z15, .ref z16, .int gv, .int gs, .int gw, .int nb, .int sd, .ref z17, .ref z18, .ref z19, .ref z20, .ref z21, .int nt, .ref z22, .ref z23, .ref z24, .int nk, .int fs])), (z1, .inl (cI, 64, .inl vx)), (z2, .inl (cI, 64, .inl vy))] := hD
          try dsimp only at hp_81
          subst hp_81
          refine lv_if_eq (tgt := 91) hx hb d_Mo_isIn_84 (by decide) (fun c_84 => ?_) (fun c_84 => ?_)
          · skip
            replace c_84 := sw_b0.mp c_84
            refine lv_iconst (v := 0) hx hb d_Mo_isIn_91 (by decide) ?_
            have hP9 := hP.sub (ws' := [(m0, .inr (5, [.int th, .ref z1, .ref z2, .int nv, .ref z3, .ref z4, .int ns, .ref z5, .ref z6, .ref z7, .ref z8, .int nw, .ref z9, .ref z10, .ref z11, .ref z12, .ref z13, .ref z14, .ref z15, .ref z16, .int gv, .int gs, .int gw, .int nb, .int sd, .ref z17, .ref z18, .ref z19, .ref z20, .ref z21, .int nt, .ref z22, .ref z23, .ref z24, .int nk, .int fs])), (z1, .inl (cI, 64, .inl vx)), (z2, .inl (cI, 64, .inl vy)), (z5, .inl (cI, 64, .inl fa)), (z6, .inl (cI, 64, .inl tb))]) [2, 3, 4, 0, 1] rfl
            have hD9 := hD.sub (ws' := [(m0, .inr (5, [.int th, .ref z1, .ref z2, .int nv, .ref z3, .ref z4, .int ns, .ref z5, .ref z6, .ref z7, .ref z8, .int nw, .ref z9, .ref z10, .ref z11, .ref z12, .ref z13, .ref z14, .ref z15, .ref z16, .int gv, .int gs, .int gw, .int nb, .int sd, .ref z17, .ref z18, .ref z19, .ref z20, .ref z21, .int nt, .ref z22, .ref z23, .ref z24, .int nk, .int fs])), (z1, .inl (cI, 64, .inl vx)), (z2, .inl (cI, 64, .inl vy)), (z5, .inl (cI, 64, .inl fa)), (z6, .inl (cI, 64, .inl tb))]) [2, 3, 4, 0, 1] (by decide) rfl
            exact W.zret (ty := .boolean) (v := 0) hx hb hr (rfl) (fun T9 hT9 hW9 => ⟨⟨0, (), rfl, by simp [sw_b, sw_isin, c_17, c_23, c_34, c_59, c_84], by rw [hT9]; exact hP9, hD9⟩, hS.F hT9⟩) hS.2.2 d_Mo_isIn_92
          · skip
            replace c_84 := sw_bn.mp c_84
            refine lv_iconst (v := 1) hx hb d_Mo_isIn_87 (by decide) ?_
            refine lv_goto (tgt := 92) hx hb d_Mo_isIn_88 (by decide) ?_
            have hP9 := hP.sub (ws' := [(m0, .inr (5, [.int th, .ref z1, .ref z2, .int nv, .ref z3, .ref z4, .int ns, .ref z5, .ref z6, .ref z7, .ref z8, .int nw, .ref z9, .ref z10, .ref z11, .ref z12, .ref z13, .ref z14, .ref z15, .ref z16, .int gv, .int gs, .int gw, .int nb, .int sd, .ref z17, .ref z18, .ref z19, .ref z20, .ref z21, .int nt, .ref z22, .ref z23, .ref z24, .int nk, .int fs])), (z1, .inl (cI, 64, .inl vx)), (z2, .inl (cI, 64, .inl vy)), (z5, .inl (cI, 64, .inl fa)), (z6, .inl (cI, 64, .inl tb))]) [2, 3, 4, 0, 1] rfl
            have hD9 := hD.sub (ws' := [(m0, .inr (5, [.int th, .ref z1, .ref z2, .int nv, .ref z3, .ref z4, .int ns, .ref z5, .ref z6, .ref z7, .ref z8, .int nw, .ref z9, .ref z10, .ref z11, .ref z12, .ref z13, .ref z14, .ref z15, .ref z16, .int gv, .int gs, .int gw, .int nb, .int sd, .ref z17, .ref z18, .ref z19, .ref z20, .ref z21, .int nt, .ref z22, .ref z23, .ref z24, .int nk, .int fs])), (z1, .inl (cI, 64, .inl vx)), (z2, .inl (cI, 64, .inl vy)), (z5, .inl (cI, 64, .inl fa)), (z6, .inl (cI, 64, .inl tb))]) [2, 3, 4, 0, 1] (by decide) rfl
            exact W.zret (ty := .boolean) (v := 1) hx hb hr (rfl) (fun T9 hT9 hW9 => ⟨⟨1, (), rfl, by simp [sw_b, sw_isin, c_17, c_23, c_34, c_59, c_84], by rw [hT9]; exact hP9, hD9⟩, hS.F hT9⟩) hS.2.2 d_Mo_isIn_92

abbrev rm_Mo_clash : Room := { frames := 2, cells := 0, slots := 0, locals := 49 }
abbrev q_Mo_clash (D : va_G) (cI cL : ClassId) (A : Nat → Prop) (m0 : Nat) (x : Int32) (y : Int32) (th : Int32) (z1 : Nat) (z2 : Nat) (nv : Int32) (z3 : Nat) (z4 : Nat) (ns : Int32) (z5 : Nat) (z6 : Nat) (z7 : Nat) (z8 : Nat) (nw : Int32) (z9 : Nat) (z10 : Nat) (z11 : Nat) (z12 : Nat) (z13 : Nat) (z14 : Nat) (z15 : Nat) (z16 : Nat) (gv : Int32) (gs : Int32) (gw : Int32) (nb : Int32) (sd : Int32) (z17 : Nat) (z18 : Nat) (z19 : Nat) (z20 : Nat) (z21 : Nat) (nt : Int32) (z22 : Nat) (z23 : Nat) (z24 : Nat) (nk : Int32) (fs : Int32) (vx : Nat → Int32) (vy : Nat → Int32) (fa : Nat → Int32) (tb : Nat → Int32) : Array Value → State → Outcome → State → Prop := va_Qi (S := Unit) (fun (r : Int32) => fun (_ : Unit) => r = sw_b (sw_clm vx vy (fa x.toNatClampNeg) (tb x.toNatClampNeg) (fa y.toNatClampNeg) (tb y.toNatClampNeg))) (sw_R D A (fun (_ : Unit) => [(m0, .inr (5, [.int th, .ref z1, .ref z2, .int nv, .ref z3, .ref z4, .int ns, .ref z5, .ref z6, .ref z7, .ref z8, .int nw, .ref z9, .ref z10, .ref z11, .ref z12, .ref z13, .ref z14, .ref z15, .ref z16, .int gv, .int gs, .int gw, .int nb, .int sd, .ref z17, .ref z18, .ref z19, .ref z20, .ref z21, .int nt, .ref z22, .ref z23, .ref z24, .int nk, .int fs])), (z1, .inl (cI, 64, .inl vx)), (z2, .inl (cI, 64, .inl vy)), (z5, .inl (cI, 64, .inl fa)), (z6, .inl (cI, 64, .inl tb))])) A
set_option maxHeartbeats 4000000 in
set_option maxRecDepth 100000 in
theorem c_Mo_clash (l : Launch) (D : va_G) (cI cL : ClassId) (tq sz : Nat) (m0 : Nat) (x : Int32) (y : Int32) (th : Int32) (z1 : Nat) (z2 : Nat) (nv : Int32) (z3 : Nat) (z4 : Nat) (ns : Int32) (z5 : Nat) (z6 : Nat) (z7 : Nat) (z8 : Nat) (nw : Int32) (z9 : Nat) (z10 : Nat) (z11 : Nat) (z12 : Nat) (z13 : Nat) (z14 : Nat) (z15 : Nat) (z16 : Nat) (gv : Int32) (gs : Int32) (gw : Int32) (nb : Int32) (sd : Int32) (z17 : Nat) (z18 : Nat) (z19 : Nat) (z20 : Nat) (z21 : Nat) (nt : Int32) (z22 : Nat) (z23 : Nat) (z24 : Nat) (nk : Int32) (fs : Int32) (vx : Nat → Int32) (vy : Nat → Int32) (fa : Nat → Int32) (tb : Nat → Int32) (ix : vp_in x 64) (iy : vp_in y 64) (jx : vp_in (fa x.toNatClampNeg) 64) (kx : vp_in (tb x.toNatClampNeg) 64) (jy : vp_in (fa y.toNatClampNeg) 64) (ky : vp_in (tb y.toNatClampNeg) 64) : Met l y_Mo_clash w_Mo_clash rm_Mo_clash (va_Pc [.ref m0, .int x, .int y] (sw_B D cI cL tq sz [(m0, .inr (5, [.int th, .ref z1, .ref z2, .int nv, .ref z3, .ref z4, .int ns, .ref z5, .ref z6, .ref z7, .ref z8, .int nw, .ref z9, .ref z10, .ref z11, .ref z12, .ref z13, .ref z14, .ref z15, .ref z16, .int gv, .int gs, .int gw, .int nb, .int sd, .ref z17, .ref z18, .ref z19, .ref z20, .ref z21, .int nt, .ref z22, .ref z23, .ref z24, .int nk, .int fs])), (z1, .inl (cI, 64, .inl vx)), (z2, .inl (cI, 64, .inl vy)), (z5, .inl (cI, 64, .inl fa)), (z6, .inl (cI, 64, .inl tb))])) (q_Mo_clash D cI cL (va_A [(m0, .inr (5, [.int th, .ref z1, .ref z2, .int nv, .ref z3, .ref z4, .int ns, .ref z5, .ref z6, .ref z7, .ref z8, .int nw, .ref z9, .ref z10, .ref z11, .ref z12, .ref z13, .ref z14, .ref z15, .ref z16, .int gv, .int gs, .int gw, .int nb, .int sd, .ref z17, .ref z18, .ref z19, .ref z20, .ref z21, .int nt, .ref z22, .ref z23, .ref z24, .int nk, .int fs])), (z1, .inl (cI, 64, .inl vx)), (z2, .inl (cI, 64, .inl vy)), (z5, .inl (cI, 64, .inl fa)), (z6, .inl (cI, 64, .inl tb))] sz) m0 x y th z1 z2 nv z3 z4 ns z5 z6 z7 z8 nw z9 z10 z11 z12 z13 z14 z15 z16 gv gs gw nb sd z17 z18 z19 z20 z21 nt z22 z23 z24 nk fs vx vy fa tb) 0 0 (va_A [(m0, .inr (5, [.int th, .ref z1, .ref z2, .int nv, .ref z3, .ref z4, .int ns, .ref z5, .ref z6, .ref z7, .ref z8, .int nw, .ref z9, .ref z10, .ref z11, .ref z12, .ref z13, .ref z14, .ref z15, .ref z16, .int gv, .int gs, .int gw, .int nb, .int sd, .ref z17, .ref z18, .ref z19, .ref z20, .ref z21, .int nt, .ref z22, .ref z23, .ref z24, .int nk, .int fs])), (z1, .inl (cI, 64, .inl vx)), (z2, .inl (cI, 64, .inl vy)), (z5, .inl (cI, 64, .inl fa)), (z6, .inl (cI, 64, .inl tb))] sz) := by
  refine Met.ofW (cc := b_Mo_clash) (maxL := 7) (ret := (some .boolean)) (by decide) rfl ?_
  intro mp me s mm args below meth mk s₁ B hml hv
  obtain ⟨rfl, hsz, hP, hK, hD0, hG⟩ := hv
  have hx := B.exec
  have hb := B.bytes
  have hr := B.returns
  have hts := atoms_spec (ws := w_Mo_clash) B.pre
  have hw : ∀ w ∈ sw_words, w.before _ s = true := fun w h => hts w (List.mem_cons_of_mem _ h)
  have hown : s.vm.findClass R_Mo = some mm.cls := findClass_of_methodNamed B.named
  have hlocks := B.notSynchronized
  subst hsz
  have hD := hD0.self (sz := s.heap.size)
  generalize hAe : va_A [(m0, .inr (5, [.int th, .ref z1, .ref z2, .int nv, .ref z3, .ref z4, .int ns, .ref z5, .ref z6, .ref z7, .ref z8, .int nw, .ref z9, .ref z10, .ref z11, .ref z12, .ref z13, .ref z14, .ref z15, .ref z16, .int gv, .int gs, .int gw, .int nb, .int sd, .ref z17, .ref z18, .ref z19, .ref z20, .ref z21, .int nt, .ref z22, .ref z23, .ref z24, .int nk, .int fs])), (z1, .inl (cI, 64, .inl vx)), (z2, .inl (cI, 64, .inl vy)), (z5, .inl (cI, 64, .inl fa)), (z6, .inl (cI, 64, .inl tb))] s.heap.size = A at hD hG ⊢
  have hA : ∀ q : Nat, s.heap.size ≤ q → A q := fun q h => by rw [← hAe]; exact Or.inr h
  have hS : va_S A s.heap s.heap [] := va_S.rf
  have hl := lv_entry ([.ref m0, .int x, .int y]) (n := 7) (Nat.le_of_ble_eq_true rfl)
  rw [lg_entry_eq]
  generalize (lg_sl ([.ref m0, .int x, .int y]) ++ List.replicate (7 - (lg_sl ([.ref m0, .int x, .int y])).length) Slot.unset).toArray = ls at hl ⊢
  have hl : lv_has ls 7 [(0, .ref m0), (1, .int x), (2, .int y)] := hl
  refine lv_aload_n hx hb d_Mo_clash_0 rfl (lv_at hl 0 rfl) ?_
  refine va_get (D := D) (ci := 5) (v := .ref z5) (C := R_Mo) (T := F_Mo) (N := 36) hx hb hw ku_Mo hown hK hP 0 rfl rfl 7 (by decide) (hw _ kw_67c6da3e) (fun _ h9 => h9) rfl d_Mo_clash_1 ?_
  refine lv_iload_n hx hb d_Mo_clash_4 rfl (lv_at hl 1 rfl) ?_
  refine va_iald hx hb hK hP 3 0 rfl rfl (by assumption) d_Mo_clash_5 ?_
  refine lv_istore_n (lv' := [(3, .int (fa x.toNatClampNeg)), (0, .ref m0), (1, .int x), (2, .int y)]) hx hb d_Mo_clash_6 rfl hl (by decide) rfl (fun ls hl => ?_)
  refine lv_aload_n hx hb d_Mo_clash_7 rfl (lv_at hl 1 rfl) ?_
  refine va_get (D := D) (ci := 5) (v := .ref z6) (C := R_Mo) (T := F_Mo) (N := 36) hx hb hw ku_Mo hown hK hP 0 rfl rfl 8 (by decide) (hw _ kw_f2a9401b) (fun _ h9 => h9) rfl d_Mo_clash_8 ?_
  refine lv_iload_n hx hb d_Mo_clash_11 rfl (lv_at hl 2 rfl) ?_
  refine va_iald hx hb hK hP 4 0 rfl rfl (by assumption) d_Mo_clash_12 ?_
  refine lv_istore (lv' := [(4, .int (tb x.toNatClampNeg)), (3, .int (fa x.toNatClampNeg)), (0, .ref m0), (1, .int x), (2, .int y)]) hx hb d_Mo_clash_13 hl (by decide) rfl (fun ls hl => ?_)
  refine lv_aload_n hx hb d_Mo_clash_15 rfl (lv_at hl 2 rfl) ?_
  refine va_get (D := D) (ci := 5) (v := .ref z5) (C := R_Mo) (T := F_Mo) (N := 36) hx hb hw ku_Mo hown hK hP 0 rfl rfl 7 (by decide) (hw _ kw_67c6da3e) (fun _ h9 => h9) rfl d_Mo_clash_16 ?_
  refine lv_iload_n hx hb d_Mo_clash_19 rfl (lv_at hl 4 rfl) ?_
  refine va_iald hx hb hK hP 3 0 rfl rfl (by assumption) d_Mo_clash_20 ?_
  refine lv_istore (lv' := [(5, .int (fa y.toNatClampNeg)), (4, .int (tb x.toNatClampNeg)), (3, .int (fa x.toNatClampNeg)), (0, .ref m0), (1, .int x), (2, .int y)]) hx hb d_Mo_clash_21 hl (by decide) rfl (fun ls hl => ?_)
  refine lv_aload_n hx hb d_Mo_clash_23 rfl (lv_at hl 3 rfl) ?_
  refine va_get (D := D) (ci := 5) (v := .ref z6) (C := R_Mo) (T := F_Mo) (N := 36) hx hb hw ku_Mo hown hK hP 0 rfl rfl 8 (by decide) (hw _ kw_f2a9401b) (fun _ h9 => h9) rfl d_Mo_clash_24 ?_
  refine lv_iload_n hx hb d_Mo_clash_27 rfl (lv_at hl 5 rfl) ?_
  refine va_iald hx hb hK hP 4 0 rfl rfl (by assumption) d_Mo_clash_28 ?_
  refine lv_istore (lv' := [(6, .int (tb y.toNatClampNeg)), (5, .int (fa y.toNatClampNeg)), (4, .int (tb x.toNatClampNeg)), (3, .int (fa x.toNatClampNeg)), (0, .ref m0), (1, .int x), (2, .int y)]) hx hb d_Mo_clash_29 hl (by decide) rfl (fun ls hl => ?_)
  have jn_57 : ∀ (H : Heap) (locs : List Loc) (ls : Array Slot), (((decide ((fa x.toNatClampNeg) = (fa y.toNatClampNeg)) && decide ((tb x.toNatClampNeg) = (tb y.toNatClampNeg))) || (decide ((fa x.toNatClampNeg) = (tb y.toNatClampNeg)) && decide ((tb x.toNatClampNeg) = (fa y.toNatClampNeg)))) = false) → va_P D sw_cl [(m0, .inr (5, [.int th, .ref z1, .ref z2, .int nv, .ref z3, .ref z4, .int ns, .ref z5, .ref z6, .ref z7, .ref z8, .int nw, .ref z9, .ref z10, .ref z11, .ref z12, .ref z13, .ref z14, .ref z15, .ref z16, .int gv, .int gs, .int gw, .int nb, .int sd, .ref z17, .ref z18, .ref z19, .ref z20, .ref z21, .int nt, .ref z22, .ref z23, .ref z24, .int nk, .int fs])), (z1, .inl (cI, 64, .inl vx)), (z2, .inl (cI, 64, .inl vy)), (z5, .inl (cI, 64, .inl fa)), (z6, .inl (cI, 64, .inl tb))] H → va_D A [(m0, .inr (5, [.int th, .ref z1, .ref z2, .int nv, .ref z3, .ref z4, .int ns, .ref z5, .ref z6, .ref z7, .ref z8, .int nw, .ref z9, .ref z10, .ref z11, .ref z12, .ref z13, .ref z14, .ref z15, .ref z16, .int gv, .int gs, .int gw, .int nb, .int sd, .ref z17, .ref z18, .ref z19, .ref z20, .ref z21, .int nt, .ref z22, .ref z23, .ref z24, .int nk, .int fs])), (z1, .inl (cI, 64, .inl vx)), (z2, .inl (cI, 64, .inl vy)), (z5, .inl (cI, 64, .inl fa)), (z6, .inl (cI, 64, .inl tb))] → va_S A s.heap H locs → lv_has ls 7 [(0, .ref m0), (1, .int x), (2, .int y), (3, .int (fa x.toNatClampNeg)), (4, .int (tb x.toNatClampNeg)), (5, .int (fa y.toNatClampNeg)), (6, .int (tb y.toNatClampNeg))] → W mp l me (headSpec w_Mo_clash rm_Mo_clash).room s mm ([.ref m0, .int x, .int y]).toArray below meth mk H locs 0 0 (MQ below (q_Mo_clash D cI cL A m0 x y th z1 z2 nv z3 z4 ns z5 z6 z7 z8 nw z9 z10 z11 z12 z13 z14 z15 z16 gv gs gw nb sd z17 z18 z19 z20 z21 nt z22 z23 z24 nk fs vx vy fa tb) ([.ref m0, .int x, .int y]).toArray s 0 0 A) (F0 mm 57 ls []) := by
    intro  H locs ls hj hP hD hS hl
    refine lv_aload_n hx hb d_Mo_clash_57 rfl (lv_at hl 0 rfl) ?_
    refine lv_iload_n hx hb d_Mo_clash_58 rfl (lv_at hl 3 rfl) ?_
    refine lv_iload_n hx hb d_Mo_clash_59 rfl (lv_at hl 2 rfl) ?_
    refine sw_ki0 (wr := []) (va_runV (As := [.int (fa x.toNatClampNeg), .int y]) (rest := []) ⟨hx, hb, hml, hown, hw⟩ (c_Mo_isIn l D cI cL tq _ m0 (fa x.toNatClampNeg) y th z1 z2 nv z3 z4 ns z5 z6 z7 z8 nw z9 z10 z11 z12 z13 z14 z15 z16 gv gs gw nb sd z17 z18 z19 z20 z21 nt z22 z23 z24 nk fs vx vy fa tb (by assumption) (by assumption) (by assumption) (by assumption)) (cwV 2 hw (sw_gV kw_0c629d74 kw_818adb34 kw_e0c0d46e kw_82e72072 kc_Mo_isIn) rfl rfl rfl ⟨rfl, yd_Mo_isIn⟩ ⟨Nat.le_of_ble_eq_true rfl, Nat.le_of_ble_eq_true rfl⟩) (sw_preV hK hP hD hS hA hG [0, 1, 2, 3, 4] rfl (by decide) 5 0 rfl rfl) rfl rfl hl.1 rfl (lv_room (Nat.le_of_ble_eq_true rfl)) d_Mo_clash_60 ⟨Nat.le_of_ble_eq_true rfl, Nat.le_of_ble_eq_true rfl⟩) hP hD hS hA [0, 1, 2, 3, 4] [] rfl rfl (by decide) (by decide) (fun r_60 _ H locs hp_60 hP hD hS => ?_)
    replace hP : va_P D sw_cl [(m0, .inr (5, [.int th, .ref z1, .ref z2, .int nv, .ref z3, .ref z4, .int ns, .ref z5, .ref z6, .ref z7, .ref z8, .int nw, .ref z9, .ref z10, .ref z11, .ref z12, .ref z13, .ref z14, .ref z15, .ref z16, .int gv, .int gs, .int gw, .int nb, .int sd, .ref z17, .ref z18, .ref z19, .ref z20, .ref z21, .int nt, .ref z22, .ref z23, .ref z24, .int nk, .int fs])), (z1, .inl (cI, 64, .inl vx)), (z2, .inl (cI, 64, .inl vy)), (z5, .inl (cI, 64, .inl fa)), (z6, .inl (cI, 64, .inl tb))] H := hP
    replace hD : va_D A [(m0, .inr (5, [.int th, .ref z1, .ref z2, .int nv, .ref z3, .ref z4, .int ns, .ref z5, .ref z6, .ref z7, .ref z8, .int nw, .ref z9, .ref z10, .ref z11, .ref z12, .ref z13, .ref z14, .ref z15, .ref z16, .int gv, .int gs, .int gw, .int nb, .int sd, .ref z17, .ref z18, .ref z19, .ref z20, .ref z21, .int nt, .ref z22, .ref z23, .ref z24, .int nk, .int fs])), (z1, .inl (cI, 64, .inl vx)), (z2, .inl (cI, 64, .inl vy)), (z5, .inl (cI, 64, .inl fa)), (z6, .inl (cI, 64, .inl tb))] := hD
    try dsimp only at hp_60
    subst hp_60
    refine lv_if_ne (tgt := 96) hx hb d_Mo_clash_63 (by decide) (fun c_63 => ?_) (fun c_63 => ?_)
    · skip
      replace c_63 := sw_bn.mp c_63
      refine lv_iconst (v := 1) hx hb d_Mo_clash_96 (by decide) ?_
      have hP9 := hP.sub (ws' := [(m0, .inr (5, [.int th, .ref z1, .ref z2, .int nv, .ref z3, .ref z4, .int ns, .ref z5, .ref z6, .ref z7, .ref z8, .int nw, .ref z9, .ref z10, .ref z11, .ref z12, .ref z13, .ref z14, .ref z15, .ref z16, .int gv, .int gs, .int gw, .int nb, .int sd, .ref z17, .ref z18, .ref z19, .ref z20, .ref z21, .int nt, .ref z22, .ref z23, .ref z24, .int nk, .int fs])), (z1, .inl (cI, 64, .inl vx)), (z2, .inl (cI, 64, .inl vy)), (z5, .inl (cI, 64, .inl fa)), (z6, .inl (cI, 64, .inl tb))]) [0, 1, 2, 3, 4] rfl
      have hD9 := hD.sub (ws' := [(m0, .inr (5, [.int th, .ref z1, .ref z2, .int nv, .ref z3, .ref z4, .int ns, .ref z5, .ref z6, .ref z7, .ref z8, .int nw, .ref z9, .ref z10, .ref z11, .ref z12, .ref z13, .ref z14, .ref z15, .ref z16, .int gv, .int gs, .int gw, .int nb, .int sd, .ref z17, .ref z18, .ref z19, .ref z20, .ref z21, .int nt, .ref z22, .ref z23, .ref z24, .int nk, .int fs])), (z1, .inl (cI, 64, .inl vx)), (z2, .inl (cI, 64, .inl vy)), (z5, .inl (cI, 64, .inl fa)), (z6, .inl (cI, 64, .inl tb))]) [0, 1, 2, 3, 4] (by decide) rfl
      exact W.zret (ty := .boolean) (v := 1) hx hb hr (rfl) (fun T9 hT9 hW9 => ⟨⟨1, (), rfl, by first | (rw [sw_clm_in hj (by simp [hj, c_63])]; rfl) | (rw [sw_clm_tw (sw_tw1 (by first | exact Or.inl ⟨c_34, c_41⟩ | exact Or.inr ⟨c_47, c_54⟩))]; rfl), by rw [hT9]; exact hP9, hD9⟩, hS.F hT9⟩) hS.2.2 d_Mo_clash_97
    · skip
      replace c_63 := sw_b0.mp c_63
      refine lv_aload_n hx hb d_Mo_clash_66 rfl (lv_at hl 0 rfl) ?_
      refine lv_iload hx hb d_Mo_clash_67 (lv_at hl 4 rfl) ?_
      refine lv_iload_n hx hb d_Mo_clash_69 rfl (lv_at hl 2 rfl) ?_
      refine sw_ki0 (wr := []) (va_runV (As := [.int (tb x.toNatClampNeg), .int y]) (rest := []) ⟨hx, hb, hml, hown, hw⟩ (c_Mo_isIn l D cI cL tq _ m0 (tb x.toNatClampNeg) y th z1 z2 nv z3 z4 ns z5 z6 z7 z8 nw z9 z10 z11 z12 z13 z14 z15 z16 gv gs gw nb sd z17 z18 z19 z20 z21 nt z22 z23 z24 nk fs vx vy fa tb (by assumption) (by assumption) (by assumption) (by assumption)) (cwV 2 hw (sw_gV kw_0c629d74 kw_818adb34 kw_e0c0d46e kw_82e72072 kc_Mo_isIn) rfl rfl rfl ⟨rfl, yd_Mo_isIn⟩ ⟨Nat.le_of_ble_eq_true rfl, Nat.le_of_ble_eq_true rfl⟩) (sw_preV hK hP hD hS hA hG [0, 1, 2, 3, 4] rfl (by decide) 5 0 rfl rfl) rfl rfl hl.1 rfl (lv_room (Nat.le_of_ble_eq_true rfl)) d_Mo_clash_70 ⟨Nat.le_of_ble_eq_true rfl, Nat.le_of_ble_eq_true rfl⟩) hP hD hS hA [0, 1, 2, 3, 4] [] rfl rfl (by decide) (by decide) (fun r_70 _ H locs hp_70 hP hD hS => ?_)
      replace hP : va_P D sw_cl [(m0, .inr (5, [.int th, .ref z1, .ref z2, .int nv, .ref z3, .ref z4, .int ns, .ref z5, .ref z6, .ref z7, .ref z8, .int nw, .ref z9, .ref z10, .ref z11, .ref z12, .ref z13, .ref z14, .ref z15, .ref z16, .int gv, .int gs, .int gw, .int nb, .int sd, .ref z17, .ref z18, .ref z19, .ref z20, .ref z21, .int nt, .ref z22, .ref z23, .ref z24, .int nk, .int fs])), (z1, .inl (cI, 64, .inl vx)), (z2, .inl (cI, 64, .inl vy)), (z5, .inl (cI, 64, .inl fa)), (z6, .inl (cI, 64, .inl tb))] H := hP
      replace hD : va_D A [(m0, .inr (5, [.int th, .ref z1, .ref z2, .int nv, .ref z3, .ref z4, .int ns, .ref z5, .ref z6, .ref z7, .ref z8, .int nw, .ref z9, .ref z10, .ref z11, .ref z12, .ref z13, .ref z14, .ref z15, .ref z16, .int gv, .int gs, .int gw, .int nb, .int sd, .ref z17, .ref z18, .ref z19, .ref z20, .ref z21, .int nt, .ref z22, .ref z23, .ref z24, .int nk, .int fs])), (z1, .inl (cI, 64, .inl vx)), (z2, .inl (cI, 64, .inl vy)), (z5, .inl (cI, 64, .inl fa)), (z6, .inl (cI, 64, .inl tb))] := hD
      try dsimp only at hp_70
      subst hp_70
      refine lv_if_ne (tgt := 96) hx hb d_Mo_clash_73 (by decide) (fun c_73 => ?_) (fun c_73 => ?_)
      · skip
        replace c_73 := sw_bn.mp c_73
        refine lv_iconst (v := 1) hx hb d_Mo_clash_96 (by decide) ?_
        have hP9 := hP.sub (ws' := [(m0, .inr (5, [.int th, .ref z1, .ref z2, .int nv, .ref z3, .ref z4, .int ns, .ref z5, .ref z6, .ref z7, .ref z8, .int nw, .ref z9, .ref z10, .ref z11, .ref z12, .ref z13, .ref z14, .ref z15, .ref z16, .int gv, .int gs, .int gw, .int nb, .int sd, .ref z17, .ref z18, .ref z19, .ref z20, .ref z21, .int nt, .ref z22, .ref z23, .ref z24, .int nk, .int fs])), (z1, .inl (cI, 64, .inl vx)), (z2, .inl (cI, 64, .inl vy)), (z5, .inl (cI, 64, .inl fa)), (z6, .inl (cI, 64, .inl tb))]) [0, 1, 2, 3, 4] rfl
        have hD9 := hD.sub (ws' := [(m0, .inr (5, [.int th, .ref z1, .ref z2, .int nv, .ref z3, .ref z4, .int ns, .ref z5, .ref z6, .ref z7, .ref z8, .int nw, .ref z9, .ref z10, .ref z11, .ref z12, .ref z13, .ref z14, .ref z15, .ref z16, .int gv, .int gs, .int gw, .int nb, .int sd, .ref z17, .ref z18, .ref z19, .ref z20, .ref z21, .int nt, .ref z22, .ref z23, .ref z24, .int nk, .int fs])), (z1, .inl (cI, 64, .inl vx)), (z2, .inl (cI, 64, .inl vy)), (z5, .inl (cI, 64, .inl fa)), (z6, .inl (cI, 64, .inl tb))]) [0, 1, 2, 3, 4] (by decide) rfl
        exact W.zret (ty := .boolean) (v := 1) hx hb hr (rfl) (fun T9 hT9 hW9 => ⟨⟨1, (), rfl, by first | (rw [sw_clm_in hj (by simp [hj, c_63, c_73])]; rfl) | (rw [sw_clm_tw (sw_tw1 (by first | exact Or.inl ⟨c_34, c_41⟩ | exact Or.inr ⟨c_47, c_54⟩))]; rfl), by rw [hT9]; exact hP9, hD9⟩, hS.F hT9⟩) hS.2.2 d_Mo_clash_97
      · skip
        replace c_73 := sw_b0.mp c_73
        refine lv_aload_n hx hb d_Mo_clash_76 rfl (lv_at hl 0 rfl) ?_
        refine lv_iload hx hb d_Mo_clash_77 (lv_at hl 5 rfl) ?_
        refine lv_iload_n hx hb d_Mo_clash_79 rfl (lv_at hl 1 rfl) ?_
        refine sw_ki0 (wr := []) (va_runV (As := [.int (fa y.toNatClampNeg), .int x]) (rest := []) ⟨hx, hb, hml, hown, hw⟩ (c_Mo_isIn l D cI cL tq _ m0 (fa y.toNatClampNeg) x th z1 z2 nv z3 z4 ns z5 z6 z7 z8 nw z9 z10 z11 z12 z13 z14 z15 z16 gv gs gw nb sd z17 z18 z19 z20 z21 nt z22 z23 z24 nk fs vx vy fa tb (by assumption) (by assumption) (by assumption) (by assumption)) (cwV 2 hw (sw_gV kw_0c629d74 kw_818adb34 kw_e0c0d46e kw_82e72072 kc_Mo_isIn) rfl rfl rfl ⟨rfl, yd_Mo_isIn⟩ ⟨Nat.le_of_ble_eq_true rfl, Nat.le_of_ble_eq_true rfl⟩) (sw_preV hK hP hD hS hA hG [0, 1, 2, 3, 4] rfl (by decide) 5 0 rfl rfl) rfl rfl hl.1 rfl (lv_room (Nat.le_of_ble_eq_true rfl)) d_Mo_clash_80 ⟨Nat.le_of_ble_eq_true rfl, Nat.le_of_ble_eq_true rfl⟩) hP hD hS hA [0, 1, 2, 3, 4] [] rfl rfl (by decide) (by decide) (fun r_80 _ H locs hp_80 hP hD hS => ?_)
        replace hP : va_P D sw_cl [(m0, .inr (5, [.int th, .ref z1, .ref z2, .int nv, .ref z3, .ref z4, .int ns, .ref z5, .ref z6, .ref z7, .ref z8, .int nw, .ref z9, .ref z10, .ref z11, .ref z12, .ref z13, .ref z14, .ref z15, .ref z16, .int gv, .int gs, .int gw, .int nb, .int sd, .ref z17, .ref z18, .ref z19, .ref z20, .ref z21, .int nt, .ref z22, .ref z23, .ref z24, .int nk, .int fs])), (z1, .inl (cI, 64, .inl vx)), (z2, .inl (cI, 64, .inl vy)), (z5, .inl (cI, 64, .inl fa)), (z6, .inl (cI, 64, .inl tb))] H := hP
        replace hD : va_D A [(m0, .inr (5, [.int th, .ref z1, .ref z2, .int nv, .ref z3, .ref z4, .int ns, .ref z5, .ref z6, .ref z7, .ref z8, .int nw, .ref z9, .ref z10, .ref z11, .ref z12, .ref z13, .ref z14, .ref z15, .ref z16, .int gv, .int gs, .int gw, .int nb, .int sd, .ref z17, .ref z18, .ref z19, .ref z20, .ref z21, .int nt, .ref z22, .ref z23, .ref z24, .int nk, .int fs])), (z1, .inl (cI, 64, .inl vx)), (z2, .inl (cI, 64, .inl vy)), (z5, .inl (cI, 64, .inl fa)), (z6, .inl (cI, 64, .inl tb))] := hD
        try dsimp only at hp_80
        subst hp_80
        refine lv_if_ne (tgt := 96) hx hb d_Mo_clash_83 (by decide) (fun c_83 => ?_) (fun c_83 => ?_)
        · skip
          replace c_83 := sw_bn.mp c_83
          refine lv_iconst (v := 1) hx hb d_Mo_clash_96 (by decide) ?_
          have hP9 := hP.sub (ws' := [(m0, .inr (5, [.int th, .ref z1, .ref z2, .int nv, .ref z3, .ref z4, .int ns, .ref z5, .ref z6, .ref z7, .ref z8, .int nw, .ref z9, .ref z10, .ref z11, .ref z12, .ref z13, .ref z14, .ref z15, .ref z16, .int gv, .int gs, .int gw, .int nb, .int sd, .ref z17, .ref z18, .ref z19, .ref z20, .ref z21, .int nt, .ref z22, .ref z23, .ref z24, .int nk, .int fs])), (z1, .inl (cI, 64, .inl vx)), (z2, .inl (cI, 64, .inl vy)), (z5, .inl (cI, 64, .inl fa)), (z6, .inl (cI, 64, .inl tb))]) [0, 1, 2, 3, 4] rfl
          have hD9 := hD.sub (ws' := [(m0, .inr (5, [.int th, .ref z1, .ref z2, .int nv, .ref z3, .ref z4, .int ns, .ref z5, .ref z6, .ref z7, .ref z8, .int nw, .ref z9, .ref z10, .ref z11, .ref z12, .ref z13, .ref z14, .ref z15, .ref z16, .int gv, .int gs, .int gw, .int nb, .int sd, .ref z17, .ref z18, .ref z19, .ref z20, .ref z21, .int nt, .ref z22, .ref z23, .ref z24, .int nk, .int fs])), (z1, .inl (cI, 64, .inl vx)), (z2, .inl (cI, 64, .inl vy)), (z5, .inl (cI, 64, .inl fa)), (z6, .inl (cI, 64, .inl tb))]) [0, 1, 2, 3, 4] (by decide) rfl
          exact W.zret (ty := .boolean) (v := 1) hx hb hr (rfl) (fun T9 hT9 hW9 => ⟨⟨1, (), rfl, by first | (rw [sw_clm_in hj (by simp [hj, c_63, c_73, c_83])]; rfl) | (rw [sw_clm_tw (sw_tw1 (by first | exact Or.inl ⟨c_34, c_41⟩ | exact Or.inr ⟨c_47, c_54⟩))]; rfl), by rw [hT9]; exact hP9, hD9⟩, hS.F hT9⟩) hS.2.2 d_Mo_clash_97
        · skip
          replace c_83 := sw_b0.mp c_83
          refine lv_aload_n hx hb d_Mo_clash_86 rfl (lv_at hl 0 rfl) ?_
          refine lv_iload hx hb d_Mo_clash_87 (lv_at hl 6 rfl) ?_
          refine lv_iload_n hx hb d_Mo_clash_89 rfl (lv_at hl 1 rfl) ?_
          refine sw_ki0 (wr := []) (va_runV (As := [.int (tb y.toNatClampNeg), .int x]) (rest := []) ⟨hx, hb, hml, hown, hw⟩ (c_Mo_isIn l D cI cL tq _ m0 (tb y.toNatClampNeg) x th z1 z2 nv z3 z4 ns z5 z6 z7 z8 nw z9 z10 z11 z12 z13 z14 z15 z16 gv gs gw nb sd z17 z18 z19 z20 z21 nt z22 z23 z24 nk fs vx vy fa tb (by assumption) (by assumption) (by assumption) (by assumption)) (cwV 2 hw (sw_gV kw_0c629d74 kw_818adb34 kw_e0c0d46e kw_82e72072 kc_Mo_isIn) rfl rfl rfl ⟨rfl, yd_Mo_isIn⟩ ⟨Nat.le_of_ble_eq_true rfl, Nat.le_of_ble_eq_true rfl⟩) (sw_preV hK hP hD hS hA hG [0, 1, 2, 3, 4] rfl (by decide) 5 0 rfl rfl) rfl rfl hl.1 rfl (lv_room (Nat.le_of_ble_eq_true rfl)) d_Mo_clash_90 ⟨Nat.le_of_ble_eq_true rfl, Nat.le_of_ble_eq_true rfl⟩) hP hD hS hA [0, 1, 2, 3, 4] [] rfl rfl (by decide) (by decide) (fun r_90 _ H locs hp_90 hP hD hS => ?_)
          replace hP : va_P D sw_cl [(m0, .inr (5, [.int th, .ref z1, .ref z2, .int nv, .ref z3, .ref z4, .int ns, .ref z5, .ref z6, .ref z7, .ref z8, .int nw, .ref z9, .ref z10, .ref z11, .ref z12, .ref z13, .ref z14, .ref z15, .ref z16, .int gv, .int gs, .int gw, .int nb, .int sd, .ref z17, .ref z18, .ref z19, .ref z20, .ref z21, .int nt, .ref z22, .ref z23, .ref z24, .int nk, .int fs])), (z1, .inl (cI, 64, .inl vx)), (z2, .inl (cI, 64, .inl vy)), (z5, .inl (cI, 64, .inl fa)), (z6, .inl (cI, 64, .inl tb))] H := hP
          replace hD : va_D A [(m0, .inr (5, [.int th, .ref z1, .ref z2, .int nv, .ref z3, .ref z4, .int ns, .ref z5, .ref z6, .ref z7, .ref z8, .int nw, .ref z9, .ref z10, .ref z11, .ref z12, .ref z13, .ref z14, .ref z15, .ref z16, .int gv, .int gs, .int gw, .int nb, .int sd, .ref z17, .ref z18, .ref z19, .ref z20, .ref z21, .int nt, .ref z22, .ref z23, .ref z24, .int nk, .int fs])), (z1, .inl (cI, 64, .inl vx)), (z2, .inl (cI, 64, .inl vy)), (z5, .inl (cI, 64, .inl fa)), (z6, .inl (cI, 64, .inl tb))] := hD
          try dsimp only at hp_90
          subst hp_90
          refine lv_if_eq (tgt := 98) hx hb d_Mo_clash_93 (by decide) (fun c_93 => ?_) (fun c_93 => ?_)
          · skip
            replace c_93 := sw_b0.mp c_93
            refine lv_aload_n hx hb d_Mo_clash_98 rfl (lv_at hl 0 rfl) ?_
            refine lv_iload_n hx hb d_Mo_clash_99 rfl (lv_at hl 3 rfl) ?_
            refine lv_iload hx hb d_Mo_clash_100 (lv_at hl 4 rfl) ?_
            refine lv_iload hx hb d_Mo_clash_102 (lv_at hl 5 rfl) ?_
            refine sw_ki0 (wr := [(z5, .inl (cI, 64, .inl fa)), (z6, .inl (cI, 64, .inl tb))]) (va_runV (As := [.int (fa x.toNatClampNeg), .int (tb x.toNatClampNeg), .int (fa y.toNatClampNeg)]) (rest := []) ⟨hx, hb, hml, hown, hw⟩ (c_Mo_side l D cI cL tq _ m0 (fa x.toNatClampNeg) (tb x.toNatClampNeg) (fa y.toNatClampNeg) th z1 z2 nv z3 z4 ns z5 z6 z7 z8 nw z9 z10 z11 z12 z13 z14 z15 z16 gv gs gw nb sd z17 z18 z19 z20 z21 nt z22 z23 z24 nk fs vx vy (by assumption) (by assumption) (by assumption)) (cwV 3 hw (sw_gV kw_56467ae0 kw_1867c90e kw_e64fbd0d kw_82e72072 kc_Mo_side) rfl rfl rfl ⟨rfl, yd_Mo_side⟩ ⟨Nat.le_of_ble_eq_true rfl, Nat.le_of_ble_eq_true rfl⟩) (sw_preV hK hP hD hS hA hG [0, 1, 2] rfl (by decide) 5 0 rfl rfl) rfl rfl hl.1 rfl (lv_room (Nat.le_of_ble_eq_true rfl)) d_Mo_clash_104 ⟨Nat.le_of_ble_eq_true rfl, Nat.le_of_ble_eq_true rfl⟩) hP hD hS hA [0, 1, 2] [3, 4] rfl rfl (by decide) (by decide) (fun r_104 _ H locs hp_104 hP hD hS => ?_)
            replace hP : va_P D sw_cl [(z5, .inl (cI, 64, .inl fa)), (z6, .inl (cI, 64, .inl tb)), (m0, .inr (5, [.int th, .ref z1, .ref z2, .int nv, .ref z3, .ref z4, .int ns, .ref z5, .ref z6, .ref z7, .ref z8, .int nw, .ref z9, .ref z10, .ref z11, .ref z12, .ref z13, .ref z14, .ref z15, .ref z16, .int gv, .int gs, .int gw, .int nb, .int sd, .ref z17, .ref z18, .ref z19, .ref z20, .ref z21, .int nt, .ref z22, .ref z23, .ref z24, .int nk, .int fs])), (z1, .inl (cI, 64, .inl vx)), (z2, .inl (cI, 64, .inl vy))] H := hP
            replace hD : va_D A [(z5, .inl (cI, 64, .inl fa)), (z6, .inl (cI, 64, .inl tb)), (m0, .inr (5, [.int th, .ref z1, .ref z2, .int nv, .ref z3, .ref z4, .int ns, .ref z5, .ref z6, .ref z7, .ref z8, .int nw, .ref z9, .ref z10, .ref z11, .ref z12, .ref z13, .ref z14, .ref z15, .ref z16, .int gv, .int gs, .int gw, .int nb, .int sd, .ref z17, .ref z18, .ref z19, .ref z20, .ref z21, .int nt, .ref z22, .ref z23, .ref z24, .int nk, .int fs])), (z1, .inl (cI, 64, .inl vx)), (z2, .inl (cI, 64, .inl vy))] := hD
            try dsimp only at hp_104
            subst hp_104
            refine lv_aload_n hx hb d_Mo_clash_107 rfl (lv_at hl 0 rfl) ?_
            refine lv_iload_n hx hb d_Mo_clash_108 rfl (lv_at hl 3 rfl) ?_
            refine lv_iload hx hb d_Mo_clash_109 (lv_at hl 4 rfl) ?_
            refine lv_iload hx hb d_Mo_clash_111 (lv_at hl 6 rfl) ?_
            refine sw_ki0 (wr := [(z5, .inl (cI, 64, .inl fa)), (z6, .inl (cI, 64, .inl tb))]) (va_runV (As := [.int (fa x.toNatClampNeg), .int (tb x.toNatClampNeg), .int (tb y.toNatClampNeg)]) (rest := [.int (sw_sg (sw_sdl vx vy (fa x.toNatClampNeg).toNatClampNeg (tb x.toNatClampNeg).toNatClampNeg (fa y.toNatClampNeg).toNatClampNeg))]) ⟨hx, hb, hml, hown, hw⟩ (c_Mo_side l D cI cL tq _ m0 (fa x.toNatClampNeg) (tb x.toNatClampNeg) (tb y.toNatClampNeg) th z1 z2 nv z3 z4 ns z5 z6 z7 z8 nw z9 z10 z11 z12 z13 z14 z15 z16 gv gs gw nb sd z17 z18 z19 z20 z21 nt z22 z23 z24 nk fs vx vy (by assumption) (by assumption) (by assumption)) (cwV 3 hw (sw_gV kw_56467ae0 kw_1867c90e kw_e64fbd0d kw_82e72072 kc_Mo_side) rfl rfl rfl ⟨rfl, yd_Mo_side⟩ ⟨Nat.le_of_ble_eq_true rfl, Nat.le_of_ble_eq_true rfl⟩) (sw_preV hK hP hD hS hA hG [2, 3, 4] rfl (by decide) 5 2 rfl rfl) rfl rfl hl.1 rfl (lv_room (Nat.le_of_ble_eq_true rfl)) d_Mo_clash_113 ⟨Nat.le_of_ble_eq_true rfl, Nat.le_of_ble_eq_true rfl⟩) hP hD hS hA [2, 3, 4] [0, 1] rfl rfl (by decide) (by decide) (fun r_113 _ H locs hp_113 hP hD hS => ?_)
            replace hP : va_P D sw_cl [(z5, .inl (cI, 64, .inl fa)), (z6, .inl (cI, 64, .inl tb)), (m0, .inr (5, [.int th, .ref z1, .ref z2, .int nv, .ref z3, .ref z4, .int ns, .ref z5, .ref z6, .ref z7, .ref z8, .int nw, .ref z9, .ref z10, .ref z11, .ref z12, .ref z13, .ref z14, .ref z15, .ref z16, .int gv, .int gs, .int gw, .int nb, .int sd, .ref z17, .ref z18, .ref z19, .ref z20, .ref z21, .int nt, .ref z22, .ref z23, .ref z24, .int nk, .int fs])), (z1, .inl (cI, 64, .inl vx)), (z2, .inl (cI, 64, .inl vy))] H := hP
            replace hD : va_D A [(z5, .inl (cI, 64, .inl fa)), (z6, .inl (cI, 64, .inl tb)), (m0, .inr (5, [.int th, .ref z1, .ref z2, .int nv, .ref z3, .ref z4, .int ns, .ref z5, .ref z6, .ref z7, .ref z8, .int nw, .ref z9, .ref z10, .ref z11, .ref z12, .ref z13, .ref z14, .ref z15, .ref z16, .int gv, .int gs, .int gw, .int nb, .int sd, .ref z17, .ref z18, .ref z19, .ref z20, .ref z21, .int nt, .ref z22, .ref z23, .ref z24, .int nk, .int fs])), (z1, .inl (cI, 64, .inl vx)), (z2, .inl (cI, 64, .inl vy))] := hD
            try dsimp only at hp_113
            subst hp_113
            refine lv_imul hx hb d_Mo_clash_116 ?_
            refine lv_if_ge (tgt := 147) hx hb d_Mo_clash_117 (by decide) (fun c_117 => ?_) (fun c_117 => ?_)
            · skip
              refine lv_iconst (v := 0) hx hb d_Mo_clash_147 (by decide) ?_
              have hP9 := hP.sub (ws' := [(m0, .inr (5, [.int th, .ref z1, .ref z2, .int nv, .ref z3, .ref z4, .int ns, .ref z5, .ref z6, .ref z7, .ref z8, .int nw, .ref z9, .ref z10, .ref z11, .ref z12, .ref z13, .ref z14, .ref z15, .ref z16, .int gv, .int gs, .int gw, .int nb, .int sd, .ref z17, .ref z18, .ref z19, .ref z20, .ref z21, .int nt, .ref z22, .ref z23, .ref z24, .int nk, .int fs])), (z1, .inl (cI, 64, .inl vx)), (z2, .inl (cI, 64, .inl vy)), (z5, .inl (cI, 64, .inl fa)), (z6, .inl (cI, 64, .inl tb))]) [2, 3, 4, 0, 1] rfl
              have hD9 := hD.sub (ws' := [(m0, .inr (5, [.int th, .ref z1, .ref z2, .int nv, .ref z3, .ref z4, .int ns, .ref z5, .ref z6, .ref z7, .ref z8, .int nw, .ref z9, .ref z10, .ref z11, .ref z12, .ref z13, .ref z14, .ref z15, .ref z16, .int gv, .int gs, .int gw, .int nb, .int sd, .ref z17, .ref z18, .ref z19, .ref z20, .ref z21, .int nt, .ref z22, .ref z23, .ref z24, .int nk, .int fs])), (z1, .inl (cI, 64, .inl vx)), (z2, .inl (cI, 64, .inl vy)), (z5, .inl (cI, 64, .inl fa)), (z6, .inl (cI, 64, .inl tb))]) [2, 3, 4, 0, 1] (by decide) rfl
              exact W.zret (ty := .boolean) (v := 0) hx hb hr (rfl) (fun T9 hT9 hW9 => ⟨⟨0, (), rfl, by rw [sw_clm_no hj (by simp [hj, c_63, c_73, c_83, c_93, c_117])]; simp [sw_b, sw_crx, hj, c_63, c_73, c_83, c_93, c_117], by rw [hT9]; exact hP9, hD9⟩, hS.F hT9⟩) hS.2.2 d_Mo_clash_148
            · skip
              refine lv_aload_n hx hb d_Mo_clash_120 rfl (lv_at hl 0 rfl) ?_
              refine lv_iload hx hb d_Mo_clash_121 (lv_at hl 5 rfl) ?_
              refine lv_iload hx hb d_Mo_clash_123 (lv_at hl 6 rfl) ?_
              refine lv_iload_n hx hb d_Mo_clash_125 rfl (lv_at hl 3 rfl) ?_
              refine sw_ki0 (wr := [(z5, .inl (cI, 64, .inl fa)), (z6, .inl (cI, 64, .inl tb))]) (va_runV (As := [.int (fa y.toNatClampNeg), .int (tb y.toNatClampNeg), .int (fa x.toNatClampNeg)]) (rest := []) ⟨hx, hb, hml, hown, hw⟩ (c_Mo_side l D cI cL tq _ m0 (fa y.toNatClampNeg) (tb y.toNatClampNeg) (fa x.toNatClampNeg) th z1 z2 nv z3 z4 ns z5 z6 z7 z8 nw z9 z10 z11 z12 z13 z14 z15 z16 gv gs gw nb sd z17 z18 z19 z20 z21 nt z22 z23 z24 nk fs vx vy (by assumption) (by assumption) (by assumption)) (cwV 3 hw (sw_gV kw_56467ae0 kw_1867c90e kw_e64fbd0d kw_82e72072 kc_Mo_side) rfl rfl rfl ⟨rfl, yd_Mo_side⟩ ⟨Nat.le_of_ble_eq_true rfl, Nat.le_of_ble_eq_true rfl⟩) (sw_preV hK hP hD hS hA hG [2, 3, 4] rfl (by decide) 5 2 rfl rfl) rfl rfl hl.1 rfl (lv_room (Nat.le_of_ble_eq_true rfl)) d_Mo_clash_126 ⟨Nat.le_of_ble_eq_true rfl, Nat.le_of_ble_eq_true rfl⟩) hP hD hS hA [2, 3, 4] [0, 1] rfl rfl (by decide) (by decide) (fun r_126 _ H locs hp_126 hP hD hS => ?_)
              replace hP : va_P D sw_cl [(z5, .inl (cI, 64, .inl fa)), (z6, .inl (cI, 64, .inl tb)), (m0, .inr (5, [.int th, .ref z1, .ref z2, .int nv, .ref z3, .ref z4, .int ns, .ref z5, .ref z6, .ref z7, .ref z8, .int nw, .ref z9, .ref z10, .ref z11, .ref z12, .ref z13, .ref z14, .ref z15, .ref z16, .int gv, .int gs, .int gw, .int nb, .int sd, .ref z17, .ref z18, .ref z19, .ref z20, .ref z21, .int nt, .ref z22, .ref z23, .ref z24, .int nk, .int fs])), (z1, .inl (cI, 64, .inl vx)), (z2, .inl (cI, 64, .inl vy))] H := hP
              replace hD : va_D A [(z5, .inl (cI, 64, .inl fa)), (z6, .inl (cI, 64, .inl tb)), (m0, .inr (5, [.int th, .ref z1, .ref z2, .int nv, .ref z3, .ref z4, .int ns, .ref z5, .ref z6, .ref z7, .ref z8, .int nw, .ref z9, .ref z10, .ref z11, .ref z12, .ref z13, .ref z14, .ref z15, .ref z16, .int gv, .int gs, .int gw, .int nb, .int sd, .ref z17, .ref z18, .ref z19, .ref z20, .ref z21, .int nt, .ref z22, .ref z23, .ref z24, .int nk, .int fs])), (z1, .inl (cI, 64, .inl vx)), (z2, .inl (cI, 64, .inl vy))] := hD
              try dsimp only at hp_126
              subst hp_126
              refine lv_aload_n hx hb d_Mo_clash_129 rfl (lv_at hl 0 rfl) ?_
              refine lv_iload hx hb d_Mo_clash_130 (lv_at hl 5 rfl) ?_
              refine lv_iload hx hb d_Mo_clash_132 (lv_at hl 6 rfl) ?_
              refine lv_iload hx hb d_Mo_clash_134 (lv_at hl 4 rfl) ?_
              refine sw_ki0 (wr := [(z5, .inl (cI, 64, .inl fa)), (z6, .inl (cI, 64, .inl tb))]) (va_runV (As := [.int (fa y.toNatClampNeg), .int (tb y.toNatClampNeg), .int (tb x.toNatClampNeg)]) (rest := [.int (sw_sg (sw_sdl vx vy (fa y.toNatClampNeg).toNatClampNeg (tb y.toNatClampNeg).toNatClampNeg (fa x.toNatClampNeg).toNatClampNeg))]) ⟨hx, hb, hml, hown, hw⟩ (c_Mo_side l D cI cL tq _ m0 (fa y.toNatClampNeg) (tb y.toNatClampNeg) (tb x.toNatClampNeg) th z1 z2 nv z3 z4 ns z5 z6 z7 z8 nw z9 z10 z11 z12 z13 z14 z15 z16 gv gs gw nb sd z17 z18 z19 z20 z21 nt z22 z23 z24 nk fs vx vy (by assumption) (by assumption) (by assumption)) (cwV 3 hw (sw_gV kw_56467ae0 kw_1867c90e kw_e64fbd0d kw_82e72072 kc_Mo_side) rfl rfl rfl ⟨rfl, yd_Mo_side⟩ ⟨Nat.le_of_ble_eq_true rfl, Nat.le_of_ble_eq_true rfl⟩) (sw_preV hK hP hD hS hA hG [2, 3, 4] rfl (by decide) 5 2 rfl rfl) rfl rfl hl.1 rfl (lv_room (Nat.le_of_ble_eq_true rfl)) d_Mo_clash_136 ⟨Nat.le_of_ble_eq_true rfl, Nat.le_of_ble_eq_true rfl⟩) hP hD hS hA [2, 3, 4] [0, 1] rfl rfl (by decide) (by decide) (fun r_136 _ H locs hp_136 hP hD hS => ?_)
              replace hP : va_P D sw_cl [(z5, .inl (cI, 64, .inl fa)), (z6, .inl (cI, 64, .inl tb)), (m0, .inr (5, [.int th, .ref z1, .ref z2, .int nv, .ref z3, .ref z4, .int ns, .ref z5, .ref z6, .ref z7, .ref z8, .int nw, .ref z9, .ref z10, .ref z11, .ref z12, .ref z13, .ref z14, .ref z15, .ref z16, .int gv, .int gs, .int gw, .int nb, .int sd, .ref z17, .ref z18, .ref z19, .ref z20, .ref z21, .int nt, .ref z22, .ref z23, .ref z24, .int nk, .int fs])), (z1, .inl (cI, 64, .inl vx)), (z2, .inl (cI, 64, .inl vy))] H := hP
              replace hD : va_D A [(z5, .inl (cI, 64, .inl fa)), (z6, .inl (cI, 64, .inl tb)), (m0, .inr (5, [.int th, .ref z1, .ref z2, .int nv, .ref z3, .ref z4, .int ns, .ref z5, .ref z6, .ref z7, .ref z8, .int nw, .ref z9, .ref z10, .ref z11, .ref z12, .ref z13, .ref z14, .ref z15, .ref z16, .int gv, .int gs, .int gw, .int nb, .int sd, .ref z17, .ref z18, .ref z19, .ref z20, .ref z21, .int nt, .ref z22, .ref z23, .ref z24, .int nk, .int fs])), (z1, .inl (cI, 64, .inl vx)), (z2, .inl (cI, 64, .inl vy))] := hD
              try dsimp only at hp_136
              subst hp_136
              refine lv_imul hx hb d_Mo_clash_139 ?_
              refine lv_if_ge (tgt := 147) hx hb d_Mo_clash_140 (by decide) (fun c_140 => ?_) (fun c_140 => ?_)
              · skip
                refine lv_iconst (v := 0) hx hb d_Mo_clash_147 (by decide) ?_
                have hP9 := hP.sub (ws' := [(m0, .inr (5, [.int th, .ref z1, .ref z2, .int nv, .ref z3, .ref z4, .int ns, .ref z5, .ref z6, .ref z7, .ref z8, .int nw, .ref z9, .ref z10, .ref z11, .ref z12, .ref z13, .ref z14, .ref z15, .ref z16, .int gv, .int gs, .int gw, .int nb, .int sd, .ref z17, .ref z18, .ref z19, .ref z20, .ref z21, .int nt, .ref z22, .ref z23, .ref z24, .int nk, .int fs])), (z1, .inl (cI, 64, .inl vx)), (z2, .inl (cI, 64, .inl vy)), (z5, .inl (cI, 64, .inl fa)), (z6, .inl (cI, 64, .inl tb))]) [2, 3, 4, 0, 1] rfl
                have hD9 := hD.sub (ws' := [(m0, .inr (5, [.int th, .ref z1, .ref z2, .int nv, .ref z3, .ref z4, .int ns, .ref z5, .ref z6, .ref z7, .ref z8, .int nw, .ref z9, .ref z10, .ref z11, .ref z12, .ref z13, .ref z14, .ref z15, .ref z16, .int gv, .int gs, .int gw, .int nb, .int sd, .ref z17, .ref z18, .ref z19, .ref z20, .ref z21, .int nt, .ref z22, .ref z23, .ref z24, .int nk, .int fs])), (z1, .inl (cI, 64, .inl vx)), (z2, .inl (cI, 64, .inl vy)), (z5, .inl (cI, 64, .inl fa)), (z6, .inl (cI, 64, .inl tb))]) [2, 3, 4, 0, 1] (by decide) rfl
                exact W.zret (ty := .boolean) (v := 0) hx hb hr (rfl) (fun T9 hT9 hW9 => ⟨⟨0, (), rfl, by rw [sw_clm_no hj (by simp [hj, c_63, c_73, c_83, c_93, c_117, c_140])]; simp [sw_b, sw_crx, hj, c_63, c_73, c_83, c_93, c_117, c_140], by rw [hT9]; exact hP9, hD9⟩, hS.F hT9⟩) hS.2.2 d_Mo_clash_148
              · skip
                refine lv_iconst (v := 1) hx hb d_Mo_clash_143 (by decide) ?_
                refine lv_goto (tgt := 148) hx hb d_Mo_clash_144 (by decide) ?_
                have hP9 := hP.sub (ws' := [(m0, .inr (5, [.int th, .ref z1, .ref z2, .int nv, .ref z3, .ref z4, .int ns, .ref z5, .ref z6, .ref z7, .ref z8, .int nw, .ref z9, .ref z10, .ref z11, .ref z12, .ref z13, .ref z14, .ref z15, .ref z16, .int gv, .int gs, .int gw, .int nb, .int sd, .ref z17, .ref z18, .ref z19, .ref z20, .ref z21, .int nt, .ref z22, .ref z23, .ref z24, .int nk, .int fs])), (z1, .inl (cI, 64, .inl vx)), (z2, .inl (cI, 64, .inl vy)), (z5, .inl (cI, 64, .inl fa)), (z6, .inl (cI, 64, .inl tb))]) [2, 3, 4, 0, 1] rfl
                have hD9 := hD.sub (ws' := [(m0, .inr (5, [.int th, .ref z1, .ref z2, .int nv, .ref z3, .ref z4, .int ns, .ref z5, .ref z6, .ref z7, .ref z8, .int nw, .ref z9, .ref z10, .ref z11, .ref z12, .ref z13, .ref z14, .ref z15, .ref z16, .int gv, .int gs, .int gw, .int nb, .int sd, .ref z17, .ref z18, .ref z19, .ref z20, .ref z21, .int nt, .ref z22, .ref z23, .ref z24, .int nk, .int fs])), (z1, .inl (cI, 64, .inl vx)), (z2, .inl (cI, 64, .inl vy)), (z5, .inl (cI, 64, .inl fa)), (z6, .inl (cI, 64, .inl tb))]) [2, 3, 4, 0, 1] (by decide) rfl
                exact W.zret (ty := .boolean) (v := 1) hx hb hr (rfl) (fun T9 hT9 hW9 => ⟨⟨1, (), rfl, by rw [sw_clm_no hj (by simp [hj, c_63, c_73, c_83, c_93, c_117, c_140])]; simp [sw_b, sw_crx, hj, c_63, c_73, c_83, c_93, c_117, c_140], by rw [hT9]; exact hP9, hD9⟩, hS.F hT9⟩) hS.2.2 d_Mo_clash_148
          · skip
            replace c_93 := sw_bn.mp c_93
            refine lv_iconst (v := 1) hx hb d_Mo_clash_96 (by decide) ?_
            have hP9 := hP.sub (ws' := [(m0, .inr (5, [.int th, .ref z1, .ref z2, .int nv, .ref z3, .ref z4, .int ns, .ref z5, .ref z6, .ref z7, .ref z8, .int nw, .ref z9, .ref z10, .ref z11, .ref z12, .ref z13, .ref z14, .ref z15, .ref z16, .int gv, .int gs, .int gw, .int nb, .int sd, .ref z17, .ref z18, .ref z19, .ref z20, .ref z21, .int nt, .ref z22, .ref z23, .ref z24, .int nk, .int fs])), (z1, .inl (cI, 64, .inl vx)), (z2, .inl (cI, 64, .inl vy)), (z5, .inl (cI, 64, .inl fa)), (z6, .inl (cI, 64, .inl tb))]) [0, 1, 2, 3, 4] rfl
            have hD9 := hD.sub (ws' := [(m0, .inr (5, [.int th, .ref z1, .ref z2, .int nv, .ref z3, .ref z4, .int ns, .ref z5, .ref z6, .ref z7, .ref z8, .int nw, .ref z9, .ref z10, .ref z11, .ref z12, .ref z13, .ref z14, .ref z15, .ref z16, .int gv, .int gs, .int gw, .int nb, .int sd, .ref z17, .ref z18, .ref z19, .ref z20, .ref z21, .int nt, .ref z22, .ref z23, .ref z24, .int nk, .int fs])), (z1, .inl (cI, 64, .inl vx)), (z2, .inl (cI, 64, .inl vy)), (z5, .inl (cI, 64, .inl fa)), (z6, .inl (cI, 64, .inl tb))]) [0, 1, 2, 3, 4] (by decide) rfl
            exact W.zret (ty := .boolean) (v := 1) hx hb hr (rfl) (fun T9 hT9 hW9 => ⟨⟨1, (), rfl, by first | (rw [sw_clm_in hj (by simp [hj, c_63, c_73, c_83, c_93])]; rfl) | (rw [sw_clm_tw (sw_tw1 (by first | exact Or.inl ⟨c_34, c_41⟩ | exact Or.inr ⟨c_47, c_54⟩))]; rfl), by rw [hT9]; exact hP9, hD9⟩, hS.F hT9⟩) hS.2.2 d_Mo_clash_97
  refine lv_iload_n hx hb d_Mo_clash_31 rfl (lv_at hl 3 rfl) ?_
  refine lv_iload hx hb d_Mo_clash_32 (lv_at hl 1 rfl) ?_
  refine lv_icmp_ne (tgt := 44) hx hb d_Mo_clash_34 (by decide) (fun c_34 => ?_) (fun c_34 => ?_)
  · skip
    refine lv_iload_n hx hb d_Mo_clash_44 rfl (lv_at hl 3 rfl) ?_
    refine lv_iload hx hb d_Mo_clash_45 (lv_at hl 0 rfl) ?_
    refine lv_icmp_ne (tgt := 57) hx hb d_Mo_clash_47 (by decide) (fun c_47 => ?_) (fun c_47 => ?_)
    · skip
      exact jn_57 _ _ _ (sw_tw0 (by first | exact fun h => c_34 h.1 | exact fun h => c_41 h.2) (by first | exact fun h => c_47 h.1 | exact fun h => c_54 h.2)) (hP.sub [0, 1, 2, 3, 4] rfl) (hD.sub [0, 1, 2, 3, 4] (by decide) rfl) hS (lv_sub hl [4, 5, 6, 3, 2, 1, 0] rfl)
    · skip
      refine lv_iload hx hb d_Mo_clash_50 (lv_at hl 2 rfl) ?_
      refine lv_iload hx hb d_Mo_clash_52 (lv_at hl 1 rfl) ?_
      refine lv_icmp_eq (tgt := 96) hx hb d_Mo_clash_54 (by decide) (fun c_54 => ?_) (fun c_54 => ?_)
      · skip
        refine lv_iconst (v := 1) hx hb d_Mo_clash_96 (by decide) ?_
        have hP9 := hP.sub (ws' := [(m0, .inr (5, [.int th, .ref z1, .ref z2, .int nv, .ref z3, .ref z4, .int ns, .ref z5, .ref z6, .ref z7, .ref z8, .int nw, .ref z9, .ref z10, .ref z11, .ref z12, .ref z13, .ref z14, .ref z15, .ref z16, .int gv, .int gs, .int gw, .int nb, .int sd, .ref z17, .ref z18, .ref z19, .ref z20, .ref z21, .int nt, .ref z22, .ref z23, .ref z24, .int nk, .int fs])), (z1, .inl (cI, 64, .inl vx)), (z2, .inl (cI, 64, .inl vy)), (z5, .inl (cI, 64, .inl fa)), (z6, .inl (cI, 64, .inl tb))]) [0, 1, 2, 3, 4] rfl
        have hD9 := hD.sub (ws' := [(m0, .inr (5, [.int th, .ref z1, .ref z2, .int nv, .ref z3, .ref z4, .int ns, .ref z5, .ref z6, .ref z7, .ref z8, .int nw, .ref z9, .ref z10, .ref z11, .ref z12, .ref z13, .ref z14, .ref z15, .ref z16, .int gv, .int gs, .int gw, .int nb, .int sd, .ref z17, .ref z18, .ref z19, .ref z20, .ref z21, .int nt, .ref z22, .ref z23, .ref z24, .int nk, .int fs])), (z1, .inl (cI, 64, .inl vx)), (z2, .inl (cI, 64, .inl vy)), (z5, .inl (cI, 64, .inl fa)), (z6, .inl (cI, 64, .inl tb))]) [0, 1, 2, 3, 4] (by decide) rfl
        exact W.zret (ty := .boolean) (v := 1) hx hb hr (rfl) (fun T9 hT9 hW9 => ⟨⟨1, (), rfl, by first | (rw [sw_clm_in hj (by simp [c_34, c_47, c_54])]; rfl) | (rw [sw_clm_tw (sw_tw1 (by first | exact Or.inl ⟨c_34, c_41⟩ | exact Or.inr ⟨c_47, c_54⟩))]; rfl), by rw [hT9]; exact hP9, hD9⟩, hS.F hT9⟩) hS.2.2 d_Mo_clash_97
      · skip
        exact jn_57 _ _ _ (sw_tw0 (by first | exact fun h => c_34 h.1 | exact fun h => c_41 h.2) (by first | exact fun h => c_47 h.1 | exact fun h => c_54 h.2)) (hP.sub [0, 1, 2, 3, 4] rfl) (hD.sub [0, 1, 2, 3, 4] (by decide) rfl) hS (lv_sub hl [4, 5, 6, 3, 2, 1, 0] rfl)
  · skip
    refine lv_iload hx hb d_Mo_clash_37 (lv_at hl 2 rfl) ?_
    refine lv_iload hx hb d_Mo_clash_39 (lv_at hl 0 rfl) ?_
    refine lv_icmp_eq (tgt := 96) hx hb d_Mo_clash_41 (by decide) (fun c_41 => ?_) (fun c_41 => ?_)
    · skip
      refine lv_iconst (v := 1) hx hb d_Mo_clash_96 (by decide) ?_
      have hP9 := hP.sub (ws' := [(m0, .inr (5, [.int th, .ref z1, .ref z2, .int nv, .ref z3, .ref z4, .int ns, .ref z5, .ref z6, .ref z7, .ref z8, .int nw, .ref z9, .ref z10, .ref z11, .ref z12, .ref z13, .ref z14, .ref z15, .ref z16, .int gv, .int gs, .int gw, .int nb, .int sd, .ref z17, .ref z18, .ref z19, .ref z20, .ref z21, .int nt, .ref z22, .ref z23, .ref z24, .int nk, .int fs])), (z1, .inl (cI, 64, .inl vx)), (z2, .inl (cI, 64, .inl vy)), (z5, .inl (cI, 64, .inl fa)), (z6, .inl (cI, 64, .inl tb))]) [0, 1, 2, 3, 4] rfl
      have hD9 := hD.sub (ws' := [(m0, .inr (5, [.int th, .ref z1, .ref z2, .int nv, .ref z3, .ref z4, .int ns, .ref z5, .ref z6, .ref z7, .ref z8, .int nw, .ref z9, .ref z10, .ref z11, .ref z12, .ref z13, .ref z14, .ref z15, .ref z16, .int gv, .int gs, .int gw, .int nb, .int sd, .ref z17, .ref z18, .ref z19, .ref z20, .ref z21, .int nt, .ref z22, .ref z23, .ref z24, .int nk, .int fs])), (z1, .inl (cI, 64, .inl vx)), (z2, .inl (cI, 64, .inl vy)), (z5, .inl (cI, 64, .inl fa)), (z6, .inl (cI, 64, .inl tb))]) [0, 1, 2, 3, 4] (by decide) rfl
      exact W.zret (ty := .boolean) (v := 1) hx hb hr (rfl) (fun T9 hT9 hW9 => ⟨⟨1, (), rfl, by first | (rw [sw_clm_in hj (by simp [c_34, c_41])]; rfl) | (rw [sw_clm_tw (sw_tw1 (by first | exact Or.inl ⟨c_34, c_41⟩ | exact Or.inr ⟨c_47, c_54⟩))]; rfl), by rw [hT9]; exact hP9, hD9⟩, hS.F hT9⟩) hS.2.2 d_Mo_clash_97
    · skip
      refine lv_iload_n hx hb d_Mo_clash_44 rfl (lv_at hl 3 rfl) ?_
      refine lv_iload hx hb d_Mo_clash_45 (lv_at hl 0 rfl) ?_
      refine lv_icmp_ne (tgt := 57) hx hb d_Mo_clash_47 (by decide) (fun c_47 => ?_) (fun c_47 => ?_)
      · skip
        exact jn_57 _ _ _ (sw_tw0 (by first | exact fun h => c_34 h.1 | exact fun h => c_41 h.2) (by first | exact fun h => c_47 h.1 | exact fun h => c_54 h.2)) (hP.sub [0, 1, 2, 3, 4] rfl) (hD.sub [0, 1, 2, 3, 4] (by decide) rfl) hS (lv_sub hl [4, 5, 6, 3, 2, 1, 0] rfl)
      · skip
        refine lv_iload hx hb d_Mo_clash_50 (lv_at hl 2 rfl) ?_
        refine lv_iload hx hb d_Mo_clash_52 (lv_at hl 1 rfl) ?_
        refine lv_icmp_eq (tgt := 96) hx hb d_Mo_clash_54 (by decide) (fun c_54 => ?_) (fun c_54 => ?_)
        · skip
          refine lv_iconst (v := 1) hx hb d_Mo_clash_96 (by decide) ?_
          have hP9 := hP.sub (ws' := [(m0, .inr (5, [.int th, .ref z1, .ref z2, .int nv, .ref z3, .ref z4, .int ns, .ref z5, .ref z6, .ref z7, .ref z8, .int nw, .ref z9, .ref z10, .ref z11, .ref z12, .ref z13, .ref z14, .ref z15, .ref z16, .int gv, .int gs, .int gw, .int nb, .int sd, .ref z17, .ref z18, .ref z19, .ref z20, .ref z21, .int nt, .ref z22, .ref z23, .ref z24, .int nk, .int fs])), (z1, .inl (cI, 64, .inl vx)), (z2, .inl (cI, 64, .inl vy)), (z5, .inl (cI, 64, .inl fa)), (z6, .inl (cI, 64, .inl tb))]) [0, 1, 2, 3, 4] rfl
          have hD9 := hD.sub (ws' := [(m0, .inr (5, [.int th, .ref z1, .ref z2, .int nv, .ref z3, .ref z4, .int ns, .ref z5, .ref z6, .ref z7, .ref z8, .int nw, .ref z9, .ref z10, .ref z11, .ref z12, .ref z13, .ref z14, .ref z15, .ref z16, .int gv, .int gs, .int gw, .int nb, .int sd, .ref z17, .ref z18, .ref z19, .ref z20, .ref z21, .int nt, .ref z22, .ref z23, .ref z24, .int nk, .int fs])), (z1, .inl (cI, 64, .inl vx)), (z2, .inl (cI, 64, .inl vy)), (z5, .inl (cI, 64, .inl fa)), (z6, .inl (cI, 64, .inl tb))]) [0, 1, 2, 3, 4] (by decide) rfl
          exact W.zret (ty := .boolean) (v := 1) hx hb hr (rfl) (fun T9 hT9 hW9 => ⟨⟨1, (), rfl, by first | (rw [sw_clm_in hj (by simp [c_34, c_41, c_47, c_54])]; rfl) | (rw [sw_clm_tw (sw_tw1 (by first | exact Or.inl ⟨c_34, c_41⟩ | exact Or.inr ⟨c_47, c_54⟩))]; rfl), by rw [hT9]; exact hP9, hD9⟩, hS.F hT9⟩) hS.2.2 d_Mo_clash_97
        · skip
          exact jn_57 _ _ _ (sw_tw0 (by first | exact fun h => c_34 h.1 | exact fun h => c_41 h.2) (by first | exact fun h => c_47 h.1 | exact fun h => c_54 h.2)) (hP.sub [0, 1, 2, 3, 4] rfl) (hD.sub [0, 1, 2, 3, 4] (by decide) rfl) hS (lv_sub hl [4, 5, 6, 3, 2, 1, 0] rfl)

abbrev rm_Mo_isStop : Room := { frames := 0, cells := 0, slots := 0, locals := 0 }
abbrev q_Mo_isStop (D : va_G) (cI cL : ClassId) (A : Nat → Prop) (m0 : Nat) (x : Int32) (y : Int32) (z : Int32) (th : Int32) (z1 : Nat) (z2 : Nat) (nv : Int32) (z3 : Nat) (z4 : Nat) (ns : Int32) (z5 : Nat) (z6 : Nat) (z7 : Nat) (z8 : Nat) (nw : Int32) (z9 : Nat) (z10 : Nat) (z11 : Nat) (z12 : Nat) (z13 : Nat) (z14 : Nat) (z15 : Nat) (z16 : Nat) (gv : Int32) (gs : Int32) (gw : Int32) (nb : Int32) (sd : Int32) (z17 : Nat) (z18 : Nat) (z19 : Nat) (z20 : Nat) (z21 : Nat) (nt : Int32) (z22 : Nat) (z23 : Nat) (z24 : Nat) (nk : Int32) (fs : Int32) (p6 : Nat → Int32) (p7 : Nat → Int32) (p8 : Nat → Int32) : Array Value → State → Outcome → State → Prop := va_Qi (S := Unit) (fun (r : Int32) => fun (_ : Unit) => r = sw_b (sw_stm p6 p7 p8 x.toNatClampNeg y z)) (sw_R D A (fun (_ : Unit) => [(m0, .inr (5, [.int th, .ref z1, .ref z2, .int nv, .ref z3, .ref z4, .int ns, .ref z5, .ref z6, .ref z7, .ref z8, .int nw, .ref z9, .ref z10, .ref z11, .ref z12, .ref z13, .ref z14, .ref z15, .ref z16, .int gv, .int gs, .int gw, .int nb, .int sd, .ref z17, .ref z18, .ref z19, .ref z20, .ref z21, .int nt, .ref z22, .ref z23, .ref z24, .int nk, .int fs])), (z14, .inl (cI, 64, .inl p6)), (z15, .inl (cI, 16, .inl p7)), (z16, .inl (cI, 16, .inl p8))])) A
set_option maxHeartbeats 4000000 in
set_option maxRecDepth 100000 in
theorem c_Mo_isStop (l : Launch) (D : va_G) (cI cL : ClassId) (tq sz : Nat) (m0 : Nat) (x : Int32) (y : Int32) (z : Int32) (th : Int32) (z1 : Nat) (z2 : Nat) (nv : Int32) (z3 : Nat) (z4 : Nat) (ns : Int32) (z5 : Nat) (z6 : Nat) (z7 : Nat) (z8 : Nat) (nw : Int32) (z9 : Nat) (z10 : Nat) (z11 : Nat) (z12 : Nat) (z13 : Nat) (z14 : Nat) (z15 : Nat) (z16 : Nat) (gv : Int32) (gs : Int32) (gw : Int32) (nb : Int32) (sd : Int32) (z17 : Nat) (z18 : Nat) (z19 : Nat) (z20 : Nat) (z21 : Nat) (nt : Int32) (z22 : Nat) (z23 : Nat) (z24 : Nat) (nk : Int32) (fs : Int32) (p6 : Nat → Int32) (p7 : Nat → Int32) (p8 : Nat → Int32) (ix : vp_in x 64) (iy : p6 x.toNatClampNeg < 0 ∨ vp_in y 16) (iz : p6 x.toNatClampNeg < 0 ∨ vp_in z 16) : Met l y_Mo_isStop w_Mo_isStop rm_Mo_isStop (va_Pc [.ref m0, .int x, .int y, .int z] (sw_B D cI cL tq sz [(m0, .inr (5, [.int th, .ref z1, .ref z2, .int nv, .ref z3, .ref z4, .int ns, .ref z5, .ref z6, .ref z7, .ref z8, .int nw, .ref z9, .ref z10, .ref z11, .ref z12, .ref z13, .ref z14, .ref z15, .ref z16, .int gv, .int gs, .int gw, .int nb, .int sd, .ref z17, .ref z18, .ref z19, .ref z20, .ref z21, .int nt, .ref z22, .ref z23, .ref z24, .int nk, .int fs])), (z14, .inl (cI, 64, .inl p6)), (z15, .inl (cI, 16, .inl p7)), (z16, .inl (cI, 16, .inl p8))])) (q_Mo_isStop D cI cL (va_A [(m0, .inr (5, [.int th, .ref z1, .ref z2, .int nv, .ref z3, .ref z4, .int ns, .ref z5, .ref z6, .ref z7, .ref z8, .int nw, .ref z9, .ref z10, .ref z11, .ref z12, .ref z13, .ref z14, .ref z15, .ref z16, .int gv, .int gs, .int gw, .int nb, .int sd, .ref z17, .ref z18, .ref z19, .ref z20, .ref z21, .int nt, .ref z22, .ref z23, .ref z24, .int nk, .int fs])), (z14, .inl (cI, 64, .inl p6)), (z15, .inl (cI, 16, .inl p7)), (z16, .inl (cI, 16, .inl p8))] sz) m0 x y z th z1 z2 nv z3 z4 ns z5 z6 z7 z8 nw z9 z10 z11 z12 z13 z14 z15 z16 gv gs gw nb sd z17 z18 z19 z20 z21 nt z22 z23 z24 nk fs p6 p7 p8) 0 0 (va_A [(m0, .inr (5, [.int th, .ref z1, .ref z2, .int nv, .ref z3, .ref z4, .int ns, .ref z5, .ref z6, .ref z7, .ref z8, .int nw, .ref z9, .ref z10, .ref z11, .ref z12, .ref z13, .ref z14, .ref z15, .ref z16, .int gv, .int gs, .int gw, .int nb, .int sd, .ref z17, .ref z18, .ref z19, .ref z20, .ref z21, .int nt, .ref z22, .ref z23, .ref z24, .int nk, .int fs])), (z14, .inl (cI, 64, .inl p6)), (z15, .inl (cI, 16, .inl p7)), (z16, .inl (cI, 16, .inl p8))] sz) := by
  refine Met.ofW (cc := b_Mo_isStop) (maxL := 6) (ret := (some .boolean)) (by decide) rfl ?_
  intro mp me s mm args below meth mk s₁ B hml hv
  obtain ⟨rfl, hsz, hP, hK, hD0, hG⟩ := hv
  have hx := B.exec
  have hb := B.bytes
  have hr := B.returns
  have hts := atoms_spec (ws := w_Mo_isStop) B.pre
  have hw : ∀ w ∈ sw_words, w.before _ s = true := fun w h => hts w (List.mem_cons_of_mem _ h)
  have hown : s.vm.findClass R_Mo = some mm.cls := findClass_of_methodNamed B.named
  have hlocks := B.notSynchronized
  subst hsz
  have hD := hD0.self (sz := s.heap.size)
  generalize hAe : va_A [(m0, .inr (5, [.int th, .ref z1, .ref z2, .int nv, .ref z3, .ref z4, .int ns, .ref z5, .ref z6, .ref z7, .ref z8, .int nw, .ref z9, .ref z10, .ref z11, .ref z12, .ref z13, .ref z14, .ref z15, .ref z16, .int gv, .int gs, .int gw, .int nb, .int sd, .ref z17, .ref z18, .ref z19, .ref z20, .ref z21, .int nt, .ref z22, .ref z23, .ref z24, .int nk, .int fs])), (z14, .inl (cI, 64, .inl p6)), (z15, .inl (cI, 16, .inl p7)), (z16, .inl (cI, 16, .inl p8))] s.heap.size = A at hD hG ⊢
  have hA : ∀ q : Nat, s.heap.size ≤ q → A q := fun q h => by rw [← hAe]; exact Or.inr h
  have hS : va_S A s.heap s.heap [] := va_S.rf
  have hl := lv_entry ([.ref m0, .int x, .int y, .int z]) (n := 6) (Nat.le_of_ble_eq_true rfl)
  rw [lg_entry_eq]
  generalize (lg_sl ([.ref m0, .int x, .int y, .int z]) ++ List.replicate (6 - (lg_sl ([.ref m0, .int x, .int y, .int z])).length) Slot.unset).toArray = ls at hl ⊢
  have hl : lv_has ls 6 [(0, .ref m0), (1, .int x), (2, .int y), (3, .int z)] := hl
  refine lv_aload_n hx hb d_Mo_isStop_0 rfl (lv_at hl 0 rfl) ?_
  refine va_get (D := D) (ci := 5) (v := .ref z14) (C := R_Mo) (T := F_Mo) (N := 36) hx hb hw ku_Mo hown hK hP 0 rfl rfl 17 (by decide) (hw _ kw_4af58c9f) (fun _ h9 => h9) rfl d_Mo_isStop_1 ?_
  refine lv_iload_n hx hb d_Mo_isStop_4 rfl (lv_at hl 1 rfl) ?_
  refine va_iald hx hb hK hP 1 0 rfl rfl (by assumption) d_Mo_isStop_5 ?_
  refine lv_if_ge (tgt := 11) hx hb d_Mo_isStop_6 (by decide) (fun c_6 => ?_) (fun c_6 => ?_)
  · skip
    have jy := iy.resolve_left (fun h => sw_neg h c_6)
    have jz := iz.resolve_left (fun h => sw_neg h c_6)
    refine lv_aload_n hx hb d_Mo_isStop_11 rfl (lv_at hl 0 rfl) ?_
    refine va_get (D := D) (ci := 5) (v := .ref z16) (C := R_Mo) (T := F_Mo) (N := 36) hx hb hw ku_Mo hown hK hP 0 rfl rfl 19 (by decide) (hw _ kw_ede0783e) (fun _ h9 => h9) rfl d_Mo_isStop_12 ?_
    refine lv_iload_n hx hb d_Mo_isStop_15 rfl (lv_at hl 2 rfl) ?_
    refine va_iald hx hb hK hP 3 0 rfl rfl (by assumption) d_Mo_isStop_16 ?_
    refine lv_aload_n hx hb d_Mo_isStop_17 rfl (lv_at hl 0 rfl) ?_
    refine va_get (D := D) (ci := 5) (v := .ref z16) (C := R_Mo) (T := F_Mo) (N := 36) hx hb hw ku_Mo hown hK hP 0 rfl rfl 19 (by decide) (hw _ kw_ede0783e) (fun _ h9 => h9) rfl d_Mo_isStop_18 ?_
    refine lv_iload_n hx hb d_Mo_isStop_21 rfl (lv_at hl 3 rfl) ?_
    refine va_iald hx hb hK hP 3 0 rfl rfl (by assumption) d_Mo_isStop_22 ?_
    refine lv_icmp_ge (tgt := 35) hx hb d_Mo_isStop_23 (by decide) (fun c_23 => ?_) (fun c_23 => ?_)
    · skip
      refine lv_aload_n hx hb d_Mo_isStop_35 rfl (lv_at hl 0 rfl) ?_
      refine va_get (D := D) (ci := 5) (v := .ref z16) (C := R_Mo) (T := F_Mo) (N := 36) hx hb hw ku_Mo hown hK hP 0 rfl rfl 19 (by decide) (hw _ kw_ede0783e) (fun _ h9 => h9) rfl d_Mo_isStop_36 ?_
      refine lv_iload_n hx hb d_Mo_isStop_39 rfl (lv_at hl 3 rfl) ?_
      refine va_iald hx hb hK hP 3 0 rfl rfl (by assumption) d_Mo_isStop_40 ?_
      refine lv_istore (lv' := [(4, .int (p8 z.toNatClampNeg)), (0, .ref m0), (1, .int x), (2, .int y), (3, .int z)]) hx hb d_Mo_isStop_41 hl (by decide) rfl (fun ls hl => ?_)
      refine lv_aload_n hx hb d_Mo_isStop_43 rfl (lv_at hl 1 rfl) ?_
      refine va_get (D := D) (ci := 5) (v := .ref z15) (C := R_Mo) (T := F_Mo) (N := 36) hx hb hw ku_Mo hown hK hP 0 rfl rfl 18 (by decide) (hw _ kw_8df6f597) (fun _ h9 => h9) rfl d_Mo_isStop_44 ?_
      refine lv_iload_n hx hb d_Mo_isStop_47 rfl (lv_at hl 3 rfl) ?_
      refine va_iald hx hb hK hP 2 0 rfl rfl (by assumption) d_Mo_isStop_48 ?_
      refine lv_aload_n hx hb d_Mo_isStop_49 rfl (lv_at hl 1 rfl) ?_
      refine va_get (D := D) (ci := 5) (v := .ref z15) (C := R_Mo) (T := F_Mo) (N := 36) hx hb hw ku_Mo hown hK hP 0 rfl rfl 18 (by decide) (hw _ kw_8df6f597) (fun _ h9 => h9) rfl d_Mo_isStop_50 ?_
      refine lv_iload_n hx hb d_Mo_isStop_53 rfl (lv_at hl 4 rfl) ?_
      refine va_iald hx hb hK hP 2 0 rfl rfl (by assumption) d_Mo_isStop_54 ?_
      refine lv_icmp_le (tgt := 67) hx hb d_Mo_isStop_55 (by decide) (fun c_55 => ?_) (fun c_55 => ?_)
      · skip
        refine lv_aload_n hx hb d_Mo_isStop_67 rfl (lv_at hl 1 rfl) ?_
        refine va_get (D := D) (ci := 5) (v := .ref z15) (C := R_Mo) (T := F_Mo) (N := 36) hx hb hw ku_Mo hown hK hP 0 rfl rfl 18 (by decide) (hw _ kw_8df6f597) (fun _ h9 => h9) rfl d_Mo_isStop_68 ?_
        refine lv_iload_n hx hb d_Mo_isStop_71 rfl (lv_at hl 4 rfl) ?_
        refine va_iald hx hb hK hP 2 0 rfl rfl (by assumption) d_Mo_isStop_72 ?_
        refine lv_istore (lv' := [(5, .int (p7 z.toNatClampNeg)), (4, .int (p8 z.toNatClampNeg)), (0, .ref m0), (1, .int x), (2, .int y), (3, .int z)]) hx hb d_Mo_isStop_73 hl (by decide) rfl (fun ls hl => ?_)
        refine lv_aload_n hx hb d_Mo_isStop_75 rfl (lv_at hl 2 rfl) ?_
        refine va_get (D := D) (ci := 5) (v := .ref z15) (C := R_Mo) (T := F_Mo) (N := 36) hx hb hw ku_Mo hown hK hP 0 rfl rfl 18 (by decide) (hw _ kw_8df6f597) (fun _ h9 => h9) rfl d_Mo_isStop_76 ?_
        refine lv_iload_n hx hb d_Mo_isStop_79 rfl (lv_at hl 5 rfl) ?_
        refine va_iald hx hb hK hP 2 0 rfl rfl (by assumption) d_Mo_isStop_80 ?_
        refine lv_aload_n hx hb d_Mo_isStop_81 rfl (lv_at hl 2 rfl) ?_
        refine va_get (D := D) (ci := 5) (v := .ref z15) (C := R_Mo) (T := F_Mo) (N := 36) hx hb hw ku_Mo hown hK hP 0 rfl rfl 18 (by decide) (hw _ kw_8df6f597) (fun _ h9 => h9) rfl d_Mo_isStop_82 ?_
        refine lv_iload_n hx hb d_Mo_isStop_85 rfl (lv_at hl 4 rfl) ?_
        refine va_iald hx hb hK hP 2 0 rfl rfl (by assumption) d_Mo_isStop_86 ?_
        refine lv_isub hx hb d_Mo_isStop_87 ?_
        refine lv_bipush (v := 24) hx hb d_Mo_isStop_88 (by decide) ?_
        refine lv_icmp_gt (tgt := 103) hx hb d_Mo_isStop_90 (by decide) (fun c_90 => ?_) (fun c_90 => ?_)
        · skip
          refine lv_iconst (v := 1) hx hb d_Mo_isStop_103 (by decide) ?_
          refine lv_goto (tgt := 108) hx hb d_Mo_isStop_104 (by decide) ?_
          have hP9 := hP.sub (ws' := [(m0, .inr (5, [.int th, .ref z1, .ref z2, .int nv, .ref z3, .ref z4, .int ns, .ref z5, .ref z6, .ref z7, .ref z8, .int nw, .ref z9, .ref z10, .ref z11, .ref z12, .ref z13, .ref z14, .ref z15, .ref z16, .int gv, .int gs, .int gw, .int nb, .int sd, .ref z17, .ref z18, .ref z19, .ref z20, .ref z21, .int nt, .ref z22, .ref z23, .ref z24, .int nk, .int fs])), (z14, .inl (cI, 64, .inl p6)), (z15, .inl (cI, 16, .inl p7)), (z16, .inl (cI, 16, .inl p8))]) [0, 1, 2, 3] rfl
          have hD9 := hD.sub (ws' := [(m0, .inr (5, [.int th, .ref z1, .ref z2, .int nv, .ref z3, .ref z4, .int ns, .ref z5, .ref z6, .ref z7, .ref z8, .int nw, .ref z9, .ref z10, .ref z11, .ref z12, .ref z13, .ref z14, .ref z15, .ref z16, .int gv, .int gs, .int gw, .int nb, .int sd, .ref z17, .ref z18, .ref z19, .ref z20, .ref z21, .int nt, .ref z22, .ref z23, .ref z24, .int nk, .int fs])), (z14, .inl (cI, 64, .inl p6)), (z15, .inl (cI, 16, .inl p7)), (z16, .inl (cI, 16, .inl p8))]) [0, 1, 2, 3] (by decide) rfl
          exact W.zret (ty := .boolean) (v := 1) hx hb hr (rfl) (fun T9 hT9 hW9 => ⟨⟨1, (), rfl, by simp [sw_b, sw_stm, c_6, c_23, c_55, c_90], by rw [hT9]; exact hP9, hD9⟩, hS.F hT9⟩) hS.2.2 d_Mo_isStop_108
        · skip
          refine lv_iload hx hb d_Mo_isStop_93 (lv_at hl 1 rfl) ?_
          refine lv_iload hx hb d_Mo_isStop_95 (lv_at hl 0 rfl) ?_
          refine lv_isub hx hb d_Mo_isStop_97 ?_
          refine lv_bipush (v := 56) hx hb d_Mo_isStop_98 (by decide) ?_
          refine lv_icmp_ge (tgt := 107) hx hb d_Mo_isStop_100 (by decide) (fun c_100 => ?_) (fun c_100 => ?_)
          · skip
            refine lv_iconst (v := 0) hx hb d_Mo_isStop_107 (by decide) ?_
            have hP9 := hP.sub (ws' := [(m0, .inr (5, [.int th, .ref z1, .ref z2, .int nv, .ref z3, .ref z4, .int ns, .ref z5, .ref z6, .ref z7, .ref z8, .int nw, .ref z9, .ref z10, .ref z11, .ref z12, .ref z13, .ref z14, .ref z15, .ref z16, .int gv, .int gs, .int gw, .int nb, .int sd, .ref z17, .ref z18, .ref z19, .ref z20, .ref z21, .int nt, .ref z22, .ref z23, .ref z24, .int nk, .int fs])), (z14, .inl (cI, 64, .inl p6)), (z15, .inl (cI, 16, .inl p7)), (z16, .inl (cI, 16, .inl p8))]) [0, 1, 2, 3] rfl
            have hD9 := hD.sub (ws' := [(m0, .inr (5, [.int th, .ref z1, .ref z2, .int nv, .ref z3, .ref z4, .int ns, .ref z5, .ref z6, .ref z7, .ref z8, .int nw, .ref z9, .ref z10, .ref z11, .ref z12, .ref z13, .ref z14, .ref z15, .ref z16, .int gv, .int gs, .int gw, .int nb, .int sd, .ref z17, .ref z18, .ref z19, .ref z20, .ref z21, .int nt, .ref z22, .ref z23, .ref z24, .int nk, .int fs])), (z14, .inl (cI, 64, .inl p6)), (z15, .inl (cI, 16, .inl p7)), (z16, .inl (cI, 16, .inl p8))]) [0, 1, 2, 3] (by decide) rfl
            exact W.zret (ty := .boolean) (v := 0) hx hb hr (rfl) (fun T9 hT9 hW9 => ⟨⟨0, (), rfl, by simp [sw_b, sw_stm, c_6, c_23, c_55, c_90, c_100], by rw [hT9]; exact hP9, hD9⟩, hS.F hT9⟩) hS.2.2 d_Mo_isStop_108
          · skip
            refine lv_iconst (v := 1) hx hb d_Mo_isStop_103 (by decide) ?_
            refine lv_goto (tgt := 108) hx hb d_Mo_isStop_104 (by decide) ?_
            have hP9 := hP.sub (ws' := [(m0, .inr (5, [.int th, .ref z1, .ref z2, .int nv, .ref z3, .ref z4, .int ns, .ref z5, .ref z6, .ref z7, .ref z8, .int nw, .ref z9, .ref z10, .ref z11, .ref z12, .ref z13, .ref z14, .ref z15, .ref z16, .int gv, .int gs, .int gw, .int nb, .int sd, .ref z17, .ref z18, .ref z19, .ref z20, .ref z21, .int nt, .ref z22, .ref z23, .ref z24, .int nk, .int fs])), (z14, .inl (cI, 64, .inl p6)), (z15, .inl (cI, 16, .inl p7)), (z16, .inl (cI, 16, .inl p8))]) [0, 1, 2, 3] rfl
            have hD9 := hD.sub (ws' := [(m0, .inr (5, [.int th, .ref z1, .ref z2, .int nv, .ref z3, .ref z4, .int ns, .ref z5, .ref z6, .ref z7, .ref z8, .int nw, .ref z9, .ref z10, .ref z11, .ref z12, .ref z13, .ref z14, .ref z15, .ref z16, .int gv, .int gs, .int gw, .int nb, .int sd, .ref z17, .ref z18, .ref z19, .ref z20, .ref z21, .int nt, .ref z22, .ref z23, .ref z24, .int nk, .int fs])), (z14, .inl (cI, 64, .inl p6)), (z15, .inl (cI, 16, .inl p7)), (z16, .inl (cI, 16, .inl p8))]) [0, 1, 2, 3] (by decide) rfl
            exact W.zret (ty := .boolean) (v := 1) hx hb hr (rfl) (fun T9 hT9 hW9 => ⟨⟨1, (), rfl, by simp [sw_b, sw_stm, c_6, c_23, c_55, c_90, c_100], by rw [hT9]; exact hP9, hD9⟩, hS.F hT9⟩) hS.2.2 d_Mo_isStop_108
      · skip
        refine lv_aload_n hx hb d_Mo_isStop_58 rfl (lv_at hl 1 rfl) ?_
        refine va_get (D := D) (ci := 5) (v := .ref z15) (C := R_Mo) (T := F_Mo) (N := 36) hx hb hw ku_Mo hown hK hP 0 rfl rfl 18 (by decide) (hw _ kw_8df6f597) (fun _ h9 => h9) rfl d_Mo_isStop_59 ?_
        refine lv_iload_n hx hb d_Mo_isStop_62 rfl (lv_at hl 3 rfl) ?_
        refine va_iald hx hb hK hP 2 0 rfl rfl (by assumption) d_Mo_isStop_63 ?_
        refine lv_goto (tgt := 73) hx hb d_Mo_isStop_64 (by decide) ?_
        refine lv_istore (lv' := [(5, .int (p7 y.toNatClampNeg)), (4, .int (p8 z.toNatClampNeg)), (0, .ref m0), (1, .int x), (2, .int y), (3, .int z)]) hx hb d_Mo_isStop_73 hl (by decide) rfl (fun ls hl => ?_)
        refine lv_aload_n hx hb d_Mo_isStop_75 rfl (lv_at hl 2 rfl) ?_
        refine va_get (D := D) (ci := 5) (v := .ref z15) (C := R_Mo) (T := F_Mo) (N := 36) hx hb hw ku_Mo hown hK hP 0 rfl rfl 18 (by decide) (hw _ kw_8df6f597) (fun _ h9 => h9) rfl d_Mo_isStop_76 ?_
        refine lv_iload_n hx hb d_Mo_isStop_79 rfl (lv_at hl 5 rfl) ?_
        refine va_iald hx hb hK hP 2 0 rfl rfl (by assumption) d_Mo_isStop_80 ?_
        refine lv_aload_n hx hb d_Mo_isStop_81 rfl (lv_at hl 2 rfl) ?_
        refine va_get (D := D) (ci := 5) (v := .ref z15) (C := R_Mo) (T := F_Mo) (N := 36) hx hb hw ku_Mo hown hK hP 0 rfl rfl 18 (by decide) (hw _ kw_8df6f597) (fun _ h9 => h9) rfl d_Mo_isStop_82 ?_
        refine lv_iload_n hx hb d_Mo_isStop_85 rfl (lv_at hl 4 rfl) ?_
        refine va_iald hx hb hK hP 2 0 rfl rfl (by assumption) d_Mo_isStop_86 ?_
        refine lv_isub hx hb d_Mo_isStop_87 ?_
        refine lv_bipush (v := 24) hx hb d_Mo_isStop_88 (by decide) ?_
        refine lv_icmp_gt (tgt := 103) hx hb d_Mo_isStop_90 (by decide) (fun c_90 => ?_) (fun c_90 => ?_)
        · skip
          refine lv_iconst (v := 1) hx hb d_Mo_isStop_103 (by decide) ?_
          refine lv_goto (tgt := 108) hx hb d_Mo_isStop_104 (by decide) ?_
          have hP9 := hP.sub (ws' := [(m0, .inr (5, [.int th, .ref z1, .ref z2, .int nv, .ref z3, .ref z4, .int ns, .ref z5, .ref z6, .ref z7, .ref z8, .int nw, .ref z9, .ref z10, .ref z11, .ref z12, .ref z13, .ref z14, .ref z15, .ref z16, .int gv, .int gs, .int gw, .int nb, .int sd, .ref z17, .ref z18, .ref z19, .ref z20, .ref z21, .int nt, .ref z22, .ref z23, .ref z24, .int nk, .int fs])), (z14, .inl (cI, 64, .inl p6)), (z15, .inl (cI, 16, .inl p7)), (z16, .inl (cI, 16, .inl p8))]) [0, 1, 2, 3] rfl
          have hD9 := hD.sub (ws' := [(m0, .inr (5, [.int th, .ref z1, .ref z2, .int nv, .ref z3, .ref z4, .int ns, .ref z5, .ref z6, .ref z7, .ref z8, .int nw, .ref z9, .ref z10, .ref z11, .ref z12, .ref z13, .ref z14, .ref z15, .ref z16, .int gv, .int gs, .int gw, .int nb, .int sd, .ref z17, .ref z18, .ref z19, .ref z20, .ref z21, .int nt, .ref z22, .ref z23, .ref z24, .int nk, .int fs])), (z14, .inl (cI, 64, .inl p6)), (z15, .inl (cI, 16, .inl p7)), (z16, .inl (cI, 16, .inl p8))]) [0, 1, 2, 3] (by decide) rfl
          exact W.zret (ty := .boolean) (v := 1) hx hb hr (rfl) (fun T9 hT9 hW9 => ⟨⟨1, (), rfl, by simp [sw_b, sw_stm, c_6, c_23, c_55, c_90], by rw [hT9]; exact hP9, hD9⟩, hS.F hT9⟩) hS.2.2 d_Mo_isStop_108
        · skip
          refine lv_iload hx hb d_Mo_isStop_93 (lv_at hl 1 rfl) ?_
          refine lv_iload hx hb d_Mo_isStop_95 (lv_at hl 0 rfl) ?_
          refine lv_isub hx hb d_Mo_isStop_97 ?_
          refine lv_bipush (v := 56) hx hb d_Mo_isStop_98 (by decide) ?_
          refine lv_icmp_ge (tgt := 107) hx hb d_Mo_isStop_100 (by decide) (fun c_100 => ?_) (fun c_100 => ?_)
          · skip
            refine lv_iconst (v := 0) hx hb d_Mo_isStop_107 (by decide) ?_
            have hP9 := hP.sub (ws' := [(m0, .inr (5, [.int th, .ref z1, .ref z2, .int nv, .ref z3, .ref z4, .int ns, .ref z5, .ref z6, .ref z7, .ref z8, .int nw, .ref z9, .ref z10, .ref z11, .ref z12, .ref z13, .ref z14, .ref z15, .ref z16, .int gv, .int gs, .int gw, .int nb, .int sd, .ref z17, .ref z18, .ref z19, .ref z20, .ref z21, .int nt, .ref z22, .ref z23, .ref z24, .int nk, .int fs])), (z14, .inl (cI, 64, .inl p6)), (z15, .inl (cI, 16, .inl p7)), (z16, .inl (cI, 16, .inl p8))]) [0, 1, 2, 3] rfl
            have hD9 := hD.sub (ws' := [(m0, .inr (5, [.int th, .ref z1, .ref z2, .int nv, .ref z3, .ref z4, .int ns, .ref z5, .ref z6, .ref z7, .ref z8, .int nw, .ref z9, .ref z10, .ref z11, .ref z12, .ref z13, .ref z14, .ref z15, .ref z16, .int gv, .int gs, .int gw, .int nb, .int sd, .ref z17, .ref z18, .ref z19, .ref z20, .ref z21, .int nt, .ref z22, .ref z23, .ref z24, .int nk, .int fs])), (z14, .inl (cI, 64, .inl p6)), (z15, .inl (cI, 16, .inl p7)), (z16, .inl (cI, 16, .inl p8))]) [0, 1, 2, 3] (by decide) rfl
            exact W.zret (ty := .boolean) (v := 0) hx hb hr (rfl) (fun T9 hT9 hW9 => ⟨⟨0, (), rfl, by simp [sw_b, sw_stm, c_6, c_23, c_55, c_90, c_100], by rw [hT9]; exact hP9, hD9⟩, hS.F hT9⟩) hS.2.2 d_Mo_isStop_108
          · skip
            refine lv_iconst (v := 1) hx hb d_Mo_isStop_103 (by decide) ?_
            refine lv_goto (tgt := 108) hx hb d_Mo_isStop_104 (by decide) ?_
            have hP9 := hP.sub (ws' := [(m0, .inr (5, [.int th, .ref z1, .ref z2, .int nv, .ref z3, .ref z4, .int ns, .ref z5, .ref z6, .ref z7, .ref z8, .int nw, .ref z9, .ref z10, .ref z11, .ref z12, .ref z13, .ref z14, .ref z15, .ref z16, .int gv, .int gs, .int gw, .int nb, .int sd, .ref z17, .ref z18, .ref z19, .ref z20, .ref z21, .int nt, .ref z22, .ref z23, .ref z24, .int nk, .int fs])), (z14, .inl (cI, 64, .inl p6)), (z15, .inl (cI, 16, .inl p7)), (z16, .inl (cI, 16, .inl p8))]) [0, 1, 2, 3] rfl
            have hD9 := hD.sub (ws' := [(m0, .inr (5, [.int th, .ref z1, .ref z2, .int nv, .ref z3, .ref z4, .int ns, .ref z5, .ref z6, .ref z7, .ref z8, .int nw, .ref z9, .ref z10, .ref z11, .ref z12, .ref z13, .ref z14, .ref z15, .ref z16, .int gv, .int gs, .int gw, .int nb, .int sd, .ref z17, .ref z18, .ref z19, .ref z20, .ref z21, .int nt, .ref z22, .ref z23, .ref z24, .int nk, .int fs])), (z14, .inl (cI, 64, .inl p6)), (z15, .inl (cI, 16, .inl p7)), (z16, .inl (cI, 16, .inl p8))]) [0, 1, 2, 3] (by decide) rfl
            exact W.zret (ty := .boolean) (v := 1) hx hb hr (rfl) (fun T9 hT9 hW9 => ⟨⟨1, (), rfl, by simp [sw_b, sw_stm, c_6, c_23, c_55, c_90, c_100], by rw [hT9]; exact hP9, hD9⟩, hS.F hT9⟩) hS.2.2 d_Mo_isStop_108
    · skip
      refine lv_aload_n hx hb d_Mo_isStop_26 rfl (lv_at hl 0 rfl) ?_
      refine va_get (D := D) (ci := 5) (v := .ref z16) (C := R_Mo) (T := F_Mo) (N := 36) hx hb hw ku_Mo hown hK hP 0 rfl rfl 19 (by decide) (hw _ kw_ede0783e) (fun _ h9 => h9) rfl d_Mo_isStop_27 ?_
      refine lv_iload_n hx hb d_Mo_isStop_30 rfl (lv_at hl 2 rfl) ?_
      refine va_iald hx hb hK hP 3 0 rfl rfl (by assumption) d_Mo_isStop_31 ?_
      refine lv_goto (tgt := 41) hx hb d_Mo_isStop_32 (by decide) ?_
      refine lv_istore (lv' := [(4, .int (p8 y.toNatClampNeg)), (0, .ref m0), (1, .int x), (2, .int y), (3, .int z)]) hx hb d_Mo_isStop_41 hl (by decide) rfl (fun ls hl => ?_)
      refine lv_aload_n hx hb d_Mo_isStop_43 rfl (lv_at hl 1 rfl) ?_
      refine va_get (D := D) (ci := 5) (v := .ref z15) (C := R_Mo) (T := F_Mo) (N := 36) hx hb hw ku_Mo hown hK hP 0 rfl rfl 18 (by decide) (hw _ kw_8df6f597) (fun _ h9 => h9) rfl d_Mo_isStop_44 ?_
      refine lv_iload_n hx hb d_Mo_isStop_47 rfl (lv_at hl 3 rfl) ?_
      refine va_iald hx hb hK hP 2 0 rfl rfl (by assumption) d_Mo_isStop_48 ?_
      refine lv_aload_n hx hb d_Mo_isStop_49 rfl (lv_at hl 1 rfl) ?_
      refine va_get (D := D) (ci := 5) (v := .ref z15) (C := R_Mo) (T := F_Mo) (N := 36) hx hb hw ku_Mo hown hK hP 0 rfl rfl 18 (by decide) (hw _ kw_8df6f597) (fun _ h9 => h9) rfl d_Mo_isStop_50 ?_
      refine lv_iload_n hx hb d_Mo_isStop_53 rfl (lv_at hl 4 rfl) ?_
      refine va_iald hx hb hK hP 2 0 rfl rfl (by assumption) d_Mo_isStop_54 ?_
      refine lv_icmp_le (tgt := 67) hx hb d_Mo_isStop_55 (by decide) (fun c_55 => ?_) (fun c_55 => ?_)
      · skip
        refine lv_aload_n hx hb d_Mo_isStop_67 rfl (lv_at hl 1 rfl) ?_
        refine va_get (D := D) (ci := 5) (v := .ref z15) (C := R_Mo) (T := F_Mo) (N := 36) hx hb hw ku_Mo hown hK hP 0 rfl rfl 18 (by decide) (hw _ kw_8df6f597) (fun _ h9 => h9) rfl d_Mo_isStop_68 ?_
        refine lv_iload_n hx hb d_Mo_isStop_71 rfl (lv_at hl 4 rfl) ?_
        refine va_iald hx hb hK hP 2 0 rfl rfl (by assumption) d_Mo_isStop_72 ?_
        refine lv_istore (lv' := [(5, .int (p7 z.toNatClampNeg)), (4, .int (p8 y.toNatClampNeg)), (0, .ref m0), (1, .int x), (2, .int y), (3, .int z)]) hx hb d_Mo_isStop_73 hl (by decide) rfl (fun ls hl => ?_)
        refine lv_aload_n hx hb d_Mo_isStop_75 rfl (lv_at hl 2 rfl) ?_
        refine va_get (D := D) (ci := 5) (v := .ref z15) (C := R_Mo) (T := F_Mo) (N := 36) hx hb hw ku_Mo hown hK hP 0 rfl rfl 18 (by decide) (hw _ kw_8df6f597) (fun _ h9 => h9) rfl d_Mo_isStop_76 ?_
        refine lv_iload_n hx hb d_Mo_isStop_79 rfl (lv_at hl 5 rfl) ?_
        refine va_iald hx hb hK hP 2 0 rfl rfl (by assumption) d_Mo_isStop_80 ?_
        refine lv_aload_n hx hb d_Mo_isStop_81 rfl (lv_at hl 2 rfl) ?_
        refine va_get (D := D) (ci := 5) (v := .ref z15) (C := R_Mo) (T := F_Mo) (N := 36) hx hb hw ku_Mo hown hK hP 0 rfl rfl 18 (by decide) (hw _ kw_8df6f597) (fun _ h9 => h9) rfl d_Mo_isStop_82 ?_
        refine lv_iload_n hx hb d_Mo_isStop_85 rfl (lv_at hl 4 rfl) ?_
        refine va_iald hx hb hK hP 2 0 rfl rfl (by assumption) d_Mo_isStop_86 ?_
        refine lv_isub hx hb d_Mo_isStop_87 ?_
        refine lv_bipush (v := 24) hx hb d_Mo_isStop_88 (by decide) ?_
        refine lv_icmp_gt (tgt := 103) hx hb d_Mo_isStop_90 (by decide) (fun c_90 => ?_) (fun c_90 => ?_)
        · skip
          refine lv_iconst (v := 1) hx hb d_Mo_isStop_103 (by decide) ?_
          refine lv_goto (tgt := 108) hx hb d_Mo_isStop_104 (by decide) ?_
          have hP9 := hP.sub (ws' := [(m0, .inr (5, [.int th, .ref z1, .ref z2, .int nv, .ref z3, .ref z4, .int ns, .ref z5, .ref z6, .ref z7, .ref z8, .int nw, .ref z9, .ref z10, .ref z11, .ref z12, .ref z13, .ref z14, .ref z15, .ref z16, .int gv, .int gs, .int gw, .int nb, .int sd, .ref z17, .ref z18, .ref z19, .ref z20, .ref z21, .int nt, .ref z22, .ref z23, .ref z24, .int nk, .int fs])), (z14, .inl (cI, 64, .inl p6)), (z15, .inl (cI, 16, .inl p7)), (z16, .inl (cI, 16, .inl p8))]) [0, 1, 2, 3] rfl
          have hD9 := hD.sub (ws' := [(m0, .inr (5, [.int th, .ref z1, .ref z2, .int nv, .ref z3, .ref z4, .int ns, .ref z5, .ref z6, .ref z7, .ref z8, .int nw, .ref z9, .ref z10, .ref z11, .ref z12, .ref z13, .ref z14, .ref z15, .ref z16, .int gv, .int gs, .int gw, .int nb, .int sd, .ref z17, .ref z18, .ref z19, .ref z20, .ref z21, .int nt, .ref z22, .ref z23, .ref z24, .int nk, .int fs])), (z14, .inl (cI, 64, .inl p6)), (z15, .inl (cI, 16, .inl p7)), (z16, .inl (cI, 16, .inl p8))]) [0, 1, 2, 3] (by decide) rfl
          exact W.zret (ty := .boolean) (v := 1) hx hb hr (rfl) (fun T9 hT9 hW9 => ⟨⟨1, (), rfl, by simp [sw_b, sw_stm, c_6, c_23, c_55, c_90], by rw [hT9]; exact hP9, hD9⟩, hS.F hT9⟩) hS.2.2 d_Mo_isStop_108
        · skip
          refine lv_iload hx hb d_Mo_isStop_93 (lv_at hl 1 rfl) ?_
          refine lv_iload hx hb d_Mo_isStop_95 (lv_at hl 0 rfl) ?_
          refine lv_isub hx hb d_Mo_isStop_97 ?_
          refine lv_bipush (v := 56) hx hb d_Mo_isStop_98 (by decide) ?_
          refine lv_icmp_ge (tgt := 107) hx hb d_Mo_isStop_100 (by decide) (fun c_100 => ?_) (fun c_100 => ?_)
          · skip
            refine lv_iconst (v := 0) hx hb d_Mo_isStop_107 (by decide) ?_
            have hP9 := hP.sub (ws' := [(m0, .inr (5, [.int th, .ref z1, .ref z2, .int nv, .ref z3, .ref z4, .int ns, .ref z5, .ref z6, .ref z7, .ref z8, .int nw, .ref z9, .ref z10, .ref z11, .ref z12, .ref z13, .ref z14, .ref z15, .ref z16, .int gv, .int gs, .int gw, .int nb, .int sd, .ref z17, .ref z18, .ref z19, .ref z20, .ref z21, .int nt, .ref z22, .ref z23, .ref z24, .int nk, .int fs])), (z14, .inl (cI, 64, .inl p6)), (z15, .inl (cI, 16, .inl p7)), (z16, .inl (cI, 16, .inl p8))]) [0, 1, 2, 3] rfl
            have hD9 := hD.sub (ws' := [(m0, .inr (5, [.int th, .ref z1, .ref z2, .int nv, .ref z3, .ref z4, .int ns, .ref z5, .ref z6, .ref z7, .ref z8, .int nw, .ref z9, .ref z10, .ref z11, .ref z12, .ref z13, .ref z14, .ref z15, .ref z16, .int gv, .int gs, .int gw, .int nb, .int sd, .ref z17, .ref z18, .ref z19, .ref z20, .ref z21, .int nt, .ref z22, .ref z23, .ref z24, .int nk, .int fs])), (z14, .inl (cI, 64, .inl p6)), (z15, .inl (cI, 16, .inl p7)), (z16, .inl (cI, 16, .inl p8))]) [0, 1, 2, 3] (by decide) rfl
            exact W.zret (ty := .boolean) (v := 0) hx hb hr (rfl) (fun T9 hT9 hW9 => ⟨⟨0, (), rfl, by simp [sw_b, sw_stm, c_6, c_23, c_55, c_90, c_100], by rw [hT9]; exact hP9, hD9⟩, hS.F hT9⟩) hS.2.2 d_Mo_isStop_108
          · skip
            refine lv_iconst (v := 1) hx hb d_Mo_isStop_103 (by decide) ?_
            refine lv_goto (tgt := 108) hx hb d_Mo_isStop_104 (by decide) ?_
            have hP9 := hP.sub (ws' := [(m0, .inr (5, [.int th, .ref z1, .ref z2, .int nv, .ref z3, .ref z4, .int ns, .ref z5, .ref z6, .ref z7, .ref z8, .int nw, .ref z9, .ref z10, .ref z11, .ref z12, .ref z13, .ref z14, .ref z15, .ref z16, .int gv, .int gs, .int gw, .int nb, .int sd, .ref z17, .ref z18, .ref z19, .ref z20, .ref z21, .int nt, .ref z22, .ref z23, .ref z24, .int nk, .int fs])), (z14, .inl (cI, 64, .inl p6)), (z15, .inl (cI, 16, .inl p7)), (z16, .inl (cI, 16, .inl p8))]) [0, 1, 2, 3] rfl
            have hD9 := hD.sub (ws' := [(m0, .inr (5, [.int th, .ref z1, .ref z2, .int nv, .ref z3, .ref z4, .int ns, .ref z5, .ref z6, .ref z7, .ref z8, .int nw, .ref z9, .ref z10, .ref z11, .ref z12, .ref z13, .ref z14, .ref z15, .ref z16, .int gv, .int gs, .int gw, .int nb, .int sd, .ref z17, .ref z18, .ref z19, .ref z20, .ref z21, .int nt, .ref z22, .ref z23, .ref z24, .int nk, .int fs])), (z14, .inl (cI, 64, .inl p6)), (z15, .inl (cI, 16, .inl p7)), (z16, .inl (cI, 16, .inl p8))]) [0, 1, 2, 3] (by decide) rfl
            exact W.zret (ty := .boolean) (v := 1) hx hb hr (rfl) (fun T9 hT9 hW9 => ⟨⟨1, (), rfl, by simp [sw_b, sw_stm, c_6, c_23, c_55, c_90, c_100], by rw [hT9]; exact hP9, hD9⟩, hS.F hT9⟩) hS.2.2 d_Mo_isStop_108
      · skip
        refine lv_aload_n hx hb d_Mo_isStop_58 rfl (lv_at hl 1 rfl) ?_
        refine va_get (D := D) (ci := 5) (v := .ref z15) (C := R_Mo) (T := F_Mo) (N := 36) hx hb hw ku_Mo hown hK hP 0 rfl rfl 18 (by decide) (hw _ kw_8df6f597) (fun _ h9 => h9) rfl d_Mo_isStop_59 ?_
        refine lv_iload_n hx hb d_Mo_isStop_62 rfl (lv_at hl 3 rfl) ?_
        refine va_iald hx hb hK hP 2 0 rfl rfl (by assumption) d_Mo_isStop_63 ?_
        refine lv_goto (tgt := 73) hx hb d_Mo_isStop_64 (by decide) ?_
        refine lv_istore (lv' := [(5, .int (p7 y.toNatClampNeg)), (4, .int (p8 y.toNatClampNeg)), (0, .ref m0), (1, .int x), (2, .int y), (3, .int z)]) hx hb d_Mo_isStop_73 hl (by decide) rfl (fun ls hl => ?_)
        refine lv_aload_n hx hb d_Mo_isStop_75 rfl (lv_at hl 2 rfl) ?_
        refine va_get (D := D) (ci := 5) (v := .ref z15) (C := R_Mo) (T := F_Mo) (N := 36) hx hb hw ku_Mo hown hK hP 0 rfl rfl 18 (by decide) (hw _ kw_8df6f597) (fun _ h9 => h9) rfl d_Mo_isStop_76 ?_
        refine lv_iload_n hx hb d_Mo_isStop_79 rfl (lv_at hl 5 rfl) ?_
        refine va_iald hx hb hK hP 2 0 rfl rfl (by assumption) d_Mo_isStop_80 ?_
        refine lv_aload_n hx hb d_Mo_isStop_81 rfl (lv_at hl 2 rfl) ?_
        refine va_get (D := D) (ci := 5) (v := .ref z15) (C := R_Mo) (T := F_Mo) (N := 36) hx hb hw ku_Mo hown hK hP 0 rfl rfl 18 (by decide) (hw _ kw_8df6f597) (fun _ h9 => h9) rfl d_Mo_isStop_82 ?_
        refine lv_iload_n hx hb d_Mo_isStop_85 rfl (lv_at hl 4 rfl) ?_
        refine va_iald hx hb hK hP 2 0 rfl rfl (by assumption) d_Mo_isStop_86 ?_
        refine lv_isub hx hb d_Mo_isStop_87 ?_
        refine lv_bipush (v := 24) hx hb d_Mo_isStop_88 (by decide) ?_
        refine lv_icmp_gt (tgt := 103) hx hb d_Mo_isStop_90 (by decide) (fun c_90 => ?_) (fun c_90 => ?_)
        · skip
          refine lv_iconst (v := 1) hx hb d_Mo_isStop_103 (by decide) ?_
          refine lv_goto (tgt := 108) hx hb d_Mo_isStop_104 (by decide) ?_
          have hP9 := hP.sub (ws' := [(m0, .inr (5, [.int th, .ref z1, .ref z2, .int nv, .ref z3, .ref z4, .int ns, .ref z5, .ref z6, .ref z7, .ref z8, .int nw, .ref z9, .ref z10, .ref z11, .ref z12, .ref z13, .ref z14, .ref z15, .ref z16, .int gv, .int gs, .int gw, .int nb, .int sd, .ref z17, .ref z18, .ref z19, .ref z20, .ref z21, .int nt, .ref z22, .ref z23, .ref z24, .int nk, .int fs])), (z14, .inl (cI, 64, .inl p6)), (z15, .inl (cI, 16, .inl p7)), (z16, .inl (cI, 16, .inl p8))]) [0, 1, 2, 3] rfl
          have hD9 := hD.sub (ws' := [(m0, .inr (5, [.int th, .ref z1, .ref z2, .int nv, .ref z3, .ref z4, .int ns, .ref z5, .ref z6, .ref z7, .ref z8, .int nw, .ref z9, .ref z10, .ref z11, .ref z12, .ref z13, .ref z14, .ref z15, .ref z16, .int gv, .int gs, .int gw, .int nb, .int sd, .ref z17, .ref z18, .ref z19, .ref z20, .ref z21, .int nt, .ref z22, .ref z23, .ref z24, .int nk, .int fs])), (z14, .inl (cI, 64, .inl p6)), (z15, .inl (cI, 16, .inl p7)), (z16, .inl (cI, 16, .inl p8))]) [0, 1, 2, 3] (by decide) rfl
          exact W.zret (ty := .boolean) (v := 1) hx hb hr (rfl) (fun T9 hT9 hW9 => ⟨⟨1, (), rfl, by simp [sw_b, sw_stm, c_6, c_23, c_55, c_90], by rw [hT9]; exact hP9, hD9⟩, hS.F hT9⟩) hS.2.2 d_Mo_isStop_108
        · skip
          refine lv_iload hx hb d_Mo_isStop_93 (lv_at hl 1 rfl) ?_
          refine lv_iload hx hb d_Mo_isStop_95 (lv_at hl 0 rfl) ?_
          refine lv_isub hx hb d_Mo_isStop_97 ?_
          refine lv_bipush (v := 56) hx hb d_Mo_isStop_98 (by decide) ?_
          refine lv_icmp_ge (tgt := 107) hx hb d_Mo_isStop_100 (by decide) (fun c_100 => ?_) (fun c_100 => ?_)
          · skip
            refine lv_iconst (v := 0) hx hb d_Mo_isStop_107 (by decide) ?_
            have hP9 := hP.sub (ws' := [(m0, .inr (5, [.int th, .ref z1, .ref z2, .int nv, .ref z3, .ref z4, .int ns, .ref z5, .ref z6, .ref z7, .ref z8, .int nw, .ref z9, .ref z10, .ref z11, .ref z12, .ref z13, .ref z14, .ref z15, .ref z16, .int gv, .int gs, .int gw, .int nb, .int sd, .ref z17, .ref z18, .ref z19, .ref z20, .ref z21, .int nt, .ref z22, .ref z23, .ref z24, .int nk, .int fs])), (z14, .inl (cI, 64, .inl p6)), (z15, .inl (cI, 16, .inl p7)), (z16, .inl (cI, 16, .inl p8))]) [0, 1, 2, 3] rfl
            have hD9 := hD.sub (ws' := [(m0, .inr (5, [.int th, .ref z1, .ref z2, .int nv, .ref z3, .ref z4, .int ns, .ref z5, .ref z6, .ref z7, .ref z8, .int nw, .ref z9, .ref z10, .ref z11, .ref z12, .ref z13, .ref z14, .ref z15, .ref z16, .int gv, .int gs, .int gw, .int nb, .int sd, .ref z17, .ref z18, .ref z19, .ref z20, .ref z21, .int nt, .ref z22, .ref z23, .ref z24, .int nk, .int fs])), (z14, .inl (cI, 64, .inl p6)), (z15, .inl (cI, 16, .inl p7)), (z16, .inl (cI, 16, .inl p8))]) [0, 1, 2, 3] (by decide) rfl
            exact W.zret (ty := .boolean) (v := 0) hx hb hr (rfl) (fun T9 hT9 hW9 => ⟨⟨0, (), rfl, by simp [sw_b, sw_stm, c_6, c_23, c_55, c_90, c_100], by rw [hT9]; exact hP9, hD9⟩, hS.F hT9⟩) hS.2.2 d_Mo_isStop_108
          · skip
            refine lv_iconst (v := 1) hx hb d_Mo_isStop_103 (by decide) ?_
            refine lv_goto (tgt := 108) hx hb d_Mo_isStop_104 (by decide) ?_
            have hP9 := hP.sub (ws' := [(m0, .inr (5, [.int th, .ref z1, .ref z2, .int nv, .ref z3, .ref z4, .int ns, .ref z5, .ref z6, .ref z7, .ref z8, .int nw, .ref z9, .ref z10, .ref z11, .ref z12, .ref z13, .ref z14, .ref z15, .ref z16, .int gv, .int gs, .int gw, .int nb, .int sd, .ref z17, .ref z18, .ref z19, .ref z20, .ref z21, .int nt, .ref z22, .ref z23, .ref z24, .int nk, .int fs])), (z14, .inl (cI, 64, .inl p6)), (z15, .inl (cI, 16, .inl p7)), (z16, .inl (cI, 16, .inl p8))]) [0, 1, 2, 3] rfl
            have hD9 := hD.sub (ws' := [(m0, .inr (5, [.int th, .ref z1, .ref z2, .int nv, .ref z3, .ref z4, .int ns, .ref z5, .ref z6, .ref z7, .ref z8, .int nw, .ref z9, .ref z10, .ref z11, .ref z12, .ref z13, .ref z14, .ref z15, .ref z16, .int gv, .int gs, .int gw, .int nb, .int sd, .ref z17, .ref z18, .ref z19, .ref z20, .ref z21, .int nt, .ref z22, .ref z23, .ref z24, .int nk, .int fs])), (z14, .inl (cI, 64, .inl p6)), (z15, .inl (cI, 16, .inl p7)), (z16, .inl (cI, 16, .inl p8))]) [0, 1, 2, 3] (by decide) rfl
            exact W.zret (ty := .boolean) (v := 1) hx hb hr (rfl) (fun T9 hT9 hW9 => ⟨⟨1, (), rfl, by simp [sw_b, sw_stm, c_6, c_23, c_55, c_90, c_100], by rw [hT9]; exact hP9, hD9⟩, hS.F hT9⟩) hS.2.2 d_Mo_isStop_108
  · skip
    refine lv_iconst (v := 1) hx hb d_Mo_isStop_9 (by decide) ?_
    have hP9 := hP.sub (ws' := [(m0, .inr (5, [.int th, .ref z1, .ref z2, .int nv, .ref z3, .ref z4, .int ns, .ref z5, .ref z6, .ref z7, .ref z8, .int nw, .ref z9, .ref z10, .ref z11, .ref z12, .ref z13, .ref z14, .ref z15, .ref z16, .int gv, .int gs, .int gw, .int nb, .int sd, .ref z17, .ref z18, .ref z19, .ref z20, .ref z21, .int nt, .ref z22, .ref z23, .ref z24, .int nk, .int fs])), (z14, .inl (cI, 64, .inl p6)), (z15, .inl (cI, 16, .inl p7)), (z16, .inl (cI, 16, .inl p8))]) [0, 1, 2, 3] rfl
    have hD9 := hD.sub (ws' := [(m0, .inr (5, [.int th, .ref z1, .ref z2, .int nv, .ref z3, .ref z4, .int ns, .ref z5, .ref z6, .ref z7, .ref z8, .int nw, .ref z9, .ref z10, .ref z11, .ref z12, .ref z13, .ref z14, .ref z15, .ref z16, .int gv, .int gs, .int gw, .int nb, .int sd, .ref z17, .ref z18, .ref z19, .ref z20, .ref z21, .int nt, .ref z22, .ref z23, .ref z24, .int nk, .int fs])), (z14, .inl (cI, 64, .inl p6)), (z15, .inl (cI, 16, .inl p7)), (z16, .inl (cI, 16, .inl p8))]) [0, 1, 2, 3] (by decide) rfl
    exact W.zret (ty := .boolean) (v := 1) hx hb hr (rfl) (fun T9 hT9 hW9 => ⟨⟨1, (), rfl, by simp [sw_b, sw_stm, c_6], by rw [hT9]; exact hP9, hD9⟩, hS.F hT9⟩) hS.2.2 d_Mo_isStop_10

abbrev rm_Mo_add : Room := { frames := 0, cells := 0, slots := 0, locals := 0 }
abbrev q_Mo_add (D : va_G) (cI cL : ClassId) (A : Nat → Prop) (m0 : Nat) (x : Int32) (y : Int64) (z : Int64) (th : Int32) (z1 : Nat) (z2 : Nat) (nv : Int32) (z3 : Nat) (z4 : Nat) (ns : Int32) (z5 : Nat) (z6 : Nat) (z7 : Nat) (z8 : Nat) (nw : Int32) (z9 : Nat) (z10 : Nat) (z11 : Nat) (z12 : Nat) (z13 : Nat) (z14 : Nat) (z15 : Nat) (z16 : Nat) (gv : Int32) (gs : Int32) (gw : Int32) (nb : Int32) (sd : Int32) (z17 : Nat) (z18 : Nat) (z19 : Nat) (z20 : Nat) (z21 : Nat) (nt : Int32) (z22 : Nat) (z23 : Nat) (z24 : Nat) (nk : Int32) (fs : Int32) (cr : Nat → Int32) (cp : Nat → Int64) (cq : Nat → Int64) : Array Value → State → Outcome → State → Prop := va_Qv (S := (Nat → Int32) × (Nat → Int64) × (Nat → Int64)) (fun (u : (Nat → Int32) × (Nat → Int64) × (Nat → Int64)) => match u with | (cr2, cp2, cq2) => cr2 = ((sw_adf x y z nk.toNatClampNeg (cr, cp, cq)).1) ∧ cp2 = ((sw_adf x y z nk.toNatClampNeg (cr, cp, cq)).2.1) ∧ cq2 = ((sw_adf x y z nk.toNatClampNeg (cr, cp, cq)).2.2)) (sw_R D A (fun (u : (Nat → Int32) × (Nat → Int64) × (Nat → Int64)) => match u with | (cr2, cp2, cq2) => [(m0, .inr (5, [.int th, .ref z1, .ref z2, .int nv, .ref z3, .ref z4, .int ns, .ref z5, .ref z6, .ref z7, .ref z8, .int nw, .ref z9, .ref z10, .ref z11, .ref z12, .ref z13, .ref z14, .ref z15, .ref z16, .int gv, .int gs, .int gw, .int nb, .int sd, .ref z17, .ref z18, .ref z19, .ref z20, .ref z21, .int nt, .ref z22, .ref z23, .ref z24, .int (nk + 1), .int fs])), (z22, .inl (cI, 64, .inl cr2)), (z23, .inl (cL, 64, .inr (.inl cp2))), (z24, .inl (cL, 64, .inr (.inl cq2)))])) A
set_option maxHeartbeats 4000000 in
set_option maxRecDepth 100000 in
theorem c_Mo_add (l : Launch) (D : va_G) (cI cL : ClassId) (tq sz : Nat) (m0 : Nat) (x : Int32) (y : Int64) (z : Int64) (th : Int32) (z1 : Nat) (z2 : Nat) (nv : Int32) (z3 : Nat) (z4 : Nat) (ns : Int32) (z5 : Nat) (z6 : Nat) (z7 : Nat) (z8 : Nat) (nw : Int32) (z9 : Nat) (z10 : Nat) (z11 : Nat) (z12 : Nat) (z13 : Nat) (z14 : Nat) (z15 : Nat) (z16 : Nat) (gv : Int32) (gs : Int32) (gw : Int32) (nb : Int32) (sd : Int32) (z17 : Nat) (z18 : Nat) (z19 : Nat) (z20 : Nat) (z21 : Nat) (nt : Int32) (z22 : Nat) (z23 : Nat) (z24 : Nat) (nk : Int32) (fs : Int32) (cr : Nat → Int32) (cp : Nat → Int64) (cq : Nat → Int64) (hn : sw_ok nk 63) : Met l y_Mo_add w_Mo_add rm_Mo_add (va_Pc [.ref m0, .int x, .long y, .long z] (sw_B D cI cL tq sz [(m0, .inr (5, [.int th, .ref z1, .ref z2, .int nv, .ref z3, .ref z4, .int ns, .ref z5, .ref z6, .ref z7, .ref z8, .int nw, .ref z9, .ref z10, .ref z11, .ref z12, .ref z13, .ref z14, .ref z15, .ref z16, .int gv, .int gs, .int gw, .int nb, .int sd, .ref z17, .ref z18, .ref z19, .ref z20, .ref z21, .int nt, .ref z22, .ref z23, .ref z24, .int nk, .int fs])), (z22, .inl (cI, 64, .inl cr)), (z23, .inl (cL, 64, .inr (.inl cp))), (z24, .inl (cL, 64, .inr (.inl cq)))])) (q_Mo_add D cI cL (va_A [(m0, .inr (5, [.int th, .ref z1, .ref z2, .int nv, .ref z3, .ref z4, .int ns, .ref z5, .ref z6, .ref z7, .ref z8, .int nw, .ref z9, .ref z10, .ref z11, .ref z12, .ref z13, .ref z14, .ref z15, .ref z16, .int gv, .int gs, .int gw, .int nb, .int sd, .ref z17, .ref z18, .ref z19, .ref z20, .ref z21, .int nt, .ref z22, .ref z23, .ref z24, .int nk, .int fs])), (z22, .inl (cI, 64, .inl cr)), (z23, .inl (cL, 64, .inr (.inl cp))), (z24, .inl (cL, 64, .inr (.inl cq)))] sz) m0 x y z th z1 z2 nv z3 z4 ns z5 z6 z7 z8 nw z9 z10 z11 z12 z13 z14 z15 z16 gv gs gw nb sd z17 z18 z19 z20 z21 nt z22 z23 z24 nk fs cr cp cq) 0 0 (va_A [(m0, .inr (5, [.int th, .ref z1, .ref z2, .int nv, .ref z3, .ref z4, .int ns, .ref z5, .ref z6, .ref z7, .ref z8, .int nw, .ref z9, .ref z10, .ref z11, .ref z12, .ref z13, .ref z14, .ref z15, .ref z16, .int gv, .int gs, .int gw, .int nb, .int sd, .ref z17, .ref z18, .ref z19, .ref z20, .ref z21, .int nt, .ref z22, .ref z23, .ref z24, .int nk, .int fs])), (z22, .inl (cI, 64, .inl cr)), (z23, .inl (cL, 64, .inr (.inl cp))), (z24, .inl (cL, 64, .inr (.inl cq)))] sz) := by
  refine Met.ofW (cc := b_Mo_add) (maxL := 7) (ret := none) (by decide) rfl ?_
  intro mp me s mm args below meth mk s₁ B hml hv
  obtain ⟨rfl, hsz, hP, hK, hD0, hG⟩ := hv
  have hx := B.exec
  have hb := B.bytes
  have hr := B.returns
  have hts := atoms_spec (ws := w_Mo_add) B.pre
  have hw : ∀ w ∈ sw_words, w.before _ s = true := fun w h => hts w (List.mem_cons_of_mem _ h)
  have hown : s.vm.findClass R_Mo = some mm.cls := findClass_of_methodNamed B.named
  have hlocks := B.notSynchronized
  subst hsz
  have hD := hD0.self (sz := s.heap.size)
  generalize hAe : va_A [(m0, .inr (5, [.int th, .ref z1, .ref z2, .int nv, .ref z3, .ref z4, .int ns, .ref z5, .ref z6, .ref z7, .ref z8, .int nw, .ref z9, .ref z10, .ref z11, .ref z12, .ref z13, .ref z14, .ref z15, .ref z16, .int gv, .int gs, .int gw, .int nb, .int sd, .ref z17, .ref z18, .ref z19, .ref z20, .ref z21, .int nt, .ref z22, .ref z23, .ref z24, .int nk, .int fs])), (z22, .inl (cI, 64, .inl cr)), (z23, .inl (cL, 64, .inr (.inl cp))), (z24, .inl (cL, 64, .inr (.inl cq)))] s.heap.size = A at hD hG ⊢
  have hA : ∀ q : Nat, s.heap.size ≤ q → A q := fun q h => by rw [← hAe]; exact Or.inr h
  have hS : va_S A s.heap s.heap [] := va_S.rf
  have hl := lv_entry ([.ref m0, .int x, .long y, .long z]) (n := 7) (Nat.le_of_ble_eq_true rfl)
  rw [lg_entry_eq]
  generalize (lg_sl ([.ref m0, .int x, .long y, .long z]) ++ List.replicate (7 - (lg_sl ([.ref m0, .int x, .long y, .long z])).length) Slot.unset).toArray = ls at hl ⊢
  have hl : lv_has ls 7 [(0, .ref m0), (1, .int x), (2, .long y), (4, .long z)] := hl
  have hn6 := hn.2
  refine lv_aload_n hx hb d_Mo_add_0 rfl (lv_at hl 0 rfl) ?_
  refine va_get (D := D) (ci := 5) (v := .int nk) (C := R_Mo) (T := F_Mo) (N := 36) hx hb hw ku_Mo hown hK hP 0 rfl rfl 34 (by decide) (hw _ kw_3969c338) (fun _ h9 => h9) rfl d_Mo_add_1 ?_
  refine lv_istore (lv' := [(6, .int nk), (0, .ref m0), (1, .int x), (2, .long y), (4, .long z)]) hx hb d_Mo_add_4 hl (by decide) rfl (fun ls hl => ?_)
  have lp_6 : ∀ (n : Nat) (q : Nat) (i : Int32) (f1 : Nat → Int32) (f2 : Nat → Int64) (f3 : Nat → Int64) (H : Heap) (locs : List Loc) (ls : Array Slot), (i = nI q) → (q ≤ nk.toNatClampNeg) → (sw_adf x y z q (f1, f2, f3) = sw_adf x y z nk.toNatClampNeg (cr, cp, cq)) → q < n → va_P D sw_cl [(m0, .inr (5, [.int th, .ref z1, .ref z2, .int nv, .ref z3, .ref z4, .int ns, .ref z5, .ref z6, .ref z7, .ref z8, .int nw, .ref z9, .ref z10, .ref z11, .ref z12, .ref z13, .ref z14, .ref z15, .ref z16, .int gv, .int gs, .int gw, .int nb, .int sd, .ref z17, .ref z18, .ref z19, .ref z20, .ref z21, .int nt, .ref z22, .ref z23, .ref z24, .int nk, .int fs])), (z22, .inl (cI, 64, .inl f1)), (z23, .inl (cL, 64, .inr (.inl f2))), (z24, .inl (cL, 64, .inr (.inl f3)))] H → va_D A [(m0, .inr (5, [.int th, .ref z1, .ref z2, .int nv, .ref z3, .ref z4, .int ns, .ref z5, .ref z6, .ref z7, .ref z8, .int nw, .ref z9, .ref z10, .ref z11, .ref z12, .ref z13, .ref z14, .ref z15, .ref z16, .int gv, .int gs, .int gw, .int nb, .int sd, .ref z17, .ref z18, .ref z19, .ref z20, .ref z21, .int nt, .ref z22, .ref z23, .ref z24, .int nk, .int fs])), (z22, .inl (cI, 64, .inl f1)), (z23, .inl (cL, 64, .inr (.inl f2))), (z24, .inl (cL, 64, .inr (.inl f3)))] → va_S A s.heap H locs → lv_has ls 7 [(0, .ref m0), (1, .int x), (2, .long y), (4, .long z), (6, .int i)] → W mp l me (headSpec w_Mo_add rm_Mo_add).room s mm ([.ref m0, .int x, .long y, .long z]).toArray below meth mk H locs 0 0 (MQ below (q_Mo_add D cI cL A m0 x y z th z1 z2 nv z3 z4 ns z5 z6 z7 z8 nw z9 z10 z11 z12 z13 z14 z15 z16 gv gs gw nb sd z17 z18 z19 z20 z21 nt z22 z23 z24 nk fs cr cp cq) ([.ref m0, .int x, .long y, .long z]).toArray s 0 0 A) (F0 mm 6 ls []) := by
    intro n
    induction n with
    | zero => intro q i f1 f2 f3 H locs ls hi hq hs hm; exact absurd hm (Nat.not_lt_zero _)
    | succ n ih_6 =>
      intro q i f1 f2 f3 H locs ls hi hq hs hm hP hD hS hl
      refine lv_iload hx hb d_Mo_add_6 (lv_at hl 4 rfl) ?_
      refine lv_if_le (tgt := 92) hx hb d_Mo_add_8 (by decide) (fun c_8 => ?_) (fun c_8 => ?_)
      · skip
        have hin2 : vp_in i 64 := by rw [hi]; exact vp_in_nI (by omega) (by omega)
        refine lv_aload_n hx hb d_Mo_add_92 rfl (lv_at hl 0 rfl) ?_
        refine va_get (D := D) (ci := 5) (v := .ref z22) (C := R_Mo) (T := F_Mo) (N := 36) hx hb hw ku_Mo hown hK hP 0 rfl rfl 31 (by decide) (hw _ kw_7f169faf) (fun _ h9 => h9) rfl d_Mo_add_93 ?_
        refine lv_iload hx hb d_Mo_add_96 (lv_at hl 4 rfl) ?_
        refine lv_iload_n hx hb d_Mo_add_98 rfl (lv_at hl 1 rfl) ?_
        refine va_iast hx hb hK hP hD hS 1 0 rfl rfl (by assumption) d_Mo_add_99 (fun H locs hP hD hS => ?_)
        replace hP : va_P D sw_cl [(m0, .inr (5, [.int th, .ref z1, .ref z2, .int nv, .ref z3, .ref z4, .int ns, .ref z5, .ref z6, .ref z7, .ref z8, .int nw, .ref z9, .ref z10, .ref z11, .ref z12, .ref z13, .ref z14, .ref z15, .ref z16, .int gv, .int gs, .int gw, .int nb, .int sd, .ref z17, .ref z18, .ref z19, .ref z20, .ref z21, .int nt, .ref z22, .ref z23, .ref z24, .int nk, .int fs])), (z22, .inl (cI, 64, .inl (upd f1 i.toNatClampNeg x))), (z23, .inl (cL, 64, .inr (.inl f2))), (z24, .inl (cL, 64, .inr (.inl f3)))] H := hP
        replace hD : va_D A [(m0, .inr (5, [.int th, .ref z1, .ref z2, .int nv, .ref z3, .ref z4, .int ns, .ref z5, .ref z6, .ref z7, .ref z8, .int nw, .ref z9, .ref z10, .ref z11, .ref z12, .ref z13, .ref z14, .ref z15, .ref z16, .int gv, .int gs, .int gw, .int nb, .int sd, .ref z17, .ref z18, .ref z19, .ref z20, .ref z21, .int nt, .ref z22, .ref z23, .ref z24, .int nk, .int fs])), (z22, .inl (cI, 64, .inl (upd f1 i.toNatClampNeg x))), (z23, .inl (cL, 64, .inr (.inl f2))), (z24, .inl (cL, 64, .inr (.inl f3)))] := hD
        refine lv_aload_n hx hb d_Mo_add_100 rfl (lv_at hl 0 rfl) ?_
        refine va_get (D := D) (ci := 5) (v := .ref z23) (C := R_Mo) (T := F_Mo) (N := 36) hx hb hw ku_Mo hown hK hP 0 rfl rfl 32 (by decide) (hw _ kw_4d7751f5) (fun _ h9 => h9) rfl d_Mo_add_101 ?_
        refine lv_iload hx hb d_Mo_add_104 (lv_at hl 4 rfl) ?_
        refine lv_lload_n hx hb d_Mo_add_106 rfl (lv_at hl 2 rfl) ?_
        refine va_last hx hb hK hP hD hS 2 1 rfl rfl (by assumption) d_Mo_add_107 (fun H locs hP hD hS => ?_)
        replace hP : va_P D sw_cl [(m0, .inr (5, [.int th, .ref z1, .ref z2, .int nv, .ref z3, .ref z4, .int ns, .ref z5, .ref z6, .ref z7, .ref z8, .int nw, .ref z9, .ref z10, .ref z11, .ref z12, .ref z13, .ref z14, .ref z15, .ref z16, .int gv, .int gs, .int gw, .int nb, .int sd, .ref z17, .ref z18, .ref z19, .ref z20, .ref z21, .int nt, .ref z22, .ref z23, .ref z24, .int nk, .int fs])), (z22, .inl (cI, 64, .inl (upd f1 i.toNatClampNeg x))), (z23, .inl (cL, 64, .inr (.inl (vp_updL f2 i.toNatClampNeg y)))), (z24, .inl (cL, 64, .inr (.inl f3)))] H := hP
        replace hD : va_D A [(m0, .inr (5, [.int th, .ref z1, .ref z2, .int nv, .ref z3, .ref z4, .int ns, .ref z5, .ref z6, .ref z7, .ref z8, .int nw, .ref z9, .ref z10, .ref z11, .ref z12, .ref z13, .ref z14, .ref z15, .ref z16, .int gv, .int gs, .int gw, .int nb, .int sd, .ref z17, .ref z18, .ref z19, .ref z20, .ref z21, .int nt, .ref z22, .ref z23, .ref z24, .int nk, .int fs])), (z22, .inl (cI, 64, .inl (upd f1 i.toNatClampNeg x))), (z23, .inl (cL, 64, .inr (.inl (vp_updL f2 i.toNatClampNeg y)))), (z24, .inl (cL, 64, .inr (.inl f3)))] := hD
        refine lv_aload_n hx hb d_Mo_add_108 rfl (lv_at hl 0 rfl) ?_
        refine va_get (D := D) (ci := 5) (v := .ref z24) (C := R_Mo) (T := F_Mo) (N := 36) hx hb hw ku_Mo hown hK hP 0 rfl rfl 33 (by decide) (hw _ kw_9de836cb) (fun _ h9 => h9) rfl d_Mo_add_109 ?_
        refine lv_iload hx hb d_Mo_add_112 (lv_at hl 4 rfl) ?_
        refine lv_lload hx hb d_Mo_add_114 (lv_at hl 3 rfl) ?_
        refine va_last hx hb hK hP hD hS 3 1 rfl rfl (by assumption) d_Mo_add_116 (fun H locs hP hD hS => ?_)
        replace hP : va_P D sw_cl [(m0, .inr (5, [.int th, .ref z1, .ref z2, .int nv, .ref z3, .ref z4, .int ns, .ref z5, .ref z6, .ref z7, .ref z8, .int nw, .ref z9, .ref z10, .ref z11, .ref z12, .ref z13, .ref z14, .ref z15, .ref z16, .int gv, .int gs, .int gw, .int nb, .int sd, .ref z17, .ref z18, .ref z19, .ref z20, .ref z21, .int nt, .ref z22, .ref z23, .ref z24, .int nk, .int fs])), (z22, .inl (cI, 64, .inl (upd f1 i.toNatClampNeg x))), (z23, .inl (cL, 64, .inr (.inl (vp_updL f2 i.toNatClampNeg y)))), (z24, .inl (cL, 64, .inr (.inl (vp_updL f3 i.toNatClampNeg z))))] H := hP
        replace hD : va_D A [(m0, .inr (5, [.int th, .ref z1, .ref z2, .int nv, .ref z3, .ref z4, .int ns, .ref z5, .ref z6, .ref z7, .ref z8, .int nw, .ref z9, .ref z10, .ref z11, .ref z12, .ref z13, .ref z14, .ref z15, .ref z16, .int gv, .int gs, .int gw, .int nb, .int sd, .ref z17, .ref z18, .ref z19, .ref z20, .ref z21, .int nt, .ref z22, .ref z23, .ref z24, .int nk, .int fs])), (z22, .inl (cI, 64, .inl (upd f1 i.toNatClampNeg x))), (z23, .inl (cL, 64, .inr (.inl (vp_updL f2 i.toNatClampNeg y)))), (z24, .inl (cL, 64, .inr (.inl (vp_updL f3 i.toNatClampNeg z))))] := hD
        refine lv_aload_n hx hb d_Mo_add_117 rfl (lv_at hl 0 rfl) ?_
        refine lv_dup hx hb d_Mo_add_118 rfl ?_
        refine va_get (D := D) (ci := 5) (v := .int nk) (C := R_Mo) (T := F_Mo) (N := 36) hx hb hw ku_Mo hown hK hP 0 rfl rfl 34 (by decide) (hw _ kw_3969c338) (fun _ h9 => h9) rfl d_Mo_add_119 ?_
        refine lv_iconst (v := 1) hx hb d_Mo_add_122 (by decide) ?_
        refine lv_iadd hx hb d_Mo_add_123 ?_
        refine va_put (D := D) (ci := 5) (v := .int (nk + 1)) (ty := t_Mo 34) (C := R_Mo) (T := F_Mo) (N := 36) hx hb hw ku_Mo t_Mo t_Mo_ok n_Mo hown hK hP hD hS 0 rfl rfl 34 (by decide) (hw _ kw_3969c338) (fun _ h9 => h9) rfl (t_Mo_ok 34 (by decide)) rfl rfl (Nat.le_of_ble_eq_true rfl) d_Mo_add_124 (fun H locs hP hD hS => ?_)
        replace hP : va_P D sw_cl [(m0, .inr (5, [.int th, .ref z1, .ref z2, .int nv, .ref z3, .ref z4, .int ns, .ref z5, .ref z6, .ref z7, .ref z8, .int nw, .ref z9, .ref z10, .ref z11, .ref z12, .ref z13, .ref z14, .ref z15, .ref z16, .int gv, .int gs, .int gw, .int nb, .int sd, .ref z17, .ref z18, .ref z19, .ref z20, .ref z21, .int nt, .ref z22, .ref z23, .ref z24, .int (nk + 1), .int fs])), (z22, .inl (cI, 64, .inl (upd f1 i.toNatClampNeg x))), (z23, .inl (cL, 64, .inr (.inl (vp_updL f2 i.toNatClampNeg y)))), (z24, .inl (cL, 64, .inr (.inl (vp_updL f3 i.toNatClampNeg z))))] H := hP
        replace hD : va_D A [(m0, .inr (5, [.int th, .ref z1, .ref z2, .int nv, .ref z3, .ref z4, .int ns, .ref z5, .ref z6, .ref z7, .ref z8, .int nw, .ref z9, .ref z10, .ref z11, .ref z12, .ref z13, .ref z14, .ref z15, .ref z16, .int gv, .int gs, .int gw, .int nb, .int sd, .ref z17, .ref z18, .ref z19, .ref z20, .ref z21, .int nt, .ref z22, .ref z23, .ref z24, .int (nk + 1), .int fs])), (z22, .inl (cI, 64, .inl (upd f1 i.toNatClampNeg x))), (z23, .inl (cL, 64, .inr (.inl (vp_updL f2 i.toNatClampNeg y)))), (z24, .inl (cL, 64, .inr (.inl (vp_updL f3 i.toNatClampNeg z))))] := hD
        have hP9 := hP.sub (ws' := [(m0, .inr (5, [.int th, .ref z1, .ref z2, .int nv, .ref z3, .ref z4, .int ns, .ref z5, .ref z6, .ref z7, .ref z8, .int nw, .ref z9, .ref z10, .ref z11, .ref z12, .ref z13, .ref z14, .ref z15, .ref z16, .int gv, .int gs, .int gw, .int nb, .int sd, .ref z17, .ref z18, .ref z19, .ref z20, .ref z21, .int nt, .ref z22, .ref z23, .ref z24, .int (nk + 1), .int fs])), (z22, .inl (cI, 64, .inl (upd f1 i.toNatClampNeg x))), (z23, .inl (cL, 64, .inr (.inl (vp_updL f2 i.toNatClampNeg y)))), (z24, .inl (cL, 64, .inr (.inl (vp_updL f3 i.toNatClampNeg z))))]) [0, 1, 2, 3] rfl
        have hD9 := hD.sub (ws' := [(m0, .inr (5, [.int th, .ref z1, .ref z2, .int nv, .ref z3, .ref z4, .int ns, .ref z5, .ref z6, .ref z7, .ref z8, .int nw, .ref z9, .ref z10, .ref z11, .ref z12, .ref z13, .ref z14, .ref z15, .ref z16, .int gv, .int gs, .int gw, .int nb, .int sd, .ref z17, .ref z18, .ref z19, .ref z20, .ref z21, .int nt, .ref z22, .ref z23, .ref z24, .int (nk + 1), .int fs])), (z22, .inl (cI, 64, .inl (upd f1 i.toNatClampNeg x))), (z23, .inl (cL, 64, .inr (.inl (vp_updL f2 i.toNatClampNeg y)))), (z24, .inl (cL, 64, .inr (.inl (vp_updL f3 i.toNatClampNeg z))))]) [0, 1, 2, 3] (by decide) rfl
        exact W.vret hx hb hr (fun T9 hT9 hW9 => ⟨⟨(upd f1 i.toNatClampNeg x, vp_updL f2 i.toNatClampNeg y, vp_updL f3 i.toNatClampNeg z), rfl, by first | trivial | (rw [← hs]; first | (obtain rfl := sw_zero hi (by omega) c_8; rw [hi, nI_clamp (by decide)]; exact ⟨rfl, rfl, rfl⟩) | (rw [hi3]; rw [hi2] at c_35; rw [sw_adf_e c_35]; exact ⟨rfl, rfl, rfl⟩)), by rw [hT9]; exact hP9, hD9⟩, hS.F hT9⟩) hS.2.2 d_Mo_add_127
      · skip
        obtain ⟨w9, rfl⟩ := sw_pos hi (by omega) c_8
        have hi1 : i - 1 = nI w9 := by rw [hi]; exact nI_pred w9
        have hi2 : (i - 1).toNatClampNeg = w9 := by rw [hi1]; exact nI_clamp (by omega)
        have hi3 : i.toNatClampNeg = w9 + 1 := by rw [hi]; exact nI_clamp (by omega)
        have hin1 : vp_in (i - 1) 64 := by rw [hi1]; exact vp_in_nI (by omega) (by omega)
        have hin2 : vp_in i 64 := by rw [hi]; exact vp_in_nI (by omega) (by omega)
        refine lv_aload_n hx hb d_Mo_add_11 rfl (lv_at hl 0 rfl) ?_
        refine va_get (D := D) (ci := 5) (v := .ref z23) (C := R_Mo) (T := F_Mo) (N := 36) hx hb hw ku_Mo hown hK hP 0 rfl rfl 32 (by decide) (hw _ kw_4d7751f5) (fun _ h9 => h9) rfl d_Mo_add_12 ?_
        refine lv_iload hx hb d_Mo_add_15 (lv_at hl 4 rfl) ?_
        refine lv_iconst (v := 1) hx hb d_Mo_add_17 (by decide) ?_
        refine lv_isub hx hb d_Mo_add_18 ?_
        refine va_lald hx hb hK hP 2 1 rfl rfl (by assumption) d_Mo_add_19 ?_
        refine lv_lload hx hb d_Mo_add_20 (lv_at hl 3 rfl) ?_
        refine lv_lmul hx hb d_Mo_add_22 ?_
        refine lv_lload_n hx hb d_Mo_add_23 rfl (lv_at hl 2 rfl) ?_
        refine lv_aload_n hx hb d_Mo_add_24 rfl (lv_at hl 0 rfl) ?_
        refine va_get (D := D) (ci := 5) (v := .ref z24) (C := R_Mo) (T := F_Mo) (N := 36) hx hb hw ku_Mo hown hK hP 0 rfl rfl 33 (by decide) (hw _ kw_9de836cb) (fun _ h9 => h9) rfl d_Mo_add_25 ?_
        refine lv_iload hx hb d_Mo_add_28 (lv_at hl 4 rfl) ?_
        refine lv_iconst (v := 1) hx hb d_Mo_add_30 (by decide) ?_
        refine lv_isub hx hb d_Mo_add_31 ?_
        refine va_lald hx hb hK hP 3 1 rfl rfl (by assumption) d_Mo_add_32 ?_
        refine lv_lmul hx hb d_Mo_add_33 ?_
        refine W.lcmp hx hb d_Mo_add_34 ?_
        refine lv_if_le (tgt := 92) hx hb d_Mo_add_35 (by decide) (fun c_35 => ?_) (fun c_35 => ?_)
        · skip
          have hin2 : vp_in i 64 := by rw [hi]; exact vp_in_nI (by omega) (by omega)
          refine lv_aload_n hx hb d_Mo_add_92 rfl (lv_at hl 0 rfl) ?_
          refine va_get (D := D) (ci := 5) (v := .ref z22) (C := R_Mo) (T := F_Mo) (N := 36) hx hb hw ku_Mo hown hK hP 0 rfl rfl 31 (by decide) (hw _ kw_7f169faf) (fun _ h9 => h9) rfl d_Mo_add_93 ?_
          refine lv_iload hx hb d_Mo_add_96 (lv_at hl 4 rfl) ?_
          refine lv_iload_n hx hb d_Mo_add_98 rfl (lv_at hl 1 rfl) ?_
          refine va_iast hx hb hK hP hD hS 1 0 rfl rfl (by assumption) d_Mo_add_99 (fun H locs hP hD hS => ?_)
          replace hP : va_P D sw_cl [(m0, .inr (5, [.int th, .ref z1, .ref z2, .int nv, .ref z3, .ref z4, .int ns, .ref z5, .ref z6, .ref z7, .ref z8, .int nw, .ref z9, .ref z10, .ref z11, .ref z12, .ref z13, .ref z14, .ref z15, .ref z16, .int gv, .int gs, .int gw, .int nb, .int sd, .ref z17, .ref z18, .ref z19, .ref z20, .ref z21, .int nt, .ref z22, .ref z23, .ref z24, .int nk, .int fs])), (z22, .inl (cI, 64, .inl (upd f1 i.toNatClampNeg x))), (z23, .inl (cL, 64, .inr (.inl f2))), (z24, .inl (cL, 64, .inr (.inl f3)))] H := hP
          replace hD : va_D A [(m0, .inr (5, [.int th, .ref z1, .ref z2, .int nv, .ref z3, .ref z4, .int ns, .ref z5, .ref z6, .ref z7, .ref z8, .int nw, .ref z9, .ref z10, .ref z11, .ref z12, .ref z13, .ref z14, .ref z15, .ref z16, .int gv, .int gs, .int gw, .int nb, .int sd, .ref z17, .ref z18, .ref z19, .ref z20, .ref z21, .int nt, .ref z22, .ref z23, .ref z24, .int nk, .int fs])), (z22, .inl (cI, 64, .inl (upd f1 i.toNatClampNeg x))), (z23, .inl (cL, 64, .inr (.inl f2))), (z24, .inl (cL, 64, .inr (.inl f3)))] := hD
          refine lv_aload_n hx hb d_Mo_add_100 rfl (lv_at hl 0 rfl) ?_
          refine va_get (D := D) (ci := 5) (v := .ref z23) (C := R_Mo) (T := F_Mo) (N := 36) hx hb hw ku_Mo hown hK hP 0 rfl rfl 32 (by decide) (hw _ kw_4d7751f5) (fun _ h9 => h9) rfl d_Mo_add_101 ?_
          refine lv_iload hx hb d_Mo_add_104 (lv_at hl 4 rfl) ?_
          refine lv_lload_n hx hb d_Mo_add_106 rfl (lv_at hl 2 rfl) ?_
          refine va_last hx hb hK hP hD hS 2 1 rfl rfl (by assumption) d_Mo_add_107 (fun H locs hP hD hS => ?_)
          replace hP : va_P D sw_cl [(m0, .inr (5, [.int th, .ref z1, .ref z2, .int nv, .ref z3, .ref z4, .int ns, .ref z5, .ref z6, .ref z7, .ref z8, .int nw, .ref z9, .ref z10, .ref z11, .ref z12, .ref z13, .ref z14, .ref z15, .ref z16, .int gv, .int gs, .int gw, .int nb, .int sd, .ref z17, .ref z18, .ref z19, .ref z20, .ref z21, .int nt, .ref z22, .ref z23, .ref z24, .int nk, .int fs])), (z22, .inl (cI, 64, .inl (upd f1 i.toNatClampNeg x))), (z23, .inl (cL, 64, .inr (.inl (vp_updL f2 i.toNatClampNeg y)))), (z24, .inl (cL, 64, .inr (.inl f3)))] H := hP
          replace hD : va_D A [(m0, .inr (5, [.int th, .ref z1, .ref z2, .int nv, .ref z3, .ref z4, .int ns, .ref z5, .ref z6, .ref z7, .ref z8, .int nw, .ref z9, .ref z10, .ref z11, .ref z12, .ref z13, .ref z14, .ref z15, .ref z16, .int gv, .int gs, .int gw, .int nb, .int sd, .ref z17, .ref z18, .ref z19, .ref z20, .ref z21, .int nt, .ref z22, .ref z23, .ref z24, .int nk, .int fs])), (z22, .inl (cI, 64, .inl (upd f1 i.toNatClampNeg x))), (z23, .inl (cL, 64, .inr (.inl (vp_updL f2 i.toNatClampNeg y)))), (z24, .inl (cL, 64, .inr (.inl f3)))] := hD
          refine lv_aload_n hx hb d_Mo_add_108 rfl (lv_at hl 0 rfl) ?_
          refine va_get (D := D) (ci := 5) (v := .ref z24) (C := R_Mo) (T := F_Mo) (N := 36) hx hb hw ku_Mo hown hK hP 0 rfl rfl 33 (by decide) (hw _ kw_9de836cb) (fun _ h9 => h9) rfl d_Mo_add_109 ?_
          refine lv_iload hx hb d_Mo_add_112 (lv_at hl 4 rfl) ?_
          refine lv_lload hx hb d_Mo_add_114 (lv_at hl 3 rfl) ?_
          refine va_last hx hb hK hP hD hS 3 1 rfl rfl (by assumption) d_Mo_add_116 (fun H locs hP hD hS => ?_)
          replace hP : va_P D sw_cl [(m0, .inr (5, [.int th, .ref z1, .ref z2, .int nv, .ref z3, .ref z4, .int ns, .ref z5, .ref z6, .ref z7, .ref z8, .int nw, .ref z9, .ref z10, .ref z11, .ref z12, .ref z13, .ref z14, .ref z15, .ref z16, .int gv, .int gs, .int gw, .int nb, .int sd, .ref z17, .ref z18, .ref z19, .ref z20, .ref z21, .int nt, .ref z22, .ref z23, .ref z24, .int nk, .int fs])), (z22, .inl (cI, 64, .inl (upd f1 i.toNatClampNeg x))), (z23, .inl (cL, 64, .inr (.inl (vp_updL f2 i.toNatClampNeg y)))), (z24, .inl (cL, 64, .inr (.inl (vp_updL f3 i.toNatClampNeg z))))] H := hP
          replace hD : va_D A [(m0, .inr (5, [.int th, .ref z1, .ref z2, .int nv, .ref z3, .ref z4, .int ns, .ref z5, .ref z6, .ref z7, .ref z8, .int nw, .ref z9, .ref z10, .ref z11, .ref z12, .ref z13, .ref z14, .ref z15, .ref z16, .int gv, .int gs, .int gw, .int nb, .int sd, .ref z17, .ref z18, .ref z19, .ref z20, .ref z21, .int nt, .ref z22, .ref z23, .ref z24, .int nk, .int fs])), (z22, .inl (cI, 64, .inl (upd f1 i.toNatClampNeg x))), (z23, .inl (cL, 64, .inr (.inl (vp_updL f2 i.toNatClampNeg y)))), (z24, .inl (cL, 64, .inr (.inl (vp_updL f3 i.toNatClampNeg z))))] := hD
          refine lv_aload_n hx hb d_Mo_add_117 rfl (lv_at hl 0 rfl) ?_
          refine lv_dup hx hb d_Mo_add_118 rfl ?_
          refine va_get (D := D) (ci := 5) (v := .int nk) (C := R_Mo) (T := F_Mo) (N := 36) hx hb hw ku_Mo hown hK hP 0 rfl rfl 34 (by decide) (hw _ kw_3969c338) (fun _ h9 => h9) rfl d_Mo_add_119 ?_
          refine lv_iconst (v := 1) hx hb d_Mo_add_122 (by decide) ?_
          refine lv_iadd hx hb d_Mo_add_123 ?_
          refine va_put (D := D) (ci := 5) (v := .int (nk + 1)) (ty := t_Mo 34) (C := R_Mo) (T := F_Mo) (N := 36) hx hb hw ku_Mo t_Mo t_Mo_ok n_Mo hown hK hP hD hS 0 rfl rfl 34 (by decide) (hw _ kw_3969c338) (fun _ h9 => h9) rfl (t_Mo_ok 34 (by decide)) rfl rfl (Nat.le_of_ble_eq_true rfl) d_Mo_add_124 (fun H locs hP hD hS => ?_)
          replace hP : va_P D sw_cl [(m0, .inr (5, [.int th, .ref z1, .ref z2, .int nv, .ref z3, .ref z4, .int ns, .ref z5, .ref z6, .ref z7, .ref z8, .int nw, .ref z9, .ref z10, .ref z11, .ref z12, .ref z13, .ref z14, .ref z15, .ref z16, .int gv, .int gs, .int gw, .int nb, .int sd, .ref z17, .ref z18, .ref z19, .ref z20, .ref z21, .int nt, .ref z22, .ref z23, .ref z24, .int (nk + 1), .int fs])), (z22, .inl (cI, 64, .inl (upd f1 i.toNatClampNeg x))), (z23, .inl (cL, 64, .inr (.inl (vp_updL f2 i.toNatClampNeg y)))), (z24, .inl (cL, 64, .inr (.inl (vp_updL f3 i.toNatClampNeg z))))] H := hP
          replace hD : va_D A [(m0, .inr (5, [.int th, .ref z1, .ref z2, .int nv, .ref z3, .ref z4, .int ns, .ref z5, .ref z6, .ref z7, .ref z8, .int nw, .ref z9, .ref z10, .ref z11, .ref z12, .ref z13, .ref z14, .ref z15, .ref z16, .int gv, .int gs, .int gw, .int nb, .int sd, .ref z17, .ref z18, .ref z19, .ref z20, .ref z21, .int nt, .ref z22, .ref z23, .ref z24, .int (nk + 1), .int fs])), (z22, .inl (cI, 64, .inl (upd f1 i.toNatClampNeg x))), (z23, .inl (cL, 64, .inr (.inl (vp_updL f2 i.toNatClampNeg y)))), (z24, .inl (cL, 64, .inr (.inl (vp_updL f3 i.toNatClampNeg z))))] := hD
          have hP9 := hP.sub (ws' := [(m0, .inr (5, [.int th, .ref z1, .ref z2, .int nv, .ref z3, .ref z4, .int ns, .ref z5, .ref z6, .ref z7, .ref z8, .int nw, .ref z9, .ref z10, .ref z11, .ref z12, .ref z13, .ref z14, .ref z15, .ref z16, .int gv, .int gs, .int gw, .int nb, .int sd, .ref z17, .ref z18, .ref z19, .ref z20, .ref z21, .int nt, .ref z22, .ref z23, .ref z24, .int (nk + 1), .int fs])), (z22, .inl (cI, 64, .inl (upd f1 i.toNatClampNeg x))), (z23, .inl (cL, 64, .inr (.inl (vp_updL f2 i.toNatClampNeg y)))), (z24, .inl (cL, 64, .inr (.inl (vp_updL f3 i.toNatClampNeg z))))]) [0, 1, 2, 3] rfl
          have hD9 := hD.sub (ws' := [(m0, .inr (5, [.int th, .ref z1, .ref z2, .int nv, .ref z3, .ref z4, .int ns, .ref z5, .ref z6, .ref z7, .ref z8, .int nw, .ref z9, .ref z10, .ref z11, .ref z12, .ref z13, .ref z14, .ref z15, .ref z16, .int gv, .int gs, .int gw, .int nb, .int sd, .ref z17, .ref z18, .ref z19, .ref z20, .ref z21, .int nt, .ref z22, .ref z23, .ref z24, .int (nk + 1), .int fs])), (z22, .inl (cI, 64, .inl (upd f1 i.toNatClampNeg x))), (z23, .inl (cL, 64, .inr (.inl (vp_updL f2 i.toNatClampNeg y)))), (z24, .inl (cL, 64, .inr (.inl (vp_updL f3 i.toNatClampNeg z))))]) [0, 1, 2, 3] (by decide) rfl
          exact W.vret hx hb hr (fun T9 hT9 hW9 => ⟨⟨(upd f1 i.toNatClampNeg x, vp_updL f2 i.toNatClampNeg y, vp_updL f3 i.toNatClampNeg z), rfl, by first | trivial | (rw [← hs]; first | (obtain rfl := sw_zero hi (by omega) c_8; rw [hi, nI_clamp (by decide)]; exact ⟨rfl, rfl, rfl⟩) | (rw [hi3]; rw [hi2] at c_35; rw [sw_adf_e c_35]; exact ⟨rfl, rfl, rfl⟩)), by rw [hT9]; exact hP9, hD9⟩, hS.F hT9⟩) hS.2.2 d_Mo_add_127
        · skip
          refine lv_aload_n hx hb d_Mo_add_38 rfl (lv_at hl 0 rfl) ?_
          refine va_get (D := D) (ci := 5) (v := .ref z22) (C := R_Mo) (T := F_Mo) (N := 36) hx hb hw ku_Mo hown hK hP 0 rfl rfl 31 (by decide) (hw _ kw_7f169faf) (fun _ h9 => h9) rfl d_Mo_add_39 ?_
          refine lv_iload hx hb d_Mo_add_42 (lv_at hl 4 rfl) ?_
          refine lv_aload_n hx hb d_Mo_add_44 rfl (lv_at hl 0 rfl) ?_
          refine va_get (D := D) (ci := 5) (v := .ref z22) (C := R_Mo) (T := F_Mo) (N := 36) hx hb hw ku_Mo hown hK hP 0 rfl rfl 31 (by decide) (hw _ kw_7f169faf) (fun _ h9 => h9) rfl d_Mo_add_45 ?_
          refine lv_iload hx hb d_Mo_add_48 (lv_at hl 4 rfl) ?_
          refine lv_iconst (v := 1) hx hb d_Mo_add_50 (by decide) ?_
          refine lv_isub hx hb d_Mo_add_51 ?_
          refine va_iald hx hb hK hP 1 0 rfl rfl (by assumption) d_Mo_add_52 ?_
          refine va_iast hx hb hK hP hD hS 1 0 rfl rfl (by assumption) d_Mo_add_53 (fun H locs hP hD hS => ?_)
          replace hP : va_P D sw_cl [(m0, .inr (5, [.int th, .ref z1, .ref z2, .int nv, .ref z3, .ref z4, .int ns, .ref z5, .ref z6, .ref z7, .ref z8, .int nw, .ref z9, .ref z10, .ref z11, .ref z12, .ref z13, .ref z14, .ref z15, .ref z16, .int gv, .int gs, .int gw, .int nb, .int sd, .ref z17, .ref z18, .ref z19, .ref z20, .ref z21, .int nt, .ref z22, .ref z23, .ref z24, .int nk, .int fs])), (z22, .inl (cI, 64, .inl (upd f1 i.toNatClampNeg (f1 (i - 1).toNatClampNeg)))), (z23, .inl (cL, 64, .inr (.inl f2))), (z24, .inl (cL, 64, .inr (.inl f3)))] H := hP
          replace hD : va_D A [(m0, .inr (5, [.int th, .ref z1, .ref z2, .int nv, .ref z3, .ref z4, .int ns, .ref z5, .ref z6, .ref z7, .ref z8, .int nw, .ref z9, .ref z10, .ref z11, .ref z12, .ref z13, .ref z14, .ref z15, .ref z16, .int gv, .int gs, .int gw, .int nb, .int sd, .ref z17, .ref z18, .ref z19, .ref z20, .ref z21, .int nt, .ref z22, .ref z23, .ref z24, .int nk, .int fs])), (z22, .inl (cI, 64, .inl (upd f1 i.toNatClampNeg (f1 (i - 1).toNatClampNeg)))), (z23, .inl (cL, 64, .inr (.inl f2))), (z24, .inl (cL, 64, .inr (.inl f3)))] := hD
          refine lv_aload_n hx hb d_Mo_add_54 rfl (lv_at hl 0 rfl) ?_
          refine va_get (D := D) (ci := 5) (v := .ref z23) (C := R_Mo) (T := F_Mo) (N := 36) hx hb hw ku_Mo hown hK hP 0 rfl rfl 32 (by decide) (hw _ kw_4d7751f5) (fun _ h9 => h9) rfl d_Mo_add_55 ?_
          refine lv_iload hx hb d_Mo_add_58 (lv_at hl 4 rfl) ?_
          refine lv_aload_n hx hb d_Mo_add_60 rfl (lv_at hl 0 rfl) ?_
          refine va_get (D := D) (ci := 5) (v := .ref z23) (C := R_Mo) (T := F_Mo) (N := 36) hx hb hw ku_Mo hown hK hP 0 rfl rfl 32 (by decide) (hw _ kw_4d7751f5) (fun _ h9 => h9) rfl d_Mo_add_61 ?_
          refine lv_iload hx hb d_Mo_add_64 (lv_at hl 4 rfl) ?_
          refine lv_iconst (v := 1) hx hb d_Mo_add_66 (by decide) ?_
          refine lv_isub hx hb d_Mo_add_67 ?_
          refine va_lald hx hb hK hP 2 1 rfl rfl (by assumption) d_Mo_add_68 ?_
          refine va_last hx hb hK hP hD hS 2 1 rfl rfl (by assumption) d_Mo_add_69 (fun H locs hP hD hS => ?_)
          replace hP : va_P D sw_cl [(m0, .inr (5, [.int th, .ref z1, .ref z2, .int nv, .ref z3, .ref z4, .int ns, .ref z5, .ref z6, .ref z7, .ref z8, .int nw, .ref z9, .ref z10, .ref z11, .ref z12, .ref z13, .ref z14, .ref z15, .ref z16, .int gv, .int gs, .int gw, .int nb, .int sd, .ref z17, .ref z18, .ref z19, .ref z20, .ref z21, .int nt, .ref z22, .ref z23, .ref z24, .int nk, .int fs])), (z22, .inl (cI, 64, .inl (upd f1 i.toNatClampNeg (f1 (i - 1).toNatClampNeg)))), (z23, .inl (cL, 64, .inr (.inl (vp_updL f2 i.toNatClampNeg (f2 (i - 1).toNatClampNeg))))), (z24, .inl (cL, 64, .inr (.inl f3)))] H := hP
          replace hD : va_D A [(m0, .inr (5, [.int th, .ref z1, .ref z2, .int nv, .ref z3, .ref z4, .int ns, .ref z5, .ref z6, .ref z7, .ref z8, .int nw, .ref z9, .ref z10, .ref z11, .ref z12, .ref z13, .ref z14, .ref z15, .ref z16, .int gv, .int gs, .int gw, .int nb, .int sd, .ref z17, .ref z18, .ref z19, .ref z20, .ref z21, .int nt, .ref z22, .ref z23, .ref z24, .int nk, .int fs])), (z22, .inl (cI, 64, .inl (upd f1 i.toNatClampNeg (f1 (i - 1).toNatClampNeg)))), (z23, .inl (cL, 64, .inr (.inl (vp_updL f2 i.toNatClampNeg (f2 (i - 1).toNatClampNeg))))), (z24, .inl (cL, 64, .inr (.inl f3)))] := hD
          refine lv_aload_n hx hb d_Mo_add_70 rfl (lv_at hl 0 rfl) ?_
          refine va_get (D := D) (ci := 5) (v := .ref z24) (C := R_Mo) (T := F_Mo) (N := 36) hx hb hw ku_Mo hown hK hP 0 rfl rfl 33 (by decide) (hw _ kw_9de836cb) (fun _ h9 => h9) rfl d_Mo_add_71 ?_
          refine lv_iload hx hb d_Mo_add_74 (lv_at hl 4 rfl) ?_
          refine lv_aload_n hx hb d_Mo_add_76 rfl (lv_at hl 0 rfl) ?_
          refine va_get (D := D) (ci := 5) (v := .ref z24) (C := R_Mo) (T := F_Mo) (N := 36) hx hb hw ku_Mo hown hK hP 0 rfl rfl 33 (by decide) (hw _ kw_9de836cb) (fun _ h9 => h9) rfl d_Mo_add_77 ?_
          refine lv_iload hx hb d_Mo_add_80 (lv_at hl 4 rfl) ?_
          refine lv_iconst (v := 1) hx hb d_Mo_add_82 (by decide) ?_
          refine lv_isub hx hb d_Mo_add_83 ?_
          refine va_lald hx hb hK hP 3 1 rfl rfl (by assumption) d_Mo_add_84 ?_
          refine va_last hx hb hK hP hD hS 3 1 rfl rfl (by assumption) d_Mo_add_85 (fun H locs hP hD hS => ?_)
          replace hP : va_P D sw_cl [(m0, .inr (5, [.int th, .ref z1, .ref z2, .int nv, .ref z3, .ref z4, .int ns, .ref z5, .ref z6, .ref z7, .ref z8, .int nw, .ref z9, .ref z10, .ref z11, .ref z12, .ref z13, .ref z14, .ref z15, .ref z16, .int gv, .int gs, .int gw, .int nb, .int sd, .ref z17, .ref z18, .ref z19, .ref z20, .ref z21, .int nt, .ref z22, .ref z23, .ref z24, .int nk, .int fs])), (z22, .inl (cI, 64, .inl (upd f1 i.toNatClampNeg (f1 (i - 1).toNatClampNeg)))), (z23, .inl (cL, 64, .inr (.inl (vp_updL f2 i.toNatClampNeg (f2 (i - 1).toNatClampNeg))))), (z24, .inl (cL, 64, .inr (.inl (vp_updL f3 i.toNatClampNeg (f3 (i - 1).toNatClampNeg)))))] H := hP
          replace hD : va_D A [(m0, .inr (5, [.int th, .ref z1, .ref z2, .int nv, .ref z3, .ref z4, .int ns, .ref z5, .ref z6, .ref z7, .ref z8, .int nw, .ref z9, .ref z10, .ref z11, .ref z12, .ref z13, .ref z14, .ref z15, .ref z16, .int gv, .int gs, .int gw, .int nb, .int sd, .ref z17, .ref z18, .ref z19, .ref z20, .ref z21, .int nt, .ref z22, .ref z23, .ref z24, .int nk, .int fs])), (z22, .inl (cI, 64, .inl (upd f1 i.toNatClampNeg (f1 (i - 1).toNatClampNeg)))), (z23, .inl (cL, 64, .inr (.inl (vp_updL f2 i.toNatClampNeg (f2 (i - 1).toNatClampNeg))))), (z24, .inl (cL, 64, .inr (.inl (vp_updL f3 i.toNatClampNeg (f3 (i - 1).toNatClampNeg)))))] := hD
          refine lv_iinc (v := i + (-1)) (lv' := [(6, .int (i + (-1))), (0, .ref m0), (1, .int x), (2, .long y), (4, .long z)]) hx hb d_Mo_add_86 hl (k := 4) rfl rfl (by decide) rfl (fun ls hl => ?_)
          refine lv_goto (tgt := 6) hx hb d_Mo_add_89 (by decide) ?_
          exact ih_6 w9 (i + (-1)) (upd f1 i.toNatClampNeg (f1 (i - 1).toNatClampNeg)) (vp_updL f2 i.toNatClampNeg (f2 (i - 1).toNatClampNeg)) (vp_updL f3 i.toNatClampNeg (f3 (i - 1).toNatClampNeg)) _ _ _ (by rw [hi]; exact pk_m1 w9) (by omega) (by rw [← hs, hi3, hi2]; rw [hi2] at c_35; exact (sw_adf_s c_35).symm) (by omega) (hP.sub [0, 1, 2, 3] rfl) (hD.sub [0, 1, 2, 3] (by decide) rfl) hS (lv_sub hl [1, 2, 3, 4, 0] rfl)
  exact lp_6 _ nk.toNatClampNeg nk cr cp cq _ _ _ (hn.1) (Nat.le_refl _) (rfl) (Nat.lt_succ_self _) (hP.sub [0, 1, 2, 3] rfl) (hD.sub [0, 1, 2, 3] (by decide) rfl) hS (lv_sub hl [1, 2, 3, 4, 0] rfl)
