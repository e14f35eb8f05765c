/-! build: the answer is settled by who clashes with whom -/
theorem sw_hit_congr {C C' : Nat → Nat → Bool} {j : Nat} : ∀ k : Nat, (∀ e : Nat, e < k → C e j = C' e j) → sw_hit C j k = sw_hit C' j k := by
  intro k
  induction k with
  | zero => intro _; rfl
  | succ k ih =>
    intro h
    show (sw_hit C j k || C k j) = (sw_hit C' j k || C' k j)
    rw [ih (fun e he => h e (by omega)), h k (by omega)]
theorem sw_fw_det {C C' : Nat → Nat → Bool} {n : Nat} {r r' : Int32} (hn : n < 2 ^ 31) (hC : ∀ e j : Nat, e < j → j < n → C e j = C' e j) (h : sw_fw C n r) (h' : sw_fw C' n r') : r = r' := by
  have hh : ∀ j : Nat, j < n → sw_hit C j j = sw_hit C' j j := fun j hj => sw_hit_congr j (fun e he => hC e j he hj)
  rcases h with ⟨e1, a1⟩ | ⟨j, b1, b2, b3, b4⟩ <;> rcases h' with ⟨e2, a2⟩ | ⟨j', c1, c2, c3, c4⟩
  · rw [e1, e2]
  · rw [← hh j' c1, a1 j' c1] at c3; cases c3
  · rw [hh j b1, a2 j b1] at b3; cases b3
  · rcases Nat.lt_trichotomy j j' with q | q | q
    · have := c4 j q; rw [← hh j b1, b3] at this; cases this
    · rw [b2, c2, q]
    · have := b4 j' q; rw [hh j' c1, c3] at this; cases this
/-- the copy of a draft is a draft, and the reference's map is its picture -/
theorem lw_D_copy {nv ns nw : Int32} {vx vy fl ce fa tb fr bk vx' vy' fl' ce' fa' tb' fr' bk' : Nat → Int32} (h : lw_D nv ns nw vx vy fl ce fa tb fr bk) (h1 : ∀ j : Nat, j < 64 → vx' j = vx j ∧ vy' j = vy j ∧ fa' j = fa j ∧ tb' j = tb j ∧ fr' j = fr j ∧ bk' j = bk j) : lw_D nv ns nw vx' vy' fl' ce' fa' tb' fr' bk' := by
  obtain ⟨k1, k2, k3, k4, k5, k6⟩ := h
  have g1 := k1.2
  have g3 := k3.2
  refine ⟨k1, k2, k3, fun j hj => ?_, fun i j hij hj => ?_, fun j hj => ?_⟩
  · obtain ⟨a, b, -⟩ := h1 j (by omega)
    rw [a, b]; exact k4 j hj
  · obtain ⟨a, b, -⟩ := h1 j (by omega)
    obtain ⟨c, d, -⟩ := h1 i (by omega)
    rw [a, b, c, d]; exact k5 i j hij hj
  · obtain ⟨-, -, a, b, c, d⟩ := h1 j (by omega)
    rw [a, b, c, d]; exact k6 j hj
theorem sw_cpy64 {f g : Nat → Int32} {j : Nat} (h : j < 64) : va_cpy f g (0 : Int32).toNatClampNeg (0 : Int32).toNatClampNeg (64 : Int32).toNatClampNeg j = f j := by
  rw [show (0 : Int32).toNatClampNeg = 0 by decide, show (64 : Int32).toNatClampNeg = 64 by decide, pk_cpy_in (Nat.zero_le j) (by omega)]
  congr 1
  omega
theorem sw_cpy16 {f g : Nat → Int32} {j : Nat} (h : j < 16) : va_cpy f g (0 : Int32).toNatClampNeg (0 : Int32).toNatClampNeg (16 : Int32).toNatClampNeg j = f j := by
  rw [show (0 : Int32).toNatClampNeg = 0 by decide, show (16 : Int32).toNatClampNeg = 16 by decide, pk_cpy_in (Nat.zero_le j) (by omega)]
  congr 1
  omega
