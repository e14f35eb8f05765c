/-! a wall and a step: the numbers of both sides are the same whole numbers -/
def sw_rg (K : Int) (x : Int32) : Prop := -K ≤ x.toInt ∧ x.toInt ≤ K
theorem sw_pb {a b A B : Int} (h : -A ≤ a ∧ a ≤ A) (k : -B ≤ b ∧ b ≤ B) : -(A * B) ≤ a * b ∧ a * b ≤ A * B := by
  have h1 := Int.mul_nonneg (show 0 ≤ A - a by omega) (show 0 ≤ B - b by omega)
  have h2 := Int.mul_nonneg (show 0 ≤ A + a by omega) (show 0 ≤ B + b by omega)
  have h3 := Int.mul_nonneg (show 0 ≤ A - a by omega) (show 0 ≤ B + b by omega)
  have h4 := Int.mul_nonneg (show 0 ≤ A + a by omega) (show 0 ≤ B - b by omega)
  simp only [Int.sub_mul, Int.add_mul, Int.mul_sub, Int.mul_add] at h1 h2 h3 h4
  omega
theorem sw_ri {x y : Int32} {A B : Int} (hx : sw_rg A x) (hy : sw_rg B y) (h : A + B < 2147483648) : (x - y).toInt = x.toInt - y.toInt ∧ sw_rg (A + B) (x - y) := by
  unfold sw_rg at *
  have e : (x - y).toInt = x.toInt - y.toInt := sw_isub (by omega) (by omega)
  rw [e]
  omega
theorem sw_rm {x y : Int32} {A B : Int} (hx : sw_rg A x) (hy : sw_rg B y) (h : A * B < 2147483648) : (x * y).toInt = x.toInt * y.toInt ∧ sw_rg (A * B) (x * y) := by
  unfold sw_rg at *
  have hb := sw_pb hx hy
  have e : (x * y).toInt = x.toInt * y.toInt := sw_imul (by omega) (by omega)
  rw [e]
  omega
/-- x1 * y1 - x2 * y2, in ints and in longs -/
theorem sw_cr32 {x1 y1 x2 y2 : Int32} {A B C D : Int} (h1 : sw_rg A x1) (h2 : sw_rg B y1) (h3 : sw_rg C x2) (h4 : sw_rg D y2) (h : A * B + C * D < 2147483648) (h5 : 0 ≤ A * B) (h6 : 0 ≤ C * D) :
    (x1 * y1 - x2 * y2).toInt = x1.toInt * y1.toInt - x2.toInt * y2.toInt ∧ sw_rg (A * B + C * D) (x1 * y1 - x2 * y2) := by
  obtain ⟨e1, r1⟩ := sw_rm h1 h2 (by omega)
  obtain ⟨e2, r2⟩ := sw_rm h3 h4 (by omega)
  obtain ⟨e3, r3⟩ := sw_ri r1 r2 h
  exact ⟨by rw [e3, e1, e2], r3⟩
theorem sw_lm (x y : Int32) : (x.toInt64 * y.toInt64).toInt = x.toInt * y.toInt := by
  have hx := sw_b32 x
  have hy := sw_b32 y
  have hb := sw_pb (a := x.toInt) (b := y.toInt) (A := 2147483648) (B := 2147483648) (by omega) (by omega)
  rw [Int64.toInt_mul, Int32.toInt_toInt64, Int32.toInt_toInt64]
  exact Int.bmod_eq_of_le (by omega) (by omega)
theorem sw_cr64 {x1 y1 x2 y2 : Int32} {A B C D : Int} (h1 : sw_rg A x1) (h2 : sw_rg B y1) (h3 : sw_rg C x2) (h4 : sw_rg D y2) (h : A * B + C * D < 2147483648) (h5 : 0 ≤ A * B) (h6 : 0 ≤ C * D) :
    (x1.toInt64 * y1.toInt64 - x2.toInt64 * y2.toInt64).toInt = x1.toInt * y1.toInt - x2.toInt * y2.toInt := by
  unfold sw_rg at *
  have hb1 := sw_pb h1 h2
  have hb2 := sw_pb h3 h4
  rw [Int64.toInt_sub, sw_lm, sw_lm]
  exact Int.bmod_eq_of_le (by omega) (by omega)
theorem sw_lgeI (v : Int64) : (0 ≤ lg_cmp v 0) ↔ 0 ≤ v.toInt := by rw [lg_cmp_ge, Int64.le_iff_toInt_le, Int64.toInt_zero]
theorem sw_lab_i {v : Int64} (h : -2147483648 ≤ v.toInt ∧ v.toInt < 2147483648) : (sw_lab v).toInt = if 0 ≤ v.toInt then v.toInt else -v.toInt := by
  unfold sw_lab
  by_cases q : 0 ≤ v.toInt
  · rw [if_pos ((sw_lgeI v).mpr q), if_pos q]
  · rw [if_neg (fun h => q ((sw_lgeI v).mp h)), if_neg q, Int64.toInt_neg]
    exact Int.bmod_eq_of_le (by omega) (by omega)
theorem sw_lsub {a b : Int64} (h1 : -2147483648 ≤ a.toInt - b.toInt) (h2 : a.toInt - b.toInt < 2147483648) : (a - b).toInt = a.toInt - b.toInt := by
  rw [Int64.toInt_sub]
  exact Int.bmod_eq_of_le (by omega) (by omega)
theorem sw_n_cross {a b P : Int32} {a' b' P' : Int64} (ha : a'.toInt = a.toInt) (hb : b'.toInt = b.toInt) (hP : P'.toInt = P.toInt) (ra : sw_rg 2000000 a) (rb : sw_rg 2000000 b) (rP : sw_rg 50000000 P) :
    (if decide (0 ≤ a) = decide (0 ≤ b) then false else sw_up1 P (b - a)) = sw_mcd a' b' P' (b' - a') := by
  unfold sw_rg at *
  have e1 : (b - a).toInt = b.toInt - a.toInt := sw_isub (by omega) (by omega)
  have e2 : (b' - a').toInt = b.toInt - a.toInt := by rw [sw_lsub (by omega) (by omega), ha, hb]
  have l1 : (sw_lab P').toInt = if 0 ≤ P.toInt then P.toInt else -P.toInt := by rw [sw_lab_i (by omega), hP]
  have l2 : (sw_lab (b' - a')).toInt = if 0 ≤ b.toInt - a.toInt then b.toInt - a.toInt else -(b.toInt - a.toInt) := by rw [sw_lab_i (by omega), e2]
  have l3 : (lg_cmp P' 0 = 0) ↔ P.toInt = 0 := by
    have q1 := lg_cmp_ge P' 0
    have q2 := lg_cmp_le P' 0
    rw [Int64.le_iff_toInt_le, Int64.toInt_zero, hP, sw_leI, Int32.toInt_zero] at q1
    rw [Int64.le_iff_toInt_le, Int64.toInt_zero, hP, sw_leI, Int32.toInt_zero] at q2
    rw [← Int32.toInt_inj, Int32.toInt_zero]
    omega
  have l4 : (0 < lg_cmp (sw_lab P') (sw_lab (b' - a'))) ↔ (sw_lab (b' - a')).toInt < (sw_lab P').toInt := by rw [lg_cmp_gt, Int64.lt_iff_toInt_lt]
  rw [Bool.eq_iff_iff]
  unfold sw_mcd sw_lng sw_up1
  simp only [sw_lgeI, ha, hb, hP, e2, l3, l4, l1, l2]
  simp only [sw_leI, sw_ltI, e1, Int32.toInt_zero]
  by_cases c1 : 0 ≤ a.toInt <;> by_cases c2 : 0 ≤ b.toInt <;> by_cases c3 : 0 ≤ P.toInt <;> by_cases c4 : 0 ≤ b.toInt - a.toInt <;> by_cases c5 : b.toInt - a.toInt ≤ 0 <;> simp [c1, c2, c3, c4, c5] <;> omega
/-- the numbers of a wall from (xa, ya) to (xb, yb), seen from (ox, oy), for the move (mx, my) -/
theorem sw_n_a {mx my ox oy xa ya : Int32} (h1 : sw_rg 128 mx) (h2 : sw_rg 128 my) (h3 : sw_rg 3000 ox) (h4 : sw_rg 3000 oy) (h5 : sw_rg 2000 xa) (h6 : sw_rg 2000 ya) :
    (sw_mA mx my ox oy xa ya).toInt = (mx * (ya - oy) - my * (xa - ox)).toInt ∧ sw_rg 2000000 (mx * (ya - oy) - my * (xa - ox)) := by
  obtain ⟨e1, r1⟩ := sw_ri h6 h4 (by decide)
  obtain ⟨e2, r2⟩ := sw_ri h5 h3 (by decide)
  obtain ⟨e3, r3⟩ := sw_cr32 h1 r1 h2 r2 (by decide) (by decide) (by decide)
  refine ⟨?_, ?_⟩
  · unfold sw_mA
    rw [sw_cr64 h1 r1 h2 r2 (by decide) (by decide) (by decide), e3]
  · unfold sw_rg at r3 ⊢
    omega
theorem sw_n_p {ox oy xa ya xb yb : Int32} (h3 : sw_rg 3000 ox) (h4 : sw_rg 3000 oy) (h5 : sw_rg 2000 xa) (h6 : sw_rg 2000 ya) (h7 : sw_rg 2000 xb) (h8 : sw_rg 2000 yb) :
    (sw_mP ox oy xa ya xb yb).toInt = ((xa - ox) * ((yb - oy) - (ya - oy)) - (ya - oy) * ((xb - ox) - (xa - ox))).toInt ∧ sw_rg 50000000 ((xa - ox) * ((yb - oy) - (ya - oy)) - (ya - oy) * ((xb - ox) - (xa - ox))) := by
  obtain ⟨e1, r1⟩ := sw_ri h5 h3 (by decide)
  obtain ⟨e2, r2⟩ := sw_ri h6 h4 (by decide)
  obtain ⟨e3, r3⟩ := sw_ri h8 h6 (by decide)
  obtain ⟨e4, r4⟩ := sw_ri h7 h5 (by decide)
  have q1 : (yb - oy) - (ya - oy) = yb - ya := by
    obtain ⟨e5, r5⟩ := sw_ri h8 h4 (by decide)
    obtain ⟨e6, r6⟩ := sw_ri r5 r2 (by decide)
    rw [← Int32.toInt_inj, e6, e5, e2, e3]
    omega
  have q2 : (xb - ox) - (xa - ox) = xb - xa := by
    obtain ⟨e5, r5⟩ := sw_ri h7 h3 (by decide)
    obtain ⟨e6, r6⟩ := sw_ri r5 r1 (by decide)
    rw [← Int32.toInt_inj, e6, e5, e1, e4]
    omega
  rw [q1, q2]
  obtain ⟨e7, r7⟩ := sw_cr32 r1 r3 r2 r4 (by decide) (by decide) (by decide)
  refine ⟨?_, ?_⟩
  · unfold sw_mP
    rw [sw_cr64 r1 r3 r2 r4 (by decide) (by decide) (by decide), e7]
  · unfold sw_rg at r7 ⊢
    omega
