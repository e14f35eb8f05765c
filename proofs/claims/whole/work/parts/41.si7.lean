/-! a step by an input, on both sides -/
theorem sw_cosf_r : ∀ k : Nat, k < 64 → -256 ≤ (sw_cosf (nI k)).toInt ∧ (sw_cosf (nI k)).toInt ≤ 256 := by decide +kernel
theorem sw_co_r (a : Int32) : sw_rg 256 (sw_co a) := by
  obtain ⟨k, hk, e⟩ := vp_in_of (vp_in_iff.mpr (sw_fm64 a)) (by decide)
  unfold sw_co
  rw [e]
  exact sw_cosf_r k hk
theorem sw_ra {x y : Int32} {A B : Int} (hx : sw_rg A x) (hy : sw_rg B y) (h : A + B < 2147483648) : (x + y).toInt = x.toInt + y.toInt ∧ sw_rg (A + B) (x + y) := by
  unfold sw_rg at *
  have e : (x + y).toInt = x.toInt + y.toInt := sw_iadd (by omega) (by omega)
  rw [e]
  omega
theorem sw_m_r (a : Int32) {x y : Int32} (hx : sw_rg 64 x) (hy : sw_rg 64 y) : sw_rg 128 (sw_mX a x y) ∧ sw_rg 128 (sw_mY a x y) := by
  obtain ⟨-, r1⟩ := sw_rm (sw_co_r a) hx (by decide)
  obtain ⟨-, r2⟩ := sw_rm (sw_co_r (a - 16)) hy (by decide)
  obtain ⟨-, r3⟩ := sw_rm (sw_co_r (a - 16)) hx (by decide)
  obtain ⟨-, r4⟩ := sw_rm (sw_co_r a) hy (by decide)
  obtain ⟨-, r5⟩ := sw_ra r1 r2 (by decide)
  obtain ⟨-, r6⟩ := sw_ri r3 r4 (by decide)
  unfold sw_mX sw_mY
  unfold sw_rg at r5 r6 ⊢
  rw [sw_fd256, sw_fd256]
  omega
theorem lw_step {gnv gns gnw wx wy wa ws : Int32} {gvx gvy gfl gce gfa gtb gfr gbk p1 p2 p3 p4 p5 p6 p7 p8 od pp qq cr bw : Nat → Int32} {cp cq : Nat → Int64}
    (hE : lw_D gnv gns gnw gvx gvy gfl gce gfa gtb gfr gbk) (hM : lw_M gns gnw gvx gvy gfl gce gfa gtb gfr gbk p1 p2 p3 p4 p5 p6 p7 p8) (hW : lw_S wx wy wa ws bw) {x y z : Int32} (hin : (sw_wi x 64 && sw_wi y 64 && sw_wi z 16) = true) :
    sw_am (bw 2) z = sw_fm (wa + z) 64 ∧ (0 ≤ (sw_fm (wa + z) 64).toInt ∧ (sw_fm (wa + z) 64).toInt < 64) ∧
    ∃ (r x' y' w nk fs : Int32) (od' pp' qq' cr' : Nat → Int32) (cp' cq' : Nat → Int64), sw_W gvx gvy gfl gce gfa gtb gfr gbk gnw.toNatClampNeg wx wy (sw_fm (wa + z) 64) ws od pp qq x y = (r, x', y', w, nk, fs, od', pp', qq') ∧
      sw_go p1 p2 p3 p4 p5 p6 p7 p8 gnw.toNatClampNeg (bw 0) (bw 1) (bw 3) cr cp cq (sw_gmx (sw_am (bw 2) z) x y) (sw_gmy (sw_am (bw 2) z) x y) = (r, x', y', w, nk, fs, cr', cp', cq') ∧ lw_C nk od' cr' ∧ sw_rg 3000 x' ∧ sw_rg 3000 y' := by
  obtain ⟨⟨b0, b1, b2, b3⟩, r1, r2, r3⟩ := hW
  simp only [Bool.and_eq_true] at hin
  have hx := sw_wi_r (K := 64) hin.1.1 (by decide) (by decide)
  have hy := sw_wi_r (K := 64) hin.1.2 (by decide) (by decide)
  have hz := sw_wi_r (K := 16) hin.2 (by decide) (by decide)
  have ha := sw_fm_am r3 hz
  have h64 := sw_fm64 (wa + z)
  obtain ⟨m1, m2⟩ := sw_m_r (sw_fm (wa + z) 64) hx hy
  obtain ⟨g1, g2⟩ := sw_gm h64 x y
  rw [b0, b1, b2, b3, ha, g1, g2]
  exact ⟨rfl, h64, lw_go hE hM m1 m2 r1 r2⟩
