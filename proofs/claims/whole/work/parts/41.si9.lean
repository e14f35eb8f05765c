theorem lw_PL {gnv gns gnw ox oy oa os nt : Int32} {gvx gvy gfl gce gfa gtb gfr gbk p1 p2 p3 p4 p5 p6 p7 p8 od pp qq cr bo ia ib ic : Nat → Int32} {cp cq : Nat → Int64}
    (hE : lw_D gnv gns gnw gvx gvy gfl gce gfa gtb gfr gbk) (hM : lw_M gns gnw gvx gvy gfl gce gfa gtb gfr gbk p1 p2 p3 p4 p5 p6 p7 p8) (hO : lw_S ox oy oa os bo) (hT : lw_T nt ia ib ic) :
    ∀ q : Nat, q ≤ nt.toNatClampNeg → ∃ (c x y a w nk fs : Int32) (od' pp' qq' cr' : Nat → Int32) (cp' cq' : Nat → Int64), (c, x, y, a, w, nk, fs, od', pp', qq') = sw_PL gvx gvy gfl gce gfa gtb gfr gbk gnw.toNatClampNeg ox oy oa os od pp qq ia ib ic q ∧ (c, x, y, a, w, nk, fs, cr', cp', cq') = sw_PM p1 p2 p3 p4 p5 p6 p7 p8 gnw.toNatClampNeg bo cr cp cq ia ib ic q ∧ lw_C nk od' cr' ∧ sw_rg 3000 x ∧ sw_rg 3000 y ∧ 0 ≤ a.toInt ∧ a.toInt < 64 := by
  intro q
  induction q with
  | zero =>
    intro _
    obtain ⟨⟨b0, b1, b2, b3⟩, r1, r2, r3⟩ := hO
    refine ⟨0, ox, oy, oa, os, 0, -1, od, pp, qq, cr, cp, cq, rfl, ?_, ⟨⟨by decide, by decide⟩, fun j hj => absurd hj (by rw [show (0 : Int32).toNatClampNeg = 0 by decide]; exact Nat.not_lt_zero j)⟩, r1, r2, r3⟩
    rw [← b0, ← b1, ← b2, ← b3]; rfl
  | succ q ih =>
    intro hq
    obtain ⟨c, x, y, a, w, nk, fs, od', pp', qq', cr', cp', cq', e1, e2, -, r1, r2, r3⟩ := ih (by omega)
    have hin := hT.2 q (by omega)
    obtain ⟨ha, h64, r, x', y', w', nk', fs', od2, pp2, qq2, cr2, cp2, cq2, s1, s2, c1, c2, c3⟩ := lw_step (od := od') (pp := pp') (qq := qq') (cr := cr') (cp := cp') (cq := cq') (wx := x) (wy := y) (wa := a) (ws := w) (bw := fun j => match j with | 0 => x | 1 => y | 2 => a | _ => w) hE hM ⟨⟨rfl, rfl, rfl, rfl⟩, r1, r2, r3⟩ hin
    replace ha : sw_am a (ic q) = sw_fm (a + ic q) 64 := ha
    replace s2 : sw_go p1 p2 p3 p4 p5 p6 p7 p8 gnw.toNatClampNeg x y w cr' cp' cq' (sw_gmx (sw_am a (ic q)) (ia q) (ib q)) (sw_gmy (sw_am a (ic q)) (ia q) (ib q)) = (r, x', y', w', nk', fs', cr2, cp2, cq2) := s2
    by_cases h2 : r = 2
    · have g1 := sw_PL_yes e1 (by rw [s1]; exact h2)
      have g2 := sw_PM_yes e2 (by rw [s2]; exact h2)
      rw [s1] at g1
      rw [s2, ha] at g2
      exact ⟨_, _, _, _, _, _, _, _, _, _, _, _, _, g1, g2, c1, c2, c3, h64⟩
    · have g1 := sw_PL_no e1 (by rw [s1]; exact h2)
      have g2 := sw_PM_no e2 (by rw [s2]; exact h2)
      rw [s1] at g1
      rw [s2, ha, Int32.add_zero] at g2
      exact ⟨_, _, _, _, _, _, _, _, _, _, _, _, _, g1, g2, c1, c2, c3, h64⟩
theorem lw_play2 {gnv gns gnw ox oy oa os wx wy wa ws sd nk fs nt r nk2 fs2 : Int32} {gvx gvy gfl gce gfa gtb gfr gbk p1 p2 p3 p4 p5 p6 p7 p8 od pp qq cr bo bw bw2 cr2 ia ib ic : Nat → Int32} {cp cq cp2 cq2 : Nat → Int64}
    (hE : lw_D gnv gns gnw gvx gvy gfl gce gfa gtb gfr gbk) (hM : lw_M gns gnw gvx gvy gfl gce gfa gtb gfr gbk p1 p2 p3 p4 p5 p6 p7 p8) (hO : lw_S ox oy oa os bo) (hW : lw_S wx wy wa ws bw) (hC : lw_C nk od cr) (hT : lw_T nt ia ib ic) (x : Int32) (hp : ((!(decide (sd = 0)) && !(decide (x < 0)) && decide (x ≤ nt)) = true → (r, bw2 0, bw2 1, bw2 2, bw2 3, nk2, fs2, cr2, cp2, cq2) = (sw_PM p1 p2 p3 p4 p5 p6 p7 p8 gnw.toNatClampNeg bo cr cp cq ia ib ic x.toNatClampNeg)) ∧ ((!(decide (sd = 0)) && !(decide (x < 0)) && decide (x ≤ nt)) = false → r = -1 ∧ bw2 = bw ∧ nk2 = nk ∧ fs2 = fs ∧ cr2 = cr ∧ cp2 = cp ∧ cq2 = cq)) :
    (if (!(decide (sd = 0)) && !(decide (x < 0)) && decide (x ≤ nt)) = true then (sw_PL gvx gvy gfl gce gfa gtb gfr gbk gnw.toNatClampNeg ox oy oa os od pp qq ia ib ic x.toNatClampNeg).1 else -1) = r ∧ nk2 = (if (!(decide (sd = 0)) && !(decide (x < 0)) && decide (x ≤ nt)) = true then (sw_PL gvx gvy gfl gce gfa gtb gfr gbk gnw.toNatClampNeg ox oy oa os od pp qq ia ib ic x.toNatClampNeg).2.2.2.2.2.1 else nk) ∧ fs2 = (if (!(decide (sd = 0)) && !(decide (x < 0)) && decide (x ≤ nt)) = true then (sw_PL gvx gvy gfl gce gfa gtb gfr gbk gnw.toNatClampNeg ox oy oa os od pp qq ia ib ic x.toNatClampNeg).2.2.2.2.2.2.1 else fs) ∧ lw_S (if (!(decide (sd = 0)) && !(decide (x < 0)) && decide (x ≤ nt)) = true then (sw_PL gvx gvy gfl gce gfa gtb gfr gbk gnw.toNatClampNeg ox oy oa os od pp qq ia ib ic x.toNatClampNeg).2.1 else wx) (if (!(decide (sd = 0)) && !(decide (x < 0)) && decide (x ≤ nt)) = true then (sw_PL gvx gvy gfl gce gfa gtb gfr gbk gnw.toNatClampNeg ox oy oa os od pp qq ia ib ic x.toNatClampNeg).2.2.1 else wy) (if (!(decide (sd = 0)) && !(decide (x < 0)) && decide (x ≤ nt)) = true then (sw_PL gvx gvy gfl gce gfa gtb gfr gbk gnw.toNatClampNeg ox oy oa os od pp qq ia ib ic x.toNatClampNeg).2.2.2.1 else wa) (if (!(decide (sd = 0)) && !(decide (x < 0)) && decide (x ≤ nt)) = true then (sw_PL gvx gvy gfl gce gfa gtb gfr gbk gnw.toNatClampNeg ox oy oa os od pp qq ia ib ic x.toNatClampNeg).2.2.2.2.1 else ws) bw2 ∧ lw_C (if (!(decide (sd = 0)) && !(decide (x < 0)) && decide (x ≤ nt)) = true then (sw_PL gvx gvy gfl gce gfa gtb gfr gbk gnw.toNatClampNeg ox oy oa os od pp qq ia ib ic x.toNatClampNeg).2.2.2.2.2.1 else nk) (if (!(decide (sd = 0)) && !(decide (x < 0)) && decide (x ≤ nt)) = true then (sw_PL gvx gvy gfl gce gfa gtb gfr gbk gnw.toNatClampNeg ox oy oa os od pp qq ia ib ic x.toNatClampNeg).2.2.2.2.2.2.2.1 else od) cr2 := by
  cases hb : (!(decide (sd = 0)) && !(decide (x < 0)) && decide (x ≤ nt))
  · obtain ⟨rfl, rfl, rfl, rfl, rfl, -, -⟩ := hp.2 hb
    simp only [Bool.false_eq_true, if_false]
    exact ⟨trivial, trivial, trivial, hW, hC⟩
  · have h1 := hp.1 hb
    simp only [Bool.and_eq_true, decide_eq_true_eq, Bool.not_eq_true', decide_eq_false_iff_not] at hb
    have hx := sw_ok_of hT.1 (by decide) hb.1.2 hb.2
    have i1 := sw_ok_i hT.1 (by decide)
    have i2 := sw_ok_i hx (by decide)
    have h3 := hb.2
    rw [sw_leI] at h3
    obtain ⟨c, x', y', a, w, nk', fs', od', pp', qq', cr', cp', cq', e1, e2, c1, r1, r2, r3⟩ := lw_PL (od := od) (pp := pp) (qq := qq) (cr := cr) (cp := cp) (cq := cq) hE hM hO hT x.toNatClampNeg (by omega)
    simp only [if_true]
    rw [← e2] at h1
    rw [← e1]
    simp only [Prod.mk.injEq] at h1
    obtain ⟨rfl, b0, b1, b2, b3, rfl, rfl, rfl, -, -⟩ := h1
    exact ⟨rfl, rfl, rfl, ⟨⟨b0, b1, b2, b3⟩, r1, r2, r3⟩, c1⟩
