/-! one step, on both sides -/
section SWSTEP
variable {gnv gns gnw wx wy ws mx my : Int32} {gvx gvy gfl gce gfa gtb gfr gbk p1 p2 p3 p4 p5 p6 p7 p8 od pp qq cr : Nat → Int32} {cp cq : Nat → Int64}
theorem lw_okm (hE : lw_D gnv gns gnw gvx gvy gfl gce gfa gtb gfr gbk) (hM : lw_M gns gnw gvx gvy gfl gce gfa gtb gfr gbk p1 p2 p3 p4 p5 p6 p7 p8) (h1 : sw_rg 128 mx) (h2 : sw_rg 128 my) (h3 : sw_rg 3000 wx) (h4 : sw_rg 3000 wy) : sw_okm gvx gvy gfa gtb p1 p2 p3 p4 wx wy mx my gnw.toNatClampNeg := by
  obtain ⟨k1, k2, k3, k4, k5, k6⟩ := hE
  have k1' := k1.2
  have k3' := k3.2
  refine ⟨h1, h2, h3, h4, by omega, fun v hv => ?_⟩
  obtain ⟨e1, e2, e3, e4, -⟩ := hM.1 v hv
  obtain ⟨f1, f2, -⟩ := k6 v hv
  have rr : ∀ {x : Int32}, vp_in x gnv.toNatClampNeg → sw_rg 2000 (gvx x.toNatClampNeg) ∧ sw_rg 2000 (gvy x.toNatClampNeg) := fun {x} h => by
    obtain ⟨j, hj, rfl⟩ := vp_in_of h (by omega)
    rw [nI_clamp (by omega)]
    exact k4 j hj
  rw [e1, e2, e3, e4]
  exact ⟨⟨rfl, rfl, rfl, rfl⟩, (rr f1).1, (rr f1).2, (rr f2).1, (rr f2).2⟩
theorem sw_sbh_m {fr bk pp od : Nat → Int32} {nk ws : Int32} {N : Nat} (h : sw_ok nk N) (hN : N < 2 ^ 31) : sw_sbh fr bk pp od nk ws = (match nk.toNatClampNeg with | 0 => ws | j + 1 => if 0 ≤ pp (od j).toNatClampNeg then fr (od j).toNatClampNeg else bk (od j).toNatClampNeg) := by
  unfold sw_sbh
  by_cases q : nk = 0
  · rw [if_pos q, q]; rfl
  · rw [if_neg q]
    obtain ⟨-, g⟩ := sw_ok_pred h hN q
    rw [← g]
theorem lw_go (hE : lw_D gnv gns gnw gvx gvy gfl gce gfa gtb gfr gbk) (hM : lw_M gns gnw gvx gvy gfl gce gfa gtb gfr gbk p1 p2 p3 p4 p5 p6 p7 p8) (h1 : sw_rg 128 mx) (h2 : sw_rg 128 my) (h3 : sw_rg 3000 wx) (h4 : sw_rg 3000 wy) :
    ∃ (r x y w nk fs : Int32) (od' pp' qq' cr' : Nat → Int32) (cp' cq' : Nat → Int64), sw_Wm gvx gvy gfl gce gfa gtb gfr gbk gnw.toNatClampNeg wx wy ws od pp qq mx my = (r, x, y, w, nk, fs, od', pp', qq') ∧
      sw_go p1 p2 p3 p4 p5 p6 p7 p8 gnw.toNatClampNeg wx wy ws cr cp cq mx my = (r, x, y, w, nk, fs, cr', cp', cq') ∧ lw_C nk od' cr' ∧ sw_rg 3000 x ∧ sw_rg 3000 y := by
  by_cases hz : mx = 0 ∧ my = 0
  · exact ⟨_, _, _, _, _, _, _, _, _, _, _, _, sw_Wm_0 hz.1 hz.2, sw_go_0 hz.1 hz.2, ⟨⟨by decide, by decide⟩, fun j hj => absurd hj (by rw [show (0 : Int32).toNatClampNeg = 0 by decide]; exact Nat.not_lt_zero j)⟩, h3, h4⟩
  · have hok := lw_okm hE hM h1 h2 h3 h4
    obtain ⟨k1, k2, k3, k4, k5, k6⟩ := hE
    have k2' := k2.2
    have k3' := k3.2
    obtain ⟨i1, i2⟩ := sw_fill (od := od) (pp := pp) (qq := qq) (cr := cr) (cp := cp) (cq := cq) hok gnw.toNatClampNeg (Nat.le_refl _)
    have hod := (sw_fs1_od (vx := gvx) (vy := gvy) (fa := gfa) (tb := gtb) (ox := wx) (oy := wy) (mx := mx) (my := my) (od := od) (pp := pp) (qq := qq) gnw.toNatClampNeg (by omega)).1
    have hsim := sw_gs_sim (fl := gfl) (ce := gce) (fr := gfr) (bk := gbk) (p5 := p5) (p6 := p6) (p7 := p7) (p8 := p8) (es := ws) (N := gns.toNatClampNeg) (n := gnw.toNatClampNeg) (by omega) (by omega)
      (fun v hv => by obtain ⟨-, -, -, -, a5, a6⟩ := hM.1 v hv; obtain ⟨-, -, -, b4, b5⟩ := k6 v hv; exact ⟨a5, a6, b4, b5⟩) hM.2 (fun v hv => (sw_okm_n hok hv).2.2.1)
      (fun j hj => by obtain ⟨v, hv, e1, e2, -, e4, -⟩ := i2 j hj; exact ⟨v, hv, e1, e2, e4⟩) _ (Nat.le_refl _)
    obtain ⟨s1, s2, s3⟩ := hsim
    have hC : lw_C (sw_fs1 gvx gvy gfa gtb wx wy mx my od pp qq gnw.toNatClampNeg).1 (sw_fs1 gvx gvy gfa gtb wx wy mx my od pp qq gnw.toNatClampNeg).2.1 (sw_mc mx my p1 p2 p3 p4 wx wy cr cp cq gnw.toNatClampNeg).2.1 :=
      ⟨sw_ok_mono hod (by omega), fun j hj => by obtain ⟨v, hv, e1, -, -, e4, -⟩ := i2 j hj; rw [e1, e4]; exact (sw_mid_r (by omega) _).1⟩
    have sb := sw_sbh_m (fr := gfr) (bk := gbk) (pp := (sw_fs1 gvx gvy gfa gtb wx wy mx my od pp qq gnw.toNatClampNeg).2.2.1) (od := (sw_fs1 gvx gvy gfa gtb wx wy mx my od pp qq gnw.toNatClampNeg).2.1) (ws := ws) hod (by omega)
    rw [i1] at s1 s3 sb s2
    have hM9 : ((sw_mc mx my p1 p2 p3 p4 wx wy cr cp cq gnw.toNatClampNeg).1, (sw_mc mx my p1 p2 p3 p4 wx wy cr cp cq gnw.toNatClampNeg).2.1, (sw_mc mx my p1 p2 p3 p4 wx wy cr cp cq gnw.toNatClampNeg).2.2.1, (sw_mc mx my p1 p2 p3 p4 wx wy cr cp cq gnw.toNatClampNeg).2.2.2) = (sw_mc mx my p1 p2 p3 p4 wx wy cr cp cq gnw.toNatClampNeg) := rfl
    have hs9 : ((sw_gs p5 p6 p7 p8 (sw_mc mx my p1 p2 p3 p4 wx wy cr cp cq gnw.toNatClampNeg).2.1 ws (sw_mc mx my p1 p2 p3 p4 wx wy cr cp cq gnw.toNatClampNeg).1.toNatClampNeg).1, (sw_gs p5 p6 p7 p8 (sw_mc mx my p1 p2 p3 p4 wx wy cr cp cq gnw.toNatClampNeg).2.1 ws (sw_mc mx my p1 p2 p3 p4 wx wy cr cp cq gnw.toNatClampNeg).1.toNatClampNeg).2) = (sw_gs p5 p6 p7 p8 (sw_mc mx my p1 p2 p3 p4 wx wy cr cp cq gnw.toNatClampNeg).2.1 ws (sw_mc mx my p1 p2 p3 p4 wx wy cr cp cq gnw.toNatClampNeg).1.toNatClampNeg) := rfl
    by_cases hs : sw_fst (fun v : Int32 => sw_stop gfl gce gfr gbk v.toNatClampNeg (!(decide (0 ≤ (sw_fs1 gvx gvy gfa gtb wx wy mx my od pp qq gnw.toNatClampNeg).2.2.1 v.toNatClampNeg)))) (sw_fs1 gvx gvy gfa gtb wx wy mx my od pp qq gnw.toNatClampNeg).2.1 (sw_mc mx my p1 p2 p3 p4 wx wy cr cp cq gnw.toNatClampNeg).1.toNatClampNeg = -1
    · cases hb : (sw_wi (wx + mx) 3000 && sw_wi (wy + my) 3000)
      · have g := sw_go_2 hz hM9 hs9 (Or.inr hb)
        have w := sw_Wm_2b (fl := gfl) (ce := gce) (fr := gfr) (bk := gbk) (ws := ws) (vx := gvx) (vy := gvy) (fa := gfa) (tb := gtb) (n := gnw.toNatClampNeg) (od := od) (pp := pp) (qq := qq) hz hb
        rw [s1] at g
        rw [i1] at w hC
        exact ⟨_, _, _, _, _, _, _, _, _, _, _, _, w, g, hC, h3, h4⟩
      · have hb' := hb
        rw [Bool.and_eq_true] at hb'
        have g := sw_go_1 hz hM9 hs9 (by rw [s1, hs]; decide) hb
        have w := sw_Wm_1 (fl := gfl) (ce := gce) (fr := gfr) (bk := gbk) (ws := ws) (vx := gvx) (vy := gvy) (fa := gfa) (tb := gtb) (n := gnw.toNatClampNeg) (od := od) (pp := pp) (qq := qq) hz (by rw [i1]; exact hs) hb
        have s4 := s3.trans sb.symm
        rw [s1, s4] at g
        rw [i1] at w hC
        exact ⟨_, _, _, _, _, _, _, _, _, _, _, _, w, g, hC, sw_wi_r hb'.1 (by decide) (by decide), sw_wi_r hb'.2 (by decide) (by decide)⟩
    · have g := sw_go_2 hz hM9 hs9 (Or.inl (by rw [s1]; exact s2.resolve_left hs))
      have w := sw_Wm_2a (fl := gfl) (ce := gce) (fr := gfr) (bk := gbk) (ws := ws) (vx := gvx) (vy := gvy) (fa := gfa) (tb := gtb) (n := gnw.toNatClampNeg) (od := od) (pp := pp) (qq := qq) hz (by rw [i1]; exact hs)
      rw [s1] at g
      rw [i1] at w hC
      exact ⟨_, _, _, _, _, _, _, _, _, _, _, _, w, g, hC, h3, h4⟩
end SWSTEP
