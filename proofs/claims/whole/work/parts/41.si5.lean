/-! all the walls of a map, one after the other -/
section SWFILL2
variable {vx vy fa tb p1 p2 p3 p4 : Nat → Int32} {ox oy mx my : Int32} {n : Nat} {od pp qq cr : Nat → Int32} {cp cq : Nat → Int64}
theorem sw_el_up {cP cQ : Nat → Int32} {mP mQ : Nat → Int64} {q j : Nat} (h : sw_el cP cQ mP mQ pp qq od cr cp cq q j) : sw_el cP cQ mP mQ pp qq od cr cp cq (q + 1) j := by
  obtain ⟨v, hv, r⟩ := h
  exact ⟨v, by omega, r⟩
theorem sw_el_upd {cP cQ : Nat → Int32} {mP mQ : Nat → Int64} {q j : Nat} {P Q : Int32} (h : sw_el cP cQ mP mQ pp qq od cr cp cq q j) : sw_el cP cQ mP mQ (upd pp q P) (upd qq q Q) od cr cp cq (q + 1) j := by
  obtain ⟨v, hv, e1, e2, e3, r⟩ := h
  exact ⟨v, by omega, e1, by rw [pk_un (by omega)]; exact e2, by rw [pk_un (by omega)]; exact e3, r⟩
theorem sw_fill (h : sw_okm vx vy fa tb p1 p2 p3 p4 ox oy mx my n) : ∀ q : Nat, q ≤ n →
    (sw_fs1 vx vy fa tb ox oy mx my od pp qq q).1 = (sw_mc mx my p1 p2 p3 p4 ox oy cr cp cq q).1 ∧
    ∀ j, j < (sw_fs1 vx vy fa tb ox oy mx my od pp qq q).1.toNatClampNeg → sw_el (sw_cP vx vy fa tb ox oy) (sw_cQ vx vy fa tb ox oy mx my) (sw_xP p1 p2 p3 p4 ox oy) (sw_xQ p1 p2 p3 p4 ox oy mx my) (sw_fs1 vx vy fa tb ox oy mx my od pp qq q).2.2.1 (sw_fs1 vx vy fa tb ox oy mx my od pp qq q).2.2.2 (sw_fs1 vx vy fa tb ox oy mx my od pp qq q).2.1 (sw_mc mx my p1 p2 p3 p4 ox oy cr cp cq q).2.1 (sw_mc mx my p1 p2 p3 p4 ox oy cr cp cq q).2.2.1 (sw_mc mx my p1 p2 p3 p4 ox oy cr cp cq q).2.2.2 q j := by
  intro q
  induction q with
  | zero => intro _; exact ⟨rfl, fun j hj => absurd hj (by show ¬ j < (0 : Int32).toNatClampNeg; rw [show (0 : Int32).toNatClampNeg = 0 by decide]; exact Nat.not_lt_zero j)⟩
  | succ q ih =>
    intro hq
    have hn := h.2.2.2.2.1
    obtain ⟨i1, i2⟩ := ih (by omega)
    have hod := (sw_fs1_od (vx := vx) (vy := vy) (fa := fa) (tb := tb) (ox := ox) (oy := oy) (mx := mx) (my := my) (od := od) (pp := pp) (qq := qq) q (by omega)).1
    obtain ⟨⟨a1, a2⟩, ⟨b1, b2⟩, c1, c2⟩ := sw_okm_n h (show q < n by omega)
    have hK := sw_n_cross a1 b1 c1 a2 b2 c2
    generalize hs : sw_fs1 vx vy fa tb ox oy mx my od pp qq q = s at i1 i2 hod
    generalize ht : sw_mc mx my p1 p2 p3 p4 ox oy cr cp cq q = t at i1 i2
    obtain ⟨s1, s2, s3, s4⟩ := s
    obtain ⟨t1, t2, t3, t4⟩ := t
    dsimp only at i1 i2 hod
    by_cases hd : decide (0 ≤ sw_cra vx vy (fa q) ox oy mx my) = decide (0 ≤ sw_cra vx vy (tb q) ox oy mx my)
    · rw [if_pos hd] at hK
      have e1 : sw_isc vx vy fa tb ox oy mx my s3 s4 q = (0, s3, s4) := if_pos hd
      have c0 := sw_fs1_no hs.symm (show (sw_isc vx vy fa tb ox oy mx my s3 s4 q).1 = 0 by rw [e1])
      have d0 := sw_mc_no ht.symm rfl rfl rfl rfl hK.symm
      rw [e1] at c0
      rw [← c0, ← d0]
      exact ⟨i1, fun j hj => sw_el_up (i2 j hj)⟩
    · rw [if_neg hd] at hK
      have e1 : sw_isc vx vy fa tb ox oy mx my s3 s4 q = (sw_b (sw_up1 (sw_cP vx vy fa tb ox oy q) (sw_cQ vx vy fa tb ox oy mx my q)), upd s3 q (sw_cP vx vy fa tb ox oy q), upd s4 q (sw_cQ vx vy fa tb ox oy mx my q)) := if_neg hd
      cases hu : sw_up1 (sw_cP vx vy fa tb ox oy q) (sw_cQ vx vy fa tb ox oy mx my q)
      · have hK2 := hu.symm.trans hK
        have c0 := sw_fs1_no hs.symm (show (sw_isc vx vy fa tb ox oy mx my s3 s4 q).1 = 0 by rw [e1, hu]; rfl)
        have d0 := sw_mc_no ht.symm rfl rfl rfl rfl hK2.symm
        rw [e1] at c0
        rw [← c0, ← d0]
        exact ⟨i1, fun j hj => sw_el_upd (i2 j hj)⟩
      · have hK2 := hu.symm.trans hK
        have c0 := sw_fs1_yes hs.symm (show ¬ (sw_isc vx vy fa tb ox oy mx my s3 s4 q).1 = 0 by rw [e1, hu]; show ¬ sw_b true = 0; decide)
        have d0 := sw_mc_yes ht.symm rfl rfl rfl rfl hK2.symm rfl rfl rfl
        rw [e1] at c0
        rw [← c0, ← d0]
        obtain ⟨g1, g2⟩ := sw_ok_succ hod (by omega)
        dsimp only
        refine ⟨by rw [i1], fun j hj => ?_⟩
        rw [g2] at hj
        rw [← i1]
        exact sw_lock (by omega) pk_us pk_us (fun v hv => sw_okm_ab h (by omega)) s1.toNatClampNeg s2 (t2, t3, t4) s1.toNatClampNeg (Nat.le_refl _) (fun i hi hne => sw_el_upd (i2 i (by omega))) j hj
end SWFILL2
/-! who is stopped, and where the walker comes to -/
theorem sw_mid_r {v : Nat} (hv : v < 2 ^ 29) (p : Int64) : sw_mid (nI v) p / 2 = nI v ∧ ((sw_mid (nI v) p - sw_mid (nI v) p / 2 * 2 = 0) ↔ ¬ 0 ≤ lg_cmp p 0) := by
  have e := sw_half hv (sw_mid_nI v p)
  refine ⟨e, ?_⟩
  rw [e]
  unfold sw_mid
  have e2 : (nI v * 2 : Int32) = nI (2 * v) := by rw [show (2 : Int32) = nI 2 from rfl, pk_mul, Nat.mul_comm]
  have e3 : (2 * nI v : Int32) = nI (2 * v) := by rw [show (2 : Int32) = nI 2 from rfl, pk_mul]
  by_cases q : 0 ≤ lg_cmp p 0
  · rw [if_pos q, e2, e3, nI_1, pk_sub (by omega), show 2 * v + 1 - 2 * v = 1 by omega]
    exact ⟨fun h => absurd h (by decide), fun h => absurd q h⟩
  · rw [if_neg q, e2, e3, pk_sub (by omega), Nat.sub_self]
    exact ⟨fun _ => q, fun _ => nI_0⟩
theorem sw_mn_m (x y : Int32) : (if y ≤ x then y else x) = sw_mn x y := by
  unfold sw_mn
  by_cases q : y < x
  · rw [if_pos q, if_pos (by rw [sw_ltI] at q; rw [sw_leI]; omega)]
  · rw [if_neg q]
    by_cases r : y ≤ x
    · rw [if_pos r, ← Int32.toInt_inj]
      rw [sw_ltI] at q
      rw [sw_leI] at r
      omega
    · rw [if_neg r]
theorem sw_mx_m (x y : Int32) : (if x ≤ y then y else x) = sw_mx x y := by
  unfold sw_mx
  by_cases q : x < y
  · rw [if_pos q, if_pos (by rw [sw_ltI] at q; rw [sw_leI]; omega)]
  · rw [if_neg q]
    by_cases r : x ≤ y
    · rw [if_pos r, ← Int32.toInt_inj]
      rw [sw_ltI] at q
      rw [sw_leI] at r
      omega
    · rw [if_neg r]
theorem sw_stop_m {fl ce fr bk p6 p7 p8 : Nat → Int32} {v N : Nat} (hN : N < 2 ^ 31) (e6 : p6 v = bk v) (hr : vp_in (fr v) N) (hb : bk v = -1 ∨ vp_in (bk v) N) (h78 : ∀ j : Nat, j < N → p7 j = fl j ∧ p8 j = ce j) (ff : Bool) :
    sw_stm p6 p7 p8 v (if ff = true then fr v else bk v) (if ff = true then bk v else fr v) = sw_stop fl ce fr bk v ff := by
  unfold sw_stm sw_stop
  rw [e6]
  rcases hb with hb | hb
  · rw [hb]; simp
  · have n1 : ∀ {x : Int32}, vp_in x N → p7 x.toNatClampNeg = fl x.toNatClampNeg ∧ p8 x.toNatClampNeg = ce x.toNatClampNeg := fun {x} h => by
      obtain ⟨j, hj, rfl⟩ := vp_in_of h hN
      rw [nI_clamp (by omega)]; exact h78 j hj
    have b0 := vp_in_iff.mp hb
    have z1 : decide (0 ≤ bk v) = true := decide_eq_true (by rw [sw_leI, Int32.toInt_zero]; omega)
    have z2 : decide (bk v = -1) = false := decide_eq_false (fun e => by rw [e, show (-1 : Int32).toInt = -1 by decide] at b0; omega)
    rw [z1, z2]
    cases ff
    · simp only [Bool.false_eq_true, if_false, Bool.not_true, Bool.false_or]
      unfold sw_stf
      rw [(n1 hb).1, (n1 hb).2, (n1 hr).1, (n1 hr).2, sw_mn_m, sw_mx_m]
    · simp only [if_true, Bool.not_true, Bool.false_or]
      unfold sw_stf
      rw [(n1 hb).1, (n1 hb).2, (n1 hr).1, (n1 hr).2, sw_mn_m, sw_mx_m]
theorem sw_gs_sim {fl ce fr bk p5 p6 p7 p8 pp od cr : Nat → Int32} {cP : Nat → Int32} {mP : Nat → Int64} {es : Int32} {N n k : Nat} (hN : N < 2 ^ 31) (hn : n < 2 ^ 29) (h5 : ∀ v, v < n → p5 v = fr v ∧ p6 v = bk v ∧ vp_in (fr v) N ∧ (bk v = -1 ∨ vp_in (bk v) N)) (h78 : ∀ j : Nat, j < N → p7 j = fl j ∧ p8 j = ce j)
    (hm : ∀ v, v < n → (mP v).toInt = (cP v).toInt) (hel : ∀ j, j < k → ∃ v, v < n ∧ od j = nI v ∧ pp v = cP v ∧ cr j = sw_mid (nI v) (mP v)) :
    ∀ q : Nat, q ≤ k → ((sw_gs p5 p6 p7 p8 cr es q).2 = sw_fst (fun v : Int32 => sw_stop fl ce fr bk v.toNatClampNeg (!(decide (0 ≤ pp v.toNatClampNeg)))) od q) ∧
      (sw_fst (fun v : Int32 => sw_stop fl ce fr bk v.toNatClampNeg (!(decide (0 ≤ pp v.toNatClampNeg)))) od q = -1 ∨ 0 ≤ sw_fst (fun v : Int32 => sw_stop fl ce fr bk v.toNatClampNeg (!(decide (0 ≤ pp v.toNatClampNeg)))) od q) ∧
      (sw_gs p5 p6 p7 p8 cr es q).1 = (match q with | 0 => es | j + 1 => if 0 ≤ pp (od j).toNatClampNeg then fr (od j).toNatClampNeg else bk (od j).toNatClampNeg) := by
  intro q
  induction q with
  | zero => intro _; exact ⟨rfl, Or.inl rfl, rfl⟩
  | succ q ih =>
    intro hq
    obtain ⟨i1, i2, -⟩ := ih (by omega)
    obtain ⟨v, hv, e1, e2, e3⟩ := hel q (by omega)
    obtain ⟨g5, g6, g7, g8⟩ := h5 v hv
    obtain ⟨r1, r2⟩ := sw_mid_r (show v < 2 ^ 29 by omega) (mP v)
    have ev : (od q).toNatClampNeg = v := by rw [e1]; exact nI_clamp (by omega)
    have hff : (sw_mid (nI v) (mP v) - sw_mid (nI v) (mP v) / 2 * 2 = 0) ↔ (!(decide (0 ≤ pp v))) = true := by
      rw [r2, sw_lgeI, hm v hv, e2, Bool.not_eq_true', decide_eq_false_iff_not, sw_leI, Int32.toInt_zero]
    have hst := sw_stop_m (ce := ce) (p8 := p8) hN g6 g7 g8 h78 (!(decide (0 ≤ pp v)))
    have en : (if sw_mid (nI v) (mP v) - sw_mid (nI v) (mP v) / 2 * 2 = 0 then p5 v else p6 v) = if (!(decide (0 ≤ pp v))) = true then fr v else bk v := by
      simp only [hff, g5, g6]
    have ef : (if sw_mid (nI v) (mP v) - sw_mid (nI v) (mP v) / 2 * 2 = 0 then p6 v else p5 v) = if (!(decide (0 ≤ pp v))) = true then bk v else fr v := by
      simp only [hff, g5, g6]
    have G : sw_gs p5 p6 p7 p8 cr es (q + 1) = (if (!(decide (0 ≤ pp v))) = true then bk v else fr v, if 0 ≤ (sw_gs p5 p6 p7 p8 cr es q).2 then (sw_gs p5 p6 p7 p8 cr es q).2 else if sw_stop fl ce fr bk v (!(decide (0 ≤ pp v))) = true then nI v else (sw_gs p5 p6 p7 p8 cr es q).2) := by
      show (_, _) = _
      simp only [e3, r1, show (nI v).toNatClampNeg = v from nI_clamp (by omega)]
      rw [← r1] at en ef
      simp only [r1, show (nI v).toNatClampNeg = v from nI_clamp (by omega)] at en ef
      rw [en, ef, hst]
    have S : sw_fst (fun v : Int32 => sw_stop fl ce fr bk v.toNatClampNeg (!(decide (0 ≤ pp v.toNatClampNeg)))) od (q + 1) = if sw_fst (fun v : Int32 => sw_stop fl ce fr bk v.toNatClampNeg (!(decide (0 ≤ pp v.toNatClampNeg)))) od q = -1 then (if sw_stop fl ce fr bk v (!(decide (0 ≤ pp v))) = true then nI v else -1) else sw_fst (fun v : Int32 => sw_stop fl ce fr bk v.toNatClampNeg (!(decide (0 ≤ pp v.toNatClampNeg)))) od q := by
      show (if _ = -1 then (if sw_stop fl ce fr bk (od q).toNatClampNeg (!(decide (0 ≤ pp (od q).toNatClampNeg))) = true then od q else -1) else _) = _
      rw [ev, e1]
    have hv0 : (0 : Int32) ≤ nI v := nI_pos' (by omega)
    refine ⟨?_, ?_, ?_⟩
    · rw [G, S, i1]
      dsimp only
      rcases i2 with i2 | i2
      · rw [i2, if_pos rfl]; simp only [show ¬ (0 : Int32) ≤ -1 by decide, if_false]
      · rw [if_pos i2, if_neg (fun e => by rw [e] at i2; exact absurd i2 (by decide))]
    · rw [S]
      rcases i2 with i2 | i2
      · rw [i2, if_pos rfl]
        by_cases z : sw_stop fl ce fr bk v (!(decide (0 ≤ pp v))) = true
        · rw [if_pos z]; exact Or.inr hv0
        · rw [if_neg z]; exact Or.inl rfl
      · rw [if_neg (fun e => by rw [e] at i2; exact absurd i2 (by decide))]; exact Or.inr i2
    · rw [G]
      show (if (!(decide (0 ≤ pp v))) = true then bk v else fr v) = if 0 ≤ pp (od q).toNatClampNeg then fr (od q).toNatClampNeg else bk (od q).toNatClampNeg
      rw [ev]
      by_cases z : 0 ≤ pp v
      · rw [if_pos z, if_neg (by simp [z])]
      · rw [if_neg z, if_pos (by simp [z])]
