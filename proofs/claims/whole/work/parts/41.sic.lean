/-! build: who clashes with whom, in both texts -/
theorem sw_n_side {vx vy : Nat → Int32} {a b c : Nat} (ha : sw_rg 2000 (vx a) ∧ sw_rg 2000 (vy a)) (hb : sw_rg 2000 (vx b) ∧ sw_rg 2000 (vy b)) (hc : sw_rg 2000 (vx c) ∧ sw_rg 2000 (vy c)) :
    (sw_side vx vy a b c).toInt = sw_zgS (vx a).toInt (vy a).toInt (vx b).toInt (vy b).toInt (vx c).toInt (vy c).toInt ∧ (sw_sdl vx vy a b c).toInt = sw_zgS (vx a).toInt (vy a).toInt (vx b).toInt (vy b).toInt (vx c).toInt (vy c).toInt := by
  obtain ⟨e1, r1⟩ := sw_ri hb.1 ha.1 (by decide)
  obtain ⟨e2, r2⟩ := sw_ri hc.2 ha.2 (by decide)
  obtain ⟨e3, r3⟩ := sw_ri hb.2 ha.2 (by decide)
  obtain ⟨e4, r4⟩ := sw_ri hc.1 ha.1 (by decide)
  obtain ⟨e5, r5⟩ := sw_cr32 r1 r2 r3 r4 (by decide) (by decide) (by decide)
  have e6 := sw_cr64 r1 r2 r3 r4 (by decide) (by decide) (by decide)
  unfold sw_side sw_sdl sw_zgS
  rw [e5, e6, e1, e2, e3, e4]
  exact ⟨rfl, rfl⟩
theorem sw_n_dot {vx vy : Nat → Int32} {a b c : Nat} (ha : sw_rg 2000 (vx a) ∧ sw_rg 2000 (vy a)) (hb : sw_rg 2000 (vx b) ∧ sw_rg 2000 (vy b)) (hc : sw_rg 2000 (vx c) ∧ sw_rg 2000 (vy c)) :
    ((vx b - vx a) * (vx c - vx a) + (vy b - vy a) * (vy c - vy a)).toInt = ((vx b).toInt - (vx a).toInt) * ((vx c).toInt - (vx a).toInt) + ((vy b).toInt - (vy a).toInt) * ((vy c).toInt - (vy a).toInt) := by
  obtain ⟨e1, r1⟩ := sw_ri hb.1 ha.1 (by decide)
  obtain ⟨e2, r2⟩ := sw_ri hc.2 ha.2 (by decide)
  obtain ⟨e3, r3⟩ := sw_ri hb.2 ha.2 (by decide)
  obtain ⟨e4, r4⟩ := sw_ri hc.1 ha.1 (by decide)
  obtain ⟨e5, r5⟩ := sw_rm r1 r4 (by decide)
  obtain ⟨e6, r6⟩ := sw_rm r3 r2 (by decide)
  unfold sw_rg at r5 r6
  rw [sw_iadd (by omega) (by omega), e5, e6, e1, e2, e3, e4]
theorem sw_sg_c (v : Int64) : (v.toInt < 0 ∧ sw_sg v = -1) ∨ (v.toInt = 0 ∧ sw_sg v = 0) ∨ (0 < v.toInt ∧ sw_sg v = 1) := by
  have h1 := sw_lgeI v
  have h2 := lg_cmp_le v 0
  rw [Int64.le_iff_toInt_le, Int64.toInt_zero] at h2
  unfold sw_sg
  by_cases a : 0 ≤ lg_cmp v 0
  · rw [if_pos a]
    by_cases b : lg_cmp v 0 ≤ 0
    · rw [if_pos b]
      exact Or.inr (Or.inl ⟨by have := h1.mp a; have := h2.mp b; omega, rfl⟩)
    · rw [if_neg b]
      refine Or.inr (Or.inr ⟨?_, rfl⟩)
      have : ¬ v.toInt ≤ 0 := fun q => b (h2.mpr q)
      omega
  · rw [if_neg a]
    refine Or.inl ⟨?_, rfl⟩
    have : ¬ 0 ≤ v.toInt := fun q => a (h1.mpr q)
    omega
theorem sw_sg_0 (v : Int64) : sw_sg v = 0 ↔ v.toInt = 0 := by
  rcases sw_sg_c v with ⟨a, b⟩ | ⟨a, b⟩ | ⟨a, b⟩ <;> rw [b]
  · exact ⟨fun q => absurd q (by decide), fun q => by omega⟩
  · exact ⟨fun _ => a, fun _ => rfl⟩
  · exact ⟨fun q => absurd q (by decide), fun q => by omega⟩
theorem sw_sg_o (v w : Int64) : ¬ 0 ≤ sw_sg v * sw_sg w ↔ sw_gO v.toInt w.toInt := by
  unfold sw_gO
  rcases sw_sg_c v with ⟨a, b⟩ | ⟨a, b⟩ | ⟨a, b⟩ <;> rcases sw_sg_c w with ⟨c, d⟩ | ⟨c, d⟩ | ⟨c, d⟩ <;> rw [b, d]
  all_goals first
    | exact ⟨fun q => absurd (by decide) q, fun q => by omega⟩
    | exact ⟨fun _ => by omega, fun _ => by decide⟩
theorem sw_btw_i (v a b : Int32) : sw_btw v a b = true ↔ sw_gB v.toInt a.toInt b.toInt := by
  unfold sw_btw sw_gB
  by_cases c : b ≤ a
  · rw [if_pos c]
    simp only [Bool.and_eq_true, Bool.not_eq_true', decide_eq_false_iff_not, sw_ltI]
    rw [sw_leI] at c
    omega
  · rw [if_neg c]
    simp only [Bool.and_eq_true, Bool.not_eq_true', decide_eq_false_iff_not, sw_ltI]
    rw [sw_leI] at c
    omega
theorem sw_mx_i (a b : Int32) : (sw_mx a b).toInt = if a.toInt < b.toInt then b.toInt else a.toInt := by
  unfold sw_mx
  by_cases c : a < b
  · rw [if_pos c, if_pos (sw_ltI.mp c)]
  · rw [if_neg c, if_neg (fun q => c (sw_ltI.mpr q))]
theorem sw_mn_i (a b : Int32) : (sw_mn a b).toInt = if b.toInt < a.toInt then b.toInt else a.toInt := by
  unfold sw_mn
  by_cases c : b < a
  · rw [if_pos c, if_pos (sw_ltI.mp c)]
  · rw [if_neg c, if_neg (fun q => c (sw_ltI.mpr q))]
theorem sw_bm_i (f : Nat → Int32) (a b c d : Nat) : sw_bm f a b c d = true ↔ sw_gM (f a).toInt (f b).toInt (f c).toInt (f d).toInt := by
  unfold sw_bm sw_gM
  simp only [Bool.and_eq_true, Bool.not_eq_true', decide_eq_false_iff_not, sw_ltI, sw_mx_i, sw_mn_i]
  omega
theorem sw_str_i (a b : Int32) : sw_str a b = true ↔ sw_gX a.toInt b.toInt := by
  unfold sw_str sw_gX
  simp only [Bool.and_eq_true, Bool.not_eq_true', Bool.and_eq_false_iff, Bool.not_eq_false', decide_eq_true_eq, decide_eq_false_iff_not, sw_ltI, sw_leI, Int32.toInt_zero]
  omega
theorem sw_la_i {vx vy : Nat → Int32} {a p q : Nat} (ha : sw_rg 2000 (vx a) ∧ sw_rg 2000 (vy a)) (hp : sw_rg 2000 (vx p) ∧ sw_rg 2000 (vy p)) (hq : sw_rg 2000 (vx q) ∧ sw_rg 2000 (vy q)) :
    sw_la vx vy a p q = true ↔ (sw_zgS (vx a).toInt (vy a).toInt (vx p).toInt (vy p).toInt (vx q).toInt (vy q).toInt = 0 ∧ 0 < ((vx p).toInt - (vx a).toInt) * ((vx q).toInt - (vx a).toInt) + ((vy p).toInt - (vy a).toInt) * ((vy q).toInt - (vy a).toInt)) := by
  have h1 := (sw_n_side ha hp hq).1
  have h2 := sw_n_dot ha hp hq
  unfold sw_side at h1
  unfold sw_la
  simp only [Bool.and_eq_true, Bool.not_eq_true', decide_eq_true_eq, decide_eq_false_iff_not, sw_leI, ← Int32.toInt_inj, Int32.toInt_zero]
  rw [h1, h2]
  omega
theorem sw_isin_i {vx vy : Nat → Int32} {v a b : Int32} (hv : sw_rg 2000 (vx v.toNatClampNeg) ∧ sw_rg 2000 (vy v.toNatClampNeg)) (ha : sw_rg 2000 (vx a.toNatClampNeg) ∧ sw_rg 2000 (vy a.toNatClampNeg)) (hb : sw_rg 2000 (vx b.toNatClampNeg) ∧ sw_rg 2000 (vy b.toNatClampNeg)) :
    sw_isin vx vy v a b = true ↔ (¬ v = a ∧ ¬ v = b ∧ sw_gI (vx a.toNatClampNeg).toInt (vy a.toNatClampNeg).toInt (vx b.toNatClampNeg).toInt (vy b.toNatClampNeg).toInt (vx v.toNatClampNeg).toInt (vy v.toNatClampNeg).toInt) := by
  have h1 := (sw_n_side ha hb hv).2
  unfold sw_isin sw_gI
  simp only [Bool.and_eq_true, Bool.not_eq_true', decide_eq_true_eq, decide_eq_false_iff_not, sw_btw_i, sw_sg_0, h1, and_assoc]
theorem sw_crx_i {vx vy : Nat → Int32} {a b c d : Int32} (ha : sw_rg 2000 (vx a.toNatClampNeg) ∧ sw_rg 2000 (vy a.toNatClampNeg)) (hb : sw_rg 2000 (vx b.toNatClampNeg) ∧ sw_rg 2000 (vy b.toNatClampNeg)) (hc : sw_rg 2000 (vx c.toNatClampNeg) ∧ sw_rg 2000 (vy c.toNatClampNeg)) (hd : sw_rg 2000 (vx d.toNatClampNeg) ∧ sw_rg 2000 (vy d.toNatClampNeg)) :
    sw_crx vx vy a b c d = true ↔ (sw_gO (sw_zgS (vx a.toNatClampNeg).toInt (vy a.toNatClampNeg).toInt (vx b.toNatClampNeg).toInt (vy b.toNatClampNeg).toInt (vx c.toNatClampNeg).toInt (vy c.toNatClampNeg).toInt) (sw_zgS (vx a.toNatClampNeg).toInt (vy a.toNatClampNeg).toInt (vx b.toNatClampNeg).toInt (vy b.toNatClampNeg).toInt (vx d.toNatClampNeg).toInt (vy d.toNatClampNeg).toInt) ∧ sw_gO (sw_zgS (vx c.toNatClampNeg).toInt (vy c.toNatClampNeg).toInt (vx d.toNatClampNeg).toInt (vy d.toNatClampNeg).toInt (vx a.toNatClampNeg).toInt (vy a.toNatClampNeg).toInt) (sw_zgS (vx c.toNatClampNeg).toInt (vy c.toNatClampNeg).toInt (vx d.toNatClampNeg).toInt (vy d.toNatClampNeg).toInt (vx b.toNatClampNeg).toInt (vy b.toNatClampNeg).toInt)) := by
  unfold sw_crx
  simp only [Bool.and_eq_true, Bool.not_eq_true', decide_eq_false_iff_not, sw_sg_o]
  rw [(sw_n_side ha hb hc).2, (sw_n_side ha hb hd).2, (sw_n_side hc hd ha).2, (sw_n_side hc hd hb).2]
theorem sw_gS_a (ax ay bx byy : Int) : sw_zgS ax ay bx byy ax ay = 0 ∧ sw_zgS ax ay bx byy bx byy = 0 := by unfold sw_zgS; constructor <;> grind
theorem sw_gO_0 {s : Int} : ¬ sw_gO 0 s ∧ ¬ sw_gO s 0 := by unfold sw_gO; omega
theorem sw_clm_i {vx vy : Nat → Int32} {a b c d : Int32} (ha : sw_rg 2000 (vx a.toNatClampNeg) ∧ sw_rg 2000 (vy a.toNatClampNeg)) (hb : sw_rg 2000 (vx b.toNatClampNeg) ∧ sw_rg 2000 (vy b.toNatClampNeg)) (hc : sw_rg 2000 (vx c.toNatClampNeg) ∧ sw_rg 2000 (vy c.toNatClampNeg)) (hd : sw_rg 2000 (vx d.toNatClampNeg) ∧ sw_rg 2000 (vy d.toNatClampNeg))
    {ax ay bx byy cx cy dx dy : Int} (e1 : (vx a.toNatClampNeg).toInt = ax) (e2 : (vy a.toNatClampNeg).toInt = ay) (e3 : (vx b.toNatClampNeg).toInt = bx) (e4 : (vy b.toNatClampNeg).toInt = byy) (e5 : (vx c.toNatClampNeg).toInt = cx) (e6 : (vy c.toNatClampNeg).toInt = cy) (e7 : (vx d.toNatClampNeg).toInt = dx) (e8 : (vy d.toNatClampNeg).toInt = dy) :
    sw_clm vx vy c d a b = true ↔ (((c = a ∧ d = b) ∨ (c = b ∧ d = a)) ∨ ((((¬ c = a ∧ ¬ c = b ∧ sw_gI ax ay bx byy cx cy) ∨ (¬ d = a ∧ ¬ d = b ∧ sw_gI ax ay bx byy dx dy)) ∨ (¬ a = c ∧ ¬ a = d ∧ sw_gI cx cy dx dy ax ay)) ∨ (¬ b = c ∧ ¬ b = d ∧ sw_gI cx cy dx dy bx byy))) ∨ (sw_gO (sw_zgS cx cy dx dy ax ay) (sw_zgS cx cy dx dy bx byy) ∧ sw_gO (sw_zgS ax ay bx byy cx cy) (sw_zgS ax ay bx byy dx dy)) := by
  unfold sw_clm
  simp only [Bool.or_eq_true, Bool.and_eq_true, decide_eq_true_eq]
  rw [sw_isin_i hc ha hb, sw_isin_i hd ha hb, sw_isin_i ha hc hd, sw_isin_i hb hc hd, sw_crx_i hc hd ha hb, e1, e2, e3, e4, e5, e6, e7, e8]
theorem sw_cl_eq {n : Nat} {vx vy : Nat → Int32} {a b c d : Int32} (hr : ∀ j : Nat, j < n → (-2000 ≤ (vx j).toInt ∧ (vx j).toInt ≤ 2000) ∧ -2000 ≤ (vy j).toInt ∧ (vy j).toInt ≤ 2000) (hv : ∀ i j : Nat, i < j → j < n → ¬ (vx i = vx j ∧ vy i = vy j))
    (ha : vp_in a n) (hb : vp_in b n) (hc : vp_in c n) (hd : vp_in d n) (hab : ¬ a = b) (hcd : ¬ c = d) : sw_cl4 vx vy a b c d = sw_clm vx vy c d a b := by
  have hg : ∀ x : Int32, vp_in x n → sw_rg 2000 (vx x.toNatClampNeg) ∧ sw_rg 2000 (vy x.toNatClampNeg) := by
    intro x hx
    have h1 : x.toNatClampNeg < n := by
      rcases Nat.lt_or_ge x.toNatClampNeg n with q | q
      · exact q
      · exact absurd (Or.inr q) hx
    exact hr _ h1
  have hne : ∀ x y : Int32, vp_in x n → vp_in y n → ¬ x = y → ¬ ((vx x.toNatClampNeg).toInt = (vx y.toNatClampNeg).toInt ∧ (vy x.toNatClampNeg).toInt = (vy y.toNatClampNeg).toInt) := by
    intro x y hx hy hn ⟨q1, q2⟩
    have p1 := Int32.toInt_inj.mp q1
    have p2 := Int32.toInt_inj.mp q2
    have x1 : x.toNatClampNeg < n := by
      rcases Nat.lt_or_ge x.toNatClampNeg n with q | q
      · exact q
      · exact absurd (Or.inr q) hx
    have y1 : y.toNatClampNeg < n := by
      rcases Nat.lt_or_ge y.toNatClampNeg n with q | q
      · exact q
      · exact absurd (Or.inr q) hy
    have x2 : ¬ x < 0 := fun q => hx (Or.inl q)
    have y2 : ¬ y < 0 := fun q => hy (Or.inl q)
    rw [sw_ltI, Int32.toInt_zero] at x2 y2
    rcases Nat.lt_trichotomy x.toNatClampNeg y.toNatClampNeg with g | g | g
    · exact hv _ _ g y1 ⟨p1, p2⟩
    · refine hn (Int32.toInt_inj.mp ?_)
      have : x.toInt.toNat = y.toInt.toNat := g
      omega
    · exact hv _ _ g x1 ⟨p1.symm, p2.symm⟩
  have nab := hne a b ha hb hab
  have ncd := hne c d hc hd hcd
  have nac := hne a c ha hc
  have nad := hne a d ha hd
  have nbc := hne b c hb hc
  have nbd := hne b d hb hd
  have ga := hg a ha
  have gb := hg b hb
  have gc := hg c hc
  have gd := hg d hd
  have hm := sw_clm_i ga gb gc gd rfl rfl rfl rfl rfl rfl rfl rfl
  rw [Bool.eq_iff_iff, hm]
  unfold sw_cl4
  have z1 := @sw_gO_0
  by_cases c1 : a = c
  · subst c1
    rw [if_pos rfl, sw_la_i ga gb gd, sw_gL2 nab ncd, (sw_gS_a _ _ _ _).1, (sw_gS_a _ _ _ _).1]
    by_cases q : b = d
    · subst q; simp
    · have := nbd q
      simp [hab, hcd, z1, this, q, Ne.symm hcd, Ne.symm hab, Ne.symm q]
  · rw [if_neg c1]
    have n1 := nac c1
    by_cases c2 : a = d
    · subst c2
      rw [if_pos rfl, sw_la_i ga gb gc, sw_gL2 nab (fun h => n1 h), (sw_gS_a _ _ _ _).1, (sw_gS_a _ _ _ _).2]
      by_cases q : b = c
      · subst q; simp
      · have := nbc q
        have w1 : sw_gI (vx a.toNatClampNeg).toInt (vy a.toNatClampNeg).toInt (vx c.toNatClampNeg).toInt (vy c.toNatClampNeg).toInt (vx b.toNatClampNeg).toInt (vy b.toNatClampNeg).toInt ↔ sw_gI (vx c.toNatClampNeg).toInt (vy c.toNatClampNeg).toInt (vx a.toNatClampNeg).toInt (vy a.toNatClampNeg).toInt (vx b.toNatClampNeg).toInt (vy b.toNatClampNeg).toInt := sw_gI_swap
        simp [hab, hcd, z1, this, q, c1, Ne.symm c1, Ne.symm hab, Ne.symm q]
        rw [w1]
    · rw [if_neg c2]
      have n2 := nad c2
      by_cases c3 : b = c
      · subst c3
        rw [if_pos rfl, sw_la_i gb ga gd, sw_gL2 (fun h => nab ⟨h.1.symm, h.2.symm⟩) ncd, (sw_gS_a _ _ _ _).1, (sw_gS_a _ _ _ _).2]
        have w1 : sw_gI (vx b.toNatClampNeg).toInt (vy b.toNatClampNeg).toInt (vx a.toNatClampNeg).toInt (vy a.toNatClampNeg).toInt (vx d.toNatClampNeg).toInt (vy d.toNatClampNeg).toInt ↔ sw_gI (vx a.toNatClampNeg).toInt (vy a.toNatClampNeg).toInt (vx b.toNatClampNeg).toInt (vy b.toNatClampNeg).toInt (vx d.toNatClampNeg).toInt (vy d.toNatClampNeg).toInt := sw_gI_swap
        simp [hab, hcd, z1, n2, c2, Ne.symm hab, Ne.symm hcd, Ne.symm c2]
        rw [w1]
      · rw [if_neg c3]
        have n3 := nbc c3
        by_cases c4 : b = d
        · subst c4
          rw [if_pos rfl, sw_la_i gb ga gc, sw_gL2 (fun h => nab ⟨h.1.symm, h.2.symm⟩) (fun h => n3 h), (sw_gS_a _ _ _ _).2, (sw_gS_a _ _ _ _).2]
          have w1 : sw_gI (vx b.toNatClampNeg).toInt (vy b.toNatClampNeg).toInt (vx a.toNatClampNeg).toInt (vy a.toNatClampNeg).toInt (vx c.toNatClampNeg).toInt (vy c.toNatClampNeg).toInt ↔ sw_gI (vx a.toNatClampNeg).toInt (vy a.toNatClampNeg).toInt (vx b.toNatClampNeg).toInt (vy b.toNatClampNeg).toInt (vx c.toNatClampNeg).toInt (vy c.toNatClampNeg).toInt := sw_gI_swap
          have w2 : sw_gI (vx b.toNatClampNeg).toInt (vy b.toNatClampNeg).toInt (vx c.toNatClampNeg).toInt (vy c.toNatClampNeg).toInt (vx a.toNatClampNeg).toInt (vy a.toNatClampNeg).toInt ↔ sw_gI (vx c.toNatClampNeg).toInt (vy c.toNatClampNeg).toInt (vx b.toNatClampNeg).toInt (vy b.toNatClampNeg).toInt (vx a.toNatClampNeg).toInt (vy a.toNatClampNeg).toInt := sw_gI_swap
          simp [hab, hcd, z1, n1, c1, Ne.symm hab, Ne.symm c1]
          rw [w1, w2]
        · rw [if_neg c4]
          simp only [Bool.and_eq_true]
          rw [sw_bm_i, sw_bm_i, sw_str_i, sw_str_i, (sw_n_side ga gb gc).1, (sw_n_side ga gb gd).1, (sw_n_side gc gd ga).1, (sw_n_side gc gd gb).1, and_assoc, and_assoc, sw_gL1 nab ncd]
          simp [c1, c2, c3, c4, Ne.symm c1, Ne.symm c2, Ne.symm c3, Ne.symm c4, or_assoc]
          rw [and_comm]
theorem sw_clash_eq {nv ns nw : Int32} {vx vy fl ce fa tb fr bk : Nat → Int32} (h : lw_D nv ns nw vx vy fl ce fa tb fr bk) {e l : Nat} (h1 : e < l) (h2 : l < nw.toNatClampNeg) : sw_clash vx vy fa tb e l = sw_clm vx vy (fa l) (tb l) (fa e) (tb e) := by
  obtain ⟨k1, k2, k3, k4, k5, k6⟩ := h
  obtain ⟨a1, a2, a3, -⟩ := k6 e (by omega)
  obtain ⟨b1, b2, b3, -⟩ := k6 l h2
  exact sw_cl_eq k4 k5 a1 a2 b1 b2 a3 b3
theorem sw_vin {x : Int32} {n : Nat} (h : vp_in x n) : x.toNatClampNeg < n := by
  rcases Nat.lt_or_ge x.toNatClampNeg n with q | q
  · exact q
  · exact absurd (Or.inr q) h
theorem lw_build2 {c : Nat} {nv ns nw gnv gns gnw nb sd nk fs r gnv2 gns2 gnw2 nb2 sd2 nk2 fs2 r1 gv21 gs21 gw21 nb21 sd21 nk21 fs21 : Int32} {vx vy fl ce fa tb fr bk gvx gvy gfl gce gfa gtb gfr gbk od cr p1 p2 p3 p4 p5 p6 p7 p8 gvx2 gvy2 gfl2 gce2 gfa2 gtb2 gfr2 gbk2 p121 p221 p321 p421 p521 p621 p721 p821 : Nat → Int32} (hD : lw_D nv ns nw vx vy fl ce fa tb fr bk) (hE : lw_D gnv gns gnw gvx gvy gfl gce gfa gtb gfr gbk) (hM : lw_M gns gnw gvx gvy gfl gce gfa gtb gfr gbk p1 p2 p3 p4 p5 p6 p7 p8) (hC : lw_C nk od cr) (hN : lw_N c nb gns)
    (hp : sw_fw (sw_clash vx vy fa tb) nw.toNatClampNeg r ∧ gnv2 = (if r = -1 then nv else gnv) ∧ gns2 = (if r = -1 then ns else gns) ∧ gnw2 = (if r = -1 then nw else gnw) ∧ nb2 = (if r = -1 then nb + 1 else nb) ∧ sd2 = (if r = -1 then 0 else sd) ∧ nk2 = (if r = -1 then 0 else nk) ∧ fs2 = (if r = -1 then -1 else fs) ∧ gvx2 = (if r = -1 then va_cpy vx gvx (0 : Int32).toNatClampNeg (0 : Int32).toNatClampNeg (64 : Int32).toNatClampNeg else gvx) ∧ gvy2 = (if r = -1 then va_cpy vy gvy (0 : Int32).toNatClampNeg (0 : Int32).toNatClampNeg (64 : Int32).toNatClampNeg else gvy) ∧ gfl2 = (if r = -1 then va_cpy fl gfl (0 : Int32).toNatClampNeg (0 : Int32).toNatClampNeg (16 : Int32).toNatClampNeg else gfl) ∧ gce2 = (if r = -1 then va_cpy ce gce (0 : Int32).toNatClampNeg (0 : Int32).toNatClampNeg (16 : Int32).toNatClampNeg else gce) ∧ gfa2 = (if r = -1 then va_cpy fa gfa (0 : Int32).toNatClampNeg (0 : Int32).toNatClampNeg (64 : Int32).toNatClampNeg else gfa) ∧ gtb2 = (if r = -1 then va_cpy tb gtb (0 : Int32).toNatClampNeg (0 : Int32).toNatClampNeg (64 : Int32).toNatClampNeg else gtb) ∧ gfr2 = (if r = -1 then va_cpy fr gfr (0 : Int32).toNatClampNeg (0 : Int32).toNatClampNeg (64 : Int32).toNatClampNeg else gfr) ∧ gbk2 = (if r = -1 then va_cpy bk gbk (0 : Int32).toNatClampNeg (0 : Int32).toNatClampNeg (64 : Int32).toNatClampNeg else gbk))
    (hq : sw_fw (fun k j => sw_clm vx vy (fa j) (tb j) (fa k) (tb k)) nw.toNatClampNeg r1 ∧ (r1 = -1 → gv21 = nv ∧ gs21 = ns ∧ gw21 = nw ∧ nb21 = nb + 1 ∧ sd21 = 0 ∧ nk21 = 0 ∧ fs21 = -1 ∧ (∀ j : Nat, j < nw.toNatClampNeg → p121 j = vx (fa j).toNatClampNeg ∧ p221 j = vy (fa j).toNatClampNeg ∧ p321 j = vx (tb j).toNatClampNeg ∧ p421 j = vy (tb j).toNatClampNeg ∧ p521 j = fr j ∧ p621 j = bk j) ∧ (∀ j : Nat, j < ns.toNatClampNeg → p721 j = fl j ∧ p821 j = ce j)) ∧ (¬ r1 = -1 → gv21 = gnv ∧ gs21 = gns ∧ gw21 = gnw ∧ nb21 = nb ∧ sd21 = sd ∧ nk21 = nk ∧ fs21 = fs ∧ p121 = p1 ∧ p221 = p2 ∧ p321 = p3 ∧ p421 = p4 ∧ p521 = p5 ∧ p621 = p6 ∧ p721 = p7 ∧ p821 = p8)) :
    r = r1 ∧ gv21 = gnv2 ∧ gs21 = gns2 ∧ gw21 = gnw2 ∧ nb21 = nb2 ∧ sd21 = sd2 ∧ nk21 = nk2 ∧ fs21 = fs2 ∧ lw_D gnv2 gns2 gnw2 gvx2 gvy2 gfl2 gce2 gfa2 gtb2 gfr2 gbk2 ∧ lw_M gns2 gnw2 gvx2 gvy2 gfl2 gce2 gfa2 gtb2 gfr2 gbk2 p121 p221 p321 p421 p521 p621 p721 p821 ∧ lw_C nk2 od cr ∧ lw_N (c + 1) nb2 gns2 := by
  obtain ⟨f1, x1, x2, x3, x4, x5, x6, x7, x8, x9, x10, x11, x12, x13, x14, x15⟩ := hp
  obtain ⟨f2, y, z⟩ := hq
  have hnv := hD.1.2
  have hns := hD.2.1.2
  have hnw := hD.2.2.1.2
  have hr : r = r1 := sw_fw_det (by omega) (fun e j h1 h2 => sw_clash_eq hD h1 h2) f1 f2
  refine ⟨hr, ?_⟩
  by_cases q : r = -1
  · obtain ⟨y1, y2, y3, y4, y5, y6, y7, y8, y9⟩ := y (hr.symm.trans q)
    rw [if_pos q] at x1 x2 x3 x4 x5 x6 x7 x8 x9 x10 x11 x12 x13 x14 x15
    have g8 : ∀ j : Nat, j < 64 → gvx2 j = vx j := fun j hj => by rw [x8]; exact sw_cpy64 hj
    have g9 : ∀ j : Nat, j < 64 → gvy2 j = vy j := fun j hj => by rw [x9]; exact sw_cpy64 hj
    have g10 : ∀ j : Nat, j < 16 → gfl2 j = fl j := fun j hj => by rw [x10]; exact sw_cpy16 hj
    have g11 : ∀ j : Nat, j < 16 → gce2 j = ce j := fun j hj => by rw [x11]; exact sw_cpy16 hj
    have g12 : ∀ j : Nat, j < 64 → gfa2 j = fa j := fun j hj => by rw [x12]; exact sw_cpy64 hj
    have g13 : ∀ j : Nat, j < 64 → gtb2 j = tb j := fun j hj => by rw [x13]; exact sw_cpy64 hj
    have g14 : ∀ j : Nat, j < 64 → gfr2 j = fr j := fun j hj => by rw [x14]; exact sw_cpy64 hj
    have g15 : ∀ j : Nat, j < 64 → gbk2 j = bk j := fun j hj => by rw [x15]; exact sw_cpy64 hj
    refine ⟨y1.trans x1.symm, y2.trans x2.symm, y3.trans x3.symm, y4.trans x4.symm, y5.trans x5.symm, y6.trans x6.symm, y7.trans x7.symm, ?_, ⟨?_, ?_⟩, ?_, ?_⟩
    · rw [x1, x2, x3]
      exact lw_D_copy hD (fun j hj => ⟨g8 j hj, g9 j hj, g12 j hj, g13 j hj, g14 j hj, g15 j hj⟩)
    · intro j hj
      rw [x3] at hj
      have hj' : j < 64 := by omega
      obtain ⟨a1, a2, a3, -⟩ := hD.2.2.2.2.2 j hj
      have b1 := sw_vin a1
      have b2 := sw_vin a2
      rw [g12 j hj', g13 j hj', g14 j hj', g15 j hj', g8 _ (by omega), g9 _ (by omega), g8 _ (by omega), g9 _ (by omega)]
      exact y8 j hj
    · intro j hj
      rw [x2] at hj
      rw [g10 j (by omega), g11 j (by omega)]
      exact y9 j hj
    · rw [x6]
      refine ⟨⟨by decide, by decide⟩, fun j hj => ?_⟩
      exact absurd hj (by rw [show (0 : Int32).toNatClampNeg = 0 by decide]; omega)
    · obtain ⟨k, h1, h2, h3⟩ := hN
      exact ⟨k + 1, by rw [x4, h1]; exact (Int32.ofNat_add k 1).symm, by omega, fun h => absurd h (by omega)⟩
  · obtain ⟨y1, y2, y3, y4, y5, y6, y7, y8, y9, y10, y11, y12, y13, y14, y15⟩ := z (fun h => q (hr.trans h))
    rw [if_neg q] at x1 x2 x3 x4 x5 x6 x7 x8 x9 x10 x11 x12 x13 x14 x15
    refine ⟨y1.trans x1.symm, y2.trans x2.symm, y3.trans x3.symm, y4.trans x4.symm, y5.trans x5.symm, y6.trans x6.symm, y7.trans x7.symm, ?_, ?_, ?_, ?_⟩
    · rw [x1, x2, x3, x8, x9, x10, x11, x12, x13, x14, x15]; exact hE
    · rw [x2, x3, x8, x9, x10, x11, x12, x13, x14, x15, y8, y9, y10, y11, y12, y13, y14, y15]; exact hM
    · rw [x6]; exact hC
    · rw [x4, x2]
      obtain ⟨k, h1, h2, h3⟩ := hN
      exact ⟨k, h1, by omega, h3⟩
