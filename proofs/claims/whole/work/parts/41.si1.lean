/-! the draft, the inputs and what is read: both sides alike -/
theorem lw_N_up {c : Nat} {nb gns : Int32} (h : lw_N c nb gns) : lw_N (c + 1) nb gns := by
  obtain ⟨k, h9, h10, h11⟩ := h
  exact ⟨k, h9, Nat.le_succ_of_le h10, h11⟩
theorem sw_wi_r {x k : Int32} {K : Int} (h : sw_wi x k = true) (h1 : (-k).toInt = -K) (h2 : k.toInt = K) : -K ≤ x.toInt ∧ x.toInt ≤ K := by
  unfold sw_wi at h
  simp only [Bool.and_eq_true, decide_eq_true_eq, sw_ltI, h1, h2] at h
  omega
theorem sw_tk_none {vx vy : Nat → Int32} {x y : Int32} {n : Nat} (h : sw_tk vx vy x y n = false) {j : Nat} (hj : j < n) : ¬ (vx j = x ∧ vy j = y) := fun e => by
  rw [sw_tk_hit hj e.1 e.2] at h
  cases h
theorem sw_hv_in {x n : Int32} {N : Nat} (hn : sw_ok n N) (hN : N < 2 ^ 31) (h : sw_hv x n = true) : vp_in x n.toNatClampNeg := by
  unfold sw_hv at h
  simp only [Bool.and_eq_true, decide_eq_true_eq] at h
  have h2 := hn.2
  rw [vp_in_iff]
  have h3 := h.2
  have h1 := h.1
  rw [hn.1, sw_leI, nI_toInt (by omega)] at h3
  rw [sw_ltI, Int32.toInt_zero] at h1
  omega
theorem sw_ok_more {n : Int32} {N : Nat} (hn : sw_ok n (N + 1)) (hN : N + 1 < 2 ^ 31) (h : vp_in n (N + 1)) : sw_ok (n + 1) (N + 1) ∧ (n + 1).toNatClampNeg = n.toNatClampNeg + 1 := by
  have h1 : n.toNatClampNeg ≤ N := by
    rw [hn.1, vp_in_iff, nI_toInt (by have := hn.2; omega)] at h
    omega
  exact sw_ok_succ ⟨hn.1, h1⟩ hN
theorem vp_in_mono {x : Int32} {n m : Nat} (h : vp_in x n) (hm : n ≤ m) : vp_in x m := by
  rw [vp_in_iff] at h ⊢
  omega
section LWD
variable {nv ns nw : Int32} {vx vy fl ce fa tb fr bk : Nat → Int32}
theorem lw_D_vertex (h : lw_D nv ns nw vx vy fl ce fa tb fr bk) (x y : Int32) :
    lw_D (if sw_vb nv vx vy x y = true then nv + 1 else nv) ns nw (if sw_vb nv vx vy x y = true then upd vx nv.toNatClampNeg x else vx) (if sw_vb nv vx vy x y = true then upd vy nv.toNatClampNeg y else vy) fl ce fa tb fr bk := by
  cases hb : sw_vb nv vx vy x y
  · simp only [Bool.false_eq_true, if_false]; exact h
  · simp only [if_true]
    obtain ⟨h1, h2, h3, h4, h5, h6⟩ := h
    have hin : vp_in nv 64 := sw_okin h1 (sw_vb_64 hb)
    obtain ⟨g1, g2⟩ := sw_ok_more h1 (by decide) hin
    have hb' := hb
    rw [sw_vb_g] at hb'
    simp only [Bool.and_eq_true] at hb'
    have hx := sw_wi_r (K := 2000) hb'.1.1.1 (by decide) (by decide)
    have hy := sw_wi_r (K := 2000) hb'.1.1.2 (by decide) (by decide)
    have ht : sw_tk vx vy x y nv.toNatClampNeg = false := by simpa using hb'.2
    refine ⟨g1, h2, h3, fun j hj => ?_, fun i j hij hj => ?_, fun j hj => ?_⟩
    · rw [g2] at hj
      by_cases e : j = nv.toNatClampNeg
      · subst e; rw [pk_us, pk_us]; exact ⟨hx, hy⟩
      · rw [pk_un e, pk_un e]; exact h4 j (by omega)
    · rw [g2] at hj
      by_cases e : j = nv.toNatClampNeg
      · subst e
        rw [pk_us, pk_us, pk_un (by omega), pk_un (by omega)]
        exact sw_tk_none ht hij
      · rw [pk_un e, pk_un e, pk_un (by omega), pk_un (by omega)]
        exact h5 i j hij (by omega)
    · obtain ⟨q1, q2, q3⟩ := h6 j hj
      rw [g2]
      exact ⟨vp_in_mono q1 (by omega), vp_in_mono q2 (by omega), q3⟩
theorem lw_D_sector (h : lw_D nv ns nw vx vy fl ce fa tb fr bk) (x y : Int32) :
    lw_D nv (if sw_sb ns x y = true then ns + 1 else ns) nw vx vy (if sw_sb ns x y = true then upd fl ns.toNatClampNeg x else fl) (if sw_sb ns x y = true then upd ce ns.toNatClampNeg y else ce) fa tb fr bk := by
  cases hb : sw_sb ns x y
  · simp only [Bool.false_eq_true, if_false]; exact h
  · simp only [if_true]
    obtain ⟨h1, h2, h3, h4, h5, h6⟩ := h
    have hlt : ns < 16 := by unfold sw_sb at hb; simp only [Bool.and_eq_true, decide_eq_true_eq] at hb; exact hb.2
    obtain ⟨g1, g2⟩ := sw_ok_more h2 (by decide) (sw_okin2 h2 hlt)
    refine ⟨h1, g1, h3, h4, h5, fun j hj => ?_⟩
    obtain ⟨q1, q2, q3, q4, q5⟩ := h6 j hj
    rw [g2]
    exact ⟨q1, q2, q3, vp_in_mono q4 (by omega), q5.imp id (fun q => vp_in_mono q (by omega))⟩
theorem lw_D_wall (h : lw_D nv ns nw vx vy fl ce fa tb fr bk) (x y z v : Int32) :
    lw_D nv ns (if sw_wb nv ns nw x y z v = true then nw + 1 else nw) vx vy fl ce (if sw_wb nv ns nw x y z v = true then upd fa nw.toNatClampNeg x else fa) (if sw_wb nv ns nw x y z v = true then upd tb nw.toNatClampNeg y else tb) (if sw_wb nv ns nw x y z v = true then upd fr nw.toNatClampNeg z else fr) (if sw_wb nv ns nw x y z v = true then upd bk nw.toNatClampNeg v else bk) := by
  cases hb : sw_wb nv ns nw x y z v
  · simp only [Bool.false_eq_true, if_false]; exact h
  · simp only [if_true]
    obtain ⟨h1, h2, h3, h4, h5, h6⟩ := h
    unfold sw_wb at hb
    simp only [Bool.and_eq_true, Bool.or_eq_true, decide_eq_true_eq, Bool.not_eq_true', decide_eq_false_iff_not] at hb
    obtain ⟨⟨⟨⟨⟨b1, b2⟩, b3⟩, b4⟩, b5⟩, b6⟩ := hb
    obtain ⟨g1, g2⟩ := sw_ok_more h3 (by decide) (sw_okin2 h3 b6)
    refine ⟨h1, h2, g1, h4, h5, fun j hj => ?_⟩
    rw [g2] at hj
    by_cases e : j = nw.toNatClampNeg
    · subst e
      rw [pk_us, pk_us, pk_us, pk_us]
      exact ⟨sw_hv_in h1 (by decide) b1, sw_hv_in h1 (by decide) b2, b3, sw_hv_in h2 (by decide) b4, b5.imp id (sw_hv_in h2 (by decide))⟩
    · rw [pk_un e, pk_un e, pk_un e, pk_un e]
      exact h6 j (by omega)
theorem sw_ok_pred {n : Int32} {N : Nat} (h : sw_ok n N) (hN : N < 2 ^ 31) (h0 : ¬ n = 0) : sw_ok (n - 1) N ∧ (n - 1).toNatClampNeg + 1 = n.toNatClampNeg := by
  have h2 := h.2
  obtain ⟨k, hk⟩ : ∃ k, n.toNatClampNeg = k := ⟨_, rfl⟩
  cases k with
  | zero => exact absurd (by rw [h.1, hk]; exact nI_0) h0
  | succ k =>
    have e : n - 1 = nI k := by rw [h.1, hk, nI_pred]
    have e2 : (n - 1).toNatClampNeg = k := by rw [e]; exact nI_clamp (by omega)
    exact ⟨⟨by rw [e2]; exact e, by omega⟩, by omega⟩
theorem lw_D_drop (h : lw_D nv ns nw vx vy fl ce fa tb fr bk) : lw_D nv ns (if nw = 0 then nw else nw - 1) vx vy fl ce fa tb fr bk := by
  by_cases h0 : nw = 0
  · rw [if_pos h0]; exact h
  · rw [if_neg h0]
    obtain ⟨h1, h2, h3, h4, h5, h6⟩ := h
    obtain ⟨g1, g2⟩ := sw_ok_pred h3 (by decide) h0
    exact ⟨h1, h2, g1, h4, h5, fun j hj => h6 j (by omega)⟩
theorem lw_D_clear : lw_D 0 0 0 vx vy fl ce fa tb fr bk :=
  have e : (0 : Int32).toNatClampNeg = 0 := by decide
  have z : ∀ N : Nat, sw_ok 0 N := fun N => ⟨by decide, by rw [e]; exact Nat.zero_le N⟩
  ⟨z _, z _, z _, fun j hj => absurd hj (by rw [e]; exact Nat.not_lt_zero j), fun i j _ hj => absurd hj (by rw [e]; exact Nat.not_lt_zero j), fun j hj => absurd hj (by rw [e]; exact Nat.not_lt_zero j)⟩
end LWD
theorem sw_ok_i {n : Int32} {N : Nat} (h : sw_ok n N) (hN : N < 2 ^ 31) : n.toInt = n.toNatClampNeg ∧ 0 ≤ n.toInt ∧ n.toInt ≤ N := by
  have h2 := h.2
  have e : n.toInt = n.toNatClampNeg := by
    have := nI_toInt (n := n.toNatClampNeg) (by omega)
    rw [← h.1] at this
    exact this
  omega
theorem sw_nle_lt {x y : Int32} : ¬ y ≤ x ↔ x < y := by rw [sw_leI, sw_ltI]; omega
theorem sw_ne_lt {n : Int32} {N : Nat} (h : sw_ok n N) (hN : N < 2 ^ 31) : ¬ n = nI N ↔ n < nI N := by
  have := sw_ok_i h hN
  rw [← Int32.toInt_inj, sw_ltI, nI_toInt hN]
  omega
theorem sw_sb_m {ns : Int32} (h : sw_ok ns 16) (x y : Int32) : (sw_wi x 256 && sw_wi y 256 && !(decide (y ≤ x)) && !(decide (ns = 16))) = sw_sb ns x y := by
  rw [Bool.eq_iff_iff]
  unfold sw_sb
  simp only [Bool.and_eq_true, decide_eq_true_eq, Bool.not_eq_true', decide_eq_false_iff_not]
  rw [sw_nle_lt, show (¬ ns = 16) ↔ ns < 16 from sw_ne_lt h (by decide)]
theorem sw_ib_m {nt : Int32} (h : sw_ok nt 256) (x y z : Int32) : (sw_wi x 64 && sw_wi y 64 && sw_wi z 16 && !(decide (nt = 256))) = (sw_wi x 64 && sw_wi y 64 && sw_wi z 16 && decide (nt < 256)) := by
  rw [Bool.eq_iff_iff]
  simp only [Bool.and_eq_true, decide_eq_true_eq, Bool.not_eq_true', decide_eq_false_iff_not]
  rw [show (¬ nt = 256) ↔ nt < 256 from sw_ne_lt h (by decide)]
theorem sw_wb_m {nv ns nw : Int32} (h1 : sw_ok nv 64) (h2 : sw_ok ns 16) (h3 : sw_ok nw 64) (x y z v : Int32) :
    (!(decide (x < 0)) && !(decide (nv ≤ x)) && !(decide (y < 0)) && !(decide (nv ≤ y)) && !(decide (x = y)) && !(decide (z < 0)) && !(decide (ns ≤ z)) && !(decide (v < -1)) && !(decide (ns ≤ v)) && !(decide (64 ≤ nw))) = sw_wb nv ns nw x y z v := by
  have k2 := sw_ok_i h2 (by decide)
  rw [Bool.eq_iff_iff]
  unfold sw_wb sw_hv
  simp only [Bool.and_eq_true, Bool.or_eq_true, decide_eq_true_eq, Bool.not_eq_true', decide_eq_false_iff_not, sw_ltI, sw_leI, ← Int32.toInt_inj, Int32.toInt_zero, show (-1 : Int32).toInt = -1 by decide, show (64 : Int32).toInt = 64 by decide]
  omega
theorem lw_T_input {nt : Int32} {ia ib ic : Nat → Int32} (h : lw_T nt ia ib ic) (x y z : Int32) :
    lw_T (if (sw_wi x 64 && sw_wi y 64 && sw_wi z 16 && decide (nt < 256)) = true then nt + 1 else nt) (if (sw_wi x 64 && sw_wi y 64 && sw_wi z 16 && decide (nt < 256)) = true then upd ia nt.toNatClampNeg x else ia) (if (sw_wi x 64 && sw_wi y 64 && sw_wi z 16 && decide (nt < 256)) = true then upd ib nt.toNatClampNeg y else ib) (if (sw_wi x 64 && sw_wi y 64 && sw_wi z 16 && decide (nt < 256)) = true then upd ic nt.toNatClampNeg z else ic) := by
  by_cases hb : (sw_wi x 64 && sw_wi y 64 && sw_wi z 16 && decide (nt < 256)) = true
  · rw [if_pos hb, if_pos hb, if_pos hb, if_pos hb]
    simp only [Bool.and_eq_true, decide_eq_true_eq] at hb
    obtain ⟨g1, g2⟩ := sw_ok_more h.1 (by decide) (sw_okin2 h.1 hb.2)
    refine ⟨g1, fun j hj => ?_⟩
    rw [g2] at hj
    by_cases e : j = nt.toNatClampNeg
    · subst e
      rw [pk_us, pk_us, pk_us, hb.1.1.1, hb.1.1.2, hb.1.2]; rfl
    · rw [pk_un e, pk_un e, pk_un e]; exact h.2 j (by omega)
  · rw [if_neg hb, if_neg hb, if_neg hb, if_neg hb]; exact h
theorem lw_T_undo {nt : Int32} {ia ib ic : Nat → Int32} (h : lw_T nt ia ib ic) (x : Int32) : lw_T (if (!(decide (x < 0)) && decide (x ≤ nt)) = true then nt - x else nt) ia ib ic := by
  by_cases hb : (!(decide (x < 0)) && decide (x ≤ nt)) = true
  · rw [if_pos hb]
    simp only [Bool.and_eq_true, decide_eq_true_eq, Bool.not_eq_true', decide_eq_false_iff_not] at hb
    have hx := sw_ok_of h.1 (by decide) hb.1 hb.2
    have i1 := sw_ok_i h.1 (by decide)
    have i2 := sw_ok_i hx (by decide)
    have h3 := hb.2
    rw [sw_leI] at h3
    have e : nt - x = nI (nt.toNatClampNeg - x.toNatClampNeg) := by
      have := pk_sub (a := nt.toNatClampNeg) (b := x.toNatClampNeg) (by omega)
      rw [← h.1.1, ← hx.1] at this
      exact this
    have e2 : (nt - x).toNatClampNeg = nt.toNatClampNeg - x.toNatClampNeg := by rw [e]; exact nI_clamp (by omega)
    exact ⟨⟨by rw [e2]; exact e, by omega⟩, fun j hj => h.2 j (by omega)⟩
  · rw [if_neg hb]; exact h
theorem lw_C_crossed {nk : Int32} {od cr : Nat → Int32} (h : lw_C nk od cr) (x : Int32) : (if (!(decide (x < 0)) && decide (x < nk)) = true then od x.toNatClampNeg else -1) = if (!(decide (x < 0)) && decide (x < nk)) = true then cr x.toNatClampNeg / 2 else -1 := by
  by_cases hb : (!(decide (x < 0)) && decide (x < nk)) = true
  · rw [if_pos hb, if_pos hb]
    simp only [Bool.and_eq_true, decide_eq_true_eq, Bool.not_eq_true', decide_eq_false_iff_not] at hb
    have hx := sw_ok_of h.1 (by decide) hb.1 (by have := hb.2; rw [sw_ltI] at this; rw [sw_leI]; omega)
    have i1 := sw_ok_i h.1 (by decide)
    have i2 := sw_ok_i hx (by decide)
    have h3 := hb.2
    rw [sw_ltI] at h3
    exact (h.2 x.toNatClampNeg (by omega)).symm
  · rw [if_neg hb, if_neg hb]
theorem lw_S_walker {wx wy wa ws sd : Int32} {bw : Nat → Int32} (h : lw_S wx wy wa ws bw) (x : Int32) : (if sd = 0 then 100000 else sw_wk x wx wy wa ws) = if (!(decide (sd = 0)) && !(decide (x < 0)) && decide (x ≤ 3)) = true then bw x.toNatClampNeg else 100000 := by
  by_cases h0 : sd = 0
  · rw [if_pos h0, if_neg (by simp [h0])]
  · rw [if_neg h0]
    have hcd : ((!(decide (sd = 0)) && !(decide (x < 0)) && decide (x ≤ 3)) = true) ↔ (0 ≤ x.toInt ∧ x.toInt ≤ 3) := by
      simp only [h0, decide_false, Bool.not_false, Bool.true_and, Bool.and_eq_true, Bool.not_eq_true', decide_eq_false_iff_not, decide_eq_true_eq, sw_ltI, sw_leI, Int32.toInt_zero, show (3 : Int32).toInt = 3 by decide]
      omega
    obtain ⟨⟨b0, b1, b2, b3⟩, -⟩ := h
    by_cases hb : 0 ≤ x.toInt ∧ x.toInt ≤ 3
    · rw [if_pos (hcd.mpr hb)]
      have e : (x.toNatClampNeg : Int) = x.toInt := by rw [Int32.toNatClampNeg]; omega
      rcases (show x.toInt = 0 ∨ x.toInt = 1 ∨ x.toInt = 2 ∨ x.toInt = 3 by omega) with q | q | q | q
      · rw [show x.toNatClampNeg = 0 by omega, b0]; simp [sw_wk, q]
      · rw [show x.toNatClampNeg = 1 by omega, b1]; simp [sw_wk, q]
      · rw [show x.toNatClampNeg = 2 by omega, b2]; simp [sw_wk, q]
      · rw [show x.toNatClampNeg = 3 by omega, b3]; simp [sw_wk, q]
    · rw [if_neg (fun h => hb (hcd.mp h))]
      simp [sw_wk, show ¬ x.toInt = 0 by omega, show ¬ x.toInt = 1 by omega, show ¬ x.toInt = 2 by omega, show ¬ x.toInt = 3 by omega]
theorem lw_N_look {c : Nat} {nb gns : Int32} (h : lw_N c nb gns) (hc : c < 2560) (x nv ns nw gnv gs gnw nt sd : Int32) : sw_lk x nv ns nw gnv gs gnw nt sd nb = sw_lkm x nv ns nw gnv gs gnw nt sd nb := by
  obtain ⟨k, rfl, hk, -⟩ := h
  have e : (nI k = 0) = (nI k ≤ 0) := by
    apply propext
    rw [← Int32.toInt_inj, sw_leI, nI_toInt (by omega), Int32.toInt_zero]
    omega
  unfold sw_lk sw_lkm
  simp only [e]
