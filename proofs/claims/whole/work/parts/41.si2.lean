/-! start -/
theorem sw_st_m {c : Nat} {nb gns : Int32} (hs : sw_ok gns 16) (hN : lw_N c nb gns) (hc : c < 2560) (x y z v : Int32) :
    (!(decide (nb = 0)) && sw_wi x 3000 && sw_wi y 3000 && !(decide (z < 0)) && !(decide (63 < z)) && !(decide (v < 0)) && decide (v < gns)) = (sw_wi x 3000 && sw_wi y 3000 && !(decide (z < 0)) && !(decide (64 ≤ z)) && sw_hv v gns) := by
  obtain ⟨k, rfl, hk, h0⟩ := hN
  have i1 := sw_ok_i hs (by decide)
  have e1 : (!(decide (63 < z))) = !(decide (64 ≤ z)) := by
    have e0 : (63 < z) = (64 ≤ z) := propext (by
      rw [sw_ltI, sw_leI, show (63 : Int32).toInt = 63 by decide, show (64 : Int32).toInt = 64 by decide]
      omega)
    simp only [e0]
  have e2 : (!(decide (nI k = 0)) && (!(decide (v < 0)) && decide (v < gns))) = sw_hv v gns := by
    rw [Bool.eq_iff_iff]
    unfold sw_hv
    simp only [Bool.and_eq_true, decide_eq_true_eq, Bool.not_eq_true', decide_eq_false_iff_not, sw_ltI, sw_leI, ← Int32.toInt_inj, Int32.toInt_zero, nI_toInt (show k < 2 ^ 31 by omega)]
    have h1 : k = 0 → gns.toInt = 0 := fun e => by rw [h0 e]; rfl
    omega
  rw [← e2, e1]
  cases decide (nI k = 0) <;> cases sw_wi x 3000 <;> cases sw_wi y 3000 <;> cases decide (z < 0) <;> cases decide (64 ≤ z) <;> simp
theorem lw_start {c : Nat} {nb gns sd nk fs ox oy oa os wx wy wa ws : Int32} {bo bw od cr bo2 bw2 : Nat → Int32} {r sd2 nk2 fs2 : Int32} (hs : sw_ok gns 16) (hN : lw_N c nb gns) (hc : c < 2560) (hO : lw_S ox oy oa os bo) (hW : lw_S wx wy wa ws bw) (hC : lw_C nk od cr) (x y z v : Int32)
    (hp : r = sw_b (!(decide (nb = 0)) && sw_wi x 3000 && sw_wi y 3000 && !(decide (z < 0)) && !(decide (63 < z)) && !(decide (v < 0)) && decide (v < gns)) ∧
      ((!(decide (nb = 0)) && sw_wi x 3000 && sw_wi y 3000 && !(decide (z < 0)) && !(decide (63 < z)) && !(decide (v < 0)) && decide (v < gns)) = true → sd2 = 1 ∧ nk2 = 0 ∧ fs2 = -1 ∧ bo2 0 = x ∧ bo2 1 = y ∧ bo2 2 = z ∧ bo2 3 = v ∧ bw2 0 = x ∧ bw2 1 = y ∧ bw2 2 = z ∧ bw2 3 = v) ∧
      ((!(decide (nb = 0)) && sw_wi x 3000 && sw_wi y 3000 && !(decide (z < 0)) && !(decide (63 < z)) && !(decide (v < 0)) && decide (v < gns)) = false → sd2 = sd ∧ nk2 = nk ∧ fs2 = fs ∧ bo2 = bo ∧ bw2 = bw)) :
    sw_b (sw_wi x 3000 && sw_wi y 3000 && !(decide (z < 0)) && !(decide (64 ≤ z)) && sw_hv v gns) = r ∧
    sd2 = (if (sw_wi x 3000 && sw_wi y 3000 && !(decide (z < 0)) && !(decide (64 ≤ z)) && sw_hv v gns) = true then 1 else sd) ∧
    nk2 = (if (sw_wi x 3000 && sw_wi y 3000 && !(decide (z < 0)) && !(decide (64 ≤ z)) && sw_hv v gns) = true then 0 else nk) ∧
    fs2 = (if (sw_wi x 3000 && sw_wi y 3000 && !(decide (z < 0)) && !(decide (64 ≤ z)) && sw_hv v gns) = true then -1 else fs) ∧
    lw_S (if (sw_wi x 3000 && sw_wi y 3000 && !(decide (z < 0)) && !(decide (64 ≤ z)) && sw_hv v gns) = true then x else ox) (if (sw_wi x 3000 && sw_wi y 3000 && !(decide (z < 0)) && !(decide (64 ≤ z)) && sw_hv v gns) = true then y else oy) (if (sw_wi x 3000 && sw_wi y 3000 && !(decide (z < 0)) && !(decide (64 ≤ z)) && sw_hv v gns) = true then z else oa) (if (sw_wi x 3000 && sw_wi y 3000 && !(decide (z < 0)) && !(decide (64 ≤ z)) && sw_hv v gns) = true then v else os) bo2 ∧
    lw_S (if (sw_wi x 3000 && sw_wi y 3000 && !(decide (z < 0)) && !(decide (64 ≤ z)) && sw_hv v gns) = true then x else wx) (if (sw_wi x 3000 && sw_wi y 3000 && !(decide (z < 0)) && !(decide (64 ≤ z)) && sw_hv v gns) = true then y else wy) (if (sw_wi x 3000 && sw_wi y 3000 && !(decide (z < 0)) && !(decide (64 ≤ z)) && sw_hv v gns) = true then z else wa) (if (sw_wi x 3000 && sw_wi y 3000 && !(decide (z < 0)) && !(decide (64 ≤ z)) && sw_hv v gns) = true then v else ws) bw2 ∧
    lw_C (if (sw_wi x 3000 && sw_wi y 3000 && !(decide (z < 0)) && !(decide (64 ≤ z)) && sw_hv v gns) = true then 0 else nk) od cr := by
  rw [sw_st_m hs hN hc x y z v] at hp
  obtain ⟨h1, h2, h3⟩ := hp
  cases hb : (sw_wi x 3000 && sw_wi y 3000 && !(decide (z < 0)) && !(decide (64 ≤ z)) && sw_hv v gns)
  · obtain ⟨rfl, rfl, rfl, rfl, rfl⟩ := h3 hb
    simp only [Bool.false_eq_true, if_false]
    exact ⟨by rw [h1, hb], trivial, trivial, trivial, hO, hW, hC⟩
  · obtain ⟨rfl, rfl, rfl, g0, g1, g2, g3, k0, k1, k2, k3⟩ := h2 hb
    simp only [if_true]
    have hb' := hb
    simp only [Bool.and_eq_true, Bool.not_eq_true', decide_eq_false_iff_not, sw_ltI, sw_leI, Int32.toInt_zero, show (64 : Int32).toInt = 64 by decide] at hb'
    have hx := sw_wi_r (K := 3000) hb'.1.1.1.1 (by decide) (by decide)
    have hy := sw_wi_r (K := 3000) hb'.1.1.1.2 (by decide) (by decide)
    refine ⟨by rw [h1, hb], trivial, trivial, trivial, ⟨⟨g0, g1, g2, g3⟩, hx, hy, by omega, by omega⟩, ⟨⟨k0, k1, k2, k3⟩, hx, hy, by omega, by omega⟩, ⟨by decide, by decide⟩, fun j hj => absurd hj (by rw [show (0 : Int32).toNatClampNeg = 0 by decide]; exact Nat.not_lt_zero j)⟩
/-! the angle and the move -/
theorem sw_fm_am {a t : Int32} (ha : 0 ≤ a.toInt ∧ a.toInt < 64) (ht : -16 ≤ t.toInt ∧ t.toInt ≤ 16) : sw_am a t = sw_fm (a + t) 64 := by
  have e1 : (a + t).toInt = a.toInt + t.toInt := sw_iadd (by omega) (by omega)
  have e2 : (a + t + 64).toInt = a.toInt + t.toInt + 64 := by rw [sw_iadd (by rw [e1, sw_i64]; omega) (by rw [e1, sw_i64]; omega), e1, sw_i64]
  rw [← Int32.toInt_inj, sw_fm_val (by decide), e1, sw_i64]
  unfold sw_am
  rw [rem_toInt, e2, sw_i64, Int.tmod_eq_emod_of_nonneg (by omega)]
  omega
theorem sw_pt_fd (x : Int32) : sw_pt x = sw_fd x 256 := by
  unfold sw_pt sw_fd
  have e : decide (0 ≤ x ^^^ 256) = decide (0 ≤ x) := by
    rw [decide_eq_decide, sw_leI, sw_leI, Int32.toInt_zero]
    exact sw_xs (by decide)
  rw [e]
theorem sw_kk_cos : ∀ k : Nat, k < 17 → sw_kk (nI k) = sw_cos k := by decide +kernel
theorem sw_cm_cosf : ∀ k : Nat, k < 64 → sw_cm (nI k) = sw_cosf (nI k) := by decide +kernel
theorem sw_cm_co {a : Int32} (ha : 0 ≤ a.toInt ∧ a.toInt < 64) : sw_cm a = sw_co a := by
  have e : sw_fm a 64 = a := by
    rw [← Int32.toInt_inj, sw_fm_val (by decide), sw_i64]
    omega
  obtain ⟨k, hk, rfl⟩ := vp_in_of (vp_in_iff.mpr ha) (by decide)
  unfold sw_co
  rw [e]
  exact sw_cm_cosf k hk
theorem sw_cm_si {a : Int32} (ha : 0 ≤ a.toInt ∧ a.toInt < 64) : sw_cm ((a + 48) - (a + 48) / 64 * 64) = sw_co (a - 16) := by
  have e2 : (a + 48).toInt = a.toInt + 48 := by rw [sw_iadd (by rw [show (48 : Int32).toInt = 48 by decide]; omega) (by rw [show (48 : Int32).toInt = 48 by decide]; omega), show (48 : Int32).toInt = 48 by decide]
  have e3 : (a - 16).toInt = a.toInt - 16 := by rw [sw_isub (by rw [sw_i16]; omega) (by rw [sw_i16]; omega), sw_i16]
  have e4 : (a + 48) - (a + 48) / 64 * 64 = sw_fm (a - 16) 64 := by
    rw [← Int32.toInt_inj, sw_fm_val (by decide), rem_toInt, e2, e3, sw_i64, Int.tmod_eq_emod_of_nonneg (by omega)]
    omega
  rw [e4, sw_cm_co (sw_fm64 _)]
  unfold sw_co
  have e5 : sw_fm (sw_fm (a - 16) 64) 64 = sw_fm (a - 16) 64 := by
    have := sw_fm64 (a - 16)
    rw [← Int32.toInt_inj, sw_fm_val (by decide), sw_i64]
    omega
  rw [e5]
theorem sw_gm {a : Int32} (ha : 0 ≤ a.toInt ∧ a.toInt < 64) (x y : Int32) : sw_gmx a x y = sw_mX a x y ∧ sw_gmy a x y = sw_mY a x y := by
  unfold sw_gmx sw_gmy sw_mX sw_mY
  rw [sw_cm_co ha, sw_cm_si ha, sw_pt_fd, sw_pt_fd]
  exact ⟨rfl, rfl⟩
