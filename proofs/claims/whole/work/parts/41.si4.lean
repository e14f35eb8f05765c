/-! the crossings: both sides insert in lockstep -/
theorem sw_ab_lab {P : Int32} {P' : Int64} (hP : P'.toInt = P.toInt) (r : sw_rg 50000000 P) : (sw_ab P).toInt64 = sw_lab P' := by
  unfold sw_rg at r
  rw [← Int64.toInt_inj, Int32.toInt_toInt64, sw_lab_i (by omega), hP]
  unfold sw_ab
  by_cases q : 0 ≤ P.toInt
  · rw [if_pos (by rw [sw_leI, Int32.toInt_zero]; exact q), if_pos q]
  · rw [if_neg (by rw [sw_leI, Int32.toInt_zero]; exact q), if_neg q, sw_isub (by rw [Int32.toInt_zero]; omega) (by rw [Int32.toInt_zero]; omega), Int32.toInt_zero]
    omega
def sw_el (cP cQ : Nat → Int32) (mP mQ : Nat → Int64) (pp qq od cr : Nat → Int32) (cp cq : Nat → Int64) (q j : Nat) : Prop :=
  ∃ v, v < q ∧ od j = nI v ∧ pp v = cP v ∧ qq v = cQ v ∧ cr j = sw_mid (nI v) (mP v) ∧ cp j = sw_lab (mP v) ∧ cq j = sw_lab (mQ v)
theorem sw_el_far {cP cQ : Nat → Int32} {mP mQ : Nat → Int64} {pp qq od cr : Nat → Int32} {cp cq : Nat → Int64} {q k : Nat} (hq : q < 2 ^ 31) (hp : pp q = cP q) (hqq : qq q = cQ q) (hab : ∀ v, v < q + 1 → (sw_ab (cP v)).toInt64 = sw_lab (mP v) ∧ (sw_ab (cQ v)).toInt64 = sw_lab (mQ v))
    (h : sw_el cP cQ mP mQ pp qq od cr cp cq (q + 1) k) : sw_far pp qq (od k).toNatClampNeg q = sw_adF (sw_lab (mP q)) (sw_lab (mQ q)) (cp k) (cq k) := by
  obtain ⟨v, hv, e1, e2, e3, e4, e5, e6⟩ := h
  unfold sw_far sw_adF
  rw [e1, nI_clamp (by omega), e2, e3, hp, hqq, e5, e6, (hab v hv).1, (hab v hv).2, (hab q (by omega)).1, (hab q (by omega)).2]
theorem sw_lock {cP cQ : Nat → Int32} {mP mQ : Nat → Int64} {pp qq : Nat → Int32} {q : Nat} (hq : q < 2 ^ 31) (hp : pp q = cP q) (hqq : qq q = cQ q) (hab : ∀ v, v < q + 1 → (sw_ab (cP v)).toInt64 = sw_lab (mP v) ∧ (sw_ab (cQ v)).toInt64 = sw_lab (mQ v)) :
    ∀ (k : Nat) (f : Nat → Int32) (s : (Nat → Int32) × (Nat → Int64) × (Nat → Int64)) (m : Nat), k ≤ m → (∀ j, j < m + 1 → j ≠ k → sw_el cP cQ mP mQ pp qq f s.1 s.2.1 s.2.2 (q + 1) j) →
      ∀ j, j < m + 1 → sw_el cP cQ mP mQ pp qq (sw_insf (fun v => sw_far pp qq v.toNatClampNeg q) (nI q) k f) (sw_adf (sw_mid (nI q) (mP q)) (sw_lab (mP q)) (sw_lab (mQ q)) k s).1 (sw_adf (sw_mid (nI q) (mP q)) (sw_lab (mP q)) (sw_lab (mQ q)) k s).2.1 (sw_adf (sw_mid (nI q) (mP q)) (sw_lab (mP q)) (sw_lab (mQ q)) k s).2.2 (q + 1) j := by
  have put : ∀ (k : Nat) (f : Nat → Int32) (s : (Nat → Int32) × (Nat → Int64) × (Nat → Int64)) (m : Nat), (∀ j, j < m + 1 → j ≠ k → sw_el cP cQ mP mQ pp qq f s.1 s.2.1 s.2.2 (q + 1) j) →
      ∀ j, j < m + 1 → sw_el cP cQ mP mQ pp qq (upd f k (nI q)) (upd s.1 k (sw_mid (nI q) (mP q))) (vp_updL s.2.1 k (sw_lab (mP q))) (vp_updL s.2.2 k (sw_lab (mQ q))) (q + 1) j := by
    intro k f s m h j hj
    by_cases e : j = k
    · subst e
      exact ⟨q, by omega, pk_us, hp, hqq, pk_us, pk_uLs, pk_uLs⟩
    · obtain ⟨v, hv, e1, e2, e3, e4, e5, e6⟩ := h j hj e
      exact ⟨v, hv, by rw [pk_un e]; exact e1, e2, e3, by rw [pk_un e]; exact e4, by rw [pk_uLn e]; exact e5, by rw [pk_uLn e]; exact e6⟩
  intro k
  induction k with
  | zero => intro f s m hm h j hj; exact put 0 f s m h j hj
  | succ k ih =>
    intro f s m hm h j hj
    have ek := h k (by omega) (by omega)
    have hF := sw_el_far hq hp hqq hab ek
    unfold sw_insf sw_adf
    cases hb : sw_adF (sw_lab (mP q)) (sw_lab (mQ q)) (s.2.1 k) (s.2.2 k)
    · rw [hb] at hF
      simp only [hF, Bool.false_eq_true, if_false]
      exact put (k + 1) f s m h j hj
    · rw [hb] at hF
      simp only [hF, if_true]
      refine ih _ _ m (by omega) (fun i hi hne => ?_) j hj
      by_cases e : i = k + 1
      · subst e
        obtain ⟨v, hv, e1, e2, e3, e4, e5, e6⟩ := ek
        exact ⟨v, hv, by rw [pk_us]; exact e1, e2, e3, by show upd s.1 (k + 1) (s.1 k) (k + 1) = _; rw [pk_us]; exact e4, by show vp_updL s.2.1 (k + 1) (s.2.1 k) (k + 1) = _; rw [pk_uLs]; exact e5, by show vp_updL s.2.2 (k + 1) (s.2.2 k) (k + 1) = _; rw [pk_uLs]; exact e6⟩
      · obtain ⟨v, hv, e1, e2, e3, e4, e5, e6⟩ := h i hi e
        exact ⟨v, hv, by rw [pk_un e]; exact e1, e2, e3, by show upd s.1 (k + 1) (s.1 k) i = _; rw [pk_un e]; exact e4, by show vp_updL s.2.1 (k + 1) (s.2.1 k) i = _; rw [pk_uLn e]; exact e5, by show vp_updL s.2.2 (k + 1) (s.2.2 k) i = _; rw [pk_uLn e]; exact e6⟩
/-- what a map, a place and a move must be -/
def sw_okm (vx vy fa tb p1 p2 p3 p4 : Nat → Int32) (ox oy mx my : Int32) (n : Nat) : Prop :=
  sw_rg 128 mx ∧ sw_rg 128 my ∧ sw_rg 3000 ox ∧ sw_rg 3000 oy ∧ n < 2 ^ 30 ∧ ∀ v, v < n →
    (p1 v = vx (fa v).toNatClampNeg ∧ p2 v = vy (fa v).toNatClampNeg ∧ p3 v = vx (tb v).toNatClampNeg ∧ p4 v = vy (tb v).toNatClampNeg) ∧ sw_rg 2000 (p1 v) ∧ sw_rg 2000 (p2 v) ∧ sw_rg 2000 (p3 v) ∧ sw_rg 2000 (p4 v)
section SWFILL
variable {vx vy fa tb p1 p2 p3 p4 : Nat → Int32} {ox oy mx my : Int32} {n : Nat}
abbrev sw_cP (vx vy fa tb : Nat → Int32) (ox oy : Int32) : Nat → Int32 := fun v => sw_crp vx vy (fa v) (tb v) ox oy
abbrev sw_cQ (vx vy fa tb : Nat → Int32) (ox oy mx my : Int32) : Nat → Int32 := fun v => sw_cra vx vy (tb v) ox oy mx my - sw_cra vx vy (fa v) ox oy mx my
abbrev sw_xP (p1 p2 p3 p4 : Nat → Int32) (ox oy : Int32) : Nat → Int64 := fun v => sw_mP ox oy (p1 v) (p2 v) (p3 v) (p4 v)
abbrev sw_xQ (p1 p2 p3 p4 : Nat → Int32) (ox oy mx my : Int32) : Nat → Int64 := fun v => sw_mA mx my ox oy (p3 v) (p4 v) - sw_mA mx my ox oy (p1 v) (p2 v)
theorem sw_okm_n (h : sw_okm vx vy fa tb p1 p2 p3 p4 ox oy mx my n) {v : Nat} (hv : v < n) :
    ((sw_mA mx my ox oy (p1 v) (p2 v)).toInt = (sw_cra vx vy (fa v) ox oy mx my).toInt ∧ sw_rg 2000000 (sw_cra vx vy (fa v) ox oy mx my)) ∧
    ((sw_mA mx my ox oy (p3 v) (p4 v)).toInt = (sw_cra vx vy (tb v) ox oy mx my).toInt ∧ sw_rg 2000000 (sw_cra vx vy (tb v) ox oy mx my)) ∧
    ((sw_xP p1 p2 p3 p4 ox oy v).toInt = (sw_cP vx vy fa tb ox oy v).toInt ∧ sw_rg 50000000 (sw_cP vx vy fa tb ox oy v)) := by
  obtain ⟨h1, h2, h3, h4, -, h5⟩ := h
  obtain ⟨⟨e1, e2, e3, e4⟩, r1, r2, r3, r4⟩ := h5 v hv
  refine ⟨?_, ?_, ?_⟩
  · have := sw_n_a h1 h2 h3 h4 r1 r2
    rw [e1, e2] at this ⊢
    exact this
  · have := sw_n_a h1 h2 h3 h4 r3 r4
    rw [e3, e4] at this ⊢
    exact this
  · have := sw_n_p h3 h4 r1 r2 r3 r4
    unfold sw_xP
    rw [e1, e2, e3, e4] at this ⊢
    exact this
theorem sw_okm_ab (h : sw_okm vx vy fa tb p1 p2 p3 p4 ox oy mx my n) {v : Nat} (hv : v < n) :
    (sw_ab (sw_cP vx vy fa tb ox oy v)).toInt64 = sw_lab (sw_xP p1 p2 p3 p4 ox oy v) ∧ (sw_ab (sw_cQ vx vy fa tb ox oy mx my v)).toInt64 = sw_lab (sw_xQ p1 p2 p3 p4 ox oy mx my v) := by
  obtain ⟨⟨a1, a2⟩, ⟨b1, b2⟩, c1, c2⟩ := sw_okm_n h hv
  refine ⟨sw_ab_lab c1 c2, sw_ab_lab ?_ ?_⟩
  · unfold sw_rg at a2 b2
    unfold sw_xQ sw_cQ
    rw [sw_lsub (by omega) (by omega), sw_isub (by omega) (by omega), a1, b1]
  · obtain ⟨-, r⟩ := sw_ri b2 a2 (by decide)
    unfold sw_rg at r ⊢
    unfold sw_cQ
    omega
end SWFILL
