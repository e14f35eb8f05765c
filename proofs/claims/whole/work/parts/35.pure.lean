/-! numbers for the reference's steps -/
def sw_am (a t : Int32) : Int32 := (a + t + 64) - (a + t + 64) / 64 * 64
def sw_gmx (a x y : Int32) : Int32 := sw_pt (sw_cm a * x + sw_cm ((a + 48) - (a + 48) / 64 * 64) * y)
def sw_gmy (a x y : Int32) : Int32 := sw_pt (sw_cm ((a + 48) - (a + 48) / 64 * 64) * x - sw_cm a * y)
def sw_gs (p5 p6 p7 p8 f : Nat → Int32) (s0 : Int32) : Nat → Int32 × Int32
  | 0 => (s0, -1)
  | q + 1 =>
    let s := sw_gs p5 p6 p7 p8 f s0 q
    let near := if f q - f q / 2 * 2 = 0 then p5 (f q / 2).toNatClampNeg else p6 (f q / 2).toNatClampNeg
    let far := if f q - f q / 2 * 2 = 0 then p6 (f q / 2).toNatClampNeg else p5 (f q / 2).toNatClampNeg
    (far, if 0 ≤ s.2 then s.2 else if sw_stm p6 p7 p8 (f q / 2).toNatClampNeg near far = true then f q / 2 else s.2)
theorem sw_gs_s {p5 p6 p7 p8 f : Nat → Int32} {s0 sec fv fv' ww near far : Int32} {q : Nat} (hs : (sec, fv) = sw_gs p5 p6 p7 p8 f s0 q) (hw : ww = f q / 2)
    (h : (f q - f q / 2 * 2 = 0 ∧ near = p5 ww.toNatClampNeg ∧ far = p6 ww.toNatClampNeg) ∨ (¬ f q - f q / 2 * 2 = 0 ∧ near = p6 ww.toNatClampNeg ∧ far = p5 ww.toNatClampNeg))
    (hf : fv' = if 0 ≤ fv then fv else if sw_stm p6 p7 p8 ww.toNatClampNeg near far = true then ww else fv) : (far, fv') = sw_gs p5 p6 p7 p8 f s0 (q + 1) := by
  unfold sw_gs
  rw [← hs]
  subst hw
  rcases h with ⟨h1, h2, h3⟩ | ⟨h1, h2, h3⟩
  · dsimp only
    rw [if_pos h1, if_pos h1, hf, h2, h3]
  · dsimp only
    rw [if_neg h1, if_neg h1, hf, h2, h3]
def sw_mod (n : Int32) (f : Nat → Int32) (q : Nat) : Prop := sw_ok n q ∧ ∀ j, j < n.toNatClampNeg → ∃ v, v < q ∧ (f j = nI (2 * v) ∨ f j = nI (2 * v + 1))
theorem sw_adf_mem {x : Int32} {p q : Int64} {P : Int32 → Prop} (hx : P x) : ∀ (n : Nat) (s : (Nat → Int32) × (Nat → Int64) × (Nat → Int64)) (m : Nat), n ≤ m → (∀ j, j < m + 1 → j ≠ n → P (s.1 j)) → ∀ j, j < m + 1 → P ((sw_adf x p q n s).1 j) := by
  intro n
  induction n with
  | zero =>
    intro s m hm h j hj
    show P (upd s.1 0 x j)
    by_cases e : j = 0
    · subst e; rw [pk_us]; exact hx
    · rw [pk_un e]; exact h j hj e
  | succ k ih =>
    intro s m hm h j hj
    unfold sw_adf
    split
    · refine ih _ m (by omega) (fun i hi hne => ?_) j hj
      show P (upd s.1 (k + 1) (s.1 k) i)
      by_cases e : i = k + 1
      · subst e; rw [pk_us]; exact h k (by omega) (by omega)
      · rw [pk_un e]; exact h i hi e
    · show P (upd s.1 (k + 1) x j)
      by_cases e : j = k + 1
      · subst e; rw [pk_us]; exact hx
      · rw [pk_un e]; exact h j hj e
theorem sw_mid_nI (q : Nat) (p : Int64) : sw_mid (nI q) p = nI (2 * q) ∨ sw_mid (nI q) p = nI (2 * q + 1) := by
  unfold sw_mid
  split
  · right; rw [show (2 : Int32) = nI 2 from rfl, pk_mul, nI_1]
  · left; rw [show (2 : Int32) = nI 2 from rfl, pk_mul]
theorem sw_mc_mod0 {mx my ex ey : Int32} {p1 p2 p3 p4 cr : Nat → Int32} {cp cq : Nat → Int64} : ∀ q : Nat, q < 2 ^ 30 → sw_mod (sw_mc mx my p1 p2 p3 p4 ex ey cr cp cq q).1 (sw_mc mx my p1 p2 p3 p4 ex ey cr cp cq q).2.1 q := by
  intro q
  induction q with
  | zero => intro _; exact ⟨⟨show (0 : Int32) = nI (0 : Int32).toNatClampNeg by decide, show (0 : Int32).toNatClampNeg ≤ 0 by decide⟩, fun j hj => absurd hj (by show ¬ j < (0 : Int32).toNatClampNeg; rw [show (0 : Int32).toNatClampNeg = 0 by decide]; omega)⟩
  | succ q ih =>
    intro hq
    have h := ih (by omega)
    unfold sw_mc
    dsimp only
    split
    · obtain ⟨h1, h2⟩ := sw_ok_succ h.1 (by omega)
      refine ⟨h1, fun j hj => ?_⟩
      rw [h2] at hj
      refine sw_adf_mem (P := fun y => ∃ v, v < q + 1 ∧ (y = nI (2 * v) ∨ y = nI (2 * v + 1))) ⟨q, by omega, sw_mid_nI q _⟩ _ _ _ (Nat.le_refl _) (fun i hi hne => ?_) j hj
      obtain ⟨v, hv, e⟩ := h.2 i (by omega)
      exact ⟨v, by omega, e⟩
    · exact ⟨sw_ok_mono h.1 (Nat.le_succ q), fun j hj => by obtain ⟨v, hv, e⟩ := h.2 j hj; exact ⟨v, by omega, e⟩⟩
theorem sw_mc_mod {mx my ex ey n1 : Int32} {p1 p2 p3 p4 cr f1 : Nat → Int32} {cp cq f2 f3 : Nat → Int64} {q : Nat} (hM : (n1, f1, f2, f3) = sw_mc mx my p1 p2 p3 p4 ex ey cr cp cq q) (hq : q < 2 ^ 30) : sw_mod n1 f1 q := by
  have := sw_mc_mod0 (mx := mx) (my := my) (ex := ex) (ey := ey) (p1 := p1) (p2 := p2) (p3 := p3) (p4 := p4) (cr := cr) (cp := cp) (cq := cq) q hq
  rw [← hM] at this
  exact this
theorem sw_half {v : Nat} {x : Int32} (hv : v < 2 ^ 29) (h : x = nI (2 * v) ∨ x = nI (2 * v + 1)) : x / 2 = nI v := by
  rcases h with h | h
  · rw [h, show (2 : Int32) = nI 2 from rfl, pk_div (by omega) (by decide) (by decide), show 2 * v / 2 = v by omega]
  · rw [h, show (2 : Int32) = nI 2 from rfl, pk_div (by omega) (by decide) (by decide), show (2 * v + 1) / 2 = v by omega]
theorem sw_mod_half {n : Int32} {f : Nat → Int32} {q j : Nat} {ww : Int32} (h : sw_mod n f q) (hj : j < n.toNatClampNeg) (hq : q ≤ 64) (hw : ww = f j / 2) : vp_in ww 64 ∧ ww.toNatClampNeg < q := by
  obtain ⟨v, hv, e⟩ := h.2 j hj
  have e2 : ww = nI v := by rw [hw]; exact sw_half (by omega) e
  exact ⟨by rw [e2]; exact vp_in_nI (by omega) (by decide), by rw [e2, nI_clamp (by omega)]; exact hv⟩
def sw_go (p1 p2 p3 p4 p5 p6 p7 p8 : Nat → Int32) (n : Nat) (ex ey es : Int32) (cr : Nat → Int32) (cp cq : Nat → Int64) (mx my : Int32) : Int32 × Int32 × Int32 × Int32 × Int32 × Int32 × (Nat → Int32) × (Nat → Int64) × (Nat → Int64) :=
  if mx = 0 ∧ my = 0 then (0, ex, ey, es, 0, -1, cr, cp, cq)
  else
    let M := sw_mc mx my p1 p2 p3 p4 ex ey cr cp cq n
    let s := sw_gs p5 p6 p7 p8 M.2.1 es M.1.toNatClampNeg
    if 0 ≤ s.2 ∨ (sw_wi (ex + mx) 3000 && sw_wi (ey + my) 3000) = false then (2, ex, ey, es, M.1, s.2, M.2)
    else (1, ex + mx, ey + my, s.1, M.1, s.2, M.2)
section SWGO
variable {p1 p2 p3 p4 p5 p6 p7 p8 cr f1 : Nat → Int32} {n : Nat} {ex ey es mx my n1 sec fv : Int32} {cp cq f2 f3 : Nat → Int64}
theorem sw_go_0 (h1 : mx = 0) (h2 : my = 0) : sw_go p1 p2 p3 p4 p5 p6 p7 p8 n ex ey es cr cp cq mx my = (0, ex, ey, es, 0, -1, cr, cp, cq) := if_pos ⟨h1, h2⟩
theorem sw_go_2 (hz : ¬ (mx = 0 ∧ my = 0)) (hM : (n1, f1, f2, f3) = sw_mc mx my p1 p2 p3 p4 ex ey cr cp cq n) (hs : (sec, fv) = sw_gs p5 p6 p7 p8 f1 es n1.toNatClampNeg) (hc : 0 ≤ fv ∨ (sw_wi (ex + mx) 3000 && sw_wi (ey + my) 3000) = false) :
    sw_go p1 p2 p3 p4 p5 p6 p7 p8 n ex ey es cr cp cq mx my = (2, ex, ey, es, n1, fv, f1, f2, f3) := by
  unfold sw_go
  rw [if_neg hz, ← hM]
  dsimp only
  rw [← hs, if_pos hc]
theorem sw_go_1 (hz : ¬ (mx = 0 ∧ my = 0)) (hM : (n1, f1, f2, f3) = sw_mc mx my p1 p2 p3 p4 ex ey cr cp cq n) (hs : (sec, fv) = sw_gs p5 p6 p7 p8 f1 es n1.toNatClampNeg) (hc : ¬ 0 ≤ fv) (hd : (sw_wi (ex + mx) 3000 && sw_wi (ey + my) 3000) = true) :
    sw_go p1 p2 p3 p4 p5 p6 p7 p8 n ex ey es cr cp cq mx my = (1, ex + mx, ey + my, sec, n1, fv, f1, f2, f3) := by
  unfold sw_go
  rw [if_neg hz, ← hM]
  dsimp only
  rw [← hs, if_neg (fun h => h.elim hc (fun h => by rw [hd] at h; cases h))]
def sw_PM (p1 p2 p3 p4 p5 p6 p7 p8 : Nat → Int32) (n : Nat) (bo cr : Nat → Int32) (cp cq : Nat → Int64) (ia ib ic : Nat → Int32) : Nat → Int32 × Int32 × Int32 × Int32 × Int32 × Int32 × Int32 × (Nat → Int32) × (Nat → Int64) × (Nat → Int64)
  | 0 => (0, bo 0, bo 1, bo 2, bo 3, 0, -1, cr, cp, cq)
  | q + 1 =>
    let s := sw_PM p1 p2 p3 p4 p5 p6 p7 p8 n bo cr cp cq ia ib ic q
    let a := sw_am s.2.2.2.1 (ic q)
    let G := sw_go p1 p2 p3 p4 p5 p6 p7 p8 n s.2.1 s.2.2.1 s.2.2.2.2.1 s.2.2.2.2.2.2.2.1 s.2.2.2.2.2.2.2.2.1 s.2.2.2.2.2.2.2.2.2 (sw_gmx a (ia q) (ib q)) (sw_gmy a (ia q) (ib q))
    (if G.1 = 2 then s.1 + 1 else s.1 + 0, G.2.1, G.2.2.1, a, G.2.2.2)
variable {bo ia ib ic : Nat → Int32} {q : Nat} {cs u0 u1 u2 u3 un uf : Int32}
theorem sw_PM_no (h : (cs, u0, u1, u2, u3, un, uf, f1, f2, f3) = sw_PM p1 p2 p3 p4 p5 p6 p7 p8 n bo cr cp cq ia ib ic q) (hc : ¬ (sw_go p1 p2 p3 p4 p5 p6 p7 p8 n u0 u1 u3 f1 f2 f3 (sw_gmx (sw_am u2 (ic q)) (ia q) (ib q)) (sw_gmy (sw_am u2 (ic q)) (ia q) (ib q))).1 = 2) :
    (cs + 0, (sw_go p1 p2 p3 p4 p5 p6 p7 p8 n u0 u1 u3 f1 f2 f3 (sw_gmx (sw_am u2 (ic q)) (ia q) (ib q)) (sw_gmy (sw_am u2 (ic q)) (ia q) (ib q))).2.1, (sw_go p1 p2 p3 p4 p5 p6 p7 p8 n u0 u1 u3 f1 f2 f3 (sw_gmx (sw_am u2 (ic q)) (ia q) (ib q)) (sw_gmy (sw_am u2 (ic q)) (ia q) (ib q))).2.2.1, sw_am u2 (ic q), (sw_go p1 p2 p3 p4 p5 p6 p7 p8 n u0 u1 u3 f1 f2 f3 (sw_gmx (sw_am u2 (ic q)) (ia q) (ib q)) (sw_gmy (sw_am u2 (ic q)) (ia q) (ib q))).2.2.2) = sw_PM p1 p2 p3 p4 p5 p6 p7 p8 n bo cr cp cq ia ib ic (q + 1) := by
  unfold sw_PM
  rw [← h]
  dsimp only
  rw [if_neg hc]
theorem sw_PM_yes (h : (cs, u0, u1, u2, u3, un, uf, f1, f2, f3) = sw_PM p1 p2 p3 p4 p5 p6 p7 p8 n bo cr cp cq ia ib ic q) (hc : (sw_go p1 p2 p3 p4 p5 p6 p7 p8 n u0 u1 u3 f1 f2 f3 (sw_gmx (sw_am u2 (ic q)) (ia q) (ib q)) (sw_gmy (sw_am u2 (ic q)) (ia q) (ib q))).1 = 2) :
    (cs + 1, (sw_go p1 p2 p3 p4 p5 p6 p7 p8 n u0 u1 u3 f1 f2 f3 (sw_gmx (sw_am u2 (ic q)) (ia q) (ib q)) (sw_gmy (sw_am u2 (ic q)) (ia q) (ib q))).2.1, (sw_go p1 p2 p3 p4 p5 p6 p7 p8 n u0 u1 u3 f1 f2 f3 (sw_gmx (sw_am u2 (ic q)) (ia q) (ib q)) (sw_gmy (sw_am u2 (ic q)) (ia q) (ib q))).2.2.1, sw_am u2 (ic q), (sw_go p1 p2 p3 p4 p5 p6 p7 p8 n u0 u1 u3 f1 f2 f3 (sw_gmx (sw_am u2 (ic q)) (ia q) (ib q)) (sw_gmy (sw_am u2 (ic q)) (ia q) (ib q))).2.2.2) = sw_PM p1 p2 p3 p4 p5 p6 p7 p8 n bo cr cp cq ia ib ic (q + 1) := by
  unfold sw_PM
  rw [← h]
  dsimp only
  rw [if_pos hc]
end SWGO
