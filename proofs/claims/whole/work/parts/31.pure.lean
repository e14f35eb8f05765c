/-! numbers for the reference's build and cross -/
theorem sw_nIm1 {k : Nat} (h : k < 2 ^ 31) : ¬ nI k = -1 := by
  intro e
  have := nI_toInt h
  rw [e, show (-1 : Int32).toInt = -1 by decide] at this
  omega
section SWCP
variable {vx vy fa tb fr bk fl ce : Nat → Int32} {f1 f2 f3 f4 f5 f6 f7 f8 : Nat → Int32} {a : Nat}
theorem sw_cp1 {f g : Nat → Int32} (h : ∀ j : Nat, j < a → f j = g j) : ∀ j : Nat, j < a + 1 → upd f a (g a) j = g j := by
  intro j hj
  by_cases e : j = a
  · subst e; rw [pk_us]
  · rw [pk_un e]; exact h j (by omega)
theorem sw_cp6 (h : ∀ j : Nat, j < a → f1 j = vx (fa j).toNatClampNeg ∧ f2 j = vy (fa j).toNatClampNeg ∧ f3 j = vx (tb j).toNatClampNeg ∧ f4 j = vy (tb j).toNatClampNeg ∧ f5 j = fr j ∧ f6 j = bk j) :
    ∀ j : Nat, j < a + 1 → upd f1 a (vx (fa a).toNatClampNeg) j = vx (fa j).toNatClampNeg ∧ upd f2 a (vy (fa a).toNatClampNeg) j = vy (fa j).toNatClampNeg ∧ upd f3 a (vx (tb a).toNatClampNeg) j = vx (tb j).toNatClampNeg ∧ upd f4 a (vy (tb a).toNatClampNeg) j = vy (tb j).toNatClampNeg ∧ upd f5 a (fr a) j = fr j ∧ upd f6 a (bk a) j = bk j :=
  fun j hj => ⟨sw_cp1 (g := fun j => vx (fa j).toNatClampNeg) (fun j q => (h j q).1) j hj, sw_cp1 (g := fun j => vy (fa j).toNatClampNeg) (fun j q => (h j q).2.1) j hj, sw_cp1 (g := fun j => vx (tb j).toNatClampNeg) (fun j q => (h j q).2.2.1) j hj, sw_cp1 (g := fun j => vy (tb j).toNatClampNeg) (fun j q => (h j q).2.2.2.1) j hj, sw_cp1 (fun j q => (h j q).2.2.2.2.1) j hj, sw_cp1 (fun j q => (h j q).2.2.2.2.2) j hj⟩
theorem sw_cp2 (h : ∀ j : Nat, j < a → f7 j = fl j ∧ f8 j = ce j) : ∀ j : Nat, j < a + 1 → upd f7 a (fl a) j = fl j ∧ upd f8 a (ce a) j = ce j :=
  fun j hj => ⟨sw_cp1 (fun j q => (h j q).1) j hj, sw_cp1 (fun j q => (h j q).2) j hj⟩
end SWCP
def sw_mA (mx my ex ey px py : Int32) : Int64 := mx.toInt64 * (py - ey).toInt64 - my.toInt64 * (px - ex).toInt64
def sw_mP (ex ey ax ay bx bz : Int32) : Int64 := (ax - ex).toInt64 * (bz - ay).toInt64 - (ay - ey).toInt64 * (bx - ax).toInt64
def sw_lng (v : Int64) : Bool := !(decide (0 ≤ lg_cmp v 0))
def sw_lab (v : Int64) : Int64 := if 0 ≤ lg_cmp v 0 then v else -v
def sw_mcd (a b p q : Int64) : Bool := !(sw_lng a == sw_lng b) && !(decide (lg_cmp p 0 = 0)) && (sw_lng p == sw_lng q) && !(decide (0 < lg_cmp (sw_lab p) (sw_lab q)))
def sw_mid (w : Int32) (p : Int64) : Int32 := if 0 ≤ lg_cmp p 0 then 2 * w + 1 else 2 * w
def sw_mc (mx my : Int32) (p1 p2 p3 p4 : Nat → Int32) (ex ey : Int32) (cr : Nat → Int32) (cp cq : Nat → Int64) : Nat → Int32 × (Nat → Int32) × (Nat → Int64) × (Nat → Int64)
  | 0 => (0, cr, cp, cq)
  | j + 1 =>
    let s := sw_mc mx my p1 p2 p3 p4 ex ey cr cp cq j
    let a := sw_mA mx my ex ey (p1 j) (p2 j)
    let b := sw_mA mx my ex ey (p3 j) (p4 j)
    let p := sw_mP ex ey (p1 j) (p2 j) (p3 j) (p4 j)
    if sw_mcd a b p (b - a) = true then (s.1 + 1, sw_adf (sw_mid (nI j) p) (sw_lab p) (sw_lab (b - a)) s.1.toNatClampNeg s.2) else s
section SWMC
variable {mx my ex ey : Int32} {p1 p2 p3 p4 cr f1 : Nat → Int32} {cp cq f2 f3 : Nat → Int64} {q : Nat} {n1 : Int32} {la lb lp lq up uq : Int64} {X : Int32}
theorem sw_mc_no (hs : (n1, f1, f2, f3) = sw_mc mx my p1 p2 p3 p4 ex ey cr cp cq q) (ha : la = sw_mA mx my ex ey (p1 q) (p2 q)) (hb : lb = sw_mA mx my ex ey (p3 q) (p4 q)) (hp : lp = sw_mP ex ey (p1 q) (p2 q) (p3 q) (p4 q)) (hq : lq = lb - la) (hc : sw_mcd la lb lp lq = false) :
    (n1, f1, f2, f3) = sw_mc mx my p1 p2 p3 p4 ex ey cr cp cq (q + 1) := by
  unfold sw_mc
  rw [← hs]
  dsimp only
  rw [← ha, ← hb, ← hp, ← hq, hc]
  rfl
theorem sw_mc_yes (hs : (n1, f1, f2, f3) = sw_mc mx my p1 p2 p3 p4 ex ey cr cp cq q) (ha : la = sw_mA mx my ex ey (p1 q) (p2 q)) (hb : lb = sw_mA mx my ex ey (p3 q) (p4 q)) (hp : lp = sw_mP ex ey (p1 q) (p2 q) (p3 q) (p4 q)) (hq : lq = lb - la) (hc : sw_mcd la lb lp lq = true)
    (hX : X = sw_mid (nI q) lp) (hup : up = sw_lab lp) (huq : uq = sw_lab lq) :
    (n1 + 1, (sw_adf X up uq n1.toNatClampNeg (f1, f2, f3)).1, (sw_adf X up uq n1.toNatClampNeg (f1, f2, f3)).2.1, (sw_adf X up uq n1.toNatClampNeg (f1, f2, f3)).2.2) = sw_mc mx my p1 p2 p3 p4 ex ey cr cp cq (q + 1) := by
  unfold sw_mc
  rw [← hs]
  dsimp only
  rw [← ha, ← hb, ← hp, ← hq, hc, if_pos rfl, ← hX, ← hup, ← huq]
end SWMC
