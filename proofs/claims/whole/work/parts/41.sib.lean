/-! two walls as segments of whole numbers -/
theorem sw_zgs {x p : Int} (hx : 0 < x) : (0 < x * p ↔ 0 < p) ∧ (x * p < 0 ↔ p < 0) := by
  rcases Int.lt_trichotomy p 0 with c | c | c
  · have := Int.mul_pos hx (show 0 < -p by omega)
    rw [Int.mul_neg] at this
    omega
  · subst c
    rw [Int.mul_zero]
    omega
  · have := Int.mul_pos hx c
    omega
theorem sw_gt {x p : Int} (hx : x < 0) : (0 < x * p ↔ p < 0) ∧ (x * p < 0 ↔ 0 < p) := by
  have := sw_zgs (x := -x) (p := p) (by omega)
  rw [Int.neg_mul] at this
  omega
/-- u and v on one line; p, q the sides of u and v seen along w -/
theorem sw_g1 {ux uy vx vy wx wy : Int} (h : ux * vy = uy * vx) : vx * (wx * uy - wy * ux) = ux * (wx * vy - wy * vx) ∧ vy * (wx * uy - wy * ux) = uy * (wx * vy - wy * vx) := by
  constructor <;> grind
/-- x * p = y * q -/
theorem sw_g2 {x y p q : Int} (h : x * p = y * q) (hp : 0 < p) (hq : 0 < q) (k : (x ≤ 0 ∧ 0 ≤ y) ∨ (0 ≤ x ∧ y ≤ 0)) : x = 0 ∧ y = 0 := by
  have a := sw_zgs (x := p) (p := x) hp
  have b := sw_zgs (x := q) (p := y) hq
  rw [Int.mul_comm x, Int.mul_comm y] at h
  omega
theorem sw_g3 {x y p q : Int} (h : x * p = y * q) (hs : ¬ (0 < p ∧ 0 < q) ∧ ¬ (p < 0 ∧ q < 0)) (hz : ¬ (p = 0 ∧ q = 0)) : (x ≤ 0 ∧ 0 ≤ y) ∨ (0 ≤ x ∧ y ≤ 0) := by
  rcases Int.lt_trichotomy x 0 with c | c | c
  · rcases Int.lt_trichotomy y 0 with d | d | d
    · have a := sw_gt (p := p) c
      have b := sw_gt (p := q) d
      omega
    · omega
    · omega
  · omega
  · rcases Int.lt_trichotomy y 0 with d | d | d
    · omega
    · omega
    · have a := sw_zgs (p := p) c
      have b := sw_zgs (p := q) d
      omega
/-- from c the ends u and v lie on both sides: no third point w has them on one side of its line -/
theorem sw_g4 {ux uy vx vy wx wy : Int} (h : ux * vy = uy * vx) (hx : (ux ≤ 0 ∧ 0 ≤ vx) ∨ (0 ≤ ux ∧ vx ≤ 0)) (hy : (uy ≤ 0 ∧ 0 ≤ vy) ∨ (0 ≤ uy ∧ vy ≤ 0)) :
    ¬ (0 < wx * uy - wy * ux ∧ 0 < wx * vy - wy * vx) ∧ ¬ (wx * uy - wy * ux < 0 ∧ wx * vy - wy * vx < 0) := by
  obtain ⟨g1, g2⟩ := sw_g1 (wx := wx) (wy := wy) h
  refine ⟨fun ⟨a, b⟩ => ?_, fun ⟨a, b⟩ => ?_⟩
  · obtain ⟨e1, e2⟩ := sw_g2 g1 a b (by omega)
    obtain ⟨e3, e4⟩ := sw_g2 g2 a b (by omega)
    subst e2 e4
    simp at a
  · obtain ⟨e1, e2⟩ := sw_g2 (p := -(wx * uy - wy * ux)) (q := -(wx * vy - wy * vx)) (by rw [Int.mul_neg, Int.mul_neg, g1]) (by omega) (by omega) (by omega)
    obtain ⟨e3, e4⟩ := sw_g2 (p := -(wx * uy - wy * ux)) (q := -(wx * vy - wy * vx)) (by rw [Int.mul_neg, Int.mul_neg, g2]) (by omega) (by omega) (by omega)
    subst e2 e4
    simp at a
/-- and the way back -/
theorem sw_g5 {ux uy vx vy wx wy : Int} (h : ux * vy = uy * vx) (hs : ¬ (0 < wx * uy - wy * ux ∧ 0 < wx * vy - wy * vx) ∧ ¬ (wx * uy - wy * ux < 0 ∧ wx * vy - wy * vx < 0)) (hz : ¬ (wx * uy - wy * ux = 0 ∧ wx * vy - wy * vx = 0)) :
    ((ux ≤ 0 ∧ 0 ≤ vx) ∨ (0 ≤ ux ∧ vx ≤ 0)) ∧ ((uy ≤ 0 ∧ 0 ≤ vy) ∨ (0 ≤ uy ∧ vy ≤ 0)) := by
  obtain ⟨g1, g2⟩ := sw_g1 (wx := wx) (wy := wy) h
  have a := sw_g3 g1 hs hz
  have b := sw_g3 g2 hs hz
  omega
def sw_zgS (ax ay bx byy cx cy : Int) : Int := (bx - ax) * (cy - ay) - (byy - ay) * (cx - ax)
def sw_gB (v a b : Int) : Prop := (a ≤ v ∧ v ≤ b) ∨ (b ≤ v ∧ v ≤ a)
def sw_gX (s t : Int) : Prop := ¬ (0 < s ∧ 0 < t) ∧ ¬ (s < 0 ∧ t < 0)
def sw_gO (s t : Int) : Prop := (0 < s ∧ t < 0) ∨ (s < 0 ∧ 0 < t)
def sw_gM (a b c d : Int) : Prop := ¬ (a < c ∧ a < d ∧ b < c ∧ b < d) ∧ ¬ (c < a ∧ c < b ∧ d < a ∧ d < b)
/-- c on the segment a b -/
def sw_gI (ax ay bx byy cx cy : Int) : Prop := sw_zgS ax ay bx byy cx cy = 0 ∧ sw_gB cx ax bx ∧ sw_gB cy ay byy
theorem sw_gS_swap (ax ay bx byy cx cy : Int) : sw_zgS bx byy ax ay cx cy = - sw_zgS ax ay bx byy cx cy := by unfold sw_zgS; grind
theorem sw_gS_rot (ax ay bx byy cx cy : Int) : sw_zgS ax ay bx byy cx cy = (ax - cx) * (byy - cy) - (ay - cy) * (bx - cx) := by unfold sw_zgS; grind
theorem sw_gI_swap {ax ay bx byy cx cy : Int} : sw_gI bx byy ax ay cx cy ↔ sw_gI ax ay bx byy cx cy := by
  unfold sw_gI sw_gB; rw [sw_gS_swap]; omega
theorem sw_gX_neg {s t : Int} : sw_gX (-s) (-t) ↔ sw_gX s t := by unfold sw_gX; omega
theorem sw_gX_comm {s t : Int} : sw_gX s t ↔ sw_gX t s := by unfold sw_gX; omega
/-- an end on the other segment: both straddle -/
theorem sw_gI_X {ax ay bx byy cx cy dx dy : Int} (h : sw_gI ax ay bx byy cx cy) : sw_gX (sw_zgS ax ay bx byy cx cy) (sw_zgS ax ay bx byy dx dy) ∧ sw_gX (sw_zgS cx cy dx dy ax ay) (sw_zgS cx cy dx dy bx byy) ∧ sw_gM ax bx cx dx ∧ sw_gM ay byy cy dy := by
  obtain ⟨h1, h2, h3⟩ := h
  refine ⟨?_, ?_, ?_⟩
  · rw [h1]; unfold sw_gX; omega
  · rw [sw_gS_rot] at h1
    have := sw_g4 (ux := ax - cx) (uy := ay - cy) (vx := bx - cx) (vy := byy - cy) (wx := dx - cx) (wy := dy - cy) (by omega) (by unfold sw_gB at h2; omega) (by unfold sw_gB at h3; omega)
    exact this
  · unfold sw_gB at *; unfold sw_gM; omega
theorem sw_gX_I {ax ay bx byy cx cy dx dy : Int} (h : sw_zgS ax ay bx byy cx cy = 0) (hx : sw_gX (sw_zgS cx cy dx dy ax ay) (sw_zgS cx cy dx dy bx byy)) (hz : ¬ (sw_zgS cx cy dx dy ax ay = 0 ∧ sw_zgS cx cy dx dy bx byy = 0)) : sw_gI ax ay bx byy cx cy := by
  refine ⟨h, ?_⟩
  rw [sw_gS_rot] at h
  have := sw_g5 (ux := ax - cx) (uy := ay - cy) (vx := bx - cx) (vy := byy - cy) (wx := dx - cx) (wy := dy - cy) (by omega) hx hz
  unfold sw_gB
  omega
theorem sw_gS_diff (ax ay bx byy cx cy dx dy : Int) : sw_zgS cx cy dx dy ax ay - sw_zgS cx cy dx dy bx byy = sw_zgS ax ay bx byy dx dy - sw_zgS ax ay bx byy cx cy := by unfold sw_zgS; grind
theorem sw_gS_pt (ax ay bx byy cx cy dx dy : Int) : cx * sw_zgS ax ay bx byy dx dy - dx * sw_zgS ax ay bx byy cx cy = bx * sw_zgS cx cy dx dy ax ay - ax * sw_zgS cx cy dx dy bx byy ∧ cy * sw_zgS ax ay bx byy dx dy - dy * sw_zgS ax ay bx byy cx cy = byy * sw_zgS cx cy dx dy ax ay - ay * sw_zgS cx cy dx dy bx byy := by
  unfold sw_zgS
  constructor <;> grind
theorem sw_gp {a b c d P Q R T : Int} (hP : 0 < P) (hQ : 0 < Q) (hR : 0 < R) (hT : 0 < T) (h : c * P + d * Q = b * R + a * T) (k : P + Q = R + T) : ¬ (a < c ∧ a < d ∧ b < c ∧ b < d) := by
  intro ⟨h1, h2, h3, h4⟩
  have key : ∀ m : Int, m ≤ c → m ≤ d → a < m → b < m → False := by
    intro m g1 g2 g3 g4
    have e1 := Int.mul_nonneg (show 0 ≤ c - m by omega) (show 0 ≤ P by omega)
    have e2 := Int.mul_nonneg (show 0 ≤ d - m by omega) (show 0 ≤ Q by omega)
    have e3 := Int.mul_pos (show 0 < m - b by omega) hR
    have e4 := Int.mul_pos (show 0 < m - a by omega) hT
    have e5 : m * P + m * Q = m * R + m * T := by rw [← Int.mul_add, k, Int.mul_add]
    rw [Int.sub_mul] at e1 e2 e3 e4
    omega
  by_cases q : c ≤ d
  · exact key c (by omega) q h1 h3
  · exact key d (by omega) (by omega) h2 h4
theorem sw_gO_M {ax ay bx byy cx cy dx dy : Int} (h : sw_gO (sw_zgS ax ay bx byy cx cy) (sw_zgS ax ay bx byy dx dy)) (k : sw_gO (sw_zgS cx cy dx dy ax ay) (sw_zgS cx cy dx dy bx byy)) : sw_gM ax bx cx dx ∧ sw_gM ay byy cy dy := by
  have e := sw_gS_diff ax ay bx byy cx cy dx dy
  obtain ⟨e1, e2⟩ := sw_gS_pt ax ay bx byy cx cy dx dy
  generalize sw_zgS ax ay bx byy cx cy = s1 at *
  generalize sw_zgS ax ay bx byy dx dy = s2 at *
  generalize sw_zgS cx cy dx dy ax ay = t1 at *
  generalize sw_zgS cx cy dx dy bx byy = t2 at *
  unfold sw_gO at h k
  rcases h with ⟨h1, h2⟩ | ⟨h1, h2⟩
  · have k1 : t1 < 0 ∧ 0 < t2 := by omega
    refine ⟨⟨sw_gp (P := -s2) (Q := s1) (R := -t1) (T := t2) (by omega) h1 (by omega) k1.2 ?_ (by omega), ?_⟩, ⟨sw_gp (P := -s2) (Q := s1) (R := -t1) (T := t2) (by omega) h1 (by omega) k1.2 ?_ (by omega), ?_⟩⟩
    · rw [Int.mul_neg, Int.mul_neg]; omega
    · have := sw_gp (a := dx) (b := cx) (c := ax) (d := bx) (P := t2) (Q := -t1) (R := -s2) (T := s1) k1.2 (by omega) (by omega) h1 (by rw [Int.mul_neg, Int.mul_neg]; omega) (by omega)
      omega
    · rw [Int.mul_neg, Int.mul_neg]; omega
    · have := sw_gp (a := dy) (b := cy) (c := ay) (d := byy) (P := t2) (Q := -t1) (R := -s2) (T := s1) k1.2 (by omega) (by omega) h1 (by rw [Int.mul_neg, Int.mul_neg]; omega) (by omega)
      omega
  · have k1 : 0 < t1 ∧ t2 < 0 := by omega
    refine ⟨⟨sw_gp (P := s2) (Q := -s1) (R := t1) (T := -t2) h2 (by omega) k1.1 (by omega) ?_ (by omega), ?_⟩, ⟨sw_gp (P := s2) (Q := -s1) (R := t1) (T := -t2) h2 (by omega) k1.1 (by omega) ?_ (by omega), ?_⟩⟩
    · rw [Int.mul_neg, Int.mul_neg]; omega
    · have := sw_gp (a := dx) (b := cx) (c := ax) (d := bx) (P := -t2) (Q := t1) (R := s2) (T := -s1) (by omega) k1.1 h2 (by omega) (by rw [Int.mul_neg, Int.mul_neg]; omega) (by omega)
      omega
    · rw [Int.mul_neg, Int.mul_neg]; omega
    · have := sw_gp (a := dy) (b := cy) (c := ay) (d := byy) (P := -t2) (Q := t1) (R := s2) (T := -s1) (by omega) k1.1 h2 (by omega) (by rw [Int.mul_neg, Int.mul_neg]; omega) (by omega)
      omega
theorem sw_gc {U V X Y : Int} (h : U * Y = V * X) (hU : ¬ U = 0) (hX : (0 ≤ X ∧ X ≤ U) ∨ (U ≤ X ∧ X ≤ 0)) : (0 ≤ Y ∧ Y ≤ V) ∨ (V ≤ Y ∧ Y ≤ 0) := by
  have e : U * (V - Y) = V * (U - X) := by rw [Int.mul_sub, Int.mul_sub, h, Int.mul_comm U V]
  have hv : ∀ W : Int, V = 0 → V * W = 0 := by intro W q; rw [q, Int.zero_mul]
  have v1 := hv X
  have v2 := hv (U - X)
  rcases (by omega : U < 0 ∨ 0 < U) with c | c
  · have a := sw_gt (p := Y) c
    have b := sw_gt (p := V - Y) c
    rcases Int.lt_trichotomy V 0 with d | d | d
    · have x := sw_gt (p := X) d
      have y := sw_gt (p := U - X) d
      omega
    · have := v1 d; have := v2 d; omega
    · have x := sw_zgs (p := X) d
      have y := sw_zgs (p := U - X) d
      omega
  · have a := sw_zgs (p := Y) c
    have b := sw_zgs (p := V - Y) c
    rcases Int.lt_trichotomy V 0 with d | d | d
    · have x := sw_gt (p := X) d
      have y := sw_gt (p := U - X) d
      omega
    · have := v1 d; have := v2 d; omega
    · have x := sw_zgs (p := X) d
      have y := sw_zgs (p := U - X) d
      omega
/-- on the line, and between in x: on the segment -/
theorem sw_gI_x {ax ay bx byy cx cy : Int} (h : sw_zgS ax ay bx byy cx cy = 0) (hx : ¬ ax = bx) (k : sw_gB cx ax bx) : sw_gI ax ay bx byy cx cy := by
  refine ⟨h, k, ?_⟩
  unfold sw_zgS at h
  unfold sw_gB at k ⊢
  have := sw_gc (U := bx - ax) (V := byy - ay) (X := cx - ax) (Y := cy - ay) (by omega) (by omega) (by omega)
  omega
theorem sw_gS_xy (ax ay bx byy cx cy : Int) : sw_zgS ay ax byy bx cy cx = - sw_zgS ax ay bx byy cx cy := by unfold sw_zgS; grind
theorem sw_gI_y {ax ay bx byy cx cy : Int} (h : sw_zgS ax ay bx byy cx cy = 0) (hy : ¬ ay = byy) (k : sw_gB cy ay byy) : sw_gI ax ay bx byy cx cy := by
  have := sw_gI_x (ax := ay) (ay := ax) (bx := byy) (byy := bx) (cx := cy) (cy := cx) (by rw [sw_gS_xy]; omega) hy k
  exact ⟨h, this.2.2, this.2.1⟩
/-- all on one line, the boxes meet: an end lies on the other segment -/
theorem sw_gI_col {ax ay bx byy cx cy dx dy : Int} (n1 : ¬ (ax = bx ∧ ay = byy)) (n2 : ¬ (cx = dx ∧ cy = dy)) (s1 : sw_zgS ax ay bx byy cx cy = 0) (s2 : sw_zgS ax ay bx byy dx dy = 0) (t1 : sw_zgS cx cy dx dy ax ay = 0) (t2 : sw_zgS cx cy dx dy bx byy = 0) (m1 : sw_gM ax bx cx dx) (m2 : sw_gM ay byy cy dy) :
    sw_gI ax ay bx byy cx cy ∨ sw_gI ax ay bx byy dx dy ∨ sw_gI cx cy dx dy ax ay ∨ sw_gI cx cy dx dy bx byy := by
  by_cases hx : ax = bx
  · have hy : ¬ ay = byy := fun q => n1 ⟨hx, q⟩
    have hc : cx = ax ∧ dx = ax := by
      unfold sw_zgS at s1 s2
      rw [hx] at s1 s2
      simp only [Int.sub_self, Int.zero_mul, Int.zero_sub] at s1 s2
      rcases Int.mul_eq_zero.mp (show (byy - ay) * (cx - bx) = 0 by omega) with g | g <;> rcases Int.mul_eq_zero.mp (show (byy - ay) * (dx - bx) = 0 by omega) with g' | g' <;> omega
    have hd : ¬ cy = dy := by omega
    unfold sw_gM at m2
    rcases (by unfold sw_gB; omega : sw_gB cy ay byy ∨ sw_gB dy ay byy ∨ sw_gB ay cy dy ∨ sw_gB byy cy dy) with q | q | q | q
    · exact Or.inl (sw_gI_y s1 hy q)
    · exact Or.inr (Or.inl (sw_gI_y s2 hy q))
    · exact Or.inr (Or.inr (Or.inl (sw_gI_y t1 hd q)))
    · exact Or.inr (Or.inr (Or.inr (sw_gI_y t2 hd q)))
  · have hd : ¬ cx = dx := by
      intro q
      refine n2 ⟨q, ?_⟩
      unfold sw_zgS at s1 s2
      rw [q] at s1
      have e : (bx - ax) * (cy - dy) = 0 := by
        rw [show cy - dy = (cy - ay) - (dy - ay) by omega, Int.mul_sub]
        omega
      rcases Int.mul_eq_zero.mp e with g | g <;> omega
    unfold sw_gM at m1
    rcases (by unfold sw_gB; omega : sw_gB cx ax bx ∨ sw_gB dx ax bx ∨ sw_gB ax cx dx ∨ sw_gB bx cx dx) with q | q | q | q
    · exact Or.inl (sw_gI_x s1 hx q)
    · exact Or.inr (Or.inl (sw_gI_x s2 hx q))
    · exact Or.inr (Or.inr (Or.inl (sw_gI_x t1 hd q)))
    · exact Or.inr (Or.inr (Or.inr (sw_gI_x t2 hd q)))
/-- two segments with no end in common -/
theorem sw_gL1 {ax ay bx byy cx cy dx dy : Int} (n1 : ¬ (ax = bx ∧ ay = byy)) (n2 : ¬ (cx = dx ∧ cy = dy)) :
    (sw_gM ax bx cx dx ∧ sw_gM ay byy cy dy ∧ sw_gX (sw_zgS ax ay bx byy cx cy) (sw_zgS ax ay bx byy dx dy) ∧ sw_gX (sw_zgS cx cy dx dy ax ay) (sw_zgS cx cy dx dy bx byy)) ↔
    (sw_gI ax ay bx byy cx cy ∨ sw_gI ax ay bx byy dx dy ∨ sw_gI cx cy dx dy ax ay ∨ sw_gI cx cy dx dy bx byy ∨ (sw_gO (sw_zgS ax ay bx byy cx cy) (sw_zgS ax ay bx byy dx dy) ∧ sw_gO (sw_zgS cx cy dx dy ax ay) (sw_zgS cx cy dx dy bx byy))) := by
  have e := sw_gS_diff ax ay bx byy cx cy dx dy
  constructor
  · rintro ⟨m1, m2, x1, x2⟩
    have hu1 := x1
    have hu2 := x2
    unfold sw_gX at hu1 hu2
    by_cases a1 : sw_zgS ax ay bx byy cx cy = 0
    · by_cases a2 : sw_zgS ax ay bx byy dx dy = 0
      · have := sw_gI_col n1 n2 a1 a2 (by omega) (by omega) m1 m2
        rcases this with q | q | q | q
        · exact Or.inl q
        · exact Or.inr (Or.inl q)
        · exact Or.inr (Or.inr (Or.inl q))
        · exact Or.inr (Or.inr (Or.inr (Or.inl q)))
      · exact Or.inl (sw_gX_I a1 x2 (by omega))
    · by_cases a2 : sw_zgS ax ay bx byy dx dy = 0
      · refine Or.inr (Or.inl (sw_gX_I (dx := cx) (dy := cy) a2 ?_ ?_))
        · rw [sw_gS_swap cx cy dx dy ax ay, sw_gS_swap cx cy dx dy bx byy]; exact sw_gX_neg.mpr x2
        · rw [sw_gS_swap cx cy dx dy ax ay, sw_gS_swap cx cy dx dy bx byy]; omega
      · by_cases b1 : sw_zgS cx cy dx dy ax ay = 0
        · exact Or.inr (Or.inr (Or.inl (sw_gX_I b1 x1 (by omega))))
        · by_cases b2 : sw_zgS cx cy dx dy bx byy = 0
          · refine Or.inr (Or.inr (Or.inr (Or.inl (sw_gX_I (dx := ax) (dy := ay) b2 ?_ ?_))))
            · rw [sw_gS_swap ax ay bx byy cx cy, sw_gS_swap ax ay bx byy dx dy]; exact sw_gX_neg.mpr x1
            · rw [sw_gS_swap ax ay bx byy cx cy, sw_gS_swap ax ay bx byy dx dy]; omega
          · refine Or.inr (Or.inr (Or.inr (Or.inr ?_)))
            unfold sw_gO
            omega
  · rintro (q | q | q | q | ⟨q1, q2⟩)
    · obtain ⟨x1, x2, m1, m2⟩ := sw_gI_X (dx := dx) (dy := dy) q
      exact ⟨m1, m2, x1, x2⟩
    · obtain ⟨x1, x2, m1, m2⟩ := sw_gI_X (dx := cx) (dy := cy) q
      rw [sw_gS_swap cx cy dx dy ax ay, sw_gS_swap cx cy dx dy bx byy] at x2
      refine ⟨?_, ?_, sw_gX_comm.mp x1, sw_gX_neg.mp x2⟩
      · unfold sw_gM at *; omega
      · unfold sw_gM at *; omega
    · obtain ⟨x1, x2, m1, m2⟩ := sw_gI_X (dx := bx) (dy := byy) q
      refine ⟨?_, ?_, x2, x1⟩
      · unfold sw_gM at *; omega
      · unfold sw_gM at *; omega
    · obtain ⟨x1, x2, m1, m2⟩ := sw_gI_X (dx := ax) (dy := ay) q
      rw [sw_gS_swap ax ay bx byy cx cy, sw_gS_swap ax ay bx byy dx dy] at x2
      refine ⟨?_, ?_, sw_gX_neg.mp x2, sw_gX_comm.mp x1⟩
      · unfold sw_gM at *; omega
      · unfold sw_gM at *; omega
    · obtain ⟨m1, m2⟩ := sw_gO_M q1 q2
      refine ⟨m1, m2, ?_, ?_⟩
      · unfold sw_gO at q1; unfold sw_gX; omega
      · unfold sw_gO at q2; unfold sw_gX; omega
/-- two segments from o, to p and to q -/
theorem sw_gL2 {ox oy px py qx qy : Int} (n1 : ¬ (ox = px ∧ oy = py)) (n2 : ¬ (ox = qx ∧ oy = qy)) :
    (sw_zgS ox oy px py qx qy = 0 ∧ 0 < (px - ox) * (qx - ox) + (py - oy) * (qy - oy)) ↔ ((px = qx ∧ py = qy) ∨ sw_gI ox oy px py qx qy ∨ sw_gI ox oy qx qy px py) := by
  have hsw : sw_zgS ox oy qx qy px py = - sw_zgS ox oy px py qx qy := by unfold sw_zgS; grind
  constructor
  · rintro ⟨h, k⟩
    have h' := h
    unfold sw_zgS at h'
    by_cases hx : ox = px
    · have hy : ¬ oy = py := fun q => n1 ⟨hx, q⟩
      rw [hx] at h' k
      simp only [Int.sub_self, Int.zero_mul, Int.zero_sub, Int.zero_add] at h' k
      have hq : qx = px := by
        rcases Int.mul_eq_zero.mp (show (py - oy) * (qx - px) = 0 by omega) with g | g <;> omega
      have hy' : ¬ oy = qy := by omega
      have hb : sw_gB qy oy py ∨ sw_gB py oy qy := by
        unfold sw_gB
        rcases (by omega : py - oy < 0 ∨ 0 < py - oy) with c | c
        · have := (sw_gt (p := qy - oy) c).1
          omega
        · have := (sw_zgs (p := qy - oy) c).1
          omega
      rcases hb with b | b
      · exact Or.inr (Or.inl (sw_gI_y h hy b))
      · exact Or.inr (Or.inr (sw_gI_y (by omega) hy' b))
    · have hqx : ¬ ox = qx := by
        intro q
        rw [← q] at h'
        simp only [Int.sub_self, Int.mul_zero, Int.sub_zero] at h'
        rcases Int.mul_eq_zero.mp h' with g | g <;> omega
      have hb : sw_gB qx ox px ∨ sw_gB px ox qx := by
        have hc : ¬ (px - ox) * (qx - ox) < 0 := by
          intro hneg
          have hpos : 0 < (py - oy) * (qy - oy) := by omega
          have e : ((px - ox) * (qx - ox)) * ((py - oy) * (qy - oy)) = ((px - ox) * (qy - oy)) * ((px - ox) * (qy - oy)) := by
            have : (px - ox) * (qy - oy) = (py - oy) * (qx - ox) := by omega
            grind
          have e1 := (sw_gt (p := (py - oy) * (qy - oy)) hneg).2
          have e2 : 0 ≤ ((px - ox) * (qy - oy)) * ((px - ox) * (qy - oy)) := by
            rcases Int.lt_trichotomy ((px - ox) * (qy - oy)) 0 with c | c | c
            · have := (sw_gt (p := (px - ox) * (qy - oy)) c).1
              omega
            · rw [c]; decide
            · have := (sw_zgs (p := (px - ox) * (qy - oy)) c).1
              omega
          omega
        unfold sw_gB
        rcases (by omega : px - ox < 0 ∨ 0 < px - ox) with c | c
        · have := (sw_gt (p := qx - ox) c).2
          omega
        · have := (sw_zgs (p := qx - ox) c).2
          omega
      rcases hb with b | b
      · exact Or.inr (Or.inl (sw_gI_x h hx b))
      · exact Or.inr (Or.inr (sw_gI_x (by omega) hqx b))
  · have key : ∀ ax bx : Int, ((0 ≤ ax ∧ 0 ≤ bx) ∨ (ax ≤ 0 ∧ bx ≤ 0)) → 0 ≤ ax * bx ∧ (¬ ax = 0 → ¬ bx = 0 → 0 < ax * bx) := by
      intro a b h
      rcases Int.lt_trichotomy a 0 with c | c | c
      · have := (sw_gt (p := b) c)
        omega
      · rw [c, Int.zero_mul]; omega
      · have := (sw_zgs (p := b) c)
        omega
    rintro (⟨h1, h2⟩ | ⟨h, b1, b2⟩ | ⟨h, b1, b2⟩)
    · subst h1 h2
      refine ⟨by unfold sw_zgS; grind, ?_⟩
      have k1 := key (px - ox) (px - ox) (by omega)
      have k2 := key (py - oy) (py - oy) (by omega)
      omega
    · refine ⟨h, ?_⟩
      unfold sw_gB at b1 b2
      have k1 := key (px - ox) (qx - ox) (by omega)
      have k2 := key (py - oy) (qy - oy) (by omega)
      omega
    · refine ⟨by omega, ?_⟩
      unfold sw_gB at b1 b2
      have k1 := key (px - ox) (qx - ox) (by omega)
      have k2 := key (py - oy) (qy - oy) (by omega)
      omega
