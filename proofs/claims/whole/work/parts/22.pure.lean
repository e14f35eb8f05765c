/-! numbers for the reference -/
theorem sw_gd0 {gd : Int32} {a t e : Bool} (h : gd = sw_b (a && !t)) (hc : gd = 0) : (0 : Int32) = sw_b (a && !(t || e)) := by
  rw [h, sw_b0] at hc
  cases a <;> cases t <;> cases e <;> simp_all [sw_b]
theorem sw_gd1 {gd : Int32} {a t e : Bool} (h : gd = sw_b (a && !t)) (hc : ¬ gd = 0) (he : e = false) : (1 : Int32) = sw_b (a && !(t || e)) := by
  rw [h, sw_bn] at hc
  cases a <;> cases t <;> cases e <;> simp_all [sw_b]
theorem sw_gd2 {a t e : Bool} (he : e = true) : (0 : Int32) = sw_b (a && !(t || e)) := by
  cases a <;> cases t <;> cases e <;> simp_all [sw_b]
theorem sw_vb_g {nv : Int32} {vx vy : Nat → Int32} {x y : Int32} : sw_vb nv vx vy x y = ((sw_wi x 2000 && sw_wi y 2000 && !(decide (64 ≤ nv))) && !(sw_tk vx vy x y nv.toNatClampNeg)) := by
  unfold sw_vb sw_avb
  cases sw_wi x 2000 <;> cases sw_wi y 2000 <;> simp
theorem sw_vb_64 {nv : Int32} {vx vy : Nat → Int32} {x y : Int32} (h : sw_vb nv vx vy x y = true) : ¬ (64 : Int32) ≤ nv := by
  intro q
  rw [sw_vb_g] at h
  simp [q] at h
theorem sw_okin3 {x : Int32} {N : Nat} (h : sw_ok x N) (hN : N < 2 ^ 31) (hc : ¬ x = nI N) : vp_in x N := by
  have h2 := h.2
  rw [h.1]
  refine vp_in_nI ?_ hN
  rcases Nat.lt_or_ge x.toNatClampNeg N with q | q
  · exact q
  · exact absurd (by rw [h.1, show x.toNatClampNeg = N by omega]) hc
theorem sw_in4 {x : Int32} (h0 : ¬ x < 0) (hc : x ≤ 3) : vp_in x 4 := by
  rw [vp_in_iff]
  rw [Int32.lt_iff_toInt_lt, Int32.toInt_zero] at h0
  rw [Int32.le_iff_toInt_le, show (3 : Int32).toInt = 3 by decide] at hc
  omega
def sw_lkm (x nv ns nw gnv gns gnw nt sd nb : Int32) : Int32 :=
  if x.toInt = 0 then nv else if x.toInt = 1 then ns else if x.toInt = 2 then nw
  else if x.toInt = 3 then (if nb ≤ 0 then -1 else gnv) else if x.toInt = 4 then (if nb ≤ 0 then -1 else gns) else if x.toInt = 5 then (if nb ≤ 0 then -1 else gnw)
  else if x.toInt = 6 then nt else if x.toInt = 7 then (if sd = 0 then 0 else 1) else if x.toInt = 8 then nb else -1
theorem sw_cps {f bo bw : Nat → Int32} {k : Nat} (h : ∀ j : Nat, f j = if j < k then bo j else bw j) : ∀ j : Nat, upd f k (bo k) j = if j < k + 1 then bo j else bw j := by
  intro j
  by_cases e : j = k
  · subst e; rw [pk_us, if_pos (by omega)]
  · rw [pk_un e, h j]
    by_cases q : j < k
    · rw [if_pos q, if_pos (by omega)]
    · rw [if_neg q, if_neg (by omega)]
theorem sw_lt4 {i : Int32} {k : Nat} (hi : i = nI k) (hk : k ≤ 4) (hc : ¬ (4 : Int32) ≤ i) : k < 4 := by
  rcases Nat.lt_or_ge k 4 with q | q
  · exact q
  · exact absurd (by rw [hi, show k = 4 by omega]; decide) hc
theorem sw_ge4 {i : Int32} {k : Nat} (hi : i = nI k) (hk : k ≤ 4) (hc : (4 : Int32) ≤ i) : k = 4 := by
  rw [hi, show (4 : Int32) = nI 4 from rfl] at hc
  have := (nI_leI (by decide) (by omega)).mp hc
  omega
def sw_kk (x : Int32) : Int32 :=
  if x.toInt = 0 then 256 else if x.toInt = 1 then 255 else if x.toInt = 2 then 251 else if x.toInt = 3 then 245 else if x.toInt = 4 then 237 else if x.toInt = 5 then 226
  else if x.toInt = 6 then 213 else if x.toInt = 7 then 198 else if x.toInt = 8 then 181 else if x.toInt = 9 then 162 else if x.toInt = 10 then 142 else if x.toInt = 11 then 121
  else if x.toInt = 12 then 98 else if x.toInt = 13 then 74 else if x.toInt = 14 then 50 else if x.toInt = 15 then 25 else 0
def sw_cm (a : Int32) : Int32 := if 17 ≤ a then (if 33 ≤ a then (if 49 ≤ a then sw_kk (64 - a) else -(sw_kk (a - 32))) else -(sw_kk (32 - a))) else sw_kk a
def sw_pt (v : Int32) : Int32 := if (!(decide (0 ≤ v)) && !(decide (v / 256 * 256 = v))) = true then v / 256 - 1 else v / 256
def sw_sdl (vx vy : Nat → Int32) (a b c : Nat) : Int64 := (vx b - vx a).toInt64 * (vy c - vy a).toInt64 - (vy b - vy a).toInt64 * (vx c - vx a).toInt64
def sw_sg (v : Int64) : Int32 := if 0 ≤ lg_cmp v 0 then (if lg_cmp v 0 ≤ 0 then 0 else 1) else -1
def sw_btw (v a b : Int32) : Bool := if b ≤ a then !(decide (v < b)) && !(decide (a < v)) else !(decide (v < a)) && !(decide (b < v))
def sw_isin (vx vy : Nat → Int32) (v a b : Int32) : Bool :=
  !(decide (v = a)) && !(decide (v = b)) && decide (sw_sg (sw_sdl vx vy a.toNatClampNeg b.toNatClampNeg v.toNatClampNeg) = 0) && sw_btw (vx v.toNatClampNeg) (vx a.toNatClampNeg) (vx b.toNatClampNeg) && sw_btw (vy v.toNatClampNeg) (vy a.toNatClampNeg) (vy b.toNatClampNeg)
def sw_crx (vx vy : Nat → Int32) (a b c d : Int32) : Bool :=
  !(decide (0 ≤ sw_sg (sw_sdl vx vy a.toNatClampNeg b.toNatClampNeg c.toNatClampNeg) * sw_sg (sw_sdl vx vy a.toNatClampNeg b.toNatClampNeg d.toNatClampNeg)))
    && !(decide (0 ≤ sw_sg (sw_sdl vx vy c.toNatClampNeg d.toNatClampNeg a.toNatClampNeg) * sw_sg (sw_sdl vx vy c.toNatClampNeg d.toNatClampNeg b.toNatClampNeg)))
def sw_clm (vx vy : Nat → Int32) (a b c d : Int32) : Bool :=
  ((decide (a = c) && decide (b = d)) || (decide (a = d) && decide (b = c))) || (sw_isin vx vy a c d || sw_isin vx vy b c d || sw_isin vx vy c a b || sw_isin vx vy d a b) || sw_crx vx vy a b c d
theorem sw_clm_tw {vx vy : Nat → Int32} {a b c d : Int32} (h : ((decide (a = c) && decide (b = d)) || (decide (a = d) && decide (b = c))) = true) : sw_clm vx vy a b c d = true := by
  unfold sw_clm; rw [h]; simp
theorem sw_clm_in {vx vy : Nat → Int32} {a b c d : Int32} (_ : ((decide (a = c) && decide (b = d)) || (decide (a = d) && decide (b = c))) = false) (h : (sw_isin vx vy a c d || sw_isin vx vy b c d || sw_isin vx vy c a b || sw_isin vx vy d a b) = true) : sw_clm vx vy a b c d = true := by
  unfold sw_clm; rw [h]; simp
theorem sw_clm_no {vx vy : Nat → Int32} {a b c d : Int32} (h1 : ((decide (a = c) && decide (b = d)) || (decide (a = d) && decide (b = c))) = false) (h : (sw_isin vx vy a c d || sw_isin vx vy b c d || sw_isin vx vy c a b || sw_isin vx vy d a b) = false) : sw_clm vx vy a b c d = sw_crx vx vy a b c d := by
  unfold sw_clm; rw [h, h1]; simp
theorem sw_neg {x : Int32} (h : x < 0) (h2 : 0 ≤ x) : False := by
  rw [Int32.lt_iff_toInt_lt] at h
  rw [Int32.le_iff_toInt_le] at h2
  omega
def sw_stm (p6 p7 p8 : Nat → Int32) (w : Nat) (near far : Int32) : Bool :=
  !(decide (0 ≤ p6 w)) || (decide (24 < p7 far.toNatClampNeg - p7 near.toNatClampNeg) || !(decide (56 ≤ (if p8 far.toNatClampNeg ≤ p8 near.toNatClampNeg then p8 far.toNatClampNeg else p8 near.toNatClampNeg) - (if p7 near.toNatClampNeg ≤ p7 far.toNatClampNeg then p7 far.toNatClampNeg else p7 near.toNatClampNeg))))
def sw_adF (p q : Int64) (a b : Int64) : Bool := !(decide (lg_cmp (a * q) (p * b) ≤ 0))
def sw_adf (x : Int32) (p q : Int64) : Nat → (Nat → Int32) × (Nat → Int64) × (Nat → Int64) → (Nat → Int32) × (Nat → Int64) × (Nat → Int64)
  | 0, s => (upd s.1 0 x, vp_updL s.2.1 0 p, vp_updL s.2.2 0 q)
  | k + 1, s => if sw_adF p q (s.2.1 k) (s.2.2 k) = true then sw_adf x p q k (upd s.1 (k + 1) (s.1 k), vp_updL s.2.1 (k + 1) (s.2.1 k), vp_updL s.2.2 (k + 1) (s.2.2 k)) else (upd s.1 (k + 1) x, vp_updL s.2.1 (k + 1) p, vp_updL s.2.2 (k + 1) q)
theorem sw_adf_s {x : Int32} {p q : Int64} {k : Nat} {f1 : Nat → Int32} {f2 f3 : Nat → Int64} (h : ¬ lg_cmp (f2 k * q) (p * f3 k) ≤ 0) : sw_adf x p q (k + 1) (f1, f2, f3) = sw_adf x p q k (upd f1 (k + 1) (f1 k), vp_updL f2 (k + 1) (f2 k), vp_updL f3 (k + 1) (f3 k)) := by
  have e : sw_adF p q (f2 k) (f3 k) = true := by unfold sw_adF; simp [h]
  show (if sw_adF p q (f2 k) (f3 k) = true then _ else _) = _
  rw [if_pos e]
theorem sw_adf_e {x : Int32} {p q : Int64} {k : Nat} {f1 : Nat → Int32} {f2 f3 : Nat → Int64} (h : lg_cmp (f2 k * q) (p * f3 k) ≤ 0) : sw_adf x p q (k + 1) (f1, f2, f3) = (upd f1 (k + 1) x, vp_updL f2 (k + 1) p, vp_updL f3 (k + 1) q) := by
  have e : ¬ sw_adF p q (f2 k) (f3 k) = true := by unfold sw_adF; simp [h]
  show (if sw_adF p q (f2 k) (f3 k) = true then _ else _) = _
  rw [if_neg e]
theorem sw_tw0 {a b c d : Int32} (h1 : ¬ (a = c ∧ b = d)) (h2 : ¬ (a = d ∧ b = c)) : ((decide (a = c) && decide (b = d)) || (decide (a = d) && decide (b = c))) = false := by
  rw [← Bool.decide_and, ← Bool.decide_and, decide_eq_false h1, decide_eq_false h2]; rfl
theorem sw_tw1 {a b c d : Int32} (h : (a = c ∧ b = d) ∨ (a = d ∧ b = c)) : ((decide (a = c) && decide (b = d)) || (decide (a = d) && decide (b = c))) = true := by
  rcases h with h | h
  · rw [decide_eq_true h.1, decide_eq_true h.2]; rfl
  · rw [decide_eq_true h.1, decide_eq_true h.2]; simp
