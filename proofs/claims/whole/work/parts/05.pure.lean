/-! numbers and tables, without the machine -/
def sw_b (b : Bool) : Int32 := if b = true then 1 else 0
theorem sw_b0 {b : Bool} : sw_b b = 0 ↔ b = false := by
  cases b <;> simp [sw_b]
theorem sw_bn {b : Bool} : ¬ sw_b b = 0 ↔ b = true := by
  cases b <;> simp [sw_b]
theorem sw_bnar (b : Bool) : narrow .boolean (.int (sw_b b)) = .int (sw_b b) := by
  cases b <;> rfl
def sw_cosl : List Int32 := [256, 255, 251, 245, 237, 226, 213, 198, 181, 162, 142, 121, 98, 74, 50, 25, 0]
def sw_cos (j : Nat) : Int32 := sw_cosl.getD j 0
def sw_ok (x : Int32) (N : Nat) : Prop := x = nI x.toNatClampNeg ∧ x.toNatClampNeg ≤ N
theorem sw_nle {x i : Int32} {N k : Nat} (h : sw_ok x N) (hN : N < 2 ^ 31 := by decide) (hi : i = nI k) (hk : k ≤ x.toNatClampNeg) (hc : ¬ x ≤ i) : k < x.toNatClampNeg := by
  rcases Nat.lt_or_ge k x.toNatClampNeg with q | q
  · exact q
  · exfalso
    apply hc
    rw [h.1, hi]
    have := h.2
    exact nI_le q (by omega)
theorem sw_end {x i : Int32} {N k : Nat} (h : sw_ok x N) (hN : N < 2 ^ 31 := by decide) (hi : i = nI k) (hk : k ≤ x.toNatClampNeg) (hc : x ≤ i) : x.toNatClampNeg = k := by
  rcases Nat.lt_or_ge k x.toNatClampNeg with q | q
  · exfalso
    have h2 := h.2
    have h3 := nI_ge q (by omega)
    rw [← h.1, ← hi] at h3
    exact h3 hc
  · omega
def sw_wi (x k : Int32) : Bool := decide (¬ x < -k) && decide (¬ k < x)
def sw_hv (x n : Int32) : Bool := decide (¬ x < 0) && decide (¬ n ≤ x)
def sw_tk (vx vy : Nat → Int32) (x y : Int32) : Nat → Bool
  | 0 => false
  | k + 1 => sw_tk vx vy x y k || (decide (vx k = x) && decide (vy k = y))
theorem sw_tk_hit {vx vy : Nat → Int32} {x y : Int32} {k n : Nat} (h : k < n) (hx : vx k = x) (hy : vy k = y) : sw_tk vx vy x y n = true := by
  induction n with
  | zero => omega
  | succ n ih =>
    unfold sw_tk
    rcases Nat.lt_or_ge k n with q | q
    · rw [ih q]; rfl
    · rw [show n = k by omega, hx, hy]; simp
theorem sw_okin {x : Int32} {N : Nat} (h : sw_ok x N) (hc : ¬ nI N ≤ x) (hN : N < 2 ^ 31 := by decide) : vp_in x N := by
  rw [h.1]
  refine vp_in_nI ?_ hN
  rcases Nat.lt_or_ge x.toNatClampNeg N with q | q
  · exact q
  · exact absurd (by rw [h.1]; exact nI_le q (by have := h.2; omega)) hc
theorem sw_okin2 {x : Int32} {N : Nat} (h : sw_ok x N) (hc : x < nI N) (hN : N < 2 ^ 31 := by decide) : vp_in x N := by
  refine sw_okin h (fun q => ?_) hN
  rw [Int32.le_iff_toInt_le] at q
  rw [Int32.lt_iff_toInt_lt] at hc
  omega
def sw_mx (x y : Int32) : Int32 := if x < y then y else x
def sw_mn (x y : Int32) : Int32 := if y < x then y else x
def sw_ab (x : Int32) : Int32 := if 0 ≤ x then x else 0 - x
def sw_side (vx vy : Nat → Int32) (a b c : Nat) : Int32 := (vx b - vx a) * (vy c - vy a) - (vy b - vy a) * (vx c - vx a)
def sw_str (a b : Int32) : Bool := !(!(decide (a ≤ 0)) && decide (0 < b)) && !(!(decide (0 ≤ a)) && decide (b < 0))
def sw_la (vx vy : Nat → Int32) (a p q : Nat) : Bool :=
  decide ((vx p - vx a) * (vy q - vy a) - (vy p - vy a) * (vx q - vx a) = 0) && !(decide ((vx p - vx a) * (vx q - vx a) + (vy p - vy a) * (vy q - vy a) ≤ 0))
def sw_bm (f : Nat → Int32) (a b c d : Nat) : Bool :=
  !(decide (sw_mx (f a) (f b) < sw_mn (f c) (f d))) && !(decide (sw_mx (f c) (f d) < sw_mn (f a) (f b)))
def sw_cl4 (vx vy : Nat → Int32) (a b c d : Int32) : Bool :=
  if a = c then sw_la vx vy a.toNatClampNeg b.toNatClampNeg d.toNatClampNeg
  else if a = d then sw_la vx vy a.toNatClampNeg b.toNatClampNeg c.toNatClampNeg
  else if b = c then sw_la vx vy b.toNatClampNeg a.toNatClampNeg d.toNatClampNeg
  else if b = d then sw_la vx vy b.toNatClampNeg a.toNatClampNeg c.toNatClampNeg
  else sw_bm vx a.toNatClampNeg b.toNatClampNeg c.toNatClampNeg d.toNatClampNeg && sw_bm vy a.toNatClampNeg b.toNatClampNeg c.toNatClampNeg d.toNatClampNeg
    && sw_str (sw_side vx vy a.toNatClampNeg b.toNatClampNeg c.toNatClampNeg) (sw_side vx vy a.toNatClampNeg b.toNatClampNeg d.toNatClampNeg)
    && sw_str (sw_side vx vy c.toNatClampNeg d.toNatClampNeg a.toNatClampNeg) (sw_side vx vy c.toNatClampNeg d.toNatClampNeg b.toNatClampNeg)
def sw_clash (vx vy fa tb : Nat → Int32) (v w : Nat) : Bool := sw_cl4 vx vy (fa v) (tb v) (fa w) (tb w)
def sw_hit (C : Nat → Nat → Bool) (j : Nat) : Nat → Bool
  | 0 => false
  | k + 1 => sw_hit C j k || C k j
theorem sw_hit_at {C : Nat → Nat → Bool} {j k n : Nat} (h : k < n) (hc : C k j = true) : sw_hit C j n = true := by
  induction n with
  | zero => omega
  | succ n ih =>
    unfold sw_hit
    rcases Nat.lt_or_ge k n with q | q
    · rw [ih q]; rfl
    · rw [show n = k by omega, hc]; simp
def sw_fw (C : Nat → Nat → Bool) (n : Nat) (r : Int32) : Prop :=
  (r = -1 ∧ ∀ j, j < n → sw_hit C j j = false) ∨ ∃ j, j < n ∧ r = nI j ∧ sw_hit C j j = true ∧ ∀ i, i < j → sw_hit C i i = false
def sw_stf (fl ce : Nat → Int32) (near far : Int32) : Bool :=
  decide (24 < fl far.toNatClampNeg - fl near.toNatClampNeg) || !(decide (56 ≤ sw_mn (ce near.toNatClampNeg) (ce far.toNatClampNeg) - sw_mx (fl near.toNatClampNeg) (fl far.toNatClampNeg)))
def sw_stop (fl ce fr bk : Nat → Int32) (j : Nat) (ff : Bool) : Bool :=
  decide (bk j = -1) || (if ff = true then sw_stf fl ce (fr j) (bk j) else sw_stf fl ce (bk j) (fr j))
def sw_far (pp qq : Nat → Int32) (v w : Nat) : Bool :=
  !(decide (lg_cmp ((sw_ab (pp v)).toInt64 * (sw_ab (qq w)).toInt64) ((sw_ab (pp w)).toInt64 * (sw_ab (qq v)).toInt64) ≤ 0))
def sw_up1 (x y : Int32) : Bool := if y ≤ 0 then !(decide (0 ≤ x)) && !(decide (x < y)) else !(decide (x ≤ 0)) && !(decide (y < x))
def sw_insf (F : Int32 → Bool) (x : Int32) : Nat → (Nat → Int32) → (Nat → Int32)
  | 0, f => upd f 0 x
  | k + 1, f => if F (f k) = true then sw_insf F x k (upd f (k + 1) (f k)) else upd f (k + 1) x
theorem sw_nlt {x i : Int32} {N k : Nat} (h : sw_ok x N) (hN : N < 2 ^ 31) (hi : i = nI k) (hk : k < 2 ^ 31) (hc : ¬ x ≤ i) : k < x.toNatClampNeg := by
  rcases Nat.lt_or_ge k x.toNatClampNeg with q | q
  · exact q
  · exact absurd (by rw [h.1, hi]; exact nI_le q hk) hc
theorem sw_end2 {x i : Int32} {N k : Nat} (h : sw_ok x N) (hN : N < 2 ^ 31) (hi : i = nI k) (hk : k < 2 ^ 31) (hc : x ≤ i) : x.toNatClampNeg ≤ k := by
  rw [h.1, hi] at hc
  have h2 := h.2
  exact (nI_leI (by omega) hk).mp hc
theorem sw_ege {i j : Int32} {k q : Nat} (hi : i = nI k) (hq : j = nI q) (h1 : k < 2 ^ 31) (h2 : q < 2 ^ 31) (hc : i ≤ j) (hle : q ≤ k) : k = q := by
  rw [hi, hq] at hc
  have := (nI_leI h1 h2).mp hc
  omega
theorem sw_egt {i j : Int32} {k q : Nat} (hi : i = nI k) (hq : j = nI q) (h1 : k < 2 ^ 31) (h2 : q < 2 ^ 31) (hc : ¬ i ≤ j) : q < k := by
  rw [hi, hq, nI_leI h1 h2] at hc
  omega
theorem sw_hit_s {C : Nat → Nat → Bool} {k : Nat} (h : ∀ j : Nat, j < k → sw_hit C j j = false) (hk : sw_hit C k k = false) : ∀ j : Nat, j < k + 1 → sw_hit C j j = false := by
  intro j hj
  rcases Nat.lt_or_ge j k with q | q
  · exact h j q
  · rw [show j = k by omega]; exact hk
theorem sw_okm1 {x : Int32} {N : Nat} (h : sw_ok x N) (hN : N < 2 ^ 31) (hc : ¬ x = 0) : vp_in (x - 1) N := by
  have h2 := h.2
  obtain ⟨k, hk⟩ : ∃ k, x.toNatClampNeg = k := ⟨_, rfl⟩
  cases k with
  | zero => exact absurd (by rw [h.1, hk]; exact nI_0) hc
  | succ k => rw [h.1, hk, nI_pred]; exact vp_in_nI (by omega) hN
theorem sw_pos {i : Int32} {q : Nat} (hi : i = nI q) (hq : q < 2 ^ 31) (hc : ¬ i ≤ 0) : ∃ z, q = z + 1 := by
  cases q with
  | zero => exact absurd (by rw [hi, nI_0]; decide) hc
  | succ z => exact ⟨z, rfl⟩
theorem sw_zero {i : Int32} {q : Nat} (hi : i = nI q) (hq : q < 2 ^ 31) (hc : i ≤ 0) : q = 0 := by
  cases q with
  | zero => rfl
  | succ z => rw [hi] at hc; exact absurd hc (nI_nle (Nat.succ_pos z) hq)
def sw_cra (vx vy : Nat → Int32) (a ox oy mx my : Int32) : Int32 := mx * (vy a.toNatClampNeg - oy) - my * (vx a.toNatClampNeg - ox)
def sw_crp (vx vy : Nat → Int32) (a b ox oy : Int32) : Int32 :=
  (vx a.toNatClampNeg - ox) * ((vy b.toNatClampNeg - oy) - (vy a.toNatClampNeg - oy)) - (vy a.toNatClampNeg - oy) * ((vx b.toNatClampNeg - ox) - (vx a.toNatClampNeg - ox))
def sw_isc (vx vy fa tb : Nat → Int32) (ox oy mx my : Int32) (pp qq : Nat → Int32) (j : Nat) : Int32 × (Nat → Int32) × (Nat → Int32) :=
  if decide (0 ≤ sw_cra vx vy (fa j) ox oy mx my) = decide (0 ≤ sw_cra vx vy (tb j) ox oy mx my) then (0, pp, qq)
  else (sw_b (sw_up1 (sw_crp vx vy (fa j) (tb j) ox oy) (sw_cra vx vy (tb j) ox oy mx my - sw_cra vx vy (fa j) ox oy mx my)), upd pp j (sw_crp vx vy (fa j) (tb j) ox oy), upd qq j (sw_cra vx vy (tb j) ox oy mx my - sw_cra vx vy (fa j) ox oy mx my))
def sw_avb (nv : Int32) (vx vy : Nat → Int32) (x y : Int32) : Bool := !(decide (64 ≤ nv)) && !(sw_tk vx vy x y nv.toNatClampNeg)
def sw_vb (nv : Int32) (vx vy : Nat → Int32) (x y : Int32) : Bool := sw_wi x 2000 && sw_wi y 2000 && sw_avb nv vx vy x y
def sw_sb (ns x y : Int32) : Bool := sw_wi x 256 && sw_wi y 256 && decide (x < y) && decide (ns < 16)
def sw_wb (nv ns nw x y z v : Int32) : Bool := sw_hv x nv && sw_hv y nv && !(decide (x = y)) && sw_hv z ns && (decide (v = -1) || sw_hv v ns) && decide (nw < 64)
theorem sw_inlt {x n : Int32} {N : Nat} (h : sw_ok n N) (hN : N < 2 ^ 31) (h0 : ¬ x < 0) (hc : x < n) : vp_in x N := by
  have h2 := h.2
  rw [vp_in_iff]
  rw [h.1, Int32.lt_iff_toInt_lt, nI_toInt (by omega)] at hc
  rw [Int32.lt_iff_toInt_lt, Int32.toInt_zero] at h0
  omega
def sw_wk (x wx wy wa ws : Int32) : Int32 := if x.toInt = 0 then wx else if x.toInt = 1 then wy else if x.toInt = 2 then wa else if x.toInt = 3 then ws else 100000
def sw_lk (x nv ns nw gnv gns gnw nt sd nb : Int32) : Int32 :=
  if x.toInt = 0 then nv else if x.toInt = 1 then ns else if x.toInt = 2 then nw
  else if x.toInt = 3 then (if nb = 0 then -1 else gnv) else if x.toInt = 4 then (if nb = 0 then -1 else gns) else if x.toInt = 5 then (if nb = 0 then -1 else gnw)
  else if x.toInt = 6 then nt else if x.toInt = 7 then (if sd = 0 then 0 else 1) else if x.toInt = 8 then nb else -1
def sw_fd (x y : Int32) : Int32 := if (!(decide (0 ≤ x ^^^ y)) && !(decide (x / y * y = x))) = true then x / y - 1 else x / y
def sw_fm (x y : Int32) : Int32 := if (!(decide (0 ≤ x ^^^ y)) && !(decide (x - x / y * y = 0))) = true then (x - x / y * y) + y else x - x / y * y
def sw_cosf (a : Int32) : Int32 :=
  if 32 < a then (if 16 < 64 - a then -(sw_cos (32 - (64 - a)).toNatClampNeg) else sw_cos (64 - a).toNatClampNeg)
  else (if 16 < a then -(sw_cos (32 - a).toNatClampNeg) else sw_cos a.toNatClampNeg)
theorem sw_iadd {a b : Int32} (h1 : -2147483648 ≤ a.toInt + b.toInt) (h2 : a.toInt + b.toInt < 2147483648) : (a + b).toInt = a.toInt + b.toInt := by
  rw [Int32.toInt_add]
  exact Int.bmod_eq_of_le (by omega) (by omega)
theorem sw_isub {a b : Int32} (h1 : -2147483648 ≤ a.toInt - b.toInt) (h2 : a.toInt - b.toInt < 2147483648) : (a - b).toInt = a.toInt - b.toInt := by
  rw [Int32.toInt_sub]
  exact Int.bmod_eq_of_le (by omega) (by omega)
theorem sw_imul {a b : Int32} (h1 : -2147483648 ≤ a.toInt * b.toInt) (h2 : a.toInt * b.toInt < 2147483648) : (a * b).toInt = a.toInt * b.toInt := by
  rw [Int32.toInt_mul]
  exact Int.bmod_eq_of_le (by omega) (by omega)
theorem sw_ltI {a b : Int32} : a < b ↔ a.toInt < b.toInt := Int32.lt_iff_toInt_lt
theorem sw_leI {a b : Int32} : a ≤ b ↔ a.toInt ≤ b.toInt := Int32.le_iff_toInt_le
theorem sw_i32 : (32 : Int32).toInt = 32 := by decide
theorem sw_i64 : (64 : Int32).toInt = 64 := by decide
theorem sw_i16 : (16 : Int32).toInt = 16 := by decide
theorem sw_cin1 {a : Int32} (h : 0 ≤ a.toInt ∧ a.toInt < 64) (h1 : ¬ 32 < a) (h2 : ¬ 16 < a) : vp_in a 17 := by
  rw [vp_in_iff]; rw [sw_ltI, sw_i16] at h2; omega
theorem sw_cin2 {a : Int32} (h : 0 ≤ a.toInt ∧ a.toInt < 64) (h1 : 32 < a) (h2 : ¬ 16 < 64 - a) : vp_in (64 - a) 17 := by
  have e : (64 - a).toInt = 64 - a.toInt := by rw [sw_isub (by rw [sw_i64]; omega) (by rw [sw_i64]; omega), sw_i64]
  rw [vp_in_iff, e]; rw [sw_ltI, sw_i16, e] at h2; rw [sw_ltI, sw_i32] at h1; omega
theorem sw_cin3 {a : Int32} (h : 0 ≤ a.toInt ∧ a.toInt < 64) (h1 : ¬ 32 < a) (h2 : 16 < a) : vp_in (32 - a) 17 := by
  have e : (32 - a).toInt = 32 - a.toInt := by rw [sw_isub (by rw [sw_i32]; omega) (by rw [sw_i32]; omega), sw_i32]
  rw [vp_in_iff, e]; rw [sw_ltI, sw_i16] at h2; rw [sw_ltI, sw_i32] at h1; omega
theorem sw_cin4 {a : Int32} (h : 0 ≤ a.toInt ∧ a.toInt < 64) (h1 : 32 < a) (h2 : 16 < 64 - a) : vp_in (32 - (64 - a)) 17 := by
  have e : (64 - a).toInt = 64 - a.toInt := by rw [sw_isub (by rw [sw_i64]; omega) (by rw [sw_i64]; omega), sw_i64]
  have e2 : (32 - (64 - a)).toInt = 32 - (64 - a).toInt := by rw [sw_isub (by rw [sw_i32]; omega) (by rw [sw_i32]; omega), sw_i32]
  rw [vp_in_iff, e2, e]; rw [sw_ltI, sw_i16, e] at h2; rw [sw_ltI, sw_i32] at h1; omega
def sw_fs1 (vx vy fa tb : Nat → Int32) (ox oy mx my : Int32) (od pp qq : Nat → Int32) : Nat → Int32 × (Nat → Int32) × (Nat → Int32) × (Nat → Int32)
  | 0 => (0, od, pp, qq)
  | j + 1 =>
    let s := sw_fs1 vx vy fa tb ox oy mx my od pp qq j
    let c := sw_isc vx vy fa tb ox oy mx my s.2.2.1 s.2.2.2 j
    if c.1 = 0 then (s.1, s.2.1, c.2.1, c.2.2)
    else (s.1 + 1, sw_insf (fun v => sw_far c.2.1 c.2.2 v.toNatClampNeg j) (nI j) s.1.toNatClampNeg s.2.1, c.2.1, c.2.2)
theorem sw_fs1_no {vx vy fa tb : Nat → Int32} {ox oy mx my : Int32} {od pp qq : Nat → Int32} {q : Nat} {n : Int32} {f1 f2 f3 : Nat → Int32} (h : (n, f1, f2, f3) = sw_fs1 vx vy fa tb ox oy mx my od pp qq q) (hc : (sw_isc vx vy fa tb ox oy mx my f2 f3 q).1 = 0) :
    (n, f1, (sw_isc vx vy fa tb ox oy mx my f2 f3 q).2.1, (sw_isc vx vy fa tb ox oy mx my f2 f3 q).2.2) = sw_fs1 vx vy fa tb ox oy mx my od pp qq (q + 1) := by
  unfold sw_fs1
  rw [← h]
  dsimp only
  rw [if_pos hc]
theorem sw_fs1_yes {vx vy fa tb : Nat → Int32} {ox oy mx my : Int32} {od pp qq : Nat → Int32} {q : Nat} {n : Int32} {f1 f2 f3 : Nat → Int32} (h : (n, f1, f2, f3) = sw_fs1 vx vy fa tb ox oy mx my od pp qq q) (hc : ¬ (sw_isc vx vy fa tb ox oy mx my f2 f3 q).1 = 0) :
    (n + 1, sw_insf (fun v => sw_far (sw_isc vx vy fa tb ox oy mx my f2 f3 q).2.1 (sw_isc vx vy fa tb ox oy mx my f2 f3 q).2.2 v.toNatClampNeg q) (nI q) n.toNatClampNeg f1, (sw_isc vx vy fa tb ox oy mx my f2 f3 q).2.1, (sw_isc vx vy fa tb ox oy mx my f2 f3 q).2.2) = sw_fs1 vx vy fa tb ox oy mx my od pp qq (q + 1) := by
  unfold sw_fs1
  rw [← h]
  dsimp only
  rw [if_neg hc]
def sw_od (n : Int32) (f : Nat → Int32) (q : Nat) : Prop := sw_ok n q ∧ ∀ j, j < n.toNatClampNeg → ∃ v, v < q ∧ f j = nI v
theorem sw_ok_mono {x : Int32} {N M : Nat} (h : sw_ok x N) (hm : N ≤ M) : sw_ok x M := ⟨h.1, Nat.le_trans h.2 hm⟩
theorem sw_od_0 {f : Nat → Int32} : sw_od 0 f 0 := ⟨⟨by decide, by decide⟩, fun j hj => absurd hj (by rw [show (0 : Int32).toNatClampNeg = 0 by decide]; omega)⟩
theorem sw_od_no {n : Int32} {f : Nat → Int32} {q : Nat} (h : sw_od n f q) : sw_od n f (q + 1) :=
  ⟨sw_ok_mono h.1 (Nat.le_succ q), fun j hj => by obtain ⟨v, hv, e⟩ := h.2 j hj; exact ⟨v, by omega, e⟩⟩
theorem sw_insf_mem {F : Int32 → Bool} {x : Int32} {P : Int32 → Prop} (hx : P x) : ∀ (n : Nat) (f : Nat → Int32) (m : Nat), n ≤ m → (∀ j, j < m + 1 → j ≠ n → P (f j)) → ∀ j, j < m + 1 → P (sw_insf F x n f j) := by
  intro n
  induction n with
  | zero =>
    intro f m hm h j hj
    unfold sw_insf
    by_cases e : j = 0
    · subst e; rw [pk_us]; exact hx
    · rw [pk_un e]; exact h j hj e
  | succ k ih =>
    intro f m hm h j hj
    unfold sw_insf
    split
    · refine ih (upd f (k + 1) (f k)) m (by omega) (fun i hi hne => ?_) j hj
      by_cases e : i = k + 1
      · subst e; rw [pk_us]; exact h k (by omega) (by omega)
      · rw [pk_un e]; exact h i hi e
    · by_cases e : j = k + 1
      · subst e; rw [pk_us]; exact hx
      · rw [pk_un e]; exact h j hj e
theorem sw_ok_succ {x : Int32} {N : Nat} (h : sw_ok x N) (hN : N + 1 < 2 ^ 31) : sw_ok (x + 1) (N + 1) ∧ (x + 1).toNatClampNeg = x.toNatClampNeg + 1 := by
  have h2 := h.2
  have e : x + 1 = nI (x.toNatClampNeg + 1) := by
    have := nI_1 x.toNatClampNeg
    rw [← h.1] at this
    exact this
  have e2 : (x + 1).toNatClampNeg = x.toNatClampNeg + 1 := by rw [e]; exact nI_clamp (by omega)
  exact ⟨⟨by rw [e2]; exact e, by omega⟩, e2⟩
theorem sw_od_yes {n : Int32} {f : Nat → Int32} {q : Nat} {F : Int32 → Bool} (h : sw_od n f q) (hq : q + 1 < 2 ^ 31) : sw_od (n + 1) (sw_insf F (nI q) n.toNatClampNeg f) (q + 1) := by
  obtain ⟨h1, h2⟩ := sw_ok_succ h.1 hq
  refine ⟨h1, fun j hj => ?_⟩
  rw [h2] at hj
  refine sw_insf_mem (P := fun y => ∃ v, v < q + 1 ∧ y = nI v) ⟨q, by omega, rfl⟩ n.toNatClampNeg f n.toNatClampNeg (Nat.le_refl _) (fun i hi hne => ?_) j hj
  obtain ⟨v, hv, e⟩ := h.2 i (by omega)
  exact ⟨v, by omega, e⟩
theorem sw_od_lt {n : Int32} {f : Nat → Int32} {q a j : Nat} (h : sw_od n f q) (e : j = a) (ha : a < n.toNatClampNeg) (hq : q < 2 ^ 31) : (f j).toNatClampNeg < q := by
  subst e
  obtain ⟨v, hv, e⟩ := h.2 j ha
  rw [e, nI_clamp (by omega)]; exact hv
theorem sw_od_in {n : Int32} {f : Nat → Int32} {q a j N : Nat} (h : sw_od n f q) (e : j = a) (ha : a < n.toNatClampNeg) (hq : q ≤ N ∧ N < 2 ^ 31) : vp_in (f j) N := by
  subst e
  obtain ⟨v, hv, e⟩ := h.2 j ha
  rw [e]; exact vp_in_nI (by omega) hq.2
def sw_fst (stop : Int32 → Bool) (f : Nat → Int32) : Nat → Int32
  | 0 => -1
  | a + 1 => if sw_fst stop f a = -1 then (if stop (f a) = true then f a else -1) else sw_fst stop f a
theorem sw_fst_no {stop : Int32 → Bool} {f : Nat → Int32} {a : Nat} {y : Int32} (h : -1 = sw_fst stop f a) (hc : stop (f a) = false) (hy : y = -1) : y = sw_fst stop f (a + 1) := by
  unfold sw_fst
  rw [if_pos h.symm, hc, hy]; rfl
theorem sw_fst_yes {stop : Int32 → Bool} {f : Nat → Int32} {a : Nat} (h : -1 = sw_fst stop f a) (hc : stop (f a) = true) : f a = sw_fst stop f (a + 1) := by
  unfold sw_fst
  rw [if_pos h.symm, if_pos hc]
theorem sw_fst_stay {stop : Int32 → Bool} {f : Nat → Int32} {a n : Nat} (h : ¬ sw_fst stop f a = -1) (hn : a ≤ n) : sw_fst stop f n = sw_fst stop f a := by
  induction n with
  | zero => rw [show a = 0 by omega]
  | succ n ih =>
    rcases Nat.lt_or_ge n a with q | q
    · rw [show a = n + 1 by omega]
    · have e := ih q
      show (if sw_fst stop f n = -1 then (if stop (f n) = true then f n else -1) else sw_fst stop f n) = _
      rw [e, if_neg h]
theorem sw_bdec (b : Bool) : (!(decide (sw_b b = 0))) = b := by cases b <;> simp [sw_b]
theorem sw_xs {r m : Int32} (hm : 0 ≤ m.toInt) : 0 ≤ (r ^^^ m).toInt ↔ 0 ≤ r.toInt := by
  have h1 : (r ^^^ m).toBitVec.msb = (r.toBitVec.msb ^^ m.toBitVec.msb) := by rw [Int32.toBitVec_xor, BitVec.msb_xor]
  rw [BitVec.msb_eq_toInt, BitVec.msb_eq_toInt, BitVec.msb_eq_toInt] at h1
  have h2 : decide (m.toBitVec.toInt < 0) = false := decide_eq_false (Int.not_lt.mpr hm)
  rw [h2, Bool.xor_false, decide_eq_decide] at h1
  have h3 : (r ^^^ m).toInt < 0 ↔ r.toInt < 0 := h1
  omega
theorem sw_emod {x m t k : Int} (h : x = t + m * k) (h0 : 0 ≤ t) (h1 : t < m) : x % m = t := by
  rw [h, Int.add_mul_emod_self_left, Int.emod_eq_of_lt h0 h1]
theorem sw_ediv {x m t k : Int} (h : x = t + m * k) (h0 : 0 ≤ t) (h1 : t < m) : x / m = k := by
  rw [h, Int.add_mul_ediv_left _ _ (by omega), Int.ediv_eq_zero_of_lt h0 h1, Int.zero_add]
theorem sw_b32 (x : Int32) : -2147483648 ≤ x.toInt ∧ x.toInt < 2147483648 := ⟨Int32.le_toInt x, Int32.toInt_lt x⟩
theorem sw_tneg {x m : Int} (hx : x < 0) : x.tmod m ≤ 0 := by
  have e : x.tmod m = -((-x).tmod m) := by rw [Int.neg_tmod, Int.neg_neg]
  have h2 := Int.tmod_nonneg m (show 0 ≤ -x by omega)
  omega
theorem sw_fm_val {x m : Int32} (hm : 0 < m.toInt) : (sw_fm x m).toInt = x.toInt % m.toInt := by
  have ht := rem_toInt x m
  have hb := tmod_bounds (a := x.toInt) hm
  have hd : x.toInt = x.toInt.tmod m.toInt + m.toInt * x.toInt.tdiv m.toInt := (Int.tmod_add_mul_tdiv x.toInt m.toInt).symm
  have hm2 := sw_b32 m
  have hn : x.toInt < 0 → x.toInt.tmod m.toInt ≤ 0 := sw_tneg
  have hp : 0 ≤ x.toInt → 0 ≤ x.toInt.tmod m.toInt := Int.tmod_nonneg _
  unfold sw_fm
  generalize x - x / m * m = r at ht ⊢
  rw [← ht] at hb hd hn hp
  simp only [sw_leI, Int32.toInt_zero, sw_xs (Int.le_of_lt hm)]
  by_cases h0 : 0 ≤ x.toInt
  · simp only [h0, decide_true, Bool.not_true, Bool.false_and, Bool.false_eq_true, if_false]
    exact (sw_emod hd (hp h0) hb.2).symm
  · by_cases h1 : r = 0
    · simp only [h1, decide_true, Bool.not_true, Bool.and_false, Bool.false_eq_true, if_false]
      rw [h1] at hd
      exact (sw_emod hd (by rw [Int32.toInt_zero]; omega) (by rw [Int32.toInt_zero]; omega)).symm
    · have h2 : r.toInt ≠ 0 := fun e => h1 (Int32.toInt_inj.mp (by rw [e]; rfl))
      have h3 := hn (by omega)
      simp only [h0, h1, decide_false, Bool.not_false, Bool.and_self, if_true]
      rw [sw_iadd (by omega) (by omega)]
      refine (sw_emod (k := x.toInt.tdiv m.toInt - 1) ?_ (by omega) (by omega)).symm
      rw [Int.mul_sub, Int.mul_one]
      omega
theorem sw_fm64 (x : Int32) : 0 ≤ (sw_fm x 64).toInt ∧ (sw_fm x 64).toInt < 64 := by
  rw [sw_fm_val (by decide), sw_i64]
  exact ⟨Int.emod_nonneg _ (by decide), Int.emod_lt_of_pos _ (by decide)⟩
def sw_co (a : Int32) : Int32 := sw_cosf (sw_fm a 64)
def sw_mX (a x y : Int32) : Int32 := sw_fd (sw_co a * x + sw_co (a - 16) * y) 256
def sw_mY (a x y : Int32) : Int32 := sw_fd (sw_co (a - 16) * x - sw_co a * y) 256
def sw_stp (fl ce fr bk pp : Nat → Int32) (v : Int32) : Bool := sw_stop fl ce fr bk v.toNatClampNeg (!(decide (0 ≤ pp v.toNatClampNeg)))
def sw_sbh (fr bk pp od : Nat → Int32) (nk ws : Int32) : Int32 :=
  if nk = 0 then ws else if 0 ≤ pp (od (nk - 1).toNatClampNeg).toNatClampNeg then fr (od (nk - 1).toNatClampNeg).toNatClampNeg else bk (od (nk - 1).toNatClampNeg).toNatClampNeg
def sw_Wm (vx vy fl ce fa tb fr bk : Nat → Int32) (n : Nat) (wx wy ws : Int32) (od pp qq : Nat → Int32) (mx my : Int32) : Int32 × Int32 × Int32 × Int32 × Int32 × Int32 × (Nat → Int32) × (Nat → Int32) × (Nat → Int32) :=
  if mx = 0 ∧ my = 0 then (0, wx, wy, ws, 0, -1, od, pp, qq)
  else if (sw_fst (fun v : Int32 => sw_stop fl ce fr bk v.toNatClampNeg (!(decide (0 ≤ (sw_fs1 vx vy fa tb wx wy mx my od pp qq n).2.2.1 v.toNatClampNeg)))) (sw_fs1 vx vy fa tb wx wy mx my od pp qq n).2.1 (sw_fs1 vx vy fa tb wx wy mx my od pp qq n).1.toNatClampNeg) = -1 ∧ (sw_wi (wx + mx) 3000 && sw_wi (wy + my) 3000) = true then (1, wx + mx, wy + my, sw_sbh fr bk (sw_fs1 vx vy fa tb wx wy mx my od pp qq n).2.2.1 (sw_fs1 vx vy fa tb wx wy mx my od pp qq n).2.1 (sw_fs1 vx vy fa tb wx wy mx my od pp qq n).1 ws, (sw_fs1 vx vy fa tb wx wy mx my od pp qq n).1, (sw_fst (fun v : Int32 => sw_stop fl ce fr bk v.toNatClampNeg (!(decide (0 ≤ (sw_fs1 vx vy fa tb wx wy mx my od pp qq n).2.2.1 v.toNatClampNeg)))) (sw_fs1 vx vy fa tb wx wy mx my od pp qq n).2.1 (sw_fs1 vx vy fa tb wx wy mx my od pp qq n).1.toNatClampNeg), (sw_fs1 vx vy fa tb wx wy mx my od pp qq n).2)
  else (2, wx, wy, ws, (sw_fs1 vx vy fa tb wx wy mx my od pp qq n).1, (sw_fst (fun v : Int32 => sw_stop fl ce fr bk v.toNatClampNeg (!(decide (0 ≤ (sw_fs1 vx vy fa tb wx wy mx my od pp qq n).2.2.1 v.toNatClampNeg)))) (sw_fs1 vx vy fa tb wx wy mx my od pp qq n).2.1 (sw_fs1 vx vy fa tb wx wy mx my od pp qq n).1.toNatClampNeg), (sw_fs1 vx vy fa tb wx wy mx my od pp qq n).2)
section SWWM
variable {vx vy fl ce fa tb fr bk : Nat → Int32} {n : Nat} {wx wy ws : Int32} {od pp qq : Nat → Int32} {mx my : Int32}
theorem sw_Wm_0 (h1 : mx = 0) (h2 : my = 0) : sw_Wm vx vy fl ce fa tb fr bk n wx wy ws od pp qq mx my = (0, wx, wy, ws, 0, -1, od, pp, qq) := if_pos ⟨h1, h2⟩
theorem sw_Wm_2a (hz : ¬ (mx = 0 ∧ my = 0)) (hs : ¬ (sw_fst (fun v : Int32 => sw_stop fl ce fr bk v.toNatClampNeg (!(decide (0 ≤ (sw_fs1 vx vy fa tb wx wy mx my od pp qq n).2.2.1 v.toNatClampNeg)))) (sw_fs1 vx vy fa tb wx wy mx my od pp qq n).2.1 (sw_fs1 vx vy fa tb wx wy mx my od pp qq n).1.toNatClampNeg) = -1) : sw_Wm vx vy fl ce fa tb fr bk n wx wy ws od pp qq mx my = (2, wx, wy, ws, (sw_fs1 vx vy fa tb wx wy mx my od pp qq n).1, (sw_fst (fun v : Int32 => sw_stop fl ce fr bk v.toNatClampNeg (!(decide (0 ≤ (sw_fs1 vx vy fa tb wx wy mx my od pp qq n).2.2.1 v.toNatClampNeg)))) (sw_fs1 vx vy fa tb wx wy mx my od pp qq n).2.1 (sw_fs1 vx vy fa tb wx wy mx my od pp qq n).1.toNatClampNeg), (sw_fs1 vx vy fa tb wx wy mx my od pp qq n).2) := (if_neg hz).trans (if_neg (fun h => hs h.1))
theorem sw_Wm_2b (hz : ¬ (mx = 0 ∧ my = 0)) (hb : (sw_wi (wx + mx) 3000 && sw_wi (wy + my) 3000) = false) : sw_Wm vx vy fl ce fa tb fr bk n wx wy ws od pp qq mx my = (2, wx, wy, ws, (sw_fs1 vx vy fa tb wx wy mx my od pp qq n).1, (sw_fst (fun v : Int32 => sw_stop fl ce fr bk v.toNatClampNeg (!(decide (0 ≤ (sw_fs1 vx vy fa tb wx wy mx my od pp qq n).2.2.1 v.toNatClampNeg)))) (sw_fs1 vx vy fa tb wx wy mx my od pp qq n).2.1 (sw_fs1 vx vy fa tb wx wy mx my od pp qq n).1.toNatClampNeg), (sw_fs1 vx vy fa tb wx wy mx my od pp qq n).2) := (if_neg hz).trans (if_neg (fun h => by rw [hb] at h; exact absurd h.2 (by decide)))
theorem sw_Wm_1 (hz : ¬ (mx = 0 ∧ my = 0)) (hs : (sw_fst (fun v : Int32 => sw_stop fl ce fr bk v.toNatClampNeg (!(decide (0 ≤ (sw_fs1 vx vy fa tb wx wy mx my od pp qq n).2.2.1 v.toNatClampNeg)))) (sw_fs1 vx vy fa tb wx wy mx my od pp qq n).2.1 (sw_fs1 vx vy fa tb wx wy mx my od pp qq n).1.toNatClampNeg) = -1) (hb : (sw_wi (wx + mx) 3000 && sw_wi (wy + my) 3000) = true) : sw_Wm vx vy fl ce fa tb fr bk n wx wy ws od pp qq mx my = (1, wx + mx, wy + my, sw_sbh fr bk (sw_fs1 vx vy fa tb wx wy mx my od pp qq n).2.2.1 (sw_fs1 vx vy fa tb wx wy mx my od pp qq n).2.1 (sw_fs1 vx vy fa tb wx wy mx my od pp qq n).1 ws, (sw_fs1 vx vy fa tb wx wy mx my od pp qq n).1, (sw_fst (fun v : Int32 => sw_stop fl ce fr bk v.toNatClampNeg (!(decide (0 ≤ (sw_fs1 vx vy fa tb wx wy mx my od pp qq n).2.2.1 v.toNatClampNeg)))) (sw_fs1 vx vy fa tb wx wy mx my od pp qq n).2.1 (sw_fs1 vx vy fa tb wx wy mx my od pp qq n).1.toNatClampNeg), (sw_fs1 vx vy fa tb wx wy mx my od pp qq n).2) := (if_neg hz).trans (if_pos ⟨hs, hb⟩)
end SWWM
def sw_W (vx vy fl ce fa tb fr bk : Nat → Int32) (n : Nat) (wx wy a ws : Int32) (od pp qq : Nat → Int32) (x y : Int32) : Int32 × Int32 × Int32 × Int32 × Int32 × Int32 × (Nat → Int32) × (Nat → Int32) × (Nat → Int32) :=
  sw_Wm vx vy fl ce fa tb fr bk n wx wy ws od pp qq (sw_mX a x y) (sw_mY a x y)
theorem sw_fs1_od {vx vy fa tb : Nat → Int32} {ox oy mx my : Int32} {od pp qq : Nat → Int32} : ∀ q : Nat, (hq : q < 2 ^ 31 - 1) → sw_od (sw_fs1 vx vy fa tb ox oy mx my od pp qq q).1 (sw_fs1 vx vy fa tb ox oy mx my od pp qq q).2.1 q := by
  intro q
  induction q with
  | zero => intro _; exact sw_od_0
  | succ q ih =>
    intro hq
    have h := ih (by omega)
    unfold sw_fs1
    dsimp only
    split
    · exact sw_od_no h
    · exact sw_od_yes h (by omega)
theorem sw_od_last {n : Int32} {f : Nat → Int32} {q N : Nat} (h : sw_od n f q) (hq : q ≤ N) (hN : N < 2 ^ 31) (hn : ¬ n = 0) : vp_in (f (n - 1).toNatClampNeg) N := by
  have h2 := h.1.2
  obtain ⟨k, hk⟩ : ∃ k, n.toNatClampNeg = k := ⟨_, rfl⟩
  cases k with
  | zero => exact absurd (by rw [h.1.1, hk]; exact nI_0) hn
  | succ k =>
    have e : (n - 1).toNatClampNeg = k := by rw [h.1.1, hk, nI_pred]; exact nI_clamp (by omega)
    exact sw_od_in h e (by omega) ⟨hq, hN⟩
def sw_PL (vx vy fl ce fa tb fr bk : Nat → Int32) (n : Nat) (ox oy oa os : Int32) (od pp qq ia ib ic : Nat → Int32) : Nat → Int32 × Int32 × Int32 × Int32 × Int32 × Int32 × Int32 × (Nat → Int32) × (Nat → Int32) × (Nat → Int32)
  | 0 => (0, ox, oy, oa, os, 0, -1, od, pp, qq)
  | q + 1 =>
    let s := sw_PL vx vy fl ce fa tb fr bk n ox oy oa os od pp qq ia ib ic q
    let w := sw_W vx vy fl ce fa tb fr bk n s.2.1 s.2.2.1 (sw_fm (s.2.2.2.1 + ic q) 64) s.2.2.2.2.1 s.2.2.2.2.2.2.2.1 s.2.2.2.2.2.2.2.2.1 s.2.2.2.2.2.2.2.2.2 (ia q) (ib q)
    (if w.1 = 2 then s.1 + 1 else s.1, w.2.1, w.2.2.1, sw_fm (s.2.2.2.1 + ic q) 64, w.2.2.2)
section SWPL
variable {vx vy fl ce fa tb fr bk : Nat → Int32} {n : Nat} {ox oy oa os : Int32} {od pp qq ia ib ic : Nat → Int32} {q : Nat} {cs ux uy ua us un uf : Int32} {uo up uq : Nat → Int32}
theorem sw_PL_no (h : (cs, ux, uy, ua, us, un, uf, uo, up, uq) = sw_PL vx vy fl ce fa tb fr bk n ox oy oa os od pp qq ia ib ic q) (hc : ¬ (sw_W vx vy fl ce fa tb fr bk n ux uy (sw_fm (ua + ic q) 64) us uo up uq (ia q) (ib q)).1 = 2) :
    (cs, (sw_W vx vy fl ce fa tb fr bk n ux uy (sw_fm (ua + ic q) 64) us uo up uq (ia q) (ib q)).2.1, (sw_W vx vy fl ce fa tb fr bk n ux uy (sw_fm (ua + ic q) 64) us uo up uq (ia q) (ib q)).2.2.1, sw_fm (ua + ic q) 64, (sw_W vx vy fl ce fa tb fr bk n ux uy (sw_fm (ua + ic q) 64) us uo up uq (ia q) (ib q)).2.2.2) = sw_PL vx vy fl ce fa tb fr bk n ox oy oa os od pp qq ia ib ic (q + 1) := by
  unfold sw_PL
  rw [← h]
  dsimp only
  rw [if_neg hc]
theorem sw_PL_yes (h : (cs, ux, uy, ua, us, un, uf, uo, up, uq) = sw_PL vx vy fl ce fa tb fr bk n ox oy oa os od pp qq ia ib ic q) (hc : (sw_W vx vy fl ce fa tb fr bk n ux uy (sw_fm (ua + ic q) 64) us uo up uq (ia q) (ib q)).1 = 2) :
    (cs + 1, (sw_W vx vy fl ce fa tb fr bk n ux uy (sw_fm (ua + ic q) 64) us uo up uq (ia q) (ib q)).2.1, (sw_W vx vy fl ce fa tb fr bk n ux uy (sw_fm (ua + ic q) 64) us uo up uq (ia q) (ib q)).2.2.1, sw_fm (ua + ic q) 64, (sw_W vx vy fl ce fa tb fr bk n ux uy (sw_fm (ua + ic q) 64) us uo up uq (ia q) (ib q)).2.2.2) = sw_PL vx vy fl ce fa tb fr bk n ox oy oa os od pp qq ia ib ic (q + 1) := by
  unfold sw_PL
  rw [← h]
  dsimp only
  rw [if_pos hc]
end SWPL
theorem sw_ok_of {x n : Int32} {N : Nat} (h : sw_ok n N) (hN : N < 2 ^ 31) (h0 : ¬ x < 0) (hc : x ≤ n) : sw_ok x N := by
  have h2 := h.2
  obtain ⟨j, hj, e⟩ := nI_of h0
  rw [h.1, e] at hc
  have h3 := (nI_leI hj (by omega)).mp hc
  have h4 : x.toNatClampNeg = j := by rw [e]; exact nI_clamp hj
  exact ⟨by rw [h4]; exact e, by omega⟩
theorem sw_i256 : (256 : Int32).toInt = 256 := by decide
theorem sw_fd256 (x : Int32) : (sw_fd x 256).toInt = x.toInt / 256 := by
  have hd : x.toInt = x.toInt.tmod 256 + 256 * x.toInt.tdiv 256 := (Int.tmod_add_mul_tdiv x.toInt 256).symm
  have hb := tmod_bounds (a := x.toInt) (M := 256) (by decide)
  have hx := sw_b32 x
  have hp9 : 0 ≤ x.toInt → 0 ≤ x.toInt.tmod 256 := Int.tmod_nonneg _
  have hn9 : x.toInt < 0 → x.toInt.tmod 256 ≤ 0 := sw_tneg
  have hq : (x / 256).toInt = x.toInt.tdiv 256 := by
    rw [Int32.toInt_div, sw_i256]
    exact Int.bmod_eq_of_le (by omega) (by omega)
  have hm : (x / 256 * 256).toInt = 256 * x.toInt.tdiv 256 := by
    rw [sw_imul (by rw [hq, sw_i256]; omega) (by rw [hq, sw_i256]; omega), hq, sw_i256, Int.mul_comm]
  have he : x / 256 * 256 = x ↔ x.toInt.tmod 256 = 0 := by
    rw [← Int32.toInt_inj, hm]
    omega
  unfold sw_fd
  simp only [sw_leI, Int32.toInt_zero, sw_xs (show 0 ≤ (256 : Int32).toInt by decide), he]
  by_cases h0 : 0 ≤ x.toInt
  · simp only [h0, decide_true, Bool.not_true, Bool.false_and, Bool.false_eq_true, if_false]
    rw [hq]
    exact (sw_ediv hd (Int.tmod_nonneg _ h0) hb.2).symm
  · by_cases h1 : x.toInt.tmod 256 = 0
    · simp only [h1, decide_true, Bool.not_true, Bool.and_false, Bool.false_eq_true, if_false]
      rw [hq]
      exact (sw_ediv hd (by omega) hb.2).symm
    · simp only [h0, h1, decide_false, Bool.not_false, Bool.and_self, if_true]
      have h2 := sw_tneg (x := x.toInt) (m := 256) (by omega)
      rw [sw_isub (by rw [hq, show (1 : Int32).toInt = 1 by decide]; omega) (by rw [hq, show (1 : Int32).toInt = 1 by decide]; omega), hq, show (1 : Int32).toInt = 1 by decide]
      refine (sw_ediv (t := x.toInt.tmod 256 + 256) ?_ (by omega) (by omega)).symm
      omega
