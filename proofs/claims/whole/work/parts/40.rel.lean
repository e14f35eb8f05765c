/-! the relation between the class and the reference, c calls behind the start -/
theorem sw_sin {i : Int32} {n L k : Nat} (hi : i = nI n) (h5 : n + 5 ≤ L) (hL : L ≤ 2560) (hk : k < 5) : vp_in (i + nI k) L := by
  rw [hi, nI_add]
  exact vp_in_nI (by omega) (by omega)
def lw_D (nv ns nw : Int32) (vx vy fl ce fa tb fr bk : Nat → Int32) : Prop :=
  sw_ok nv 64 ∧ sw_ok ns 16 ∧ sw_ok nw 64 ∧
  (∀ j : Nat, j < nv.toNatClampNeg → (-2000 ≤ (vx j).toInt ∧ (vx j).toInt ≤ 2000) ∧ -2000 ≤ (vy j).toInt ∧ (vy j).toInt ≤ 2000) ∧
  (∀ i j : Nat, i < j → j < nv.toNatClampNeg → ¬ (vx i = vx j ∧ vy i = vy j)) ∧
  (∀ j : Nat, j < nw.toNatClampNeg → vp_in (fa j) nv.toNatClampNeg ∧ vp_in (tb j) nv.toNatClampNeg ∧ ¬ fa j = tb j ∧ vp_in (fr j) ns.toNatClampNeg ∧ (bk j = -1 ∨ vp_in (bk j) ns.toNatClampNeg))
def lw_M (gns gnw : Int32) (gvx gvy gfl gce gfa gtb gfr gbk p1 p2 p3 p4 p5 p6 p7 p8 : Nat → Int32) : Prop :=
  (∀ j : Nat, j < gnw.toNatClampNeg → p1 j = gvx (gfa j).toNatClampNeg ∧ p2 j = gvy (gfa j).toNatClampNeg ∧ p3 j = gvx (gtb j).toNatClampNeg ∧ p4 j = gvy (gtb j).toNatClampNeg ∧ p5 j = gfr j ∧ p6 j = gbk j) ∧
  (∀ j : Nat, j < gns.toNatClampNeg → p7 j = gfl j ∧ p8 j = gce j)
def lw_T (nt : Int32) (ia ib ic : Nat → Int32) : Prop := sw_ok nt 256 ∧ ∀ j : Nat, j < nt.toNatClampNeg → (sw_wi (ia j) 64 && sw_wi (ib j) 64 && sw_wi (ic j) 16) = true
def lw_S (ox oy oa os : Int32) (bo : Nat → Int32) : Prop :=
  (bo 0 = ox ∧ bo 1 = oy ∧ bo 2 = oa ∧ bo 3 = os) ∧ (-3000 ≤ ox.toInt ∧ ox.toInt ≤ 3000) ∧ (-3000 ≤ oy.toInt ∧ oy.toInt ≤ 3000) ∧ 0 ≤ oa.toInt ∧ oa.toInt < 64
def lw_C (nk : Int32) (od cr : Nat → Int32) : Prop := sw_ok nk 64 ∧ ∀ j : Nat, j < nk.toNatClampNeg → cr j / 2 = od j
def lw_N (c : Nat) (nb gns : Int32) : Prop := ∃ k : Nat, nb = nI k ∧ k ≤ c ∧ (k = 0 → gns = 0)
def lw_I (c : Nat) (nv : Int32) (ns : Int32) (nw : Int32) (vx : Nat → Int32) (vy : Nat → Int32) (fl : Nat → Int32) (ce : Nat → Int32) (fa : Nat → Int32) (tb : Nat → Int32) (fr : Nat → Int32) (bk : Nat → Int32) (gnv : Int32) (gns : Int32) (gnw : Int32) (gvx : Nat → Int32) (gvy : Nat → Int32) (gfl : Nat → Int32) (gce : Nat → Int32) (gfa : Nat → Int32) (gtb : Nat → Int32) (gfr : Nat → Int32) (gbk : Nat → Int32) (nt : Int32) (ia : Nat → Int32) (ib : Nat → Int32) (ic : Nat → Int32) (ox : Int32) (oy : Int32) (oa : Int32) (os : Int32) (wx : Int32) (wy : Int32) (wa : Int32) (ws : Int32) (nk : Int32) (fs : Int32) (od : Nat → Int32) (pp : Nat → Int32) (qq : Nat → Int32) (nb : Int32) (sd : Int32) (mnv : Int32) (mns : Int32) (mnw : Int32) (mgv : Int32) (mgs : Int32) (mgw : Int32) (mnb : Int32) (msd : Int32) (mnt : Int32) (mnk : Int32) (mfs : Int32) (mvx : Nat → Int32) (mvy : Nat → Int32) (mfl : Nat → Int32) (mce : Nat → Int32) (mfa : Nat → Int32) (mtb : Nat → Int32) (mfr : Nat → Int32) (mbk : Nat → Int32) (p1 : Nat → Int32) (p2 : Nat → Int32) (p3 : Nat → Int32) (p4 : Nat → Int32) (p5 : Nat → Int32) (p6 : Nat → Int32) (p7 : Nat → Int32) (p8 : Nat → Int32) (bo : Nat → Int32) (bw : Nat → Int32) (mia : Nat → Int32) (mib : Nat → Int32) (mic : Nat → Int32) (cr : Nat → Int32) (cp : Nat → Int64) (cq : Nat → Int64) : Prop :=
  (mnv = nv ∧ mns = ns ∧ mnw = nw ∧ mgv = gnv ∧ mgs = gns ∧ mgw = gnw ∧ mnb = nb ∧ msd = sd ∧ mnt = nt ∧ mnk = nk ∧ mfs = fs ∧ mvx = vx ∧ mvy = vy ∧ mfl = fl ∧ mce = ce ∧ mfa = fa ∧ mtb = tb ∧ mfr = fr ∧ mbk = bk ∧ mia = ia ∧ mib = ib ∧ mic = ic) ∧
  lw_D nv ns nw vx vy fl ce fa tb fr bk ∧ lw_D gnv gns gnw gvx gvy gfl gce gfa gtb gfr gbk ∧ lw_M gns gnw gvx gvy gfl gce gfa gtb gfr gbk p1 p2 p3 p4 p5 p6 p7 p8 ∧
  lw_T nt ia ib ic ∧ lw_S ox oy oa os bo ∧ lw_S wx wy wa ws bw ∧ lw_C nk od cr ∧ lw_N c nb gns
theorem lw_D_in {x : Int32} {n : Int32} {N : Nat} (h : sw_ok n N) (hx : vp_in x n.toNatClampNeg) : vp_in x N := by
  have h2 := h.2
  rw [vp_in_iff] at hx ⊢
  omega
section LWI
variable {c : Nat} {nv : Int32} {ns : Int32} {nw : Int32} {vx : Nat → Int32} {vy : Nat → Int32} {fl : Nat → Int32} {ce : Nat → Int32} {fa : Nat → Int32} {tb : Nat → Int32} {fr : Nat → Int32} {bk : Nat → Int32} {gnv : Int32} {gns : Int32} {gnw : Int32} {gvx : Nat → Int32} {gvy : Nat → Int32} {gfl : Nat → Int32} {gce : Nat → Int32} {gfa : Nat → Int32} {gtb : Nat → Int32} {gfr : Nat → Int32} {gbk : Nat → Int32} {nt : Int32} {ia : Nat → Int32} {ib : Nat → Int32} {ic : Nat → Int32} {ox : Int32} {oy : Int32} {oa : Int32} {os : Int32} {wx : Int32} {wy : Int32} {wa : Int32} {ws : Int32} {nk : Int32} {fs : Int32} {od : Nat → Int32} {pp : Nat → Int32} {qq : Nat → Int32} {nb : Int32} {sd : Int32} {mnv : Int32} {mns : Int32} {mnw : Int32} {mgv : Int32} {mgs : Int32} {mgw : Int32} {mnb : Int32} {msd : Int32} {mnt : Int32} {mnk : Int32} {mfs : Int32} {mvx : Nat → Int32} {mvy : Nat → Int32} {mfl : Nat → Int32} {mce : Nat → Int32} {mfa : Nat → Int32} {mtb : Nat → Int32} {mfr : Nat → Int32} {mbk : Nat → Int32} {p1 : Nat → Int32} {p2 : Nat → Int32} {p3 : Nat → Int32} {p4 : Nat → Int32} {p5 : Nat → Int32} {p6 : Nat → Int32} {p7 : Nat → Int32} {p8 : Nat → Int32} {bo : Nat → Int32} {bw : Nat → Int32} {mia : Nat → Int32} {mib : Nat → Int32} {mic : Nat → Int32} {cr : Nat → Int32} {cp : Nat → Int64} {cq : Nat → Int64}
theorem lw_I_nv (h : lw_I c nv ns nw vx vy fl ce fa tb fr bk gnv gns gnw gvx gvy gfl gce gfa gtb gfr gbk nt ia ib ic ox oy oa os wx wy wa ws nk fs od pp qq nb sd mnv mns mnw mgv mgs mgw mnb msd mnt mnk mfs mvx mvy mfl mce mfa mtb mfr mbk p1 p2 p3 p4 p5 p6 p7 p8 bo bw mia mib mic cr cp cq) : sw_ok nv 64 := h.2.1.1
theorem lw_I_ns (h : lw_I c nv ns nw vx vy fl ce fa tb fr bk gnv gns gnw gvx gvy gfl gce gfa gtb gfr gbk nt ia ib ic ox oy oa os wx wy wa ws nk fs od pp qq nb sd mnv mns mnw mgv mgs mgw mnb msd mnt mnk mfs mvx mvy mfl mce mfa mtb mfr mbk p1 p2 p3 p4 p5 p6 p7 p8 bo bw mia mib mic cr cp cq) : sw_ok ns 16 := h.2.1.2.1
theorem lw_I_nw (h : lw_I c nv ns nw vx vy fl ce fa tb fr bk gnv gns gnw gvx gvy gfl gce gfa gtb gfr gbk nt ia ib ic ox oy oa os wx wy wa ws nk fs od pp qq nb sd mnv mns mnw mgv mgs mgw mnb msd mnt mnk mfs mvx mvy mfl mce mfa mtb mfr mbk p1 p2 p3 p4 p5 p6 p7 p8 bo bw mia mib mic cr cp cq) : sw_ok nw 64 := h.2.1.2.2.1
theorem lw_I_gnw (h : lw_I c nv ns nw vx vy fl ce fa tb fr bk gnv gns gnw gvx gvy gfl gce gfa gtb gfr gbk nt ia ib ic ox oy oa os wx wy wa ws nk fs od pp qq nb sd mnv mns mnw mgv mgs mgw mnb msd mnt mnk mfs mvx mvy mfl mce mfa mtb mfr mbk p1 p2 p3 p4 p5 p6 p7 p8 bo bw mia mib mic cr cp cq) : sw_ok gnw 64 := h.2.2.1.2.2.1
theorem lw_I_nt (h : lw_I c nv ns nw vx vy fl ce fa tb fr bk gnv gns gnw gvx gvy gfl gce gfa gtb gfr gbk nt ia ib ic ox oy oa os wx wy wa ws nk fs od pp qq nb sd mnv mns mnw mgv mgs mgw mnb msd mnt mnk mfs mvx mvy mfl mce mfa mtb mfr mbk p1 p2 p3 p4 p5 p6 p7 p8 bo bw mia mib mic cr cp cq) : sw_ok nt 256 := h.2.2.2.2.1.1
theorem lw_I_nk (h : lw_I c nv ns nw vx vy fl ce fa tb fr bk gnv gns gnw gvx gvy gfl gce gfa gtb gfr gbk nt ia ib ic ox oy oa os wx wy wa ws nk fs od pp qq nb sd mnv mns mnw mgv mgs mgw mnb msd mnt mnk mfs mvx mvy mfl mce mfa mtb mfr mbk p1 p2 p3 p4 p5 p6 p7 p8 bo bw mia mib mic cr cp cq) : sw_ok nk 64 := h.2.2.2.2.2.2.2.1.1
theorem lw_I_w2 (h : lw_I c nv ns nw vx vy fl ce fa tb fr bk gnv gns gnw gvx gvy gfl gce gfa gtb gfr gbk nt ia ib ic ox oy oa os wx wy wa ws nk fs od pp qq nb sd mnv mns mnw mgv mgs mgw mnb msd mnt mnk mfs mvx mvy mfl mce mfa mtb mfr mbk p1 p2 p3 p4 p5 p6 p7 p8 bo bw mia mib mic cr cp cq) : ∀ j : Nat, j < nw.toNatClampNeg → vp_in (fa j) 64 ∧ vp_in (tb j) 64 := fun j hj =>
  have q := h.2.1.2.2.2.2.2 j hj
  ⟨lw_D_in h.2.1.1 q.1, lw_D_in h.2.1.1 q.2.1⟩
theorem lw_I_gw (h : lw_I c nv ns nw vx vy fl ce fa tb fr bk gnv gns gnw gvx gvy gfl gce gfa gtb gfr gbk nt ia ib ic ox oy oa os wx wy wa ws nk fs od pp qq nb sd mnv mns mnw mgv mgs mgw mnb msd mnt mnk mfs mvx mvy mfl mce mfa mtb mfr mbk p1 p2 p3 p4 p5 p6 p7 p8 bo bw mia mib mic cr cp cq) : ∀ j : Nat, j < gnw.toNatClampNeg → vp_in (gfa j) 64 ∧ vp_in (gtb j) 64 ∧ vp_in (gfr j) 16 ∧ (gbk j = -1 ∨ vp_in (gbk j) 16) := fun j hj =>
  have q := h.2.2.1.2.2.2.2.2 j hj
  ⟨lw_D_in h.2.2.1.1 q.1, lw_D_in h.2.2.1.1 q.2.1, lw_D_in h.2.2.1.2.1 q.2.2.2.1, q.2.2.2.2.imp id (lw_D_in h.2.2.1.2.1)⟩
theorem lw_I_mg (h : lw_I c nv ns nw vx vy fl ce fa tb fr bk gnv gns gnw gvx gvy gfl gce gfa gtb gfr gbk nt ia ib ic ox oy oa os wx wy wa ws nk fs od pp qq nb sd mnv mns mnw mgv mgs mgw mnb msd mnt mnk mfs mvx mvy mfl mce mfa mtb mfr mbk p1 p2 p3 p4 p5 p6 p7 p8 bo bw mia mib mic cr cp cq) : ∀ j : Nat, j < mgw.toNatClampNeg → vp_in (p5 j) 16 ∧ (p6 j < 0 ∨ vp_in (p6 j) 16) := fun j hj => by
  have e : mgw = gnw := h.1.2.2.2.2.2.1
  rw [e] at hj
  have q := lw_I_gw h j hj
  have m := h.2.2.2.1.1 j hj
  rw [m.2.2.2.2.1, m.2.2.2.2.2]
  refine ⟨q.2.2.1, q.2.2.2.imp (fun e => ?_) id⟩
  rw [e]; decide
theorem lw_I_mnv (h : lw_I c nv ns nw vx vy fl ce fa tb fr bk gnv gns gnw gvx gvy gfl gce gfa gtb gfr gbk nt ia ib ic ox oy oa os wx wy wa ws nk fs od pp qq nb sd mnv mns mnw mgv mgs mgw mnb msd mnt mnk mfs mvx mvy mfl mce mfa mtb mfr mbk p1 p2 p3 p4 p5 p6 p7 p8 bo bw mia mib mic cr cp cq) : sw_ok mnv 64 := by
  have e : mnv = nv := h.1.1
  rw [e]; exact lw_I_nv h
theorem lw_I_mns (h : lw_I c nv ns nw vx vy fl ce fa tb fr bk gnv gns gnw gvx gvy gfl gce gfa gtb gfr gbk nt ia ib ic ox oy oa os wx wy wa ws nk fs od pp qq nb sd mnv mns mnw mgv mgs mgw mnb msd mnt mnk mfs mvx mvy mfl mce mfa mtb mfr mbk p1 p2 p3 p4 p5 p6 p7 p8 bo bw mia mib mic cr cp cq) : sw_ok mns 16 := by
  have e : mns = ns := h.1.2.1
  rw [e]; exact lw_I_ns h
theorem lw_I_mnw (h : lw_I c nv ns nw vx vy fl ce fa tb fr bk gnv gns gnw gvx gvy gfl gce gfa gtb gfr gbk nt ia ib ic ox oy oa os wx wy wa ws nk fs od pp qq nb sd mnv mns mnw mgv mgs mgw mnb msd mnt mnk mfs mvx mvy mfl mce mfa mtb mfr mbk p1 p2 p3 p4 p5 p6 p7 p8 bo bw mia mib mic cr cp cq) : sw_ok mnw 64 := by
  have e : mnw = nw := h.1.2.2.1
  rw [e]; exact lw_I_nw h
theorem lw_I_mgw (h : lw_I c nv ns nw vx vy fl ce fa tb fr bk gnv gns gnw gvx gvy gfl gce gfa gtb gfr gbk nt ia ib ic ox oy oa os wx wy wa ws nk fs od pp qq nb sd mnv mns mnw mgv mgs mgw mnb msd mnt mnk mfs mvx mvy mfl mce mfa mtb mfr mbk p1 p2 p3 p4 p5 p6 p7 p8 bo bw mia mib mic cr cp cq) : sw_ok mgw 64 := by
  have e : mgw = gnw := h.1.2.2.2.2.2.1
  rw [e]; exact lw_I_gnw h
theorem lw_I_mnt (h : lw_I c nv ns nw vx vy fl ce fa tb fr bk gnv gns gnw gvx gvy gfl gce gfa gtb gfr gbk nt ia ib ic ox oy oa os wx wy wa ws nk fs od pp qq nb sd mnv mns mnw mgv mgs mgw mnb msd mnt mnk mfs mvx mvy mfl mce mfa mtb mfr mbk p1 p2 p3 p4 p5 p6 p7 p8 bo bw mia mib mic cr cp cq) : sw_ok mnt 256 := by
  have e : mnt = nt := h.1.2.2.2.2.2.2.2.2.1
  rw [e]; exact lw_I_nt h
theorem lw_I_mnk (h : lw_I c nv ns nw vx vy fl ce fa tb fr bk gnv gns gnw gvx gvy gfl gce gfa gtb gfr gbk nt ia ib ic ox oy oa os wx wy wa ws nk fs od pp qq nb sd mnv mns mnw mgv mgs mgw mnb msd mnt mnk mfs mvx mvy mfl mce mfa mtb mfr mbk p1 p2 p3 p4 p5 p6 p7 p8 bo bw mia mib mic cr cp cq) : sw_ok mnk 64 := by
  have e : mnk = nk := h.1.2.2.2.2.2.2.2.2.2.1
  rw [e]; exact lw_I_nk h
theorem lw_I_mw2 (h : lw_I c nv ns nw vx vy fl ce fa tb fr bk gnv gns gnw gvx gvy gfl gce gfa gtb gfr gbk nt ia ib ic ox oy oa os wx wy wa ws nk fs od pp qq nb sd mnv mns mnw mgv mgs mgw mnb msd mnt mnk mfs mvx mvy mfl mce mfa mtb mfr mbk p1 p2 p3 p4 p5 p6 p7 p8 bo bw mia mib mic cr cp cq) : ∀ j : Nat, j < mnw.toNatClampNeg → vp_in (mfa j) 64 ∧ vp_in (mtb j) 64 := fun j hj => by
  obtain ⟨rfl, rfl, rfl, rfl, rfl, rfl, rfl, rfl, rfl, rfl, rfl, rfl, rfl, rfl, rfl, rfl, rfl, rfl, rfl, rfl, rfl, rfl⟩ := h.1
  exact lw_I_w2 h j hj
end LWI
