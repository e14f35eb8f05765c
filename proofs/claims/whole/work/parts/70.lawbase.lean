theorem lw_I_up {c : Nat} {nv : Int32} {ns : Int32} {nw : Int32} {vx : Nat → Int32} {vy : Nat → Int32} {fl : Nat → Int32} {ce : Nat → Int32} {fa : Nat → Int32} {tb : Nat → Int32} {fr : Nat → Int32} {bk : Nat → Int32} {gnv : Int32} {gns : Int32} {gnw : Int32} {gvx : Nat → Int32} {gvy : Nat → Int32} {gfl : Nat → Int32} {gce : Nat → Int32} {gfa : Nat → Int32} {gtb : Nat → Int32} {gfr : Nat → Int32} {gbk : Nat → Int32} {nt : Int32} {ia : Nat → Int32} {ib : Nat → Int32} {ic : Nat → Int32} {ox : Int32} {oy : Int32} {oa : Int32} {os : Int32} {wx : Int32} {wy : Int32} {wa : Int32} {ws : Int32} {nk : Int32} {fs : Int32} {od : Nat → Int32} {pp : Nat → Int32} {qq : Nat → Int32} {nb : Int32} {sd : Int32} {mnv : Int32} {mns : Int32} {mnw : Int32} {mgv : Int32} {mgs : Int32} {mgw : Int32} {mnb : Int32} {msd : Int32} {mnt : Int32} {mnk : Int32} {mfs : Int32} {mvx : Nat → Int32} {mvy : Nat → Int32} {mfl : Nat → Int32} {mce : Nat → Int32} {mfa : Nat → Int32} {mtb : Nat → Int32} {mfr : Nat → Int32} {mbk : Nat → Int32} {p1 : Nat → Int32} {p2 : Nat → Int32} {p3 : Nat → Int32} {p4 : Nat → Int32} {p5 : Nat → Int32} {p6 : Nat → Int32} {p7 : Nat → Int32} {p8 : Nat → Int32} {bo : Nat → Int32} {bw : Nat → Int32} {mia : Nat → Int32} {mib : Nat → Int32} {mic : Nat → Int32} {cr : Nat → Int32} {cp : Nat → Int64} {cq : Nat → Int64} (h : lw_I c nv ns nw vx vy fl ce fa tb fr bk gnv gns gnw gvx gvy gfl gce gfa gtb gfr gbk nt ia ib ic ox oy oa os wx wy wa ws nk fs od pp qq nb sd mnv mns mnw mgv mgs mgw mnb msd mnt mnk mfs mvx mvy mfl mce mfa mtb mfr mbk p1 p2 p3 p4 p5 p6 p7 p8 bo bw mia mib mic cr cp cq) : lw_I (c + 1) nv ns nw vx vy fl ce fa tb fr bk gnv gns gnw gvx gvy gfl gce gfa gtb gfr gbk nt ia ib ic ox oy oa os wx wy wa ws nk fs od pp qq nb sd mnv mns mnw mgv mgs mgw mnb msd mnt mnk mfs mvx mvy mfl mce mfa mtb mfr mbk p1 p2 p3 p4 p5 p6 p7 p8 bo bw mia mib mic cr cp cq := by
  obtain ⟨h1, h2, h3, h4, h5, h6, h7, h8, k, h9, h10, h11⟩ := h
  exact ⟨h1, h2, h3, h4, h5, h6, h7, h8, k, h9, Nat.le_succ_of_le h10, h11⟩
theorem lw_z (N : Nat) : sw_ok 0 N := ⟨by decide, by rw [show (0 : Int32).toNatClampNeg = 0 by decide]; exact Nat.zero_le N⟩
theorem lw_D_0 {vx vy fl ce fa tb fr bk : Nat → Int32} : lw_D 0 0 0 vx vy fl ce fa tb fr bk :=
  have e : (0 : Int32).toNatClampNeg = 0 := by decide
  ⟨lw_z _, lw_z _, lw_z _, fun j hj => absurd hj (by rw [e]; exact Nat.not_lt_zero j), fun i j _ hj => absurd hj (by rw [e]; exact Nat.not_lt_zero j), fun j hj => absurd hj (by rw [e]; exact Nat.not_lt_zero j)⟩
theorem lw_I_0 : lw_I 0 0 0 0 (fun _ => 0) (fun _ => 0) (fun _ => 0) (fun _ => 0) (fun _ => 0) (fun _ => 0) (fun _ => 0) (fun _ => 0) 0 0 0 (fun _ => 0) (fun _ => 0) (fun _ => 0) (fun _ => 0) (fun _ => 0) (fun _ => 0) (fun _ => 0) (fun _ => 0) 0 (fun _ => 0) (fun _ => 0) (fun _ => 0) 0 0 0 0 0 0 0 0 0 (-1) (fun _ => 0) (fun _ => 0) (fun _ => 0) 0 0 0 0 0 0 0 0 0 0 0 0 (-1) (fun _ => 0) (fun _ => 0) (fun _ => 0) (fun _ => 0) (fun _ => 0) (fun _ => 0) (fun _ => 0) (fun _ => 0) (fun _ => 0) (fun _ => 0) (fun _ => 0) (fun _ => 0) (fun _ => 0) (fun _ => 0) (fun _ => 0) (fun _ => 0) (fun _ => 0) (fun _ => 0) (fun _ => 0) (fun _ => 0) (fun _ => 0) (fun _ => 0) (fun _ => 0) (fun _ => 0) := by
  have e : (0 : Int32).toNatClampNeg = 0 := by decide
  have n0 : ∀ j : Nat, ¬ j < (0 : Int32).toNatClampNeg := fun j => by rw [e]; exact Nat.not_lt_zero j
  refine ⟨⟨rfl, rfl, rfl, rfl, rfl, rfl, rfl, rfl, rfl, rfl, rfl, rfl, rfl, rfl, rfl, rfl, rfl, rfl, rfl, rfl, rfl, rfl⟩, lw_D_0, lw_D_0, ⟨fun j hj => absurd hj (n0 j), fun j hj => absurd hj (n0 j)⟩, ⟨lw_z _, fun j hj => absurd hj (n0 j)⟩, ?_, ?_, ⟨lw_z _, fun j hj => absurd hj (n0 j)⟩, 0, nI_0.symm, Nat.le_refl _, fun _ => rfl⟩
  · exact ⟨⟨rfl, rfl, rfl, rfl⟩, by decide, by decide, by decide⟩
  · exact ⟨⟨rfl, rfl, rfl, rfl⟩, by decide, by decide, by decide⟩
theorem lw_more {i : Int32} {n L : Nat} (hi : i = nI n) (hn : n < 2 ^ 30) (hL : L < 2 ^ 30) (hc : ¬ Int32.ofNat L - 5 < i) : n + 5 ≤ L := by
  have e : (Int32.ofNat L).toInt = L := nI_toInt (by omega)
  rw [hi, sw_ltI, sw_isub (by rw [e, show (5 : Int32).toInt = 5 by decide]; omega) (by rw [e, show (5 : Int32).toInt = 5 by decide]; omega), e, show (5 : Int32).toInt = 5 by decide, nI_toInt (by omega)] at hc
  omega
theorem lw_arr {ty : FieldType} {args : Array Value} {s : State} (h : (Cond.arrayClass ty).before args s = true) (hty : ∀ cA, s.vm.findClass ("[" ++ ty.toString) = some cA → va_RA s cA ty) : ∃ cA : ClassId, ArrOfT s cA ty ∧ va_RA s cA ty := by
  obtain ⟨cA, kA, comp, h1, h2, h3⟩ := Cond.arrayClass_spec h
  exact ⟨cA, fun n z => ⟨fun k h => (by cases h), kA, h2, comp, h3⟩, hty cA h1⟩
theorem lw_known {s : State} {args : Array Value} (hw : ∀ w ∈ sw_words, w.before args s = true) : ∃ (D : va_G) (cI cL : ClassId), va_K D sw_cl [(cI, .int), (cL, .long)] s := by
  obtain ⟨c0, iS0, hKn0⟩ := u_known (C := R_SW) (T := F_SW) (N := 8) (n := 8) hw ku_SW (hw _ kw_57d5be7c)
  obtain ⟨c1, iS1, hKn1⟩ := u_known (C := R_Pl) (T := F_Pl) (N := 11) (n := 11) hw ku_Pl (hw _ kw_6b70b927)
  obtain ⟨c2, iS2, hKn2⟩ := u_known (C := R_Ta) (T := F_Ta) (N := 4) (n := 4) hw ku_Ta (hw _ kw_e35253cc)
  obtain ⟨c3, iS3, hKn3⟩ := u_known (C := R_St) (T := F_St) (N := 4) (n := 4) hw ku_St (hw _ kw_64680aee)
  obtain ⟨c4, iS4, hKn4⟩ := u_known (C := R_Cr) (T := F_Cr) (N := 5) (n := 5) hw ku_Cr (hw _ kw_47fb1155)
  obtain ⟨c5, iS5, hKn5⟩ := u_known (C := R_Mo) (T := F_Mo) (N := 36) (n := 36) hw ku_Mo (hw _ kw_4de7b2db)
  obtain ⟨cI, hI1, hI2⟩ := lw_arr (ty := .int) (hw _ kw_2e6385fb) (fun _ h => h)
  obtain ⟨cL, hL1, hL2⟩ := lw_arr (ty := .long) (hw _ kw_ada433b9) (fun _ h => h)
  refine ⟨(fun k => if k = 0 then c0 else if k = 1 then c1 else if k = 2 then c2 else if k = 3 then c3 else if k = 4 then c4 else c5, fun k => if k = 0 then iS0 else if k = 1 then iS1 else if k = 2 then iS2 else if k = 3 then iS3 else if k = 4 then iS4 else iS5), cI, cL, ?_, ?_⟩
  · intro k q hq
    match k, hq with
    | 0, hq => cases hq; exact hKn0
    | 1, hq => cases hq; exact hKn1
    | 2, hq => cases hq; exact hKn2
    | 3, hq => cases hq; exact hKn3
    | 4, hq => cases hq; exact hKn4
    | 5, hq => cases hq; exact hKn5
    | k + 6, hq => simp [sw_cl] at hq
  · intro k q hq
    match k, hq with
    | 0, hq => cases hq; exact ⟨hI1, hI2⟩
    | 1, hq => cases hq; exact ⟨hL1, hL2⟩
    | k + 2, hq => simp at hq
theorem lw_nestin : ∀ q ∈ sw_nest, Cond.methodLinkNest q.1 q.2.1 q.2.2.1 q.2.2.2 ∈ lw_tbl := by decide +kernel
theorem lw_static {p : Program} {s : State} {m : MethodId} {meth : Method} {c : Code} {b L : Nat} {xs : Nat → Int32} (C0 : lw_At p s m meth c b L xs) : ∃ tq : Nat, sw_G tq (fun q : Nat => s.heap.size ≤ q) s s.heap := by
  obtain ⟨hx, hb, hr, hml, hown, hts, hX, hbl, hlocks, hgv⟩ := id C0
  have hs := flat_of_before _ hgv
  have harr : (Cond.arrayOf (.static "SectorWalk" "QUARTER_COSINES" "[I") .int).before #[Value.ref b] s = true := hs _ (by decide +kernel)
  have hlen := va_eqt (hs (.eq (.length (.static "SectorWalk" "QUARTER_COSINES" "[I")) (.int 17)) (by decide +kernel))
  have hel : ∀ j : Nat, j < 17 → (Term.elem (.static "SectorWalk" "QUARTER_COSINES" "[I") (.int (Int32.ofNat j))).eval #[Value.ref b] s none [] s = some (.int (sw_cos j)) := by
    intro j hj
    match j, hj with
    | 0, _ => exact va_eqt (hs (.eq (.elem (.static "SectorWalk" "QUARTER_COSINES" "[I") (.int 0)) (.int 256)) (by decide +kernel))
    | 1, _ => exact va_eqt (hs (.eq (.elem (.static "SectorWalk" "QUARTER_COSINES" "[I") (.int 1)) (.int 255)) (by decide +kernel))
    | 2, _ => exact va_eqt (hs (.eq (.elem (.static "SectorWalk" "QUARTER_COSINES" "[I") (.int 2)) (.int 251)) (by decide +kernel))
    | 3, _ => exact va_eqt (hs (.eq (.elem (.static "SectorWalk" "QUARTER_COSINES" "[I") (.int 3)) (.int 245)) (by decide +kernel))
    | 4, _ => exact va_eqt (hs (.eq (.elem (.static "SectorWalk" "QUARTER_COSINES" "[I") (.int 4)) (.int 237)) (by decide +kernel))
    | 5, _ => exact va_eqt (hs (.eq (.elem (.static "SectorWalk" "QUARTER_COSINES" "[I") (.int 5)) (.int 226)) (by decide +kernel))
    | 6, _ => exact va_eqt (hs (.eq (.elem (.static "SectorWalk" "QUARTER_COSINES" "[I") (.int 6)) (.int 213)) (by decide +kernel))
    | 7, _ => exact va_eqt (hs (.eq (.elem (.static "SectorWalk" "QUARTER_COSINES" "[I") (.int 7)) (.int 198)) (by decide +kernel))
    | 8, _ => exact va_eqt (hs (.eq (.elem (.static "SectorWalk" "QUARTER_COSINES" "[I") (.int 8)) (.int 181)) (by decide +kernel))
    | 9, _ => exact va_eqt (hs (.eq (.elem (.static "SectorWalk" "QUARTER_COSINES" "[I") (.int 9)) (.int 162)) (by decide +kernel))
    | 10, _ => exact va_eqt (hs (.eq (.elem (.static "SectorWalk" "QUARTER_COSINES" "[I") (.int 10)) (.int 142)) (by decide +kernel))
    | 11, _ => exact va_eqt (hs (.eq (.elem (.static "SectorWalk" "QUARTER_COSINES" "[I") (.int 11)) (.int 121)) (by decide +kernel))
    | 12, _ => exact va_eqt (hs (.eq (.elem (.static "SectorWalk" "QUARTER_COSINES" "[I") (.int 12)) (.int 98)) (by decide +kernel))
    | 13, _ => exact va_eqt (hs (.eq (.elem (.static "SectorWalk" "QUARTER_COSINES" "[I") (.int 13)) (.int 74)) (by decide +kernel))
    | 14, _ => exact va_eqt (hs (.eq (.elem (.static "SectorWalk" "QUARTER_COSINES" "[I") (.int 14)) (.int 50)) (by decide +kernel))
    | 15, _ => exact va_eqt (hs (.eq (.elem (.static "SectorWalk" "QUARTER_COSINES" "[I") (.int 15)) (.int 25)) (by decide +kernel))
    | 16, _ => exact va_eqt (hs (.eq (.elem (.static "SectorWalk" "QUARTER_COSINES" "[I") (.int 16)) (.int 0)) (by decide +kernel))
    | j + 17, h => exact absurd h (by omega)
  obtain ⟨t, h1, h2⟩ := va_Tof (N := 17) (f := fun j => .int (sw_cos j)) (A := fun q : Nat => s.heap.size ≤ q) (by decide) harr hlen hel (fun a h h2 => absurd h (Nat.not_lt.mpr h2))
  exact ⟨t, va_Zof (hts (.laysStatic "SectorWalk" "QUARTER_COSINES" "[I") (by decide +kernel)) (hts (.initialized "SectorWalk") (by decide +kernel)) h1 (fun a h h2 => absurd h (Nat.not_lt.mpr h2)), h2, fun q hq => va_Nw.of rfl (hts _ (lw_nestin q hq))⟩
