set_option maxHeartbeats 4000000 in
set_option maxRecDepth 100000 in
theorem law_loop {mp : Program} {l : Launch} {me : Env} {s : State} {mm : MethodId} {below : List Frame} {meth : Method} {mk : Code} {b L : Nat} {xs : Nat → Int32} {D : va_G} {cI cL : ClassId} {tq : Nat} {h : Nat} {d : Nat} {dX : Nat} {dY : Nat} {dF : Nat} {dC : Nat} {dA : Nat} {dB : Nat} {dR : Nat} {dK : Nat} {g : Nat} {gX : Nat} {gY : Nat} {gF : Nat} {gC : Nat} {gA : Nat} {gB : Nat} {gR : Nat} {gK : Nat} {t : Nat} {t1 : Nat} {t2 : Nat} {t3 : Nat} {o : Nat} {w : Nat} {k : Nat} {k1 : Nat} {k2 : Nat} {k3 : Nat} {m0 : Nat} {z1 : Nat} {z2 : Nat} {z3 : Nat} {z4 : Nat} {z5 : Nat} {z6 : Nat} {z7 : Nat} {z8 : Nat} {z9 : Nat} {z10 : Nat} {z11 : Nat} {z12 : Nat} {z13 : Nat} {z14 : Nat} {z15 : Nat} {z16 : Nat} {z17 : Nat} {z18 : Nat} {z19 : Nat} {z20 : Nat} {z21 : Nat} {z22 : Nat} {z23 : Nat} {z24 : Nat} (hL : L ≤ 2560) (C0 : lw_At mp s mm meth mk b L xs) (hK : va_K D sw_cl [(cI, .int), (cL, .long)] s) (hG : sw_G tq (fun q : Nat => s.heap.size ≤ q) s s.heap) :
    ∀ (N n c : Nat) (i : Int32) (th : Int32) (nv : Int32) (ns : Int32) (nw : Int32) (vx : Nat → Int32) (vy : Nat → Int32) (fl : Nat → Int32) (ce : Nat → Int32) (fa : Nat → Int32) (tb : Nat → Int32) (fr : Nat → Int32) (bk : Nat → Int32) (gnv : Int32) (gns : Int32) (gnw : Int32) (gvx : Nat → Int32) (gvy : Nat → Int32) (gfl : Nat → Int32) (gce : Nat → Int32) (gfa : Nat → Int32) (gtb : Nat → Int32) (gfr : Nat → Int32) (gbk : Nat → Int32) (nt : Int32) (ia : Nat → Int32) (ib : Nat → Int32) (ic : Nat → Int32) (ox : Int32) (oy : Int32) (oa : Int32) (os : Int32) (wx : Int32) (wy : Int32) (wa : Int32) (ws : Int32) (nk : Int32) (fs : Int32) (od : Nat → Int32) (pp : Nat → Int32) (qq : Nat → Int32) (nb : Int32) (sd : Int32) (mnv : Int32) (mns : Int32) (mnw : Int32) (mgv : Int32) (mgs : Int32) (mgw : Int32) (mnb : Int32) (msd : Int32) (mnt : Int32) (mnk : Int32) (mfs : Int32) (mvx : Nat → Int32) (mvy : Nat → Int32) (mfl : Nat → Int32) (mce : Nat → Int32) (mfa : Nat → Int32) (mtb : Nat → Int32) (mfr : Nat → Int32) (mbk : Nat → Int32) (p1 : Nat → Int32) (p2 : Nat → Int32) (p3 : Nat → Int32) (p4 : Nat → Int32) (p5 : Nat → Int32) (p6 : Nat → Int32) (p7 : Nat → Int32) (p8 : Nat → Int32) (bo : Nat → Int32) (bw : Nat → Int32) (mia : Nat → Int32) (mib : Nat → Int32) (mic : Nat → Int32) (cr : Nat → Int32) (cp : Nat → Int64) (cq : Nat → Int64) (H : Heap) (locs : List Loc) (ls : Array Slot), i = nI n → n = 5 * c → n ≤ L → L + 1 ≤ n + N → lw_I c nv ns nw vx vy fl ce fa tb fr bk gnv gns gnw gvx gvy gfl gce gfa gtb gfr gbk nt ia ib ic ox oy oa os wx wy wa ws nk fs od pp qq nb sd mnv mns mnw mgv mgs mgw mnb msd mnt mnk mfs mvx mvy mfl mce mfa mtb mfr mbk p1 p2 p3 p4 p5 p6 p7 p8 bo bw mia mib mic cr cp cq → va_P D sw_cl (lw_W cI cL h d dX dY dF dC dA dB dR dK g gX gY gF gC gA gB gR gK t t1 t2 t3 o w k k1 k2 k3 m0 z1 z2 z3 z4 z5 z6 z7 z8 z9 z10 z11 z12 z13 z14 z15 z16 z17 z18 z19 z20 z21 z22 z23 z24 th nv ns nw vx vy fl ce fa tb fr bk gnv gns gnw gvx gvy gfl gce gfa gtb gfr gbk nt ia ib ic ox oy oa os wx wy wa ws nk fs od pp qq nb sd mnv mns mnw mgv mgs mgw mnb msd mnt mnk mfs mvx mvy mfl mce mfa mtb mfr mbk p1 p2 p3 p4 p5 p6 p7 p8 bo bw mia mib mic cr cp cq) H → va_D (fun q : Nat => s.heap.size ≤ q) (lw_W cI cL h d dX dY dF dC dA dB dR dK g gX gY gF gC gA gB gR gK t t1 t2 t3 o w k k1 k2 k3 m0 z1 z2 z3 z4 z5 z6 z7 z8 z9 z10 z11 z12 z13 z14 z15 z16 z17 z18 z19 z20 z21 z22 z23 z24 th nv ns nw vx vy fl ce fa tb fr bk gnv gns gnw gvx gvy gfl gce gfa gtb gfr gbk nt ia ib ic ox oy oa os wx wy wa ws nk fs od pp qq nb sd mnv mns mnw mgv mgs mgw mnb msd mnt mnk mfs mvx mvy mfl mce mfa mtb mfr mbk p1 p2 p3 p4 p5 p6 p7 p8 bo bw mia mib mic cr cp cq) → va_S (fun q : Nat => s.heap.size ≤ q) s.heap H locs → lv_has ls 4 [(0, .ref b), (1, .ref h), (2, .ref m0), (3, .int i)] → W mp l me room_1 s mm #[Value.ref b] below meth mk H locs 54 3675 (lw_Z below #[Value.ref b] s) (F0 mm 18 ls []) := by
  obtain ⟨hx, hb, hr, hml, hown, hts, hX, hbl, hlocks, hgv⟩ := id C0
  have hbA : ¬ (fun q : Nat => s.heap.size ≤ q) b := Nat.not_le.mpr hbl
  intro N
  induction N with
  | zero => intro n c i th nv ns nw vx vy fl ce fa tb fr bk gnv gns gnw gvx gvy gfl gce gfa gtb gfr gbk nt ia ib ic ox oy oa os wx wy wa ws nk fs od pp qq nb sd mnv mns mnw mgv mgs mgw mnb msd mnt mnk mfs mvx mvy mfl mce mfa mtb mfr mbk p1 p2 p3 p4 p5 p6 p7 p8 bo bw mia mib mic cr cp cq H locs ls hi h5 hn hm; exact absurd hm (by omega)
  | succ N ih =>
    intro n c i th nv ns nw vx vy fl ce fa tb fr bk gnv gns gnw gvx gvy gfl gce gfa gtb gfr gbk nt ia ib ic ox oy oa os wx wy wa ws nk fs od pp qq nb sd mnv mns mnw mgv mgs mgw mnb msd mnt mnk mfs mvx mvy mfl mce mfa mtb mfr mbk p1 p2 p3 p4 p5 p6 p7 p8 bo bw mia mib mic cr cp cq H locs ls hi h5 hn hm hI hP hD hS hl
    have kk : n + 5 ≤ L → ∀ (th : Int32) (nv : Int32) (ns : Int32) (nw : Int32) (vx : Nat → Int32) (vy : Nat → Int32) (fl : Nat → Int32) (ce : Nat → Int32) (fa : Nat → Int32) (tb : Nat → Int32) (fr : Nat → Int32) (bk : Nat → Int32) (gnv : Int32) (gns : Int32) (gnw : Int32) (gvx : Nat → Int32) (gvy : Nat → Int32) (gfl : Nat → Int32) (gce : Nat → Int32) (gfa : Nat → Int32) (gtb : Nat → Int32) (gfr : Nat → Int32) (gbk : Nat → Int32) (nt : Int32) (ia : Nat → Int32) (ib : Nat → Int32) (ic : Nat → Int32) (ox : Int32) (oy : Int32) (oa : Int32) (os : Int32) (wx : Int32) (wy : Int32) (wa : Int32) (ws : Int32) (nk : Int32) (fs : Int32) (od : Nat → Int32) (pp : Nat → Int32) (qq : Nat → Int32) (nb : Int32) (sd : Int32) (mnv : Int32) (mns : Int32) (mnw : Int32) (mgv : Int32) (mgs : Int32) (mgw : Int32) (mnb : Int32) (msd : Int32) (mnt : Int32) (mnk : Int32) (mfs : Int32) (mvx : Nat → Int32) (mvy : Nat → Int32) (mfl : Nat → Int32) (mce : Nat → Int32) (mfa : Nat → Int32) (mtb : Nat → Int32) (mfr : Nat → Int32) (mbk : Nat → Int32) (p1 : Nat → Int32) (p2 : Nat → Int32) (p3 : Nat → Int32) (p4 : Nat → Int32) (p5 : Nat → Int32) (p6 : Nat → Int32) (p7 : Nat → Int32) (p8 : Nat → Int32) (bo : Nat → Int32) (bw : Nat → Int32) (mia : Nat → Int32) (mib : Nat → Int32) (mic : Nat → Int32) (cr : Nat → Int32) (cp : Nat → Int64) (cq : Nat → Int64) (H : Heap) (locs : List Loc) (ls : Array Slot), lw_I (c + 1) nv ns nw vx vy fl ce fa tb fr bk gnv gns gnw gvx gvy gfl gce gfa gtb gfr gbk nt ia ib ic ox oy oa os wx wy wa ws nk fs od pp qq nb sd mnv mns mnw mgv mgs mgw mnb msd mnt mnk mfs mvx mvy mfl mce mfa mtb mfr mbk p1 p2 p3 p4 p5 p6 p7 p8 bo bw mia mib mic cr cp cq → va_P D sw_cl (lw_W cI cL h d dX dY dF dC dA dB dR dK g gX gY gF gC gA gB gR gK t t1 t2 t3 o w k k1 k2 k3 m0 z1 z2 z3 z4 z5 z6 z7 z8 z9 z10 z11 z12 z13 z14 z15 z16 z17 z18 z19 z20 z21 z22 z23 z24 th nv ns nw vx vy fl ce fa tb fr bk gnv gns gnw gvx gvy gfl gce gfa gtb gfr gbk nt ia ib ic ox oy oa os wx wy wa ws nk fs od pp qq nb sd mnv mns mnw mgv mgs mgw mnb msd mnt mnk mfs mvx mvy mfl mce mfa mtb mfr mbk p1 p2 p3 p4 p5 p6 p7 p8 bo bw mia mib mic cr cp cq) H → va_D (fun q : Nat => s.heap.size ≤ q) (lw_W cI cL h d dX dY dF dC dA dB dR dK g gX gY gF gC gA gB gR gK t t1 t2 t3 o w k k1 k2 k3 m0 z1 z2 z3 z4 z5 z6 z7 z8 z9 z10 z11 z12 z13 z14 z15 z16 z17 z18 z19 z20 z21 z22 z23 z24 th nv ns nw vx vy fl ce fa tb fr bk gnv gns gnw gvx gvy gfl gce gfa gtb gfr gbk nt ia ib ic ox oy oa os wx wy wa ws nk fs od pp qq nb sd mnv mns mnw mgv mgs mgw mnb msd mnt mnk mfs mvx mvy mfl mce mfa mtb mfr mbk p1 p2 p3 p4 p5 p6 p7 p8 bo bw mia mib mic cr cp cq) → va_S (fun q : Nat => s.heap.size ≤ q) s.heap H locs → lv_has ls 4 [(0, .ref b), (1, .ref h), (2, .ref m0), (3, .int i)] → W mp l me room_1 s mm #[Value.ref b] below meth mk H locs 54 3675 (lw_Z below #[Value.ref b] s) (F0 mm 531 ls []) := by
      intro hn5 th nv ns nw vx vy fl ce fa tb fr bk gnv gns gnw gvx gvy gfl gce gfa gtb gfr gbk nt ia ib ic ox oy oa os wx wy wa ws nk fs od pp qq nb sd mnv mns mnw mgv mgs mgw mnb msd mnt mnk mfs mvx mvy mfl mce mfa mtb mfr mbk p1 p2 p3 p4 p5 p6 p7 p8 bo bw mia mib mic cr cp cq H locs ls hI hP hD hS hl
      refine lv_iinc (v := i + 5) (lv' := [(3, .int (i + 5)), (0, .ref b), (1, .ref h), (2, .ref m0)]) hx hb d_law_531 hl (k := 3) rfl rfl (by decide) rfl (fun ls hl => ?_)
      refine lv_goto (tgt := 18) hx hb d_law_534 (by decide) ?_
      exact ih (n + 5) (c + 1) (i + 5) th nv ns nw vx vy fl ce fa tb fr bk gnv gns gnw gvx gvy gfl gce gfa gtb gfr gbk nt ia ib ic ox oy oa os wx wy wa ws nk fs od pp qq nb sd mnv mns mnw mgv mgs mgw mnb msd mnt mnk mfs mvx mvy mfl mce mfa mtb mfr mbk p1 p2 p3 p4 p5 p6 p7 p8 bo bw mia mib mic cr cp cq H locs ls (by rw [hi]; exact nI_add n 5) (by omega) hn5 (by omega) hI hP hD hS (lv_sub hl [1, 2, 3, 0] rfl)
    refine lv_iload_n hx hb d_law_18 rfl (lv_at hl 3 rfl) ?_
    refine lv_aload_n hx hb d_law_19 rfl (lv_at hl 0 rfl) ?_
    refine va_slen hx hb hX hbl hbA hS d_law_20 ?_
    refine lv_iconst (v := 5) hx hb d_law_21 (by decide) ?_
    refine lv_isub hx hb d_law_22 ?_
    refine lv_icmp_gt (tgt := 537) hx hb d_law_23 (by decide) (fun c_23 => ?_) (fun c_23 => ?_)
    · refine lv_iconst (v := 1) hx hb d_law_537 (by decide) ?_
      refine va_forget (fun q hq => hS.2.2 q hq) ?_
      exact lw_ret hx hb hr hlocks d_law_538
    · have hn5 : n + 5 ≤ L := lw_more hi (by omega) (by omega) c_23
      have hs0 : vp_in i L := by rw [hi]; exact vp_in_nI (by omega) (by omega)
      have hc : c < 2560 := by omega
      refine lv_aload_n hx hb d_law_26 rfl (lv_at hl 0 rfl) ?_
      refine lv_iload_n hx hb d_law_27 rfl (lv_at hl 3 rfl) ?_
      refine va_sld hx hb hX hbl hbA hS hs0 d_law_28 ?_
      refine lv_bipush (v := 15) hx hb d_law_29 (by decide) ?_
      refine lv_iand hx hb d_law_31 ?_
      refine lv_topi (fun x9 ex9 => ?_)
      by_cases c_32 : (x9.toInt < 0 ∨ 14 < x9.toInt)
      · refine lv_tableOut (tgt := 531) hx hb d_law_32 c_32 (by decide) ?_
        exact kk hn5 th nv ns nw vx vy fl ce fa tb fr bk gnv gns gnw gvx gvy gfl gce gfa gtb gfr gbk nt ia ib ic ox oy oa os wx wy wa ws nk fs od pp qq nb sd mnv mns mnw mgv mgs mgw mnb msd mnt mnk mfs mvx mvy mfl mce mfa mtb mfr mbk p1 p2 p3 p4 p5 p6 p7 p8 bo bw mia mib mic cr cp cq H locs ls (lw_I_up hI) hP hD hS hl
      · have h1 : ¬ x9.toInt < 0 := fun h => c_32 (Or.inl h)
        have h2 : ¬ 14 < x9.toInt := fun h => c_32 (Or.inr h)
        by_cases k_0 : x9.toInt = 0
        · refine lv_tableIn (tgt := 108) hx hb d_law_32 h1 h2 (by rw [k_0]; rfl) (by decide) ?_
          exact lc_vertex C0 hK hG hi hn5 hL hc hI hP hD hS hl (kk hn5)
        by_cases k_1 : x9.toInt = 1
        · refine lv_tableIn (tgt := 141) hx hb d_law_32 h1 h2 (by rw [k_1]; rfl) (by decide) ?_
          exact lc_sector C0 hK hG hi hn5 hL hc hI hP hD hS hl (kk hn5)
        by_cases k_2 : x9.toInt = 2
        · refine lv_tableIn (tgt := 174) hx hb d_law_32 h1 h2 (by rw [k_2]; rfl) (by decide) ?_
          exact lc_wall C0 hK hG hi hn5 hL hc hI hP hD hS hl (kk hn5)
        by_cases k_3 : x9.toInt = 3
        · refine lv_tableIn (tgt := 227) hx hb d_law_32 h1 h2 (by rw [k_3]; rfl) (by decide) ?_
          exact lc_drop C0 hK hG hi hn5 hL hc hI hP hD hS hl (kk hn5)
        by_cases k_4 : x9.toInt = 4
        · refine lv_tableIn (tgt := 240) hx hb d_law_32 h1 h2 (by rw [k_4]; rfl) (by decide) ?_
          exact lc_clear C0 hK hG hi hn5 hL hc hI hP hD hS hl (kk hn5)
        by_cases k_5 : x9.toInt = 5
        · refine lv_tableIn (tgt := 251) hx hb d_law_32 h1 h2 (by rw [k_5]; rfl) (by decide) ?_
          exact lc_build C0 hK hG hi hn5 hL hc hI hP hD hS hl (kk hn5)
        by_cases k_6 : x9.toInt = 6
        · refine lv_tableIn (tgt := 264) hx hb d_law_32 h1 h2 (by rw [k_6]; rfl) (by decide) ?_
          exact lc_start C0 hK hG hi hn5 hL hc hI hP hD hS hl (kk hn5)
        by_cases k_7 : x9.toInt = 7
        · refine lv_tableIn (tgt := 317) hx hb d_law_32 h1 h2 (by rw [k_7]; rfl) (by decide) ?_
          exact lc_input C0 hK hG hi hn5 hL hc hI hP hD hS hl (kk hn5)
        by_cases k_8 : x9.toInt = 8
        · refine lv_tableIn (tgt := 360) hx hb d_law_32 h1 h2 (by rw [k_8]; rfl) (by decide) ?_
          exact lc_undo C0 hK hG hi hn5 hL hc hI hP hD hS hl (kk hn5)
        by_cases k_9 : x9.toInt = 9
        · refine lv_tableIn (tgt := 383) hx hb d_law_32 h1 h2 (by rw [k_9]; rfl) (by decide) ?_
          exact lc_play C0 hK hG hi hn5 hL hc hI hP hD hS hl (kk hn5)
        by_cases k_10 : x9.toInt = 10
        · refine lv_tableIn (tgt := 406) hx hb d_law_32 h1 h2 (by rw [k_10]; rfl) (by decide) ?_
          exact lc_step C0 hK hG hi hn5 hL hc hI hP hD hS hl (kk hn5)
        by_cases k_11 : x9.toInt = 11
        · refine lv_tableIn (tgt := 449) hx hb d_law_32 h1 h2 (by rw [k_11]; rfl) (by decide) ?_
          exact lc_crossed C0 hK hG hi hn5 hL hc hI hP hD hS hl (kk hn5)
        by_cases k_12 : x9.toInt = 12
        · refine lv_tableIn (tgt := 472) hx hb d_law_32 h1 h2 (by rw [k_12]; rfl) (by decide) ?_
          exact lc_stopper C0 hK hG hi hn5 hL hc hI hP hD hS hl (kk hn5)
        by_cases k_13 : x9.toInt = 13
        · refine lv_tableIn (tgt := 485) hx hb d_law_32 h1 h2 (by rw [k_13]; rfl) (by decide) ?_
          exact lc_walker C0 hK hG hi hn5 hL hc hI hP hD hS hl (kk hn5)
        have k_14 : x9.toInt = 14 := by omega
        refine lv_tableIn (tgt := 508) hx hb d_law_32 h1 h2 (by rw [k_14]; rfl) (by decide) ?_
        exact lc_look C0 hK hG hi hn5 hL hc hI hP hD hS hl (kk hn5)
