theorem kw_7ea4a733 : Cond.initialized R_SW ∈ sw_words := List.mem_filter.mpr ⟨List.mem_append_right _ (List.mem_of_getElem? (i := 1) (by decide +kernel)), by decide +kernel⟩
theorem kw_d0fc5bad : Cond.methodLink R_SW 51 y_SW_isWithin ∈ sw_words := List.mem_filter.mpr ⟨List.mem_append_right _ (List.mem_of_getElem? (i := 170) (by decide +kernel)), by decide +kernel⟩
theorem kw_de2663c6 : Cond.static y_SW_isWithin ∈ sw_words := List.mem_filter.mpr ⟨List.mem_append_right _ (List.mem_of_getElem? (i := 171) (by decide +kernel)), by decide +kernel⟩
theorem kw_651ad336 : Cond.initialized R_Math ∈ sw_words := List.mem_filter.mpr ⟨List.mem_append_right _ (List.mem_of_getElem? (i := 7) (by decide +kernel)), by decide +kernel⟩
theorem kw_a33f319e : Cond.methodLink R_SW 156 y_Math_floorMod ∈ sw_words := List.mem_filter.mpr ⟨List.mem_append_right _ (List.mem_of_getElem? (i := 310) (by decide +kernel)), by decide +kernel⟩
theorem kw_464a0f65 : Cond.static y_Math_floorMod ∈ sw_words := List.mem_filter.mpr ⟨List.mem_append_right _ (List.mem_of_getElem? (i := 311) (by decide +kernel)), by decide +kernel⟩
theorem kw_9d0ddac9 : Cond.fieldLink R_SW 176 "SectorWalk" "QUARTER_COSINES" "[I" ∈ sw_words := List.mem_filter.mpr ⟨List.mem_append_right _ (List.mem_of_getElem? (i := 316) (by decide +kernel)), by decide +kernel⟩
theorem kw_ae77367f : Cond.fieldLink R_Pl 36 "SectorWalk$Plan" "vertexCount" "I" ∈ sw_words := List.mem_filter.mpr ⟨List.mem_append_right _ (List.mem_of_getElem? (i := 37) (by decide +kernel)), by decide +kernel⟩
theorem kw_8591057a : Cond.fieldLink R_Pl 40 "SectorWalk$Plan" "sectorCount" "I" ∈ sw_words := List.mem_filter.mpr ⟨List.mem_append_right _ (List.mem_of_getElem? (i := 39) (by decide +kernel)), by decide +kernel⟩
theorem kw_8234c2ed : Cond.fieldLink R_Pl 9 "SectorWalk$Plan" "vertexX" "[I" ∈ sw_words := List.mem_filter.mpr ⟨List.mem_append_right _ (List.mem_of_getElem? (i := 23) (by decide +kernel)), by decide +kernel⟩
theorem kw_c8115e4c : Cond.fieldLink R_Pl 15 "SectorWalk$Plan" "vertexY" "[I" ∈ sw_words := List.mem_filter.mpr ⟨List.mem_append_right _ (List.mem_of_getElem? (i := 25) (by decide +kernel)), by decide +kernel⟩
theorem kw_e4821dd4 : Cond.initialized R_Pl ∈ sw_words := List.mem_filter.mpr ⟨List.mem_append_right _ (List.mem_of_getElem? (i := 2) (by decide +kernel)), by decide +kernel⟩
theorem kw_54bbef87 : Cond.methodLink R_Pl 43 y_Pl_isTaken ∈ sw_words := List.mem_filter.mpr ⟨List.mem_append_right _ (List.mem_of_getElem? (i := 177) (by decide +kernel)), by decide +kernel⟩
theorem kw_6e4e60b1 : Cond.instanceMethod y_Pl_isTaken ∈ sw_words := List.mem_filter.mpr ⟨List.mem_append_right _ (List.mem_of_getElem? (i := 179) (by decide +kernel)), by decide +kernel⟩
theorem kw_7eb65973 : Cond.selects R_Pl y_Pl_isTaken y_Pl_isTaken ∈ sw_words := List.mem_filter.mpr ⟨List.mem_append_left _ (List.mem_of_getElem? (i := 0) (by decide +kernel)), by decide +kernel⟩
theorem kw_27d57bb8 : Cond.fieldLink R_Pl 18 "SectorWalk$Plan" "floor" "[I" ∈ sw_words := List.mem_filter.mpr ⟨List.mem_append_right _ (List.mem_of_getElem? (i := 27) (by decide +kernel)), by decide +kernel⟩
theorem kw_65f1a660 : Cond.fieldLink R_Pl 21 "SectorWalk$Plan" "ceiling" "[I" ∈ sw_words := List.mem_filter.mpr ⟨List.mem_append_right _ (List.mem_of_getElem? (i := 28) (by decide +kernel)), by decide +kernel⟩
theorem kw_733d4839 : Cond.fieldLink R_Pl 47 "SectorWalk$Plan" "wallCount" "I" ∈ sw_words := List.mem_filter.mpr ⟨List.mem_append_right _ (List.mem_of_getElem? (i := 42) (by decide +kernel)), by decide +kernel⟩
theorem kw_8b810f0c : Cond.fieldLink R_Pl 24 "SectorWalk$Plan" "from" "[I" ∈ sw_words := List.mem_filter.mpr ⟨List.mem_append_right _ (List.mem_of_getElem? (i := 29) (by decide +kernel)), by decide +kernel⟩
theorem kw_1e4d1ebb : Cond.fieldLink R_Pl 27 "SectorWalk$Plan" "to" "[I" ∈ sw_words := List.mem_filter.mpr ⟨List.mem_append_right _ (List.mem_of_getElem? (i := 31) (by decide +kernel)), by decide +kernel⟩
theorem kw_3f39eaf5 : Cond.fieldLink R_Pl 30 "SectorWalk$Plan" "front" "[I" ∈ sw_words := List.mem_filter.mpr ⟨List.mem_append_right _ (List.mem_of_getElem? (i := 33) (by decide +kernel)), by decide +kernel⟩
theorem kw_fa356e2a : Cond.fieldLink R_Pl 33 "SectorWalk$Plan" "back" "[I" ∈ sw_words := List.mem_filter.mpr ⟨List.mem_append_right _ (List.mem_of_getElem? (i := 35) (by decide +kernel)), by decide +kernel⟩
theorem kw_d7e310f2 : Cond.methodLink R_Pl 50 arraycopyName ∈ sw_words := List.mem_filter.mpr ⟨List.mem_append_right _ (List.mem_of_getElem? (i := 261) (by decide +kernel)), by decide +kernel⟩
theorem kw_b3787360 : Cond.native arraycopyName ∈ sw_words := List.mem_filter.mpr ⟨List.mem_append_right _ (List.mem_of_getElem? (i := 263) (by decide +kernel)), by decide +kernel⟩
theorem kw_4da6e29e : Cond.static arraycopyName ∈ sw_words := List.mem_filter.mpr ⟨List.mem_append_right _ (List.mem_of_getElem? (i := 262) (by decide +kernel)), by decide +kernel⟩
theorem kw_3dc9bfbd : Cond.initialized "java/lang/System" ∈ sw_words := List.mem_filter.mpr ⟨List.mem_append_right _ (List.mem_of_getElem? (i := 8) (by decide +kernel)), by decide +kernel⟩
theorem kw_8163ed3a : Cond.fieldLink R_Ta 21 "SectorWalk$Tape" "count" "I" ∈ sw_words := List.mem_filter.mpr ⟨List.mem_append_right _ (List.mem_of_getElem? (i := 80) (by decide +kernel)), by decide +kernel⟩
theorem kw_a5894e3b : Cond.fieldLink R_Ta 9 "SectorWalk$Tape" "ahead" "[I" ∈ sw_words := List.mem_filter.mpr ⟨List.mem_append_right _ (List.mem_of_getElem? (i := 74) (by decide +kernel)), by decide +kernel⟩
theorem kw_0dba980b : Cond.fieldLink R_Ta 15 "SectorWalk$Tape" "aside" "[I" ∈ sw_words := List.mem_filter.mpr ⟨List.mem_append_right _ (List.mem_of_getElem? (i := 76) (by decide +kernel)), by decide +kernel⟩
theorem kw_96c33365 : Cond.fieldLink R_Ta 18 "SectorWalk$Tape" "turn" "[I" ∈ sw_words := List.mem_filter.mpr ⟨List.mem_append_right _ (List.mem_of_getElem? (i := 78) (by decide +kernel)), by decide +kernel⟩
theorem kw_a3309d6b : Cond.fieldLink R_St 7 "SectorWalk$Stand" "x" "I" ∈ sw_words := List.mem_filter.mpr ⟨List.mem_append_right _ (List.mem_of_getElem? (i := 97) (by decide +kernel)), by decide +kernel⟩
theorem kw_ea0b02d1 : Cond.fieldLink R_St 13 "SectorWalk$Stand" "y" "I" ∈ sw_words := List.mem_filter.mpr ⟨List.mem_append_right _ (List.mem_of_getElem? (i := 100) (by decide +kernel)), by decide +kernel⟩
theorem kw_bbaea129 : Cond.fieldLink R_St 16 "SectorWalk$Stand" "angle" "I" ∈ sw_words := List.mem_filter.mpr ⟨List.mem_append_right _ (List.mem_of_getElem? (i := 103) (by decide +kernel)), by decide +kernel⟩
theorem kw_ef274c34 : Cond.fieldLink R_St 19 "SectorWalk$Stand" "sector" "I" ∈ sw_words := List.mem_filter.mpr ⟨List.mem_append_right _ (List.mem_of_getElem? (i := 105) (by decide +kernel)), by decide +kernel⟩
theorem kw_7f5cc8e8 : Cond.fieldLink R_Cr 21 "SectorWalk$Crossings" "count" "I" ∈ sw_words := List.mem_filter.mpr ⟨List.mem_append_right _ (List.mem_of_getElem? (i := 126) (by decide +kernel)), by decide +kernel⟩
theorem kw_767774d4 : Cond.fieldLink R_Cr 25 "SectorWalk$Crossings" "firstStopper" "I" ∈ sw_words := List.mem_filter.mpr ⟨List.mem_append_right _ (List.mem_of_getElem? (i := 128) (by decide +kernel)), by decide +kernel⟩
theorem kw_b1bc16be : Cond.static y_SW_cross ∈ sw_words := List.mem_filter.mpr ⟨List.mem_append_right _ (List.mem_of_getElem? (i := 238) (by decide +kernel)), by decide +kernel⟩
theorem kw_9cbdf2ed : Cond.methodLink R_Pl 84 y_Pl_side ∈ sw_words := List.mem_filter.mpr ⟨List.mem_append_right _ (List.mem_of_getElem? (i := 253) (by decide +kernel)), by decide +kernel⟩
theorem kw_98fa46ae : Cond.instanceMethod y_Pl_side ∈ sw_words := List.mem_filter.mpr ⟨List.mem_append_right _ (List.mem_of_getElem? (i := 255) (by decide +kernel)), by decide +kernel⟩
theorem kw_6ad6a552 : Cond.selects R_Pl y_Pl_side y_Pl_side ∈ sw_words := List.mem_filter.mpr ⟨List.mem_append_left _ (List.mem_of_getElem? (i := 4) (by decide +kernel)), by decide +kernel⟩
theorem kw_abc36f78 : Cond.methodLink R_Pl 75 Lib.Math.max.name ∈ sw_words := List.mem_filter.mpr ⟨List.mem_append_right _ (List.mem_of_getElem? (i := 243) (by decide +kernel)), by decide +kernel⟩
theorem kw_05e3ba51 : Cond.static Lib.Math.max.name ∈ sw_words := List.mem_filter.mpr ⟨List.mem_append_right _ (List.mem_of_getElem? (i := 244) (by decide +kernel)), by decide +kernel⟩
theorem kw_0f7fb0a1 : Cond.initialized "java/lang/Math" ∈ sw_words := List.mem_filter.mpr ⟨List.mem_append_right _ (List.mem_of_getElem? (i := 7) (by decide +kernel)), by decide +kernel⟩
theorem kw_d854bd5a : Cond.methodLink R_Pl 81 Lib.Math.min.name ∈ sw_words := List.mem_filter.mpr ⟨List.mem_append_right _ (List.mem_of_getElem? (i := 246) (by decide +kernel)), by decide +kernel⟩
theorem kw_e38315b0 : Cond.static Lib.Math.min.name ∈ sw_words := List.mem_filter.mpr ⟨List.mem_append_right _ (List.mem_of_getElem? (i := 247) (by decide +kernel)), by decide +kernel⟩
theorem kw_9dfe1215 : Cond.methodLink R_Pl 63 y_Pl_boxesMeet ∈ sw_words := List.mem_filter.mpr ⟨List.mem_append_right _ (List.mem_of_getElem? (i := 240) (by decide +kernel)), by decide +kernel⟩
theorem kw_a33295e2 : Cond.static y_Pl_boxesMeet ∈ sw_words := List.mem_filter.mpr ⟨List.mem_append_right _ (List.mem_of_getElem? (i := 241) (by decide +kernel)), by decide +kernel⟩
theorem kw_720b3d8f : Cond.methodLink R_Pl 67 y_Pl_straddles ∈ sw_words := List.mem_filter.mpr ⟨List.mem_append_right _ (List.mem_of_getElem? (i := 249) (by decide +kernel)), by decide +kernel⟩
theorem kw_861dd4fe : Cond.instanceMethod y_Pl_straddles ∈ sw_words := List.mem_filter.mpr ⟨List.mem_append_right _ (List.mem_of_getElem? (i := 251) (by decide +kernel)), by decide +kernel⟩
theorem kw_3dad9645 : Cond.selects R_Pl y_Pl_straddles y_Pl_straddles ∈ sw_words := List.mem_filter.mpr ⟨List.mem_append_left _ (List.mem_of_getElem? (i := 3) (by decide +kernel)), by decide +kernel⟩
theorem kw_4d22c011 : Cond.methodLink R_Pl 59 y_Pl_leaveAlike ∈ sw_words := List.mem_filter.mpr ⟨List.mem_append_right _ (List.mem_of_getElem? (i := 233) (by decide +kernel)), by decide +kernel⟩
theorem kw_c176b2a6 : Cond.instanceMethod y_Pl_leaveAlike ∈ sw_words := List.mem_filter.mpr ⟨List.mem_append_right _ (List.mem_of_getElem? (i := 235) (by decide +kernel)), by decide +kernel⟩
theorem kw_90b65df4 : Cond.selects R_Pl y_Pl_leaveAlike y_Pl_leaveAlike ∈ sw_words := List.mem_filter.mpr ⟨List.mem_append_left _ (List.mem_of_getElem? (i := 2) (by decide +kernel)), by decide +kernel⟩
theorem kw_a936cbbd : Cond.methodLink R_Pl 56 y_Pl_clash ∈ sw_words := List.mem_filter.mpr ⟨List.mem_append_right _ (List.mem_of_getElem? (i := 229) (by decide +kernel)), by decide +kernel⟩
theorem kw_edf062c2 : Cond.instanceMethod y_Pl_clash ∈ sw_words := List.mem_filter.mpr ⟨List.mem_append_right _ (List.mem_of_getElem? (i := 231) (by decide +kernel)), by decide +kernel⟩
theorem kw_769e7e73 : Cond.selects R_Pl y_Pl_clash y_Pl_clash ∈ sw_words := List.mem_filter.mpr ⟨List.mem_append_left _ (List.mem_of_getElem? (i := 1) (by decide +kernel)), by decide +kernel⟩
theorem kw_600bd2b2 : Cond.fieldLink R_Cr 15 "SectorWalk$Crossings" "p" "[I" ∈ sw_words := List.mem_filter.mpr ⟨List.mem_append_right _ (List.mem_of_getElem? (i := 124) (by decide +kernel)), by decide +kernel⟩
theorem kw_f084e442 : Cond.methodLink R_Cr 80 Lib.Math.abs.name ∈ sw_words := List.mem_filter.mpr ⟨List.mem_append_right _ (List.mem_of_getElem? (i := 341) (by decide +kernel)), by decide +kernel⟩
theorem kw_09634540 : Cond.static Lib.Math.abs.name ∈ sw_words := List.mem_filter.mpr ⟨List.mem_append_right _ (List.mem_of_getElem? (i := 342) (by decide +kernel)), by decide +kernel⟩
theorem kw_47a18be0 : Cond.fieldLink R_Cr 18 "SectorWalk$Crossings" "q" "[I" ∈ sw_words := List.mem_filter.mpr ⟨List.mem_append_right _ (List.mem_of_getElem? (i := 125) (by decide +kernel)), by decide +kernel⟩
theorem kw_053bb905 : Cond.fieldLink R_Cr 9 "SectorWalk$Crossings" "order" "[I" ∈ sw_words := List.mem_filter.mpr ⟨List.mem_append_right _ (List.mem_of_getElem? (i := 122) (by decide +kernel)), by decide +kernel⟩
theorem kw_7f626125 : Cond.initialized R_Cr ∈ sw_words := List.mem_filter.mpr ⟨List.mem_append_right _ (List.mem_of_getElem? (i := 5) (by decide +kernel)), by decide +kernel⟩
theorem kw_53f2f32e : Cond.methodLink R_Cr 41 y_Cr_comesFromFront ∈ sw_words := List.mem_filter.mpr ⟨List.mem_append_right _ (List.mem_of_getElem? (i := 344) (by decide +kernel)), by decide +kernel⟩
theorem kw_fc808330 : Cond.instanceMethod y_Cr_comesFromFront ∈ sw_words := List.mem_filter.mpr ⟨List.mem_append_right _ (List.mem_of_getElem? (i := 346) (by decide +kernel)), by decide +kernel⟩
theorem kw_c20cbe3c : Cond.selects R_Cr y_Cr_comesFromFront y_Cr_comesFromFront ∈ sw_words := List.mem_filter.mpr ⟨List.mem_append_left _ (List.mem_of_getElem? (i := 10) (by decide +kernel)), by decide +kernel⟩
theorem kw_d6cc6d58 : Cond.fieldLink R_Cr 89 "SectorWalk$Plan" "front" "[I" ∈ sw_words := List.mem_filter.mpr ⟨List.mem_append_right _ (List.mem_of_getElem? (i := 34) (by decide +kernel)), by decide +kernel⟩
theorem kw_20b713e0 : Cond.fieldLink R_Cr 86 "SectorWalk$Plan" "back" "[I" ∈ sw_words := List.mem_filter.mpr ⟨List.mem_append_right _ (List.mem_of_getElem? (i := 36) (by decide +kernel)), by decide +kernel⟩
theorem kw_1a4b003e : Cond.methodLink R_Cr 77 y_Cr_isFarther ∈ sw_words := List.mem_filter.mpr ⟨List.mem_append_right _ (List.mem_of_getElem? (i := 337) (by decide +kernel)), by decide +kernel⟩
theorem kw_a1abe97f : Cond.instanceMethod y_Cr_isFarther ∈ sw_words := List.mem_filter.mpr ⟨List.mem_append_right _ (List.mem_of_getElem? (i := 339) (by decide +kernel)), by decide +kernel⟩
theorem kw_f1434ec2 : Cond.selects R_Cr y_Cr_isFarther y_Cr_isFarther ∈ sw_words := List.mem_filter.mpr ⟨List.mem_append_left _ (List.mem_of_getElem? (i := 9) (by decide +kernel)), by decide +kernel⟩
theorem kw_b60aa6b2 : Cond.fieldLink R_Cr 49 "SectorWalk$Plan" "vertexX" "[I" ∈ sw_words := List.mem_filter.mpr ⟨List.mem_append_right _ (List.mem_of_getElem? (i := 24) (by decide +kernel)), by decide +kernel⟩
theorem kw_d0b565cb : Cond.fieldLink R_Cr 52 "SectorWalk$Plan" "from" "[I" ∈ sw_words := List.mem_filter.mpr ⟨List.mem_append_right _ (List.mem_of_getElem? (i := 30) (by decide +kernel)), by decide +kernel⟩
theorem kw_488ca1e4 : Cond.fieldLink R_Cr 55 "SectorWalk$Stand" "x" "I" ∈ sw_words := List.mem_filter.mpr ⟨List.mem_append_right _ (List.mem_of_getElem? (i := 98) (by decide +kernel)), by decide +kernel⟩
theorem kw_8fd15a10 : Cond.fieldLink R_Cr 60 "SectorWalk$Plan" "vertexY" "[I" ∈ sw_words := List.mem_filter.mpr ⟨List.mem_append_right _ (List.mem_of_getElem? (i := 26) (by decide +kernel)), by decide +kernel⟩
theorem kw_23641763 : Cond.fieldLink R_Cr 63 "SectorWalk$Stand" "y" "I" ∈ sw_words := List.mem_filter.mpr ⟨List.mem_append_right _ (List.mem_of_getElem? (i := 101) (by decide +kernel)), by decide +kernel⟩
theorem kw_b917b49a : Cond.fieldLink R_Cr 66 "SectorWalk$Plan" "to" "[I" ∈ sw_words := List.mem_filter.mpr ⟨List.mem_append_right _ (List.mem_of_getElem? (i := 32) (by decide +kernel)), by decide +kernel⟩
theorem kw_c47a1d87 : Cond.methodLink R_Cr 73 y_Cr_isUpToOne ∈ sw_words := List.mem_filter.mpr ⟨List.mem_append_right _ (List.mem_of_getElem? (i := 330) (by decide +kernel)), by decide +kernel⟩
theorem kw_b5409a40 : Cond.static y_Cr_isUpToOne ∈ sw_words := List.mem_filter.mpr ⟨List.mem_append_right _ (List.mem_of_getElem? (i := 331) (by decide +kernel)), by decide +kernel⟩
theorem kw_0adfc9a3 : Cond.fieldLink R_Cr 28 "SectorWalk$Plan" "wallCount" "I" ∈ sw_words := List.mem_filter.mpr ⟨List.mem_append_right _ (List.mem_of_getElem? (i := 41) (by decide +kernel)), by decide +kernel⟩
theorem kw_3b5b9249 : Cond.methodLink R_Cr 45 y_Pl_stops ∈ sw_words := List.mem_filter.mpr ⟨List.mem_append_right _ (List.mem_of_getElem? (i := 348) (by decide +kernel)), by decide +kernel⟩
theorem kw_b36b3d15 : Cond.instanceMethod y_Pl_stops ∈ sw_words := List.mem_filter.mpr ⟨List.mem_append_right _ (List.mem_of_getElem? (i := 349) (by decide +kernel)), by decide +kernel⟩
theorem kw_4e123c4e : Cond.selects R_Pl y_Pl_stops y_Pl_stops ∈ sw_words := List.mem_filter.mpr ⟨List.mem_append_right _ (List.mem_of_getElem? (i := 350) (by decide +kernel)), by decide +kernel⟩
theorem kw_8b08a6ae : Cond.methodLink R_Cr 33 y_Cr_isCrossed ∈ sw_words := List.mem_filter.mpr ⟨List.mem_append_right _ (List.mem_of_getElem? (i := 325) (by decide +kernel)), by decide +kernel⟩
theorem kw_97d124a7 : Cond.instanceMethod y_Cr_isCrossed ∈ sw_words := List.mem_filter.mpr ⟨List.mem_append_right _ (List.mem_of_getElem? (i := 327) (by decide +kernel)), by decide +kernel⟩
theorem kw_c621ba1a : Cond.selects R_Cr y_Cr_isCrossed y_Cr_isCrossed ∈ sw_words := List.mem_filter.mpr ⟨List.mem_append_left _ (List.mem_of_getElem? (i := 7) (by decide +kernel)), by decide +kernel⟩
theorem kw_e298ac0b : Cond.methodLink R_Cr 37 y_Cr_insert ∈ sw_words := List.mem_filter.mpr ⟨List.mem_append_right _ (List.mem_of_getElem? (i := 333) (by decide +kernel)), by decide +kernel⟩
theorem kw_855c9ef0 : Cond.instanceMethod y_Cr_insert ∈ sw_words := List.mem_filter.mpr ⟨List.mem_append_right _ (List.mem_of_getElem? (i := 335) (by decide +kernel)), by decide +kernel⟩
theorem kw_3e4c02f2 : Cond.selects R_Cr y_Cr_insert y_Cr_insert ∈ sw_words := List.mem_filter.mpr ⟨List.mem_append_left _ (List.mem_of_getElem? (i := 8) (by decide +kernel)), by decide +kernel⟩
theorem kw_2f7f9c44 : Cond.methodLink R_St 1 objectInit ∈ sw_words := List.mem_filter.mpr ⟨List.mem_append_right _ (List.mem_of_getElem? (i := 96) (by decide +kernel)), by decide +kernel⟩
theorem kw_004f8c6f : Cond.instanceMethod objectInit ∈ sw_words := List.mem_filter.mpr ⟨List.mem_append_right _ (List.mem_of_getElem? (i := 15) (by decide +kernel)), by decide +kernel⟩
theorem kw_ba545fc0 : Cond.methodLink R_Ta 3 objectInit ∈ sw_words := List.mem_filter.mpr ⟨List.mem_append_right _ (List.mem_of_getElem? (i := 73) (by decide +kernel)), by decide +kernel⟩
theorem kw_2e6385fb : Cond.arrayClass .int ∈ sw_words := List.mem_filter.mpr ⟨List.mem_append_right _ (List.mem_of_getElem? (i := 67) (by decide +kernel)), by decide +kernel⟩
theorem kw_7fe4d622 : Cond.methodLink R_Cr 3 objectInit ∈ sw_words := List.mem_filter.mpr ⟨List.mem_append_right _ (List.mem_of_getElem? (i := 121) (by decide +kernel)), by decide +kernel⟩
theorem kw_87d24af8 : Cond.methodLink R_Pl 3 objectInit ∈ sw_words := List.mem_filter.mpr ⟨List.mem_append_right _ (List.mem_of_getElem? (i := 22) (by decide +kernel)), by decide +kernel⟩
theorem kw_9e7ac147 : Cond.methodLink R_SW 1 objectInit ∈ sw_words := List.mem_filter.mpr ⟨List.mem_append_right _ (List.mem_of_getElem? (i := 14) (by decide +kernel)), by decide +kernel⟩
theorem kw_3f5b6c76 : Cond.classLink R_SW 7 R_Pl ∈ sw_words := List.mem_filter.mpr ⟨List.mem_append_right _ (List.mem_of_getElem? (i := 17) (by decide +kernel)), by decide +kernel⟩
theorem kw_6b70b927 : Cond.instantiable R_Pl 11 ∈ sw_words := List.mem_filter.mpr ⟨List.mem_append_right _ (List.mem_of_getElem? (i := 18) (by decide +kernel)), by decide +kernel⟩
theorem kw_7d0fb96f : Cond.instanceMethod y_Pl_init ∈ sw_words := List.mem_filter.mpr ⟨List.mem_append_right _ (List.mem_of_getElem? (i := 20) (by decide +kernel)), by decide +kernel⟩
theorem kw_b49d652e : Cond.fieldLink R_SW 10 "SectorWalk" "draft" "LSectorWalk$Plan;" ∈ sw_words := List.mem_filter.mpr ⟨List.mem_append_right _ (List.mem_of_getElem? (i := 141) (by decide +kernel)), by decide +kernel⟩
theorem kw_f31a6d1c : Cond.fieldLink R_SW 16 "SectorWalk" "map" "LSectorWalk$Plan;" ∈ sw_words := List.mem_filter.mpr ⟨List.mem_append_right _ (List.mem_of_getElem? (i := 142) (by decide +kernel)), by decide +kernel⟩
theorem kw_7b5cc7fb : Cond.classLink R_SW 19 R_Ta ∈ sw_words := List.mem_filter.mpr ⟨List.mem_append_right _ (List.mem_of_getElem? (i := 68) (by decide +kernel)), by decide +kernel⟩
theorem kw_e35253cc : Cond.instantiable R_Ta 4 ∈ sw_words := List.mem_filter.mpr ⟨List.mem_append_right _ (List.mem_of_getElem? (i := 69) (by decide +kernel)), by decide +kernel⟩
theorem kw_fe5fa46d : Cond.initialized R_Ta ∈ sw_words := List.mem_filter.mpr ⟨List.mem_append_right _ (List.mem_of_getElem? (i := 3) (by decide +kernel)), by decide +kernel⟩
theorem kw_35de8ea2 : Cond.instanceMethod y_Ta_init ∈ sw_words := List.mem_filter.mpr ⟨List.mem_append_right _ (List.mem_of_getElem? (i := 71) (by decide +kernel)), by decide +kernel⟩
theorem kw_1e20d327 : Cond.fieldLink R_SW 22 "SectorWalk" "tape" "LSectorWalk$Tape;" ∈ sw_words := List.mem_filter.mpr ⟨List.mem_append_right _ (List.mem_of_getElem? (i := 143) (by decide +kernel)), by decide +kernel⟩
theorem kw_997e1d9f : Cond.classLink R_SW 26 R_St ∈ sw_words := List.mem_filter.mpr ⟨List.mem_append_right _ (List.mem_of_getElem? (i := 91) (by decide +kernel)), by decide +kernel⟩
theorem kw_64680aee : Cond.instantiable R_St 4 ∈ sw_words := List.mem_filter.mpr ⟨List.mem_append_right _ (List.mem_of_getElem? (i := 92) (by decide +kernel)), by decide +kernel⟩
theorem kw_dcc3d641 : Cond.initialized R_St ∈ sw_words := List.mem_filter.mpr ⟨List.mem_append_right _ (List.mem_of_getElem? (i := 4) (by decide +kernel)), by decide +kernel⟩
theorem kw_a3622304 : Cond.instanceMethod y_St_init ∈ sw_words := List.mem_filter.mpr ⟨List.mem_append_right _ (List.mem_of_getElem? (i := 94) (by decide +kernel)), by decide +kernel⟩
theorem kw_ca3e350b : Cond.fieldLink R_SW 29 "SectorWalk" "origin" "LSectorWalk$Stand;" ∈ sw_words := List.mem_filter.mpr ⟨List.mem_append_right _ (List.mem_of_getElem? (i := 144) (by decide +kernel)), by decide +kernel⟩
theorem kw_77d0239c : Cond.fieldLink R_SW 33 "SectorWalk" "now" "LSectorWalk$Stand;" ∈ sw_words := List.mem_filter.mpr ⟨List.mem_append_right _ (List.mem_of_getElem? (i := 145) (by decide +kernel)), by decide +kernel⟩
theorem kw_9ca8a14f : Cond.classLink R_SW 36 R_Cr ∈ sw_words := List.mem_filter.mpr ⟨List.mem_append_right _ (List.mem_of_getElem? (i := 116) (by decide +kernel)), by decide +kernel⟩
theorem kw_47fb1155 : Cond.instantiable R_Cr 5 ∈ sw_words := List.mem_filter.mpr ⟨List.mem_append_right _ (List.mem_of_getElem? (i := 117) (by decide +kernel)), by decide +kernel⟩
theorem kw_12e55cd7 : Cond.instanceMethod y_Cr_init ∈ sw_words := List.mem_filter.mpr ⟨List.mem_append_right _ (List.mem_of_getElem? (i := 119) (by decide +kernel)), by decide +kernel⟩
theorem kw_a9bfe939 : Cond.fieldLink R_SW 39 "SectorWalk" "latest" "LSectorWalk$Crossings;" ∈ sw_words := List.mem_filter.mpr ⟨List.mem_append_right _ (List.mem_of_getElem? (i := 146) (by decide +kernel)), by decide +kernel⟩
theorem kw_f96a0642 : Cond.fieldLink R_SW 43 "SectorWalk" "mapsBuilt" "I" ∈ sw_words := List.mem_filter.mpr ⟨List.mem_append_right _ (List.mem_of_getElem? (i := 147) (by decide +kernel)), by decide +kernel⟩
theorem kw_67ec4180 : Cond.fieldLink R_SW 47 "SectorWalk" "started" "Z" ∈ sw_words := List.mem_filter.mpr ⟨List.mem_append_right _ (List.mem_of_getElem? (i := 148) (by decide +kernel)), by decide +kernel⟩
theorem kw_b8a0171e : Cond.methodLink R_SW 55 y_Pl_addVertex ∈ sw_words := List.mem_filter.mpr ⟨List.mem_append_right _ (List.mem_of_getElem? (i := 173) (by decide +kernel)), by decide +kernel⟩
theorem kw_a8141b70 : Cond.instanceMethod y_Pl_addVertex ∈ sw_words := List.mem_filter.mpr ⟨List.mem_append_right _ (List.mem_of_getElem? (i := 174) (by decide +kernel)), by decide +kernel⟩
theorem kw_529b1fee : Cond.selects R_Pl y_Pl_addVertex y_Pl_addVertex ∈ sw_words := List.mem_filter.mpr ⟨List.mem_append_right _ (List.mem_of_getElem? (i := 175) (by decide +kernel)), by decide +kernel⟩
theorem kw_bdd0640b : Cond.methodLink R_SW 59 y_Pl_addSector ∈ sw_words := List.mem_filter.mpr ⟨List.mem_append_right _ (List.mem_of_getElem? (i := 185) (by decide +kernel)), by decide +kernel⟩
theorem kw_0a46bbad : Cond.instanceMethod y_Pl_addSector ∈ sw_words := List.mem_filter.mpr ⟨List.mem_append_right _ (List.mem_of_getElem? (i := 186) (by decide +kernel)), by decide +kernel⟩
theorem kw_7fd5e631 : Cond.selects R_Pl y_Pl_addSector y_Pl_addSector ∈ sw_words := List.mem_filter.mpr ⟨List.mem_append_right _ (List.mem_of_getElem? (i := 187) (by decide +kernel)), by decide +kernel⟩
theorem kw_50f9ae90 : Cond.methodLink R_SW 62 y_Pl_hasVertex ∈ sw_words := List.mem_filter.mpr ⟨List.mem_append_right _ (List.mem_of_getElem? (i := 193) (by decide +kernel)), by decide +kernel⟩
theorem kw_ee2e010f : Cond.instanceMethod y_Pl_hasVertex ∈ sw_words := List.mem_filter.mpr ⟨List.mem_append_right _ (List.mem_of_getElem? (i := 194) (by decide +kernel)), by decide +kernel⟩
theorem kw_1088634e : Cond.selects R_Pl y_Pl_hasVertex y_Pl_hasVertex ∈ sw_words := List.mem_filter.mpr ⟨List.mem_append_right _ (List.mem_of_getElem? (i := 195) (by decide +kernel)), by decide +kernel⟩
theorem kw_269a42ca : Cond.methodLink R_SW 66 y_Pl_hasSector ∈ sw_words := List.mem_filter.mpr ⟨List.mem_append_right _ (List.mem_of_getElem? (i := 197) (by decide +kernel)), by decide +kernel⟩
theorem kw_4c7ca1d2 : Cond.instanceMethod y_Pl_hasSector ∈ sw_words := List.mem_filter.mpr ⟨List.mem_append_right _ (List.mem_of_getElem? (i := 198) (by decide +kernel)), by decide +kernel⟩
theorem kw_3dc69a91 : Cond.selects R_Pl y_Pl_hasSector y_Pl_hasSector ∈ sw_words := List.mem_filter.mpr ⟨List.mem_append_right _ (List.mem_of_getElem? (i := 199) (by decide +kernel)), by decide +kernel⟩
theorem kw_23f2da7e : Cond.methodLink R_SW 69 y_Pl_addWall ∈ sw_words := List.mem_filter.mpr ⟨List.mem_append_right _ (List.mem_of_getElem? (i := 201) (by decide +kernel)), by decide +kernel⟩
theorem kw_05485cbd : Cond.instanceMethod y_Pl_addWall ∈ sw_words := List.mem_filter.mpr ⟨List.mem_append_right _ (List.mem_of_getElem? (i := 202) (by decide +kernel)), by decide +kernel⟩
theorem kw_5f9b92c5 : Cond.selects R_Pl y_Pl_addWall y_Pl_addWall ∈ sw_words := List.mem_filter.mpr ⟨List.mem_append_right _ (List.mem_of_getElem? (i := 203) (by decide +kernel)), by decide +kernel⟩
theorem kw_a2b7dbe4 : Cond.methodLink R_SW 73 y_Pl_removeLastWall ∈ sw_words := List.mem_filter.mpr ⟨List.mem_append_right _ (List.mem_of_getElem? (i := 209) (by decide +kernel)), by decide +kernel⟩
theorem kw_9e9b25ab : Cond.instanceMethod y_Pl_removeLastWall ∈ sw_words := List.mem_filter.mpr ⟨List.mem_append_right _ (List.mem_of_getElem? (i := 210) (by decide +kernel)), by decide +kernel⟩
theorem kw_0dd00a32 : Cond.selects R_Pl y_Pl_removeLastWall y_Pl_removeLastWall ∈ sw_words := List.mem_filter.mpr ⟨List.mem_append_right _ (List.mem_of_getElem? (i := 211) (by decide +kernel)), by decide +kernel⟩
theorem kw_db2289b7 : Cond.methodLink R_SW 77 y_Pl_makeEmpty ∈ sw_words := List.mem_filter.mpr ⟨List.mem_append_right _ (List.mem_of_getElem? (i := 217) (by decide +kernel)), by decide +kernel⟩
theorem kw_980a307d : Cond.instanceMethod y_Pl_makeEmpty ∈ sw_words := List.mem_filter.mpr ⟨List.mem_append_right _ (List.mem_of_getElem? (i := 218) (by decide +kernel)), by decide +kernel⟩
theorem kw_461f99b4 : Cond.selects R_Pl y_Pl_makeEmpty y_Pl_makeEmpty ∈ sw_words := List.mem_filter.mpr ⟨List.mem_append_right _ (List.mem_of_getElem? (i := 219) (by decide +kernel)), by decide +kernel⟩
theorem kw_5f9ccc80 : Cond.methodLink R_SW 109 y_SW_isInput ∈ sw_words := List.mem_filter.mpr ⟨List.mem_append_right _ (List.mem_of_getElem? (i := 287) (by decide +kernel)), by decide +kernel⟩
theorem kw_4bf3cae6 : Cond.static y_SW_isInput ∈ sw_words := List.mem_filter.mpr ⟨List.mem_append_right _ (List.mem_of_getElem? (i := 288) (by decide +kernel)), by decide +kernel⟩
theorem kw_82c9f752 : Cond.methodLink R_SW 113 y_Ta_append ∈ sw_words := List.mem_filter.mpr ⟨List.mem_append_right _ (List.mem_of_getElem? (i := 290) (by decide +kernel)), by decide +kernel⟩
theorem kw_653fced9 : Cond.instanceMethod y_Ta_append ∈ sw_words := List.mem_filter.mpr ⟨List.mem_append_right _ (List.mem_of_getElem? (i := 291) (by decide +kernel)), by decide +kernel⟩
theorem kw_3c84e16d : Cond.selects R_Ta y_Ta_append y_Ta_append ∈ sw_words := List.mem_filter.mpr ⟨List.mem_append_right _ (List.mem_of_getElem? (i := 292) (by decide +kernel)), by decide +kernel⟩
theorem kw_ea05e201 : Cond.methodLink R_SW 117 y_Ta_removeLast ∈ sw_words := List.mem_filter.mpr ⟨List.mem_append_right _ (List.mem_of_getElem? (i := 298) (by decide +kernel)), by decide +kernel⟩
theorem kw_f4671b0b : Cond.instanceMethod y_Ta_removeLast ∈ sw_words := List.mem_filter.mpr ⟨List.mem_append_right _ (List.mem_of_getElem? (i := 299) (by decide +kernel)), by decide +kernel⟩
theorem kw_a5206cdb : Cond.selects R_Ta y_Ta_removeLast y_Ta_removeLast ∈ sw_words := List.mem_filter.mpr ⟨List.mem_append_right _ (List.mem_of_getElem? (i := 300) (by decide +kernel)), by decide +kernel⟩
theorem kw_4dcebae7 : Cond.fieldLink R_SW 136 "SectorWalk$Crossings" "count" "I" ∈ sw_words := List.mem_filter.mpr ⟨List.mem_append_right _ (List.mem_of_getElem? (i := 127) (by decide +kernel)), by decide +kernel⟩
theorem kw_7d5122a4 : Cond.fieldLink R_SW 137 "SectorWalk$Crossings" "order" "[I" ∈ sw_words := List.mem_filter.mpr ⟨List.mem_append_right _ (List.mem_of_getElem? (i := 123) (by decide +kernel)), by decide +kernel⟩
theorem kw_6fcea875 : Cond.fieldLink R_SW 140 "SectorWalk$Crossings" "firstStopper" "I" ∈ sw_words := List.mem_filter.mpr ⟨List.mem_append_right _ (List.mem_of_getElem? (i := 129) (by decide +kernel)), by decide +kernel⟩
theorem kw_a8ea2423 : Cond.constant R_SW 143 100000 ∈ sw_words := List.mem_filter.mpr ⟨List.mem_append_right _ (List.mem_of_getElem? (i := 372) (by decide +kernel)), by decide +kernel⟩
theorem kw_9f26c297 : Cond.fieldLink R_SW 94 "SectorWalk$Stand" "x" "I" ∈ sw_words := List.mem_filter.mpr ⟨List.mem_append_right _ (List.mem_of_getElem? (i := 99) (by decide +kernel)), by decide +kernel⟩
theorem kw_56a41615 : Cond.fieldLink R_SW 97 "SectorWalk$Stand" "y" "I" ∈ sw_words := List.mem_filter.mpr ⟨List.mem_append_right _ (List.mem_of_getElem? (i := 102) (by decide +kernel)), by decide +kernel⟩
theorem kw_15951c94 : Cond.fieldLink R_SW 100 "SectorWalk$Stand" "angle" "I" ∈ sw_words := List.mem_filter.mpr ⟨List.mem_append_right _ (List.mem_of_getElem? (i := 104) (by decide +kernel)), by decide +kernel⟩
theorem kw_ed767aad : Cond.fieldLink R_SW 103 "SectorWalk$Stand" "sector" "I" ∈ sw_words := List.mem_filter.mpr ⟨List.mem_append_right _ (List.mem_of_getElem? (i := 106) (by decide +kernel)), by decide +kernel⟩
theorem kw_29dc9459 : Cond.fieldLink R_SW 144 "SectorWalk$Plan" "vertexCount" "I" ∈ sw_words := List.mem_filter.mpr ⟨List.mem_append_right _ (List.mem_of_getElem? (i := 38) (by decide +kernel)), by decide +kernel⟩
theorem kw_fac11bd0 : Cond.fieldLink R_SW 147 "SectorWalk$Plan" "sectorCount" "I" ∈ sw_words := List.mem_filter.mpr ⟨List.mem_append_right _ (List.mem_of_getElem? (i := 40) (by decide +kernel)), by decide +kernel⟩
theorem kw_400d1ecd : Cond.fieldLink R_SW 150 "SectorWalk$Plan" "wallCount" "I" ∈ sw_words := List.mem_filter.mpr ⟨List.mem_append_right _ (List.mem_of_getElem? (i := 43) (by decide +kernel)), by decide +kernel⟩
theorem kw_22ade4b9 : Cond.fieldLink R_SW 120 "SectorWalk$Tape" "count" "I" ∈ sw_words := List.mem_filter.mpr ⟨List.mem_append_right _ (List.mem_of_getElem? (i := 81) (by decide +kernel)), by decide +kernel⟩
theorem kw_7c68a6d3 : Cond.methodLink R_SW 153 y_St_becomeCopyOf ∈ sw_words := List.mem_filter.mpr ⟨List.mem_append_right _ (List.mem_of_getElem? (i := 279) (by decide +kernel)), by decide +kernel⟩
theorem kw_e563fc38 : Cond.instanceMethod y_St_becomeCopyOf ∈ sw_words := List.mem_filter.mpr ⟨List.mem_append_right _ (List.mem_of_getElem? (i := 280) (by decide +kernel)), by decide +kernel⟩
theorem kw_6b48497f : Cond.selects R_St y_St_becomeCopyOf y_St_becomeCopyOf ∈ sw_words := List.mem_filter.mpr ⟨List.mem_append_right _ (List.mem_of_getElem? (i := 281) (by decide +kernel)), by decide +kernel⟩
theorem kw_826ad13d : Cond.methodLink R_SW 88 y_Cr_forget ∈ sw_words := List.mem_filter.mpr ⟨List.mem_append_right _ (List.mem_of_getElem? (i := 264) (by decide +kernel)), by decide +kernel⟩
theorem kw_f7d13208 : Cond.instanceMethod y_Cr_forget ∈ sw_words := List.mem_filter.mpr ⟨List.mem_append_right _ (List.mem_of_getElem? (i := 265) (by decide +kernel)), by decide +kernel⟩
theorem kw_3889778d : Cond.selects R_Cr y_Cr_forget y_Cr_forget ∈ sw_words := List.mem_filter.mpr ⟨List.mem_append_right _ (List.mem_of_getElem? (i := 266) (by decide +kernel)), by decide +kernel⟩
theorem kw_a919fc9b : Cond.methodLink R_SW 91 y_SW_isPlaceOfWalker ∈ sw_words := List.mem_filter.mpr ⟨List.mem_append_right _ (List.mem_of_getElem? (i := 272) (by decide +kernel)), by decide +kernel⟩
theorem kw_ebfe933a : Cond.static y_SW_isPlaceOfWalker ∈ sw_words := List.mem_filter.mpr ⟨List.mem_append_right _ (List.mem_of_getElem? (i := 273) (by decide +kernel)), by decide +kernel⟩
theorem kw_44931b2b : Cond.methodLink R_SW 106 y_SW_returnToOrigin ∈ sw_words := List.mem_filter.mpr ⟨List.mem_append_right _ (List.mem_of_getElem? (i := 275) (by decide +kernel)), by decide +kernel⟩
theorem kw_b40d6008 : Cond.instanceMethod y_SW_returnToOrigin ∈ sw_words := List.mem_filter.mpr ⟨List.mem_append_right _ (List.mem_of_getElem? (i := 277) (by decide +kernel)), by decide +kernel⟩
theorem kw_014270a4 : Cond.selects R_SW y_SW_returnToOrigin y_SW_returnToOrigin ∈ sw_words := List.mem_filter.mpr ⟨List.mem_append_left _ (List.mem_of_getElem? (i := 5) (by decide +kernel)), by decide +kernel⟩
theorem kw_66b59126 : Cond.methodLink R_SW 80 y_Pl_firstWrongWall ∈ sw_words := List.mem_filter.mpr ⟨List.mem_append_right _ (List.mem_of_getElem? (i := 225) (by decide +kernel)), by decide +kernel⟩
theorem kw_fd1df5ca : Cond.instanceMethod y_Pl_firstWrongWall ∈ sw_words := List.mem_filter.mpr ⟨List.mem_append_right _ (List.mem_of_getElem? (i := 226) (by decide +kernel)), by decide +kernel⟩
theorem kw_600648f4 : Cond.selects R_Pl y_Pl_firstWrongWall y_Pl_firstWrongWall ∈ sw_words := List.mem_filter.mpr ⟨List.mem_append_right _ (List.mem_of_getElem? (i := 227) (by decide +kernel)), by decide +kernel⟩
theorem kw_e2b6ec4d : Cond.methodLink R_SW 84 y_Pl_becomeCopyOf ∈ sw_words := List.mem_filter.mpr ⟨List.mem_append_right _ (List.mem_of_getElem? (i := 257) (by decide +kernel)), by decide +kernel⟩
theorem kw_a1f5b41b : Cond.instanceMethod y_Pl_becomeCopyOf ∈ sw_words := List.mem_filter.mpr ⟨List.mem_append_right _ (List.mem_of_getElem? (i := 258) (by decide +kernel)), by decide +kernel⟩
theorem kw_79f61b50 : Cond.selects R_Pl y_Pl_becomeCopyOf y_Pl_becomeCopyOf ∈ sw_words := List.mem_filter.mpr ⟨List.mem_append_right _ (List.mem_of_getElem? (i := 259) (by decide +kernel)), by decide +kernel⟩
theorem kw_b101ef22 : Cond.methodLink R_SW 161 y_SW_cosineOf ∈ sw_words := List.mem_filter.mpr ⟨List.mem_append_right _ (List.mem_of_getElem? (i := 313) (by decide +kernel)), by decide +kernel⟩
theorem kw_89dce12a : Cond.static y_SW_cosineOf ∈ sw_words := List.mem_filter.mpr ⟨List.mem_append_right _ (List.mem_of_getElem? (i := 314) (by decide +kernel)), by decide +kernel⟩
theorem kw_b0115a39 : Cond.methodLink R_SW 165 y_Math_floorDiv ∈ sw_words := List.mem_filter.mpr ⟨List.mem_append_right _ (List.mem_of_getElem? (i := 318) (by decide +kernel)), by decide +kernel⟩
theorem kw_ec78e224 : Cond.static y_Math_floorDiv ∈ sw_words := List.mem_filter.mpr ⟨List.mem_append_right _ (List.mem_of_getElem? (i := 319) (by decide +kernel)), by decide +kernel⟩
theorem kw_6664023e : Cond.methodLink R_SW 168 y_Cr_fill ∈ sw_words := List.mem_filter.mpr ⟨List.mem_append_right _ (List.mem_of_getElem? (i := 321) (by decide +kernel)), by decide +kernel⟩
theorem kw_21d23617 : Cond.instanceMethod y_Cr_fill ∈ sw_words := List.mem_filter.mpr ⟨List.mem_append_right _ (List.mem_of_getElem? (i := 322) (by decide +kernel)), by decide +kernel⟩
theorem kw_c6643c00 : Cond.selects R_Cr y_Cr_fill y_Cr_fill ∈ sw_words := List.mem_filter.mpr ⟨List.mem_append_right _ (List.mem_of_getElem? (i := 323) (by decide +kernel)), by decide +kernel⟩
theorem kw_ee663f37 : Cond.methodLink R_SW 172 y_Cr_sectorBehind ∈ sw_words := List.mem_filter.mpr ⟨List.mem_append_right _ (List.mem_of_getElem? (i := 352) (by decide +kernel)), by decide +kernel⟩
theorem kw_6a419308 : Cond.instanceMethod y_Cr_sectorBehind ∈ sw_words := List.mem_filter.mpr ⟨List.mem_append_right _ (List.mem_of_getElem? (i := 353) (by decide +kernel)), by decide +kernel⟩
theorem kw_a9084629 : Cond.selects R_Cr y_Cr_sectorBehind y_Cr_sectorBehind ∈ sw_words := List.mem_filter.mpr ⟨List.mem_append_right _ (List.mem_of_getElem? (i := 354) (by decide +kernel)), by decide +kernel⟩
theorem kw_958b0ec0 : Cond.methodLink R_SW 133 y_SW_walk ∈ sw_words := List.mem_filter.mpr ⟨List.mem_append_right _ (List.mem_of_getElem? (i := 306) (by decide +kernel)), by decide +kernel⟩
theorem kw_69bfcabd : Cond.instanceMethod y_SW_walk ∈ sw_words := List.mem_filter.mpr ⟨List.mem_append_right _ (List.mem_of_getElem? (i := 308) (by decide +kernel)), by decide +kernel⟩
theorem kw_cfa70cf4 : Cond.selects R_SW y_SW_walk y_SW_walk ∈ sw_words := List.mem_filter.mpr ⟨List.mem_append_left _ (List.mem_of_getElem? (i := 6) (by decide +kernel)), by decide +kernel⟩
theorem kw_4dc7abc3 : Cond.fieldLink R_SW 123 "SectorWalk$Tape" "ahead" "[I" ∈ sw_words := List.mem_filter.mpr ⟨List.mem_append_right _ (List.mem_of_getElem? (i := 75) (by decide +kernel)), by decide +kernel⟩
theorem kw_eba03d32 : Cond.fieldLink R_SW 127 "SectorWalk$Tape" "aside" "[I" ∈ sw_words := List.mem_filter.mpr ⟨List.mem_append_right _ (List.mem_of_getElem? (i := 77) (by decide +kernel)), by decide +kernel⟩
theorem kw_741099aa : Cond.fieldLink R_SW 130 "SectorWalk$Tape" "turn" "[I" ∈ sw_words := List.mem_filter.mpr ⟨List.mem_append_right _ (List.mem_of_getElem? (i := 79) (by decide +kernel)), by decide +kernel⟩
theorem ku_SW : ∀ w ∈ u_ws R_SW F_SW 8, w ∈ sw_words := by
  intro w hw
  obtain ⟨k, hk, rfl⟩ := List.mem_map.mp hw
  have hk := List.mem_range.mp hk
  match k, hk with
  | 0, _ => exact List.mem_filter.mpr ⟨List.mem_append_right _ (List.mem_of_getElem? (i := 149) (by decide +kernel)), by decide +kernel⟩
  | 1, _ => exact List.mem_filter.mpr ⟨List.mem_append_right _ (List.mem_of_getElem? (i := 151) (by decide +kernel)), by decide +kernel⟩
  | 2, _ => exact List.mem_filter.mpr ⟨List.mem_append_right _ (List.mem_of_getElem? (i := 153) (by decide +kernel)), by decide +kernel⟩
  | 3, _ => exact List.mem_filter.mpr ⟨List.mem_append_right _ (List.mem_of_getElem? (i := 155) (by decide +kernel)), by decide +kernel⟩
  | 4, _ => exact List.mem_filter.mpr ⟨List.mem_append_right _ (List.mem_of_getElem? (i := 157) (by decide +kernel)), by decide +kernel⟩
  | 5, _ => exact List.mem_filter.mpr ⟨List.mem_append_right _ (List.mem_of_getElem? (i := 159) (by decide +kernel)), by decide +kernel⟩
  | 6, _ => exact List.mem_filter.mpr ⟨List.mem_append_right _ (List.mem_of_getElem? (i := 161) (by decide +kernel)), by decide +kernel⟩
  | 7, _ => exact List.mem_filter.mpr ⟨List.mem_append_right _ (List.mem_of_getElem? (i := 163) (by decide +kernel)), by decide +kernel⟩
theorem ku_Pl : ∀ w ∈ u_ws R_Pl F_Pl 11, w ∈ sw_words := by
  intro w hw
  obtain ⟨k, hk, rfl⟩ := List.mem_map.mp hw
  have hk := List.mem_range.mp hk
  match k, hk with
  | 0, _ => exact List.mem_filter.mpr ⟨List.mem_append_right _ (List.mem_of_getElem? (i := 44) (by decide +kernel)), by decide +kernel⟩
  | 1, _ => exact List.mem_filter.mpr ⟨List.mem_append_right _ (List.mem_of_getElem? (i := 46) (by decide +kernel)), by decide +kernel⟩
  | 2, _ => exact List.mem_filter.mpr ⟨List.mem_append_right _ (List.mem_of_getElem? (i := 48) (by decide +kernel)), by decide +kernel⟩
  | 3, _ => exact List.mem_filter.mpr ⟨List.mem_append_right _ (List.mem_of_getElem? (i := 50) (by decide +kernel)), by decide +kernel⟩
  | 4, _ => exact List.mem_filter.mpr ⟨List.mem_append_right _ (List.mem_of_getElem? (i := 52) (by decide +kernel)), by decide +kernel⟩
  | 5, _ => exact List.mem_filter.mpr ⟨List.mem_append_right _ (List.mem_of_getElem? (i := 54) (by decide +kernel)), by decide +kernel⟩
  | 6, _ => exact List.mem_filter.mpr ⟨List.mem_append_right _ (List.mem_of_getElem? (i := 56) (by decide +kernel)), by decide +kernel⟩
  | 7, _ => exact List.mem_filter.mpr ⟨List.mem_append_right _ (List.mem_of_getElem? (i := 58) (by decide +kernel)), by decide +kernel⟩
  | 8, _ => exact List.mem_filter.mpr ⟨List.mem_append_right _ (List.mem_of_getElem? (i := 60) (by decide +kernel)), by decide +kernel⟩
  | 9, _ => exact List.mem_filter.mpr ⟨List.mem_append_right _ (List.mem_of_getElem? (i := 62) (by decide +kernel)), by decide +kernel⟩
  | 10, _ => exact List.mem_filter.mpr ⟨List.mem_append_right _ (List.mem_of_getElem? (i := 64) (by decide +kernel)), by decide +kernel⟩
theorem ku_Ta : ∀ w ∈ u_ws R_Ta F_Ta 4, w ∈ sw_words := by
  intro w hw
  obtain ⟨k, hk, rfl⟩ := List.mem_map.mp hw
  have hk := List.mem_range.mp hk
  match k, hk with
  | 0, _ => exact List.mem_filter.mpr ⟨List.mem_append_right _ (List.mem_of_getElem? (i := 82) (by decide +kernel)), by decide +kernel⟩
  | 1, _ => exact List.mem_filter.mpr ⟨List.mem_append_right _ (List.mem_of_getElem? (i := 84) (by decide +kernel)), by decide +kernel⟩
  | 2, _ => exact List.mem_filter.mpr ⟨List.mem_append_right _ (List.mem_of_getElem? (i := 86) (by decide +kernel)), by decide +kernel⟩
  | 3, _ => exact List.mem_filter.mpr ⟨List.mem_append_right _ (List.mem_of_getElem? (i := 88) (by decide +kernel)), by decide +kernel⟩
theorem ku_St : ∀ w ∈ u_ws R_St F_St 4, w ∈ sw_words := by
  intro w hw
  obtain ⟨k, hk, rfl⟩ := List.mem_map.mp hw
  have hk := List.mem_range.mp hk
  match k, hk with
  | 0, _ => exact List.mem_filter.mpr ⟨List.mem_append_right _ (List.mem_of_getElem? (i := 107) (by decide +kernel)), by decide +kernel⟩
  | 1, _ => exact List.mem_filter.mpr ⟨List.mem_append_right _ (List.mem_of_getElem? (i := 109) (by decide +kernel)), by decide +kernel⟩
  | 2, _ => exact List.mem_filter.mpr ⟨List.mem_append_right _ (List.mem_of_getElem? (i := 111) (by decide +kernel)), by decide +kernel⟩
  | 3, _ => exact List.mem_filter.mpr ⟨List.mem_append_right _ (List.mem_of_getElem? (i := 113) (by decide +kernel)), by decide +kernel⟩
theorem ku_Cr : ∀ w ∈ u_ws R_Cr F_Cr 5, w ∈ sw_words := by
  intro w hw
  obtain ⟨k, hk, rfl⟩ := List.mem_map.mp hw
  have hk := List.mem_range.mp hk
  match k, hk with
  | 0, _ => exact List.mem_filter.mpr ⟨List.mem_append_right _ (List.mem_of_getElem? (i := 130) (by decide +kernel)), by decide +kernel⟩
  | 1, _ => exact List.mem_filter.mpr ⟨List.mem_append_right _ (List.mem_of_getElem? (i := 132) (by decide +kernel)), by decide +kernel⟩
  | 2, _ => exact List.mem_filter.mpr ⟨List.mem_append_right _ (List.mem_of_getElem? (i := 134) (by decide +kernel)), by decide +kernel⟩
  | 3, _ => exact List.mem_filter.mpr ⟨List.mem_append_right _ (List.mem_of_getElem? (i := 136) (by decide +kernel)), by decide +kernel⟩
  | 4, _ => exact List.mem_filter.mpr ⟨List.mem_append_right _ (List.mem_of_getElem? (i := 138) (by decide +kernel)), by decide +kernel⟩
theorem ku_Mo : ∀ w ∈ u_ws R_Mo F_Mo 36, w ∈ sw_words := by
  intro w hw
  obtain ⟨k, hk, rfl⟩ := List.mem_map.mp hw
  have hk := List.mem_range.mp hk
  match k, hk with
  | 0, _ => exact List.mem_filter.mpr ⟨List.mem_append_right _ (List.mem_of_getElem? (i := 419) (by decide +kernel)), by decide +kernel⟩
  | 1, _ => exact List.mem_filter.mpr ⟨List.mem_append_right _ (List.mem_of_getElem? (i := 421) (by decide +kernel)), by decide +kernel⟩
  | 2, _ => exact List.mem_filter.mpr ⟨List.mem_append_right _ (List.mem_of_getElem? (i := 423) (by decide +kernel)), by decide +kernel⟩
  | 3, _ => exact List.mem_filter.mpr ⟨List.mem_append_right _ (List.mem_of_getElem? (i := 425) (by decide +kernel)), by decide +kernel⟩
  | 4, _ => exact List.mem_filter.mpr ⟨List.mem_append_right _ (List.mem_of_getElem? (i := 427) (by decide +kernel)), by decide +kernel⟩
  | 5, _ => exact List.mem_filter.mpr ⟨List.mem_append_right _ (List.mem_of_getElem? (i := 429) (by decide +kernel)), by decide +kernel⟩
  | 6, _ => exact List.mem_filter.mpr ⟨List.mem_append_right _ (List.mem_of_getElem? (i := 431) (by decide +kernel)), by decide +kernel⟩
  | 7, _ => exact List.mem_filter.mpr ⟨List.mem_append_right _ (List.mem_of_getElem? (i := 433) (by decide +kernel)), by decide +kernel⟩
  | 8, _ => exact List.mem_filter.mpr ⟨List.mem_append_right _ (List.mem_of_getElem? (i := 435) (by decide +kernel)), by decide +kernel⟩
  | 9, _ => exact List.mem_filter.mpr ⟨List.mem_append_right _ (List.mem_of_getElem? (i := 437) (by decide +kernel)), by decide +kernel⟩
  | 10, _ => exact List.mem_filter.mpr ⟨List.mem_append_right _ (List.mem_of_getElem? (i := 439) (by decide +kernel)), by decide +kernel⟩
  | 11, _ => exact List.mem_filter.mpr ⟨List.mem_append_right _ (List.mem_of_getElem? (i := 441) (by decide +kernel)), by decide +kernel⟩
  | 12, _ => exact List.mem_filter.mpr ⟨List.mem_append_right _ (List.mem_of_getElem? (i := 443) (by decide +kernel)), by decide +kernel⟩
  | 13, _ => exact List.mem_filter.mpr ⟨List.mem_append_right _ (List.mem_of_getElem? (i := 445) (by decide +kernel)), by decide +kernel⟩
  | 14, _ => exact List.mem_filter.mpr ⟨List.mem_append_right _ (List.mem_of_getElem? (i := 447) (by decide +kernel)), by decide +kernel⟩
  | 15, _ => exact List.mem_filter.mpr ⟨List.mem_append_right _ (List.mem_of_getElem? (i := 449) (by decide +kernel)), by decide +kernel⟩
  | 16, _ => exact List.mem_filter.mpr ⟨List.mem_append_right _ (List.mem_of_getElem? (i := 451) (by decide +kernel)), by decide +kernel⟩
  | 17, _ => exact List.mem_filter.mpr ⟨List.mem_append_right _ (List.mem_of_getElem? (i := 453) (by decide +kernel)), by decide +kernel⟩
  | 18, _ => exact List.mem_filter.mpr ⟨List.mem_append_right _ (List.mem_of_getElem? (i := 455) (by decide +kernel)), by decide +kernel⟩
  | 19, _ => exact List.mem_filter.mpr ⟨List.mem_append_right _ (List.mem_of_getElem? (i := 457) (by decide +kernel)), by decide +kernel⟩
  | 20, _ => exact List.mem_filter.mpr ⟨List.mem_append_right _ (List.mem_of_getElem? (i := 459) (by decide +kernel)), by decide +kernel⟩
  | 21, _ => exact List.mem_filter.mpr ⟨List.mem_append_right _ (List.mem_of_getElem? (i := 461) (by decide +kernel)), by decide +kernel⟩
  | 22, _ => exact List.mem_filter.mpr ⟨List.mem_append_right _ (List.mem_of_getElem? (i := 463) (by decide +kernel)), by decide +kernel⟩
  | 23, _ => exact List.mem_filter.mpr ⟨List.mem_append_right _ (List.mem_of_getElem? (i := 465) (by decide +kernel)), by decide +kernel⟩
  | 24, _ => exact List.mem_filter.mpr ⟨List.mem_append_right _ (List.mem_of_getElem? (i := 467) (by decide +kernel)), by decide +kernel⟩
  | 25, _ => exact List.mem_filter.mpr ⟨List.mem_append_right _ (List.mem_of_getElem? (i := 469) (by decide +kernel)), by decide +kernel⟩
  | 26, _ => exact List.mem_filter.mpr ⟨List.mem_append_right _ (List.mem_of_getElem? (i := 471) (by decide +kernel)), by decide +kernel⟩
  | 27, _ => exact List.mem_filter.mpr ⟨List.mem_append_right _ (List.mem_of_getElem? (i := 473) (by decide +kernel)), by decide +kernel⟩
  | 28, _ => exact List.mem_filter.mpr ⟨List.mem_append_right _ (List.mem_of_getElem? (i := 475) (by decide +kernel)), by decide +kernel⟩
  | 29, _ => exact List.mem_filter.mpr ⟨List.mem_append_right _ (List.mem_of_getElem? (i := 477) (by decide +kernel)), by decide +kernel⟩
  | 30, _ => exact List.mem_filter.mpr ⟨List.mem_append_right _ (List.mem_of_getElem? (i := 479) (by decide +kernel)), by decide +kernel⟩
  | 31, _ => exact List.mem_filter.mpr ⟨List.mem_append_right _ (List.mem_of_getElem? (i := 481) (by decide +kernel)), by decide +kernel⟩
  | 32, _ => exact List.mem_filter.mpr ⟨List.mem_append_right _ (List.mem_of_getElem? (i := 483) (by decide +kernel)), by decide +kernel⟩
  | 33, _ => exact List.mem_filter.mpr ⟨List.mem_append_right _ (List.mem_of_getElem? (i := 485) (by decide +kernel)), by decide +kernel⟩
  | 34, _ => exact List.mem_filter.mpr ⟨List.mem_append_right _ (List.mem_of_getElem? (i := 487) (by decide +kernel)), by decide +kernel⟩
  | 35, _ => exact List.mem_filter.mpr ⟨List.mem_append_right _ (List.mem_of_getElem? (i := 489) (by decide +kernel)), by decide +kernel⟩
  | k + 36, h => exact absurd h (by omega)
def sw_nest : List (String × Nat × MethodName × String) := [(R_Pl, 71, y_SW_cross, "SectorWalk"), (R_Cr, 69, y_SW_cross, "SectorWalk"), (R_SW, 9, y_Pl_init, "SectorWalk"), (R_SW, 21, y_Ta_init, "SectorWalk"), (R_SW, 28, y_St_init, "SectorWalk"), (R_SW, 38, y_Cr_init, "SectorWalk")]
