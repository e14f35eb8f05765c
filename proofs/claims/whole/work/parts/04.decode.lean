theorem d_Math_floorDiv_0 : decode b_Math_floorDiv 0 = .ok (.iload_n 0, 1) := by decide +kernel
theorem d_Math_floorDiv_1 : decode b_Math_floorDiv 1 = .ok (.iload_n 1, 1) := by decide +kernel
theorem d_Math_floorDiv_2 : decode b_Math_floorDiv 2 = .ok (.idiv, 1) := by decide +kernel
theorem d_Math_floorDiv_3 : decode b_Math_floorDiv 3 = .ok (.istore_n 2, 1) := by decide +kernel
theorem d_Math_floorDiv_4 : decode b_Math_floorDiv 4 = .ok (.iload_n 0, 1) := by decide +kernel
theorem d_Math_floorDiv_5 : decode b_Math_floorDiv 5 = .ok (.iload_n 1, 1) := by decide +kernel
theorem d_Math_floorDiv_6 : decode b_Math_floorDiv 6 = .ok (.ixor, 1) := by decide +kernel
theorem d_Math_floorDiv_7 : decode b_Math_floorDiv 7 = .ok (.ifCond .ge 14, 3) := by decide +kernel
theorem d_Math_floorDiv_10 : decode b_Math_floorDiv 10 = .ok (.iload_n 2, 1) := by decide +kernel
theorem d_Math_floorDiv_11 : decode b_Math_floorDiv 11 = .ok (.iload_n 1, 1) := by decide +kernel
theorem d_Math_floorDiv_12 : decode b_Math_floorDiv 12 = .ok (.imul, 1) := by decide +kernel
theorem d_Math_floorDiv_13 : decode b_Math_floorDiv 13 = .ok (.iload_n 0, 1) := by decide +kernel
theorem d_Math_floorDiv_14 : decode b_Math_floorDiv 14 = .ok (.if_icmp .eq 7, 3) := by decide +kernel
theorem d_Math_floorDiv_17 : decode b_Math_floorDiv 17 = .ok (.iload_n 2, 1) := by decide +kernel
theorem d_Math_floorDiv_18 : decode b_Math_floorDiv 18 = .ok (.iconst 1, 1) := by decide +kernel
theorem d_Math_floorDiv_19 : decode b_Math_floorDiv 19 = .ok (.isub, 1) := by decide +kernel
theorem d_Math_floorDiv_20 : decode b_Math_floorDiv 20 = .ok (.ireturn, 1) := by decide +kernel
theorem d_Math_floorDiv_21 : decode b_Math_floorDiv 21 = .ok (.iload_n 2, 1) := by decide +kernel
theorem d_Math_floorDiv_22 : decode b_Math_floorDiv 22 = .ok (.ireturn, 1) := by decide +kernel
theorem d_Math_floorMod_0 : decode b_Math_floorMod 0 = .ok (.iload_n 0, 1) := by decide +kernel
theorem d_Math_floorMod_1 : decode b_Math_floorMod 1 = .ok (.iload_n 1, 1) := by decide +kernel
theorem d_Math_floorMod_2 : decode b_Math_floorMod 2 = .ok (.irem, 1) := by decide +kernel
theorem d_Math_floorMod_3 : decode b_Math_floorMod 3 = .ok (.istore_n 2, 1) := by decide +kernel
theorem d_Math_floorMod_4 : decode b_Math_floorMod 4 = .ok (.iload_n 0, 1) := by decide +kernel
theorem d_Math_floorMod_5 : decode b_Math_floorMod 5 = .ok (.iload_n 1, 1) := by decide +kernel
theorem d_Math_floorMod_6 : decode b_Math_floorMod 6 = .ok (.ixor, 1) := by decide +kernel
theorem d_Math_floorMod_7 : decode b_Math_floorMod 7 = .ok (.ifCond .ge 11, 3) := by decide +kernel
theorem d_Math_floorMod_10 : decode b_Math_floorMod 10 = .ok (.iload_n 2, 1) := by decide +kernel
theorem d_Math_floorMod_11 : decode b_Math_floorMod 11 = .ok (.ifCond .eq 7, 3) := by decide +kernel
theorem d_Math_floorMod_14 : decode b_Math_floorMod 14 = .ok (.iload_n 2, 1) := by decide +kernel
theorem d_Math_floorMod_15 : decode b_Math_floorMod 15 = .ok (.iload_n 1, 1) := by decide +kernel
theorem d_Math_floorMod_16 : decode b_Math_floorMod 16 = .ok (.iadd, 1) := by decide +kernel
theorem d_Math_floorMod_17 : decode b_Math_floorMod 17 = .ok (.ireturn, 1) := by decide +kernel
theorem d_Math_floorMod_18 : decode b_Math_floorMod 18 = .ok (.iload_n 2, 1) := by decide +kernel
theorem d_Math_floorMod_19 : decode b_Math_floorMod 19 = .ok (.ireturn, 1) := by decide +kernel
theorem d_SW_isWithin_0 : decode b_SW_isWithin 0 = .ok (.iload_n 0, 1) := by decide +kernel
theorem d_SW_isWithin_1 : decode b_SW_isWithin 1 = .ok (.iload_n 1, 1) := by decide +kernel
theorem d_SW_isWithin_2 : decode b_SW_isWithin 2 = .ok (.ineg, 1) := by decide +kernel
theorem d_SW_isWithin_3 : decode b_SW_isWithin 3 = .ok (.if_icmp .lt 12, 3) := by decide +kernel
theorem d_SW_isWithin_6 : decode b_SW_isWithin 6 = .ok (.iload_n 0, 1) := by decide +kernel
theorem d_SW_isWithin_7 : decode b_SW_isWithin 7 = .ok (.iload_n 1, 1) := by decide +kernel
theorem d_SW_isWithin_8 : decode b_SW_isWithin 8 = .ok (.if_icmp .gt 7, 3) := by decide +kernel
theorem d_SW_isWithin_11 : decode b_SW_isWithin 11 = .ok (.iconst 1, 1) := by decide +kernel
theorem d_SW_isWithin_12 : decode b_SW_isWithin 12 = .ok (.goto 4, 3) := by decide +kernel
theorem d_SW_isWithin_15 : decode b_SW_isWithin 15 = .ok (.iconst 0, 1) := by decide +kernel
theorem d_SW_isWithin_16 : decode b_SW_isWithin 16 = .ok (.ireturn, 1) := by decide +kernel
theorem d_SW_isPlaceOfWalker_0 : decode b_SW_isPlaceOfWalker 0 = .ok (.iload_n 0, 1) := by decide +kernel
theorem d_SW_isPlaceOfWalker_1 : decode b_SW_isPlaceOfWalker 1 = .ok (.sipush 3000, 3) := by decide +kernel
theorem d_SW_isPlaceOfWalker_4 : decode b_SW_isPlaceOfWalker 4 = .ok (.invokestatic 51, 3) := by decide +kernel
theorem d_SW_isPlaceOfWalker_7 : decode b_SW_isPlaceOfWalker 7 = .ok (.ifCond .eq 17, 3) := by decide +kernel
theorem d_SW_isPlaceOfWalker_10 : decode b_SW_isPlaceOfWalker 10 = .ok (.iload_n 1, 1) := by decide +kernel
theorem d_SW_isPlaceOfWalker_11 : decode b_SW_isPlaceOfWalker 11 = .ok (.sipush 3000, 3) := by decide +kernel
theorem d_SW_isPlaceOfWalker_14 : decode b_SW_isPlaceOfWalker 14 = .ok (.invokestatic 51, 3) := by decide +kernel
theorem d_SW_isPlaceOfWalker_17 : decode b_SW_isPlaceOfWalker 17 = .ok (.ifCond .eq 7, 3) := by decide +kernel
theorem d_SW_isPlaceOfWalker_20 : decode b_SW_isPlaceOfWalker 20 = .ok (.iconst 1, 1) := by decide +kernel
theorem d_SW_isPlaceOfWalker_21 : decode b_SW_isPlaceOfWalker 21 = .ok (.goto 4, 3) := by decide +kernel
theorem d_SW_isPlaceOfWalker_24 : decode b_SW_isPlaceOfWalker 24 = .ok (.iconst 0, 1) := by decide +kernel
theorem d_SW_isPlaceOfWalker_25 : decode b_SW_isPlaceOfWalker 25 = .ok (.ireturn, 1) := by decide +kernel
theorem d_SW_isInput_0 : decode b_SW_isInput 0 = .ok (.iload_n 0, 1) := by decide +kernel
theorem d_SW_isInput_1 : decode b_SW_isInput 1 = .ok (.bipush 64, 2) := by decide +kernel
theorem d_SW_isInput_3 : decode b_SW_isInput 3 = .ok (.invokestatic 51, 3) := by decide +kernel
theorem d_SW_isInput_6 : decode b_SW_isInput 6 = .ok (.ifCond .eq 25, 3) := by decide +kernel
theorem d_SW_isInput_9 : decode b_SW_isInput 9 = .ok (.iload_n 1, 1) := by decide +kernel
theorem d_SW_isInput_10 : decode b_SW_isInput 10 = .ok (.bipush 64, 2) := by decide +kernel
theorem d_SW_isInput_12 : decode b_SW_isInput 12 = .ok (.invokestatic 51, 3) := by decide +kernel
theorem d_SW_isInput_15 : decode b_SW_isInput 15 = .ok (.ifCond .eq 16, 3) := by decide +kernel
theorem d_SW_isInput_18 : decode b_SW_isInput 18 = .ok (.iload_n 2, 1) := by decide +kernel
theorem d_SW_isInput_19 : decode b_SW_isInput 19 = .ok (.bipush 16, 2) := by decide +kernel
theorem d_SW_isInput_21 : decode b_SW_isInput 21 = .ok (.invokestatic 51, 3) := by decide +kernel
theorem d_SW_isInput_24 : decode b_SW_isInput 24 = .ok (.ifCond .eq 7, 3) := by decide +kernel
theorem d_SW_isInput_27 : decode b_SW_isInput 27 = .ok (.iconst 1, 1) := by decide +kernel
theorem d_SW_isInput_28 : decode b_SW_isInput 28 = .ok (.goto 4, 3) := by decide +kernel
theorem d_SW_isInput_31 : decode b_SW_isInput 31 = .ok (.iconst 0, 1) := by decide +kernel
theorem d_SW_isInput_32 : decode b_SW_isInput 32 = .ok (.ireturn, 1) := by decide +kernel
theorem d_SW_cross_0 : decode b_SW_cross 0 = .ok (.iload_n 0, 1) := by decide +kernel
theorem d_SW_cross_1 : decode b_SW_cross 1 = .ok (.iload_n 3, 1) := by decide +kernel
theorem d_SW_cross_2 : decode b_SW_cross 2 = .ok (.imul, 1) := by decide +kernel
theorem d_SW_cross_3 : decode b_SW_cross 3 = .ok (.iload_n 1, 1) := by decide +kernel
theorem d_SW_cross_4 : decode b_SW_cross 4 = .ok (.iload_n 2, 1) := by decide +kernel
theorem d_SW_cross_5 : decode b_SW_cross 5 = .ok (.imul, 1) := by decide +kernel
theorem d_SW_cross_6 : decode b_SW_cross 6 = .ok (.isub, 1) := by decide +kernel
theorem d_SW_cross_7 : decode b_SW_cross 7 = .ok (.ireturn, 1) := by decide +kernel
theorem d_SW_cosineOf_0 : decode b_SW_cosineOf 0 = .ok (.iload_n 0, 1) := by decide +kernel
theorem d_SW_cosineOf_1 : decode b_SW_cosineOf 1 = .ok (.bipush 64, 2) := by decide +kernel
theorem d_SW_cosineOf_3 : decode b_SW_cosineOf 3 = .ok (.invokestatic 156, 3) := by decide +kernel
theorem d_SW_cosineOf_6 : decode b_SW_cosineOf 6 = .ok (.istore_n 1, 1) := by decide +kernel
theorem d_SW_cosineOf_7 : decode b_SW_cosineOf 7 = .ok (.iload_n 1, 1) := by decide +kernel
theorem d_SW_cosineOf_8 : decode b_SW_cosineOf 8 = .ok (.bipush 32, 2) := by decide +kernel
theorem d_SW_cosineOf_10 : decode b_SW_cosineOf 10 = .ok (.if_icmp .gt 7, 3) := by decide +kernel
theorem d_SW_cosineOf_13 : decode b_SW_cosineOf 13 = .ok (.iload_n 1, 1) := by decide +kernel
theorem d_SW_cosineOf_14 : decode b_SW_cosineOf 14 = .ok (.goto 7, 3) := by decide +kernel
theorem d_SW_cosineOf_17 : decode b_SW_cosineOf 17 = .ok (.bipush 64, 2) := by decide +kernel
theorem d_SW_cosineOf_19 : decode b_SW_cosineOf 19 = .ok (.iload_n 1, 1) := by decide +kernel
theorem d_SW_cosineOf_20 : decode b_SW_cosineOf 20 = .ok (.isub, 1) := by decide +kernel
theorem d_SW_cosineOf_21 : decode b_SW_cosineOf 21 = .ok (.istore_n 2, 1) := by decide +kernel
theorem d_SW_cosineOf_22 : decode b_SW_cosineOf 22 = .ok (.iload_n 2, 1) := by decide +kernel
theorem d_SW_cosineOf_23 : decode b_SW_cosineOf 23 = .ok (.bipush 16, 2) := by decide +kernel
theorem d_SW_cosineOf_25 : decode b_SW_cosineOf 25 = .ok (.if_icmp .gt 9, 3) := by decide +kernel
theorem d_SW_cosineOf_28 : decode b_SW_cosineOf 28 = .ok (.getstatic 176, 3) := by decide +kernel
theorem d_SW_cosineOf_31 : decode b_SW_cosineOf 31 = .ok (.iload_n 2, 1) := by decide +kernel
theorem d_SW_cosineOf_32 : decode b_SW_cosineOf 32 = .ok (.iaload, 1) := by decide +kernel
theorem d_SW_cosineOf_33 : decode b_SW_cosineOf 33 = .ok (.ireturn, 1) := by decide +kernel
theorem d_SW_cosineOf_34 : decode b_SW_cosineOf 34 = .ok (.getstatic 176, 3) := by decide +kernel
theorem d_SW_cosineOf_37 : decode b_SW_cosineOf 37 = .ok (.bipush 32, 2) := by decide +kernel
theorem d_SW_cosineOf_39 : decode b_SW_cosineOf 39 = .ok (.iload_n 2, 1) := by decide +kernel
theorem d_SW_cosineOf_40 : decode b_SW_cosineOf 40 = .ok (.isub, 1) := by decide +kernel
theorem d_SW_cosineOf_41 : decode b_SW_cosineOf 41 = .ok (.iaload, 1) := by decide +kernel
theorem d_SW_cosineOf_42 : decode b_SW_cosineOf 42 = .ok (.ineg, 1) := by decide +kernel
theorem d_SW_cosineOf_43 : decode b_SW_cosineOf 43 = .ok (.ireturn, 1) := by decide +kernel
theorem d_Pl_hasVertex_0 : decode b_Pl_hasVertex 0 = .ok (.iload_n 1, 1) := by decide +kernel
theorem d_Pl_hasVertex_1 : decode b_Pl_hasVertex 1 = .ok (.ifCond .lt 15, 3) := by decide +kernel
theorem d_Pl_hasVertex_4 : decode b_Pl_hasVertex 4 = .ok (.iload_n 1, 1) := by decide +kernel
theorem d_Pl_hasVertex_5 : decode b_Pl_hasVertex 5 = .ok (.aload_n 0, 1) := by decide +kernel
theorem d_Pl_hasVertex_6 : decode b_Pl_hasVertex 6 = .ok (.getfield 36, 3) := by decide +kernel
theorem d_Pl_hasVertex_9 : decode b_Pl_hasVertex 9 = .ok (.if_icmp .ge 7, 3) := by decide +kernel
theorem d_Pl_hasVertex_12 : decode b_Pl_hasVertex 12 = .ok (.iconst 1, 1) := by decide +kernel
theorem d_Pl_hasVertex_13 : decode b_Pl_hasVertex 13 = .ok (.goto 4, 3) := by decide +kernel
theorem d_Pl_hasVertex_16 : decode b_Pl_hasVertex 16 = .ok (.iconst 0, 1) := by decide +kernel
theorem d_Pl_hasVertex_17 : decode b_Pl_hasVertex 17 = .ok (.ireturn, 1) := by decide +kernel
theorem d_Pl_hasSector_0 : decode b_Pl_hasSector 0 = .ok (.iload_n 1, 1) := by decide +kernel
theorem d_Pl_hasSector_1 : decode b_Pl_hasSector 1 = .ok (.ifCond .lt 15, 3) := by decide +kernel
theorem d_Pl_hasSector_4 : decode b_Pl_hasSector 4 = .ok (.iload_n 1, 1) := by decide +kernel
theorem d_Pl_hasSector_5 : decode b_Pl_hasSector 5 = .ok (.aload_n 0, 1) := by decide +kernel
theorem d_Pl_hasSector_6 : decode b_Pl_hasSector 6 = .ok (.getfield 40, 3) := by decide +kernel
theorem d_Pl_hasSector_9 : decode b_Pl_hasSector 9 = .ok (.if_icmp .ge 7, 3) := by decide +kernel
theorem d_Pl_hasSector_12 : decode b_Pl_hasSector 12 = .ok (.iconst 1, 1) := by decide +kernel
theorem d_Pl_hasSector_13 : decode b_Pl_hasSector 13 = .ok (.goto 4, 3) := by decide +kernel
theorem d_Pl_hasSector_16 : decode b_Pl_hasSector 16 = .ok (.iconst 0, 1) := by decide +kernel
theorem d_Pl_hasSector_17 : decode b_Pl_hasSector 17 = .ok (.ireturn, 1) := by decide +kernel
theorem d_Pl_isTaken_0 : decode b_Pl_isTaken 0 = .ok (.iconst 0, 1) := by decide +kernel
theorem d_Pl_isTaken_1 : decode b_Pl_isTaken 1 = .ok (.istore_n 3, 1) := by decide +kernel
theorem d_Pl_isTaken_2 : decode b_Pl_isTaken 2 = .ok (.iload_n 3, 1) := by decide +kernel
theorem d_Pl_isTaken_3 : decode b_Pl_isTaken 3 = .ok (.aload_n 0, 1) := by decide +kernel
theorem d_Pl_isTaken_4 : decode b_Pl_isTaken 4 = .ok (.getfield 36, 3) := by decide +kernel
theorem d_Pl_isTaken_7 : decode b_Pl_isTaken 7 = .ok (.if_icmp .ge 31, 3) := by decide +kernel
theorem d_Pl_isTaken_10 : decode b_Pl_isTaken 10 = .ok (.aload_n 0, 1) := by decide +kernel
theorem d_Pl_isTaken_11 : decode b_Pl_isTaken 11 = .ok (.getfield 9, 3) := by decide +kernel
theorem d_Pl_isTaken_14 : decode b_Pl_isTaken 14 = .ok (.iload_n 3, 1) := by decide +kernel
theorem d_Pl_isTaken_15 : decode b_Pl_isTaken 15 = .ok (.iaload, 1) := by decide +kernel
theorem d_Pl_isTaken_16 : decode b_Pl_isTaken 16 = .ok (.iload_n 1, 1) := by decide +kernel
theorem d_Pl_isTaken_17 : decode b_Pl_isTaken 17 = .ok (.if_icmp .ne 15, 3) := by decide +kernel
theorem d_Pl_isTaken_20 : decode b_Pl_isTaken 20 = .ok (.aload_n 0, 1) := by decide +kernel
theorem d_Pl_isTaken_21 : decode b_Pl_isTaken 21 = .ok (.getfield 15, 3) := by decide +kernel
theorem d_Pl_isTaken_24 : decode b_Pl_isTaken 24 = .ok (.iload_n 3, 1) := by decide +kernel
theorem d_Pl_isTaken_25 : decode b_Pl_isTaken 25 = .ok (.iaload, 1) := by decide +kernel
theorem d_Pl_isTaken_26 : decode b_Pl_isTaken 26 = .ok (.iload_n 2, 1) := by decide +kernel
theorem d_Pl_isTaken_27 : decode b_Pl_isTaken 27 = .ok (.if_icmp .ne 5, 3) := by decide +kernel
theorem d_Pl_isTaken_30 : decode b_Pl_isTaken 30 = .ok (.iconst 1, 1) := by decide +kernel
theorem d_Pl_isTaken_31 : decode b_Pl_isTaken 31 = .ok (.ireturn, 1) := by decide +kernel
theorem d_Pl_isTaken_32 : decode b_Pl_isTaken 32 = .ok (.iinc 3 1, 3) := by decide +kernel
theorem d_Pl_isTaken_35 : decode b_Pl_isTaken 35 = .ok (.goto (-33), 3) := by decide +kernel
theorem d_Pl_isTaken_38 : decode b_Pl_isTaken 38 = .ok (.iconst 0, 1) := by decide +kernel
theorem d_Pl_isTaken_39 : decode b_Pl_isTaken 39 = .ok (.ireturn, 1) := by decide +kernel
theorem d_Pl_addVertex_0 : decode b_Pl_addVertex 0 = .ok (.aload_n 0, 1) := by decide +kernel
theorem d_Pl_addVertex_1 : decode b_Pl_addVertex 1 = .ok (.getfield 36, 3) := by decide +kernel
theorem d_Pl_addVertex_4 : decode b_Pl_addVertex 4 = .ok (.bipush 64, 2) := by decide +kernel
theorem d_Pl_addVertex_6 : decode b_Pl_addVertex 6 = .ok (.if_icmp .ge 12, 3) := by decide +kernel
theorem d_Pl_addVertex_9 : decode b_Pl_addVertex 9 = .ok (.aload_n 0, 1) := by decide +kernel
theorem d_Pl_addVertex_10 : decode b_Pl_addVertex 10 = .ok (.iload_n 1, 1) := by decide +kernel
theorem d_Pl_addVertex_11 : decode b_Pl_addVertex 11 = .ok (.iload_n 2, 1) := by decide +kernel
theorem d_Pl_addVertex_12 : decode b_Pl_addVertex 12 = .ok (.invokevirtual 43, 3) := by decide +kernel
theorem d_Pl_addVertex_15 : decode b_Pl_addVertex 15 = .ok (.ifCond .eq 5, 3) := by decide +kernel
theorem d_Pl_addVertex_18 : decode b_Pl_addVertex 18 = .ok (.iconst (-1), 1) := by decide +kernel
theorem d_Pl_addVertex_19 : decode b_Pl_addVertex 19 = .ok (.ireturn, 1) := by decide +kernel
theorem d_Pl_addVertex_20 : decode b_Pl_addVertex 20 = .ok (.aload_n 0, 1) := by decide +kernel
theorem d_Pl_addVertex_21 : decode b_Pl_addVertex 21 = .ok (.getfield 9, 3) := by decide +kernel
theorem d_Pl_addVertex_24 : decode b_Pl_addVertex 24 = .ok (.aload_n 0, 1) := by decide +kernel
theorem d_Pl_addVertex_25 : decode b_Pl_addVertex 25 = .ok (.getfield 36, 3) := by decide +kernel
theorem d_Pl_addVertex_28 : decode b_Pl_addVertex 28 = .ok (.iload_n 1, 1) := by decide +kernel
theorem d_Pl_addVertex_29 : decode b_Pl_addVertex 29 = .ok (.iastore, 1) := by decide +kernel
theorem d_Pl_addVertex_30 : decode b_Pl_addVertex 30 = .ok (.aload_n 0, 1) := by decide +kernel
theorem d_Pl_addVertex_31 : decode b_Pl_addVertex 31 = .ok (.getfield 15, 3) := by decide +kernel
theorem d_Pl_addVertex_34 : decode b_Pl_addVertex 34 = .ok (.aload_n 0, 1) := by decide +kernel
theorem d_Pl_addVertex_35 : decode b_Pl_addVertex 35 = .ok (.getfield 36, 3) := by decide +kernel
theorem d_Pl_addVertex_38 : decode b_Pl_addVertex 38 = .ok (.iload_n 2, 1) := by decide +kernel
theorem d_Pl_addVertex_39 : decode b_Pl_addVertex 39 = .ok (.iastore, 1) := by decide +kernel
theorem d_Pl_addVertex_40 : decode b_Pl_addVertex 40 = .ok (.aload_n 0, 1) := by decide +kernel
theorem d_Pl_addVertex_41 : decode b_Pl_addVertex 41 = .ok (.dup, 1) := by decide +kernel
theorem d_Pl_addVertex_42 : decode b_Pl_addVertex 42 = .ok (.getfield 36, 3) := by decide +kernel
theorem d_Pl_addVertex_45 : decode b_Pl_addVertex 45 = .ok (.dup_x1, 1) := by decide +kernel
theorem d_Pl_addVertex_46 : decode b_Pl_addVertex 46 = .ok (.iconst 1, 1) := by decide +kernel
theorem d_Pl_addVertex_47 : decode b_Pl_addVertex 47 = .ok (.iadd, 1) := by decide +kernel
theorem d_Pl_addVertex_48 : decode b_Pl_addVertex 48 = .ok (.putfield 36, 3) := by decide +kernel
theorem d_Pl_addVertex_51 : decode b_Pl_addVertex 51 = .ok (.ireturn, 1) := by decide +kernel
theorem d_Pl_addSector_0 : decode b_Pl_addSector 0 = .ok (.aload_n 0, 1) := by decide +kernel
theorem d_Pl_addSector_1 : decode b_Pl_addSector 1 = .ok (.getfield 40, 3) := by decide +kernel
theorem d_Pl_addSector_4 : decode b_Pl_addSector 4 = .ok (.bipush 16, 2) := by decide +kernel
theorem d_Pl_addSector_6 : decode b_Pl_addSector 6 = .ok (.if_icmp .lt 5, 3) := by decide +kernel
theorem d_Pl_addSector_9 : decode b_Pl_addSector 9 = .ok (.iconst (-1), 1) := by decide +kernel
theorem d_Pl_addSector_10 : decode b_Pl_addSector 10 = .ok (.ireturn, 1) := by decide +kernel
theorem d_Pl_addSector_11 : decode b_Pl_addSector 11 = .ok (.aload_n 0, 1) := by decide +kernel
theorem d_Pl_addSector_12 : decode b_Pl_addSector 12 = .ok (.getfield 18, 3) := by decide +kernel
theorem d_Pl_addSector_15 : decode b_Pl_addSector 15 = .ok (.aload_n 0, 1) := by decide +kernel
theorem d_Pl_addSector_16 : decode b_Pl_addSector 16 = .ok (.getfield 40, 3) := by decide +kernel
theorem d_Pl_addSector_19 : decode b_Pl_addSector 19 = .ok (.iload_n 1, 1) := by decide +kernel
theorem d_Pl_addSector_20 : decode b_Pl_addSector 20 = .ok (.iastore, 1) := by decide +kernel
theorem d_Pl_addSector_21 : decode b_Pl_addSector 21 = .ok (.aload_n 0, 1) := by decide +kernel
theorem d_Pl_addSector_22 : decode b_Pl_addSector 22 = .ok (.getfield 21, 3) := by decide +kernel
theorem d_Pl_addSector_25 : decode b_Pl_addSector 25 = .ok (.aload_n 0, 1) := by decide +kernel
theorem d_Pl_addSector_26 : decode b_Pl_addSector 26 = .ok (.getfield 40, 3) := by decide +kernel
theorem d_Pl_addSector_29 : decode b_Pl_addSector 29 = .ok (.iload_n 2, 1) := by decide +kernel
theorem d_Pl_addSector_30 : decode b_Pl_addSector 30 = .ok (.iastore, 1) := by decide +kernel
theorem d_Pl_addSector_31 : decode b_Pl_addSector 31 = .ok (.aload_n 0, 1) := by decide +kernel
theorem d_Pl_addSector_32 : decode b_Pl_addSector 32 = .ok (.dup, 1) := by decide +kernel
theorem d_Pl_addSector_33 : decode b_Pl_addSector 33 = .ok (.getfield 40, 3) := by decide +kernel
theorem d_Pl_addSector_36 : decode b_Pl_addSector 36 = .ok (.dup_x1, 1) := by decide +kernel
theorem d_Pl_addSector_37 : decode b_Pl_addSector 37 = .ok (.iconst 1, 1) := by decide +kernel
theorem d_Pl_addSector_38 : decode b_Pl_addSector 38 = .ok (.iadd, 1) := by decide +kernel
theorem d_Pl_addSector_39 : decode b_Pl_addSector 39 = .ok (.putfield 40, 3) := by decide +kernel
theorem d_Pl_addSector_42 : decode b_Pl_addSector 42 = .ok (.ireturn, 1) := by decide +kernel
theorem d_Pl_addWall_0 : decode b_Pl_addWall 0 = .ok (.aload_n 0, 1) := by decide +kernel
theorem d_Pl_addWall_1 : decode b_Pl_addWall 1 = .ok (.getfield 47, 3) := by decide +kernel
theorem d_Pl_addWall_4 : decode b_Pl_addWall 4 = .ok (.bipush 64, 2) := by decide +kernel
theorem d_Pl_addWall_6 : decode b_Pl_addWall 6 = .ok (.if_icmp .lt 5, 3) := by decide +kernel
theorem d_Pl_addWall_9 : decode b_Pl_addWall 9 = .ok (.iconst (-1), 1) := by decide +kernel
theorem d_Pl_addWall_10 : decode b_Pl_addWall 10 = .ok (.ireturn, 1) := by decide +kernel
theorem d_Pl_addWall_11 : decode b_Pl_addWall 11 = .ok (.aload_n 0, 1) := by decide +kernel
theorem d_Pl_addWall_12 : decode b_Pl_addWall 12 = .ok (.getfield 24, 3) := by decide +kernel
theorem d_Pl_addWall_15 : decode b_Pl_addWall 15 = .ok (.aload_n 0, 1) := by decide +kernel
theorem d_Pl_addWall_16 : decode b_Pl_addWall 16 = .ok (.getfield 47, 3) := by decide +kernel
theorem d_Pl_addWall_19 : decode b_Pl_addWall 19 = .ok (.iload_n 1, 1) := by decide +kernel
theorem d_Pl_addWall_20 : decode b_Pl_addWall 20 = .ok (.iastore, 1) := by decide +kernel
theorem d_Pl_addWall_21 : decode b_Pl_addWall 21 = .ok (.aload_n 0, 1) := by decide +kernel
theorem d_Pl_addWall_22 : decode b_Pl_addWall 22 = .ok (.getfield 27, 3) := by decide +kernel
theorem d_Pl_addWall_25 : decode b_Pl_addWall 25 = .ok (.aload_n 0, 1) := by decide +kernel
theorem d_Pl_addWall_26 : decode b_Pl_addWall 26 = .ok (.getfield 47, 3) := by decide +kernel
theorem d_Pl_addWall_29 : decode b_Pl_addWall 29 = .ok (.iload_n 2, 1) := by decide +kernel
theorem d_Pl_addWall_30 : decode b_Pl_addWall 30 = .ok (.iastore, 1) := by decide +kernel
theorem d_Pl_addWall_31 : decode b_Pl_addWall 31 = .ok (.aload_n 0, 1) := by decide +kernel
theorem d_Pl_addWall_32 : decode b_Pl_addWall 32 = .ok (.getfield 30, 3) := by decide +kernel
theorem d_Pl_addWall_35 : decode b_Pl_addWall 35 = .ok (.aload_n 0, 1) := by decide +kernel
theorem d_Pl_addWall_36 : decode b_Pl_addWall 36 = .ok (.getfield 47, 3) := by decide +kernel
theorem d_Pl_addWall_39 : decode b_Pl_addWall 39 = .ok (.iload_n 3, 1) := by decide +kernel
theorem d_Pl_addWall_40 : decode b_Pl_addWall 40 = .ok (.iastore, 1) := by decide +kernel
theorem d_Pl_addWall_41 : decode b_Pl_addWall 41 = .ok (.aload_n 0, 1) := by decide +kernel
theorem d_Pl_addWall_42 : decode b_Pl_addWall 42 = .ok (.getfield 33, 3) := by decide +kernel
theorem d_Pl_addWall_45 : decode b_Pl_addWall 45 = .ok (.aload_n 0, 1) := by decide +kernel
theorem d_Pl_addWall_46 : decode b_Pl_addWall 46 = .ok (.getfield 47, 3) := by decide +kernel
theorem d_Pl_addWall_49 : decode b_Pl_addWall 49 = .ok (.iload 4, 2) := by decide +kernel
theorem d_Pl_addWall_51 : decode b_Pl_addWall 51 = .ok (.iastore, 1) := by decide +kernel
theorem d_Pl_addWall_52 : decode b_Pl_addWall 52 = .ok (.aload_n 0, 1) := by decide +kernel
theorem d_Pl_addWall_53 : decode b_Pl_addWall 53 = .ok (.dup, 1) := by decide +kernel
theorem d_Pl_addWall_54 : decode b_Pl_addWall 54 = .ok (.getfield 47, 3) := by decide +kernel
theorem d_Pl_addWall_57 : decode b_Pl_addWall 57 = .ok (.dup_x1, 1) := by decide +kernel
theorem d_Pl_addWall_58 : decode b_Pl_addWall 58 = .ok (.iconst 1, 1) := by decide +kernel
theorem d_Pl_addWall_59 : decode b_Pl_addWall 59 = .ok (.iadd, 1) := by decide +kernel
theorem d_Pl_addWall_60 : decode b_Pl_addWall 60 = .ok (.putfield 47, 3) := by decide +kernel
theorem d_Pl_addWall_63 : decode b_Pl_addWall 63 = .ok (.ireturn, 1) := by decide +kernel
theorem d_Pl_removeLastWall_0 : decode b_Pl_removeLastWall 0 = .ok (.aload_n 0, 1) := by decide +kernel
theorem d_Pl_removeLastWall_1 : decode b_Pl_removeLastWall 1 = .ok (.getfield 47, 3) := by decide +kernel
theorem d_Pl_removeLastWall_4 : decode b_Pl_removeLastWall 4 = .ok (.ifCond .ne 5, 3) := by decide +kernel
theorem d_Pl_removeLastWall_7 : decode b_Pl_removeLastWall 7 = .ok (.iconst 0, 1) := by decide +kernel
theorem d_Pl_removeLastWall_8 : decode b_Pl_removeLastWall 8 = .ok (.ireturn, 1) := by decide +kernel
theorem d_Pl_removeLastWall_9 : decode b_Pl_removeLastWall 9 = .ok (.aload_n 0, 1) := by decide +kernel
theorem d_Pl_removeLastWall_10 : decode b_Pl_removeLastWall 10 = .ok (.dup, 1) := by decide +kernel
theorem d_Pl_removeLastWall_11 : decode b_Pl_removeLastWall 11 = .ok (.getfield 47, 3) := by decide +kernel
theorem d_Pl_removeLastWall_14 : decode b_Pl_removeLastWall 14 = .ok (.iconst 1, 1) := by decide +kernel
theorem d_Pl_removeLastWall_15 : decode b_Pl_removeLastWall 15 = .ok (.isub, 1) := by decide +kernel
theorem d_Pl_removeLastWall_16 : decode b_Pl_removeLastWall 16 = .ok (.putfield 47, 3) := by decide +kernel
theorem d_Pl_removeLastWall_19 : decode b_Pl_removeLastWall 19 = .ok (.iconst 1, 1) := by decide +kernel
theorem d_Pl_removeLastWall_20 : decode b_Pl_removeLastWall 20 = .ok (.ireturn, 1) := by decide +kernel
theorem d_Pl_makeEmpty_0 : decode b_Pl_makeEmpty 0 = .ok (.aload_n 0, 1) := by decide +kernel
theorem d_Pl_makeEmpty_1 : decode b_Pl_makeEmpty 1 = .ok (.iconst 0, 1) := by decide +kernel
theorem d_Pl_makeEmpty_2 : decode b_Pl_makeEmpty 2 = .ok (.putfield 36, 3) := by decide +kernel
theorem d_Pl_makeEmpty_5 : decode b_Pl_makeEmpty 5 = .ok (.aload_n 0, 1) := by decide +kernel
theorem d_Pl_makeEmpty_6 : decode b_Pl_makeEmpty 6 = .ok (.iconst 0, 1) := by decide +kernel
theorem d_Pl_makeEmpty_7 : decode b_Pl_makeEmpty 7 = .ok (.putfield 40, 3) := by decide +kernel
theorem d_Pl_makeEmpty_10 : decode b_Pl_makeEmpty 10 = .ok (.aload_n 0, 1) := by decide +kernel
theorem d_Pl_makeEmpty_11 : decode b_Pl_makeEmpty 11 = .ok (.iconst 0, 1) := by decide +kernel
theorem d_Pl_makeEmpty_12 : decode b_Pl_makeEmpty 12 = .ok (.putfield 47, 3) := by decide +kernel
theorem d_Pl_makeEmpty_15 : decode b_Pl_makeEmpty 15 = .ok (.return_, 1) := by decide +kernel
theorem d_Pl_becomeCopyOf_0 : decode b_Pl_becomeCopyOf 0 = .ok (.aload_n 1, 1) := by decide +kernel
theorem d_Pl_becomeCopyOf_1 : decode b_Pl_becomeCopyOf 1 = .ok (.getfield 9, 3) := by decide +kernel
theorem d_Pl_becomeCopyOf_4 : decode b_Pl_becomeCopyOf 4 = .ok (.iconst 0, 1) := by decide +kernel
theorem d_Pl_becomeCopyOf_5 : decode b_Pl_becomeCopyOf 5 = .ok (.aload_n 0, 1) := by decide +kernel
theorem d_Pl_becomeCopyOf_6 : decode b_Pl_becomeCopyOf 6 = .ok (.getfield 9, 3) := by decide +kernel
theorem d_Pl_becomeCopyOf_9 : decode b_Pl_becomeCopyOf 9 = .ok (.iconst 0, 1) := by decide +kernel
theorem d_Pl_becomeCopyOf_10 : decode b_Pl_becomeCopyOf 10 = .ok (.bipush 64, 2) := by decide +kernel
theorem d_Pl_becomeCopyOf_12 : decode b_Pl_becomeCopyOf 12 = .ok (.invokestatic 50, 3) := by decide +kernel
theorem d_Pl_becomeCopyOf_15 : decode b_Pl_becomeCopyOf 15 = .ok (.aload_n 1, 1) := by decide +kernel
theorem d_Pl_becomeCopyOf_16 : decode b_Pl_becomeCopyOf 16 = .ok (.getfield 15, 3) := by decide +kernel
theorem d_Pl_becomeCopyOf_19 : decode b_Pl_becomeCopyOf 19 = .ok (.iconst 0, 1) := by decide +kernel
theorem d_Pl_becomeCopyOf_20 : decode b_Pl_becomeCopyOf 20 = .ok (.aload_n 0, 1) := by decide +kernel
theorem d_Pl_becomeCopyOf_21 : decode b_Pl_becomeCopyOf 21 = .ok (.getfield 15, 3) := by decide +kernel
theorem d_Pl_becomeCopyOf_24 : decode b_Pl_becomeCopyOf 24 = .ok (.iconst 0, 1) := by decide +kernel
theorem d_Pl_becomeCopyOf_25 : decode b_Pl_becomeCopyOf 25 = .ok (.bipush 64, 2) := by decide +kernel
theorem d_Pl_becomeCopyOf_27 : decode b_Pl_becomeCopyOf 27 = .ok (.invokestatic 50, 3) := by decide +kernel
theorem d_Pl_becomeCopyOf_30 : decode b_Pl_becomeCopyOf 30 = .ok (.aload_n 1, 1) := by decide +kernel
theorem d_Pl_becomeCopyOf_31 : decode b_Pl_becomeCopyOf 31 = .ok (.getfield 18, 3) := by decide +kernel
theorem d_Pl_becomeCopyOf_34 : decode b_Pl_becomeCopyOf 34 = .ok (.iconst 0, 1) := by decide +kernel
theorem d_Pl_becomeCopyOf_35 : decode b_Pl_becomeCopyOf 35 = .ok (.aload_n 0, 1) := by decide +kernel
theorem d_Pl_becomeCopyOf_36 : decode b_Pl_becomeCopyOf 36 = .ok (.getfield 18, 3) := by decide +kernel
theorem d_Pl_becomeCopyOf_39 : decode b_Pl_becomeCopyOf 39 = .ok (.iconst 0, 1) := by decide +kernel
theorem d_Pl_becomeCopyOf_40 : decode b_Pl_becomeCopyOf 40 = .ok (.bipush 16, 2) := by decide +kernel
theorem d_Pl_becomeCopyOf_42 : decode b_Pl_becomeCopyOf 42 = .ok (.invokestatic 50, 3) := by decide +kernel
theorem d_Pl_becomeCopyOf_45 : decode b_Pl_becomeCopyOf 45 = .ok (.aload_n 1, 1) := by decide +kernel
theorem d_Pl_becomeCopyOf_46 : decode b_Pl_becomeCopyOf 46 = .ok (.getfield 21, 3) := by decide +kernel
theorem d_Pl_becomeCopyOf_49 : decode b_Pl_becomeCopyOf 49 = .ok (.iconst 0, 1) := by decide +kernel
theorem d_Pl_becomeCopyOf_50 : decode b_Pl_becomeCopyOf 50 = .ok (.aload_n 0, 1) := by decide +kernel
theorem d_Pl_becomeCopyOf_51 : decode b_Pl_becomeCopyOf 51 = .ok (.getfield 21, 3) := by decide +kernel
theorem d_Pl_becomeCopyOf_54 : decode b_Pl_becomeCopyOf 54 = .ok (.iconst 0, 1) := by decide +kernel
theorem d_Pl_becomeCopyOf_55 : decode b_Pl_becomeCopyOf 55 = .ok (.bipush 16, 2) := by decide +kernel
theorem d_Pl_becomeCopyOf_57 : decode b_Pl_becomeCopyOf 57 = .ok (.invokestatic 50, 3) := by decide +kernel
theorem d_Pl_becomeCopyOf_60 : decode b_Pl_becomeCopyOf 60 = .ok (.aload_n 1, 1) := by decide +kernel
theorem d_Pl_becomeCopyOf_61 : decode b_Pl_becomeCopyOf 61 = .ok (.getfield 24, 3) := by decide +kernel
theorem d_Pl_becomeCopyOf_64 : decode b_Pl_becomeCopyOf 64 = .ok (.iconst 0, 1) := by decide +kernel
theorem d_Pl_becomeCopyOf_65 : decode b_Pl_becomeCopyOf 65 = .ok (.aload_n 0, 1) := by decide +kernel
theorem d_Pl_becomeCopyOf_66 : decode b_Pl_becomeCopyOf 66 = .ok (.getfield 24, 3) := by decide +kernel
theorem d_Pl_becomeCopyOf_69 : decode b_Pl_becomeCopyOf 69 = .ok (.iconst 0, 1) := by decide +kernel
theorem d_Pl_becomeCopyOf_70 : decode b_Pl_becomeCopyOf 70 = .ok (.bipush 64, 2) := by decide +kernel
theorem d_Pl_becomeCopyOf_72 : decode b_Pl_becomeCopyOf 72 = .ok (.invokestatic 50, 3) := by decide +kernel
theorem d_Pl_becomeCopyOf_75 : decode b_Pl_becomeCopyOf 75 = .ok (.aload_n 1, 1) := by decide +kernel
theorem d_Pl_becomeCopyOf_76 : decode b_Pl_becomeCopyOf 76 = .ok (.getfield 27, 3) := by decide +kernel
theorem d_Pl_becomeCopyOf_79 : decode b_Pl_becomeCopyOf 79 = .ok (.iconst 0, 1) := by decide +kernel
theorem d_Pl_becomeCopyOf_80 : decode b_Pl_becomeCopyOf 80 = .ok (.aload_n 0, 1) := by decide +kernel
theorem d_Pl_becomeCopyOf_81 : decode b_Pl_becomeCopyOf 81 = .ok (.getfield 27, 3) := by decide +kernel
theorem d_Pl_becomeCopyOf_84 : decode b_Pl_becomeCopyOf 84 = .ok (.iconst 0, 1) := by decide +kernel
theorem d_Pl_becomeCopyOf_85 : decode b_Pl_becomeCopyOf 85 = .ok (.bipush 64, 2) := by decide +kernel
theorem d_Pl_becomeCopyOf_87 : decode b_Pl_becomeCopyOf 87 = .ok (.invokestatic 50, 3) := by decide +kernel
theorem d_Pl_becomeCopyOf_90 : decode b_Pl_becomeCopyOf 90 = .ok (.aload_n 1, 1) := by decide +kernel
theorem d_Pl_becomeCopyOf_91 : decode b_Pl_becomeCopyOf 91 = .ok (.getfield 30, 3) := by decide +kernel
theorem d_Pl_becomeCopyOf_94 : decode b_Pl_becomeCopyOf 94 = .ok (.iconst 0, 1) := by decide +kernel
theorem d_Pl_becomeCopyOf_95 : decode b_Pl_becomeCopyOf 95 = .ok (.aload_n 0, 1) := by decide +kernel
theorem d_Pl_becomeCopyOf_96 : decode b_Pl_becomeCopyOf 96 = .ok (.getfield 30, 3) := by decide +kernel
theorem d_Pl_becomeCopyOf_99 : decode b_Pl_becomeCopyOf 99 = .ok (.iconst 0, 1) := by decide +kernel
theorem d_Pl_becomeCopyOf_100 : decode b_Pl_becomeCopyOf 100 = .ok (.bipush 64, 2) := by decide +kernel
theorem d_Pl_becomeCopyOf_102 : decode b_Pl_becomeCopyOf 102 = .ok (.invokestatic 50, 3) := by decide +kernel
theorem d_Pl_becomeCopyOf_105 : decode b_Pl_becomeCopyOf 105 = .ok (.aload_n 1, 1) := by decide +kernel
theorem d_Pl_becomeCopyOf_106 : decode b_Pl_becomeCopyOf 106 = .ok (.getfield 33, 3) := by decide +kernel
theorem d_Pl_becomeCopyOf_109 : decode b_Pl_becomeCopyOf 109 = .ok (.iconst 0, 1) := by decide +kernel
theorem d_Pl_becomeCopyOf_110 : decode b_Pl_becomeCopyOf 110 = .ok (.aload_n 0, 1) := by decide +kernel
theorem d_Pl_becomeCopyOf_111 : decode b_Pl_becomeCopyOf 111 = .ok (.getfield 33, 3) := by decide +kernel
theorem d_Pl_becomeCopyOf_114 : decode b_Pl_becomeCopyOf 114 = .ok (.iconst 0, 1) := by decide +kernel
theorem d_Pl_becomeCopyOf_115 : decode b_Pl_becomeCopyOf 115 = .ok (.bipush 64, 2) := by decide +kernel
theorem d_Pl_becomeCopyOf_117 : decode b_Pl_becomeCopyOf 117 = .ok (.invokestatic 50, 3) := by decide +kernel
theorem d_Pl_becomeCopyOf_120 : decode b_Pl_becomeCopyOf 120 = .ok (.aload_n 0, 1) := by decide +kernel
theorem d_Pl_becomeCopyOf_121 : decode b_Pl_becomeCopyOf 121 = .ok (.aload_n 1, 1) := by decide +kernel
theorem d_Pl_becomeCopyOf_122 : decode b_Pl_becomeCopyOf 122 = .ok (.getfield 36, 3) := by decide +kernel
theorem d_Pl_becomeCopyOf_125 : decode b_Pl_becomeCopyOf 125 = .ok (.putfield 36, 3) := by decide +kernel
theorem d_Pl_becomeCopyOf_128 : decode b_Pl_becomeCopyOf 128 = .ok (.aload_n 0, 1) := by decide +kernel
theorem d_Pl_becomeCopyOf_129 : decode b_Pl_becomeCopyOf 129 = .ok (.aload_n 1, 1) := by decide +kernel
theorem d_Pl_becomeCopyOf_130 : decode b_Pl_becomeCopyOf 130 = .ok (.getfield 40, 3) := by decide +kernel
theorem d_Pl_becomeCopyOf_133 : decode b_Pl_becomeCopyOf 133 = .ok (.putfield 40, 3) := by decide +kernel
theorem d_Pl_becomeCopyOf_136 : decode b_Pl_becomeCopyOf 136 = .ok (.aload_n 0, 1) := by decide +kernel
theorem d_Pl_becomeCopyOf_137 : decode b_Pl_becomeCopyOf 137 = .ok (.aload_n 1, 1) := by decide +kernel
theorem d_Pl_becomeCopyOf_138 : decode b_Pl_becomeCopyOf 138 = .ok (.getfield 47, 3) := by decide +kernel
theorem d_Pl_becomeCopyOf_141 : decode b_Pl_becomeCopyOf 141 = .ok (.putfield 47, 3) := by decide +kernel
theorem d_Pl_becomeCopyOf_144 : decode b_Pl_becomeCopyOf 144 = .ok (.return_, 1) := by decide +kernel
theorem d_Ta_append_0 : decode b_Ta_append 0 = .ok (.aload_n 0, 1) := by decide +kernel
theorem d_Ta_append_1 : decode b_Ta_append 1 = .ok (.getfield 21, 3) := by decide +kernel
theorem d_Ta_append_4 : decode b_Ta_append 4 = .ok (.sipush 256, 3) := by decide +kernel
theorem d_Ta_append_7 : decode b_Ta_append 7 = .ok (.if_icmp .lt 5, 3) := by decide +kernel
theorem d_Ta_append_10 : decode b_Ta_append 10 = .ok (.iconst (-1), 1) := by decide +kernel
theorem d_Ta_append_11 : decode b_Ta_append 11 = .ok (.ireturn, 1) := by decide +kernel
theorem d_Ta_append_12 : decode b_Ta_append 12 = .ok (.aload_n 0, 1) := by decide +kernel
theorem d_Ta_append_13 : decode b_Ta_append 13 = .ok (.getfield 9, 3) := by decide +kernel
theorem d_Ta_append_16 : decode b_Ta_append 16 = .ok (.aload_n 0, 1) := by decide +kernel
theorem d_Ta_append_17 : decode b_Ta_append 17 = .ok (.getfield 21, 3) := by decide +kernel
theorem d_Ta_append_20 : decode b_Ta_append 20 = .ok (.iload_n 1, 1) := by decide +kernel
theorem d_Ta_append_21 : decode b_Ta_append 21 = .ok (.iastore, 1) := by decide +kernel
theorem d_Ta_append_22 : decode b_Ta_append 22 = .ok (.aload_n 0, 1) := by decide +kernel
theorem d_Ta_append_23 : decode b_Ta_append 23 = .ok (.getfield 15, 3) := by decide +kernel
theorem d_Ta_append_26 : decode b_Ta_append 26 = .ok (.aload_n 0, 1) := by decide +kernel
theorem d_Ta_append_27 : decode b_Ta_append 27 = .ok (.getfield 21, 3) := by decide +kernel
theorem d_Ta_append_30 : decode b_Ta_append 30 = .ok (.iload_n 2, 1) := by decide +kernel
theorem d_Ta_append_31 : decode b_Ta_append 31 = .ok (.iastore, 1) := by decide +kernel
theorem d_Ta_append_32 : decode b_Ta_append 32 = .ok (.aload_n 0, 1) := by decide +kernel
theorem d_Ta_append_33 : decode b_Ta_append 33 = .ok (.getfield 18, 3) := by decide +kernel
theorem d_Ta_append_36 : decode b_Ta_append 36 = .ok (.aload_n 0, 1) := by decide +kernel
theorem d_Ta_append_37 : decode b_Ta_append 37 = .ok (.getfield 21, 3) := by decide +kernel
theorem d_Ta_append_40 : decode b_Ta_append 40 = .ok (.iload_n 3, 1) := by decide +kernel
theorem d_Ta_append_41 : decode b_Ta_append 41 = .ok (.iastore, 1) := by decide +kernel
theorem d_Ta_append_42 : decode b_Ta_append 42 = .ok (.aload_n 0, 1) := by decide +kernel
theorem d_Ta_append_43 : decode b_Ta_append 43 = .ok (.dup, 1) := by decide +kernel
theorem d_Ta_append_44 : decode b_Ta_append 44 = .ok (.getfield 21, 3) := by decide +kernel
theorem d_Ta_append_47 : decode b_Ta_append 47 = .ok (.iconst 1, 1) := by decide +kernel
theorem d_Ta_append_48 : decode b_Ta_append 48 = .ok (.iadd, 1) := by decide +kernel
theorem d_Ta_append_49 : decode b_Ta_append 49 = .ok (.putfield 21, 3) := by decide +kernel
theorem d_Ta_append_52 : decode b_Ta_append 52 = .ok (.aload_n 0, 1) := by decide +kernel
theorem d_Ta_append_53 : decode b_Ta_append 53 = .ok (.getfield 21, 3) := by decide +kernel
theorem d_Ta_append_56 : decode b_Ta_append 56 = .ok (.ireturn, 1) := by decide +kernel
theorem d_Ta_removeLast_0 : decode b_Ta_removeLast 0 = .ok (.iload_n 1, 1) := by decide +kernel
theorem d_Ta_removeLast_1 : decode b_Ta_removeLast 1 = .ok (.ifCond .lt 11, 3) := by decide +kernel
theorem d_Ta_removeLast_4 : decode b_Ta_removeLast 4 = .ok (.iload_n 1, 1) := by decide +kernel
theorem d_Ta_removeLast_5 : decode b_Ta_removeLast 5 = .ok (.aload_n 0, 1) := by decide +kernel
theorem d_Ta_removeLast_6 : decode b_Ta_removeLast 6 = .ok (.getfield 21, 3) := by decide +kernel
theorem d_Ta_removeLast_9 : decode b_Ta_removeLast 9 = .ok (.if_icmp .le 5, 3) := by decide +kernel
theorem d_Ta_removeLast_12 : decode b_Ta_removeLast 12 = .ok (.iconst 0, 1) := by decide +kernel
theorem d_Ta_removeLast_13 : decode b_Ta_removeLast 13 = .ok (.ireturn, 1) := by decide +kernel
theorem d_Ta_removeLast_14 : decode b_Ta_removeLast 14 = .ok (.aload_n 0, 1) := by decide +kernel
theorem d_Ta_removeLast_15 : decode b_Ta_removeLast 15 = .ok (.dup, 1) := by decide +kernel
theorem d_Ta_removeLast_16 : decode b_Ta_removeLast 16 = .ok (.getfield 21, 3) := by decide +kernel
theorem d_Ta_removeLast_19 : decode b_Ta_removeLast 19 = .ok (.iload_n 1, 1) := by decide +kernel
theorem d_Ta_removeLast_20 : decode b_Ta_removeLast 20 = .ok (.isub, 1) := by decide +kernel
theorem d_Ta_removeLast_21 : decode b_Ta_removeLast 21 = .ok (.putfield 21, 3) := by decide +kernel
theorem d_Ta_removeLast_24 : decode b_Ta_removeLast 24 = .ok (.iconst 1, 1) := by decide +kernel
theorem d_Ta_removeLast_25 : decode b_Ta_removeLast 25 = .ok (.ireturn, 1) := by decide +kernel
theorem d_St_becomeCopyOf_0 : decode b_St_becomeCopyOf 0 = .ok (.aload_n 0, 1) := by decide +kernel
theorem d_St_becomeCopyOf_1 : decode b_St_becomeCopyOf 1 = .ok (.aload_n 1, 1) := by decide +kernel
theorem d_St_becomeCopyOf_2 : decode b_St_becomeCopyOf 2 = .ok (.getfield 7, 3) := by decide +kernel
theorem d_St_becomeCopyOf_5 : decode b_St_becomeCopyOf 5 = .ok (.putfield 7, 3) := by decide +kernel
theorem d_St_becomeCopyOf_8 : decode b_St_becomeCopyOf 8 = .ok (.aload_n 0, 1) := by decide +kernel
theorem d_St_becomeCopyOf_9 : decode b_St_becomeCopyOf 9 = .ok (.aload_n 1, 1) := by decide +kernel
theorem d_St_becomeCopyOf_10 : decode b_St_becomeCopyOf 10 = .ok (.getfield 13, 3) := by decide +kernel
theorem d_St_becomeCopyOf_13 : decode b_St_becomeCopyOf 13 = .ok (.putfield 13, 3) := by decide +kernel
theorem d_St_becomeCopyOf_16 : decode b_St_becomeCopyOf 16 = .ok (.aload_n 0, 1) := by decide +kernel
theorem d_St_becomeCopyOf_17 : decode b_St_becomeCopyOf 17 = .ok (.aload_n 1, 1) := by decide +kernel
theorem d_St_becomeCopyOf_18 : decode b_St_becomeCopyOf 18 = .ok (.getfield 16, 3) := by decide +kernel
theorem d_St_becomeCopyOf_21 : decode b_St_becomeCopyOf 21 = .ok (.putfield 16, 3) := by decide +kernel
theorem d_St_becomeCopyOf_24 : decode b_St_becomeCopyOf 24 = .ok (.aload_n 0, 1) := by decide +kernel
theorem d_St_becomeCopyOf_25 : decode b_St_becomeCopyOf 25 = .ok (.aload_n 1, 1) := by decide +kernel
theorem d_St_becomeCopyOf_26 : decode b_St_becomeCopyOf 26 = .ok (.getfield 19, 3) := by decide +kernel
theorem d_St_becomeCopyOf_29 : decode b_St_becomeCopyOf 29 = .ok (.putfield 19, 3) := by decide +kernel
theorem d_St_becomeCopyOf_32 : decode b_St_becomeCopyOf 32 = .ok (.return_, 1) := by decide +kernel
theorem d_Cr_forget_0 : decode b_Cr_forget 0 = .ok (.aload_n 0, 1) := by decide +kernel
theorem d_Cr_forget_1 : decode b_Cr_forget 1 = .ok (.iconst 0, 1) := by decide +kernel
theorem d_Cr_forget_2 : decode b_Cr_forget 2 = .ok (.putfield 21, 3) := by decide +kernel
theorem d_Cr_forget_5 : decode b_Cr_forget 5 = .ok (.aload_n 0, 1) := by decide +kernel
theorem d_Cr_forget_6 : decode b_Cr_forget 6 = .ok (.iconst (-1), 1) := by decide +kernel
theorem d_Cr_forget_7 : decode b_Cr_forget 7 = .ok (.putfield 25, 3) := by decide +kernel
theorem d_Cr_forget_10 : decode b_Cr_forget 10 = .ok (.return_, 1) := by decide +kernel
theorem d_Pl_side_0 : decode b_Pl_side 0 = .ok (.aload_n 0, 1) := by decide +kernel
theorem d_Pl_side_1 : decode b_Pl_side 1 = .ok (.getfield 9, 3) := by decide +kernel
theorem d_Pl_side_4 : decode b_Pl_side 4 = .ok (.iload_n 2, 1) := by decide +kernel
theorem d_Pl_side_5 : decode b_Pl_side 5 = .ok (.iaload, 1) := by decide +kernel
theorem d_Pl_side_6 : decode b_Pl_side 6 = .ok (.aload_n 0, 1) := by decide +kernel
theorem d_Pl_side_7 : decode b_Pl_side 7 = .ok (.getfield 9, 3) := by decide +kernel
theorem d_Pl_side_10 : decode b_Pl_side 10 = .ok (.iload_n 1, 1) := by decide +kernel
theorem d_Pl_side_11 : decode b_Pl_side 11 = .ok (.iaload, 1) := by decide +kernel
theorem d_Pl_side_12 : decode b_Pl_side 12 = .ok (.isub, 1) := by decide +kernel
theorem d_Pl_side_13 : decode b_Pl_side 13 = .ok (.aload_n 0, 1) := by decide +kernel
theorem d_Pl_side_14 : decode b_Pl_side 14 = .ok (.getfield 15, 3) := by decide +kernel
theorem d_Pl_side_17 : decode b_Pl_side 17 = .ok (.iload_n 2, 1) := by decide +kernel
theorem d_Pl_side_18 : decode b_Pl_side 18 = .ok (.iaload, 1) := by decide +kernel
theorem d_Pl_side_19 : decode b_Pl_side 19 = .ok (.aload_n 0, 1) := by decide +kernel
theorem d_Pl_side_20 : decode b_Pl_side 20 = .ok (.getfield 15, 3) := by decide +kernel
theorem d_Pl_side_23 : decode b_Pl_side 23 = .ok (.iload_n 1, 1) := by decide +kernel
theorem d_Pl_side_24 : decode b_Pl_side 24 = .ok (.iaload, 1) := by decide +kernel
theorem d_Pl_side_25 : decode b_Pl_side 25 = .ok (.isub, 1) := by decide +kernel
theorem d_Pl_side_26 : decode b_Pl_side 26 = .ok (.aload_n 0, 1) := by decide +kernel
theorem d_Pl_side_27 : decode b_Pl_side 27 = .ok (.getfield 9, 3) := by decide +kernel
theorem d_Pl_side_30 : decode b_Pl_side 30 = .ok (.iload_n 3, 1) := by decide +kernel
theorem d_Pl_side_31 : decode b_Pl_side 31 = .ok (.iaload, 1) := by decide +kernel
theorem d_Pl_side_32 : decode b_Pl_side 32 = .ok (.aload_n 0, 1) := by decide +kernel
theorem d_Pl_side_33 : decode b_Pl_side 33 = .ok (.getfield 9, 3) := by decide +kernel
theorem d_Pl_side_36 : decode b_Pl_side 36 = .ok (.iload_n 1, 1) := by decide +kernel
theorem d_Pl_side_37 : decode b_Pl_side 37 = .ok (.iaload, 1) := by decide +kernel
theorem d_Pl_side_38 : decode b_Pl_side 38 = .ok (.isub, 1) := by decide +kernel
theorem d_Pl_side_39 : decode b_Pl_side 39 = .ok (.aload_n 0, 1) := by decide +kernel
theorem d_Pl_side_40 : decode b_Pl_side 40 = .ok (.getfield 15, 3) := by decide +kernel
theorem d_Pl_side_43 : decode b_Pl_side 43 = .ok (.iload_n 3, 1) := by decide +kernel
theorem d_Pl_side_44 : decode b_Pl_side 44 = .ok (.iaload, 1) := by decide +kernel
theorem d_Pl_side_45 : decode b_Pl_side 45 = .ok (.aload_n 0, 1) := by decide +kernel
theorem d_Pl_side_46 : decode b_Pl_side 46 = .ok (.getfield 15, 3) := by decide +kernel
theorem d_Pl_side_49 : decode b_Pl_side 49 = .ok (.iload_n 1, 1) := by decide +kernel
theorem d_Pl_side_50 : decode b_Pl_side 50 = .ok (.iaload, 1) := by decide +kernel
theorem d_Pl_side_51 : decode b_Pl_side 51 = .ok (.isub, 1) := by decide +kernel
theorem d_Pl_side_52 : decode b_Pl_side 52 = .ok (.invokestatic 71, 3) := by decide +kernel
theorem d_Pl_side_55 : decode b_Pl_side 55 = .ok (.ireturn, 1) := by decide +kernel
theorem d_Pl_straddles_0 : decode b_Pl_straddles 0 = .ok (.aload_n 0, 1) := by decide +kernel
theorem d_Pl_straddles_1 : decode b_Pl_straddles 1 = .ok (.iload_n 1, 1) := by decide +kernel
theorem d_Pl_straddles_2 : decode b_Pl_straddles 2 = .ok (.iload_n 2, 1) := by decide +kernel
theorem d_Pl_straddles_3 : decode b_Pl_straddles 3 = .ok (.iload_n 3, 1) := by decide +kernel
theorem d_Pl_straddles_4 : decode b_Pl_straddles 4 = .ok (.invokevirtual 84, 3) := by decide +kernel
theorem d_Pl_straddles_7 : decode b_Pl_straddles 7 = .ok (.istore 5, 2) := by decide +kernel
theorem d_Pl_straddles_9 : decode b_Pl_straddles 9 = .ok (.aload_n 0, 1) := by decide +kernel
theorem d_Pl_straddles_10 : decode b_Pl_straddles 10 = .ok (.iload_n 1, 1) := by decide +kernel
theorem d_Pl_straddles_11 : decode b_Pl_straddles 11 = .ok (.iload_n 2, 1) := by decide +kernel
theorem d_Pl_straddles_12 : decode b_Pl_straddles 12 = .ok (.iload 4, 2) := by decide +kernel
theorem d_Pl_straddles_14 : decode b_Pl_straddles 14 = .ok (.invokevirtual 84, 3) := by decide +kernel
theorem d_Pl_straddles_17 : decode b_Pl_straddles 17 = .ok (.istore 6, 2) := by decide +kernel
theorem d_Pl_straddles_19 : decode b_Pl_straddles 19 = .ok (.iload 5, 2) := by decide +kernel
theorem d_Pl_straddles_21 : decode b_Pl_straddles 21 = .ok (.ifCond .le 8, 3) := by decide +kernel
theorem d_Pl_straddles_24 : decode b_Pl_straddles 24 = .ok (.iload 6, 2) := by decide +kernel
theorem d_Pl_straddles_26 : decode b_Pl_straddles 26 = .ok (.ifCond .gt 17, 3) := by decide +kernel
theorem d_Pl_straddles_29 : decode b_Pl_straddles 29 = .ok (.iload 5, 2) := by decide +kernel
theorem d_Pl_straddles_31 : decode b_Pl_straddles 31 = .ok (.ifCond .ge 8, 3) := by decide +kernel
theorem d_Pl_straddles_34 : decode b_Pl_straddles 34 = .ok (.iload 6, 2) := by decide +kernel
theorem d_Pl_straddles_36 : decode b_Pl_straddles 36 = .ok (.ifCond .lt 7, 3) := by decide +kernel
theorem d_Pl_straddles_39 : decode b_Pl_straddles 39 = .ok (.iconst 1, 1) := by decide +kernel
theorem d_Pl_straddles_40 : decode b_Pl_straddles 40 = .ok (.goto 4, 3) := by decide +kernel
theorem d_Pl_straddles_43 : decode b_Pl_straddles 43 = .ok (.iconst 0, 1) := by decide +kernel
theorem d_Pl_straddles_44 : decode b_Pl_straddles 44 = .ok (.ireturn, 1) := by decide +kernel
theorem d_Pl_leaveAlike_0 : decode b_Pl_leaveAlike 0 = .ok (.aload_n 0, 1) := by decide +kernel
theorem d_Pl_leaveAlike_1 : decode b_Pl_leaveAlike 1 = .ok (.getfield 9, 3) := by decide +kernel
theorem d_Pl_leaveAlike_4 : decode b_Pl_leaveAlike 4 = .ok (.iload_n 2, 1) := by decide +kernel
theorem d_Pl_leaveAlike_5 : decode b_Pl_leaveAlike 5 = .ok (.iaload, 1) := by decide +kernel
theorem d_Pl_leaveAlike_6 : decode b_Pl_leaveAlike 6 = .ok (.aload_n 0, 1) := by decide +kernel
theorem d_Pl_leaveAlike_7 : decode b_Pl_leaveAlike 7 = .ok (.getfield 9, 3) := by decide +kernel
theorem d_Pl_leaveAlike_10 : decode b_Pl_leaveAlike 10 = .ok (.iload_n 1, 1) := by decide +kernel
theorem d_Pl_leaveAlike_11 : decode b_Pl_leaveAlike 11 = .ok (.iaload, 1) := by decide +kernel
theorem d_Pl_leaveAlike_12 : decode b_Pl_leaveAlike 12 = .ok (.isub, 1) := by decide +kernel
theorem d_Pl_leaveAlike_13 : decode b_Pl_leaveAlike 13 = .ok (.istore 4, 2) := by decide +kernel
theorem d_Pl_leaveAlike_15 : decode b_Pl_leaveAlike 15 = .ok (.aload_n 0, 1) := by decide +kernel
theorem d_Pl_leaveAlike_16 : decode b_Pl_leaveAlike 16 = .ok (.getfield 15, 3) := by decide +kernel
theorem d_Pl_leaveAlike_19 : decode b_Pl_leaveAlike 19 = .ok (.iload_n 2, 1) := by decide +kernel
theorem d_Pl_leaveAlike_20 : decode b_Pl_leaveAlike 20 = .ok (.iaload, 1) := by decide +kernel
theorem d_Pl_leaveAlike_21 : decode b_Pl_leaveAlike 21 = .ok (.aload_n 0, 1) := by decide +kernel
theorem d_Pl_leaveAlike_22 : decode b_Pl_leaveAlike 22 = .ok (.getfield 15, 3) := by decide +kernel
theorem d_Pl_leaveAlike_25 : decode b_Pl_leaveAlike 25 = .ok (.iload_n 1, 1) := by decide +kernel
theorem d_Pl_leaveAlike_26 : decode b_Pl_leaveAlike 26 = .ok (.iaload, 1) := by decide +kernel
theorem d_Pl_leaveAlike_27 : decode b_Pl_leaveAlike 27 = .ok (.isub, 1) := by decide +kernel
theorem d_Pl_leaveAlike_28 : decode b_Pl_leaveAlike 28 = .ok (.istore 5, 2) := by decide +kernel
theorem d_Pl_leaveAlike_30 : decode b_Pl_leaveAlike 30 = .ok (.aload_n 0, 1) := by decide +kernel
theorem d_Pl_leaveAlike_31 : decode b_Pl_leaveAlike 31 = .ok (.getfield 9, 3) := by decide +kernel
theorem d_Pl_leaveAlike_34 : decode b_Pl_leaveAlike 34 = .ok (.iload_n 3, 1) := by decide +kernel
theorem d_Pl_leaveAlike_35 : decode b_Pl_leaveAlike 35 = .ok (.iaload, 1) := by decide +kernel
theorem d_Pl_leaveAlike_36 : decode b_Pl_leaveAlike 36 = .ok (.aload_n 0, 1) := by decide +kernel
theorem d_Pl_leaveAlike_37 : decode b_Pl_leaveAlike 37 = .ok (.getfield 9, 3) := by decide +kernel
theorem d_Pl_leaveAlike_40 : decode b_Pl_leaveAlike 40 = .ok (.iload_n 1, 1) := by decide +kernel
theorem d_Pl_leaveAlike_41 : decode b_Pl_leaveAlike 41 = .ok (.iaload, 1) := by decide +kernel
theorem d_Pl_leaveAlike_42 : decode b_Pl_leaveAlike 42 = .ok (.isub, 1) := by decide +kernel
theorem d_Pl_leaveAlike_43 : decode b_Pl_leaveAlike 43 = .ok (.istore 6, 2) := by decide +kernel
theorem d_Pl_leaveAlike_45 : decode b_Pl_leaveAlike 45 = .ok (.aload_n 0, 1) := by decide +kernel
theorem d_Pl_leaveAlike_46 : decode b_Pl_leaveAlike 46 = .ok (.getfield 15, 3) := by decide +kernel
theorem d_Pl_leaveAlike_49 : decode b_Pl_leaveAlike 49 = .ok (.iload_n 3, 1) := by decide +kernel
theorem d_Pl_leaveAlike_50 : decode b_Pl_leaveAlike 50 = .ok (.iaload, 1) := by decide +kernel
theorem d_Pl_leaveAlike_51 : decode b_Pl_leaveAlike 51 = .ok (.aload_n 0, 1) := by decide +kernel
theorem d_Pl_leaveAlike_52 : decode b_Pl_leaveAlike 52 = .ok (.getfield 15, 3) := by decide +kernel
theorem d_Pl_leaveAlike_55 : decode b_Pl_leaveAlike 55 = .ok (.iload_n 1, 1) := by decide +kernel
theorem d_Pl_leaveAlike_56 : decode b_Pl_leaveAlike 56 = .ok (.iaload, 1) := by decide +kernel
theorem d_Pl_leaveAlike_57 : decode b_Pl_leaveAlike 57 = .ok (.isub, 1) := by decide +kernel
theorem d_Pl_leaveAlike_58 : decode b_Pl_leaveAlike 58 = .ok (.istore 7, 2) := by decide +kernel
theorem d_Pl_leaveAlike_60 : decode b_Pl_leaveAlike 60 = .ok (.iload 4, 2) := by decide +kernel
theorem d_Pl_leaveAlike_62 : decode b_Pl_leaveAlike 62 = .ok (.iload 5, 2) := by decide +kernel
theorem d_Pl_leaveAlike_64 : decode b_Pl_leaveAlike 64 = .ok (.iload 6, 2) := by decide +kernel
theorem d_Pl_leaveAlike_66 : decode b_Pl_leaveAlike 66 = .ok (.iload 7, 2) := by decide +kernel
theorem d_Pl_leaveAlike_68 : decode b_Pl_leaveAlike 68 = .ok (.invokestatic 71, 3) := by decide +kernel
theorem d_Pl_leaveAlike_71 : decode b_Pl_leaveAlike 71 = .ok (.ifCond .ne 21, 3) := by decide +kernel
theorem d_Pl_leaveAlike_74 : decode b_Pl_leaveAlike 74 = .ok (.iload 4, 2) := by decide +kernel
theorem d_Pl_leaveAlike_76 : decode b_Pl_leaveAlike 76 = .ok (.iload 6, 2) := by decide +kernel
theorem d_Pl_leaveAlike_78 : decode b_Pl_leaveAlike 78 = .ok (.imul, 1) := by decide +kernel
theorem d_Pl_leaveAlike_79 : decode b_Pl_leaveAlike 79 = .ok (.iload 5, 2) := by decide +kernel
theorem d_Pl_leaveAlike_81 : decode b_Pl_leaveAlike 81 = .ok (.iload 7, 2) := by decide +kernel
theorem d_Pl_leaveAlike_83 : decode b_Pl_leaveAlike 83 = .ok (.imul, 1) := by decide +kernel
theorem d_Pl_leaveAlike_84 : decode b_Pl_leaveAlike 84 = .ok (.iadd, 1) := by decide +kernel
theorem d_Pl_leaveAlike_85 : decode b_Pl_leaveAlike 85 = .ok (.ifCond .le 7, 3) := by decide +kernel
theorem d_Pl_leaveAlike_88 : decode b_Pl_leaveAlike 88 = .ok (.iconst 1, 1) := by decide +kernel
theorem d_Pl_leaveAlike_89 : decode b_Pl_leaveAlike 89 = .ok (.goto 4, 3) := by decide +kernel
theorem d_Pl_leaveAlike_92 : decode b_Pl_leaveAlike 92 = .ok (.iconst 0, 1) := by decide +kernel
theorem d_Pl_leaveAlike_93 : decode b_Pl_leaveAlike 93 = .ok (.ireturn, 1) := by decide +kernel
theorem d_Pl_boxesMeet_0 : decode b_Pl_boxesMeet 0 = .ok (.aload_n 0, 1) := by decide +kernel
theorem d_Pl_boxesMeet_1 : decode b_Pl_boxesMeet 1 = .ok (.iload_n 1, 1) := by decide +kernel
theorem d_Pl_boxesMeet_2 : decode b_Pl_boxesMeet 2 = .ok (.iaload, 1) := by decide +kernel
theorem d_Pl_boxesMeet_3 : decode b_Pl_boxesMeet 3 = .ok (.aload_n 0, 1) := by decide +kernel
theorem d_Pl_boxesMeet_4 : decode b_Pl_boxesMeet 4 = .ok (.iload_n 2, 1) := by decide +kernel
theorem d_Pl_boxesMeet_5 : decode b_Pl_boxesMeet 5 = .ok (.iaload, 1) := by decide +kernel
theorem d_Pl_boxesMeet_6 : decode b_Pl_boxesMeet 6 = .ok (.invokestatic 75, 3) := by decide +kernel
theorem d_Pl_boxesMeet_9 : decode b_Pl_boxesMeet 9 = .ok (.aload_n 0, 1) := by decide +kernel
theorem d_Pl_boxesMeet_10 : decode b_Pl_boxesMeet 10 = .ok (.iload_n 3, 1) := by decide +kernel
theorem d_Pl_boxesMeet_11 : decode b_Pl_boxesMeet 11 = .ok (.iaload, 1) := by decide +kernel
theorem d_Pl_boxesMeet_12 : decode b_Pl_boxesMeet 12 = .ok (.aload_n 0, 1) := by decide +kernel
theorem d_Pl_boxesMeet_13 : decode b_Pl_boxesMeet 13 = .ok (.iload 4, 2) := by decide +kernel
theorem d_Pl_boxesMeet_15 : decode b_Pl_boxesMeet 15 = .ok (.iaload, 1) := by decide +kernel
theorem d_Pl_boxesMeet_16 : decode b_Pl_boxesMeet 16 = .ok (.invokestatic 81, 3) := by decide +kernel
theorem d_Pl_boxesMeet_19 : decode b_Pl_boxesMeet 19 = .ok (.if_icmp .lt 29, 3) := by decide +kernel
theorem d_Pl_boxesMeet_22 : decode b_Pl_boxesMeet 22 = .ok (.aload_n 0, 1) := by decide +kernel
theorem d_Pl_boxesMeet_23 : decode b_Pl_boxesMeet 23 = .ok (.iload_n 3, 1) := by decide +kernel
theorem d_Pl_boxesMeet_24 : decode b_Pl_boxesMeet 24 = .ok (.iaload, 1) := by decide +kernel
theorem d_Pl_boxesMeet_25 : decode b_Pl_boxesMeet 25 = .ok (.aload_n 0, 1) := by decide +kernel
theorem d_Pl_boxesMeet_26 : decode b_Pl_boxesMeet 26 = .ok (.iload 4, 2) := by decide +kernel
theorem d_Pl_boxesMeet_28 : decode b_Pl_boxesMeet 28 = .ok (.iaload, 1) := by decide +kernel
theorem d_Pl_boxesMeet_29 : decode b_Pl_boxesMeet 29 = .ok (.invokestatic 75, 3) := by decide +kernel
theorem d_Pl_boxesMeet_32 : decode b_Pl_boxesMeet 32 = .ok (.aload_n 0, 1) := by decide +kernel
theorem d_Pl_boxesMeet_33 : decode b_Pl_boxesMeet 33 = .ok (.iload_n 1, 1) := by decide +kernel
theorem d_Pl_boxesMeet_34 : decode b_Pl_boxesMeet 34 = .ok (.iaload, 1) := by decide +kernel
theorem d_Pl_boxesMeet_35 : decode b_Pl_boxesMeet 35 = .ok (.aload_n 0, 1) := by decide +kernel
theorem d_Pl_boxesMeet_36 : decode b_Pl_boxesMeet 36 = .ok (.iload_n 2, 1) := by decide +kernel
theorem d_Pl_boxesMeet_37 : decode b_Pl_boxesMeet 37 = .ok (.iaload, 1) := by decide +kernel
theorem d_Pl_boxesMeet_38 : decode b_Pl_boxesMeet 38 = .ok (.invokestatic 81, 3) := by decide +kernel
theorem d_Pl_boxesMeet_41 : decode b_Pl_boxesMeet 41 = .ok (.if_icmp .lt 7, 3) := by decide +kernel
theorem d_Pl_boxesMeet_44 : decode b_Pl_boxesMeet 44 = .ok (.iconst 1, 1) := by decide +kernel
theorem d_Pl_boxesMeet_45 : decode b_Pl_boxesMeet 45 = .ok (.goto 4, 3) := by decide +kernel
theorem d_Pl_boxesMeet_48 : decode b_Pl_boxesMeet 48 = .ok (.iconst 0, 1) := by decide +kernel
theorem d_Pl_boxesMeet_49 : decode b_Pl_boxesMeet 49 = .ok (.ireturn, 1) := by decide +kernel
theorem d_Pl_clash_0 : decode b_Pl_clash 0 = .ok (.aload_n 0, 1) := by decide +kernel
theorem d_Pl_clash_1 : decode b_Pl_clash 1 = .ok (.getfield 24, 3) := by decide +kernel
theorem d_Pl_clash_4 : decode b_Pl_clash 4 = .ok (.iload_n 1, 1) := by decide +kernel
theorem d_Pl_clash_5 : decode b_Pl_clash 5 = .ok (.iaload, 1) := by decide +kernel
theorem d_Pl_clash_6 : decode b_Pl_clash 6 = .ok (.istore_n 3, 1) := by decide +kernel
theorem d_Pl_clash_7 : decode b_Pl_clash 7 = .ok (.aload_n 0, 1) := by decide +kernel
theorem d_Pl_clash_8 : decode b_Pl_clash 8 = .ok (.getfield 27, 3) := by decide +kernel
theorem d_Pl_clash_11 : decode b_Pl_clash 11 = .ok (.iload_n 1, 1) := by decide +kernel
theorem d_Pl_clash_12 : decode b_Pl_clash 12 = .ok (.iaload, 1) := by decide +kernel
theorem d_Pl_clash_13 : decode b_Pl_clash 13 = .ok (.istore 4, 2) := by decide +kernel
theorem d_Pl_clash_15 : decode b_Pl_clash 15 = .ok (.aload_n 0, 1) := by decide +kernel
theorem d_Pl_clash_16 : decode b_Pl_clash 16 = .ok (.getfield 24, 3) := by decide +kernel
theorem d_Pl_clash_19 : decode b_Pl_clash 19 = .ok (.iload_n 2, 1) := by decide +kernel
theorem d_Pl_clash_20 : decode b_Pl_clash 20 = .ok (.iaload, 1) := by decide +kernel
theorem d_Pl_clash_21 : decode b_Pl_clash 21 = .ok (.istore 5, 2) := by decide +kernel
theorem d_Pl_clash_23 : decode b_Pl_clash 23 = .ok (.aload_n 0, 1) := by decide +kernel
theorem d_Pl_clash_24 : decode b_Pl_clash 24 = .ok (.getfield 27, 3) := by decide +kernel
theorem d_Pl_clash_27 : decode b_Pl_clash 27 = .ok (.iload_n 2, 1) := by decide +kernel
theorem d_Pl_clash_28 : decode b_Pl_clash 28 = .ok (.iaload, 1) := by decide +kernel
theorem d_Pl_clash_29 : decode b_Pl_clash 29 = .ok (.istore 6, 2) := by decide +kernel
theorem d_Pl_clash_31 : decode b_Pl_clash 31 = .ok (.iload_n 3, 1) := by decide +kernel
theorem d_Pl_clash_32 : decode b_Pl_clash 32 = .ok (.iload 5, 2) := by decide +kernel
theorem d_Pl_clash_34 : decode b_Pl_clash 34 = .ok (.if_icmp .ne 13, 3) := by decide +kernel
theorem d_Pl_clash_37 : decode b_Pl_clash 37 = .ok (.aload_n 0, 1) := by decide +kernel
theorem d_Pl_clash_38 : decode b_Pl_clash 38 = .ok (.iload_n 3, 1) := by decide +kernel
theorem d_Pl_clash_39 : decode b_Pl_clash 39 = .ok (.iload 4, 2) := by decide +kernel
theorem d_Pl_clash_41 : decode b_Pl_clash 41 = .ok (.iload 6, 2) := by decide +kernel
theorem d_Pl_clash_43 : decode b_Pl_clash 43 = .ok (.invokevirtual 59, 3) := by decide +kernel
theorem d_Pl_clash_46 : decode b_Pl_clash 46 = .ok (.ireturn, 1) := by decide +kernel
theorem d_Pl_clash_47 : decode b_Pl_clash 47 = .ok (.iload_n 3, 1) := by decide +kernel
theorem d_Pl_clash_48 : decode b_Pl_clash 48 = .ok (.iload 6, 2) := by decide +kernel
theorem d_Pl_clash_50 : decode b_Pl_clash 50 = .ok (.if_icmp .ne 13, 3) := by decide +kernel
theorem d_Pl_clash_53 : decode b_Pl_clash 53 = .ok (.aload_n 0, 1) := by decide +kernel
theorem d_Pl_clash_54 : decode b_Pl_clash 54 = .ok (.iload_n 3, 1) := by decide +kernel
theorem d_Pl_clash_55 : decode b_Pl_clash 55 = .ok (.iload 4, 2) := by decide +kernel
theorem d_Pl_clash_57 : decode b_Pl_clash 57 = .ok (.iload 5, 2) := by decide +kernel
theorem d_Pl_clash_59 : decode b_Pl_clash 59 = .ok (.invokevirtual 59, 3) := by decide +kernel
theorem d_Pl_clash_62 : decode b_Pl_clash 62 = .ok (.ireturn, 1) := by decide +kernel
theorem d_Pl_clash_63 : decode b_Pl_clash 63 = .ok (.iload 4, 2) := by decide +kernel
theorem d_Pl_clash_65 : decode b_Pl_clash 65 = .ok (.iload 5, 2) := by decide +kernel
theorem d_Pl_clash_67 : decode b_Pl_clash 67 = .ok (.if_icmp .ne 13, 3) := by decide +kernel
theorem d_Pl_clash_70 : decode b_Pl_clash 70 = .ok (.aload_n 0, 1) := by decide +kernel
theorem d_Pl_clash_71 : decode b_Pl_clash 71 = .ok (.iload 4, 2) := by decide +kernel
theorem d_Pl_clash_73 : decode b_Pl_clash 73 = .ok (.iload_n 3, 1) := by decide +kernel
theorem d_Pl_clash_74 : decode b_Pl_clash 74 = .ok (.iload 6, 2) := by decide +kernel
theorem d_Pl_clash_76 : decode b_Pl_clash 76 = .ok (.invokevirtual 59, 3) := by decide +kernel
theorem d_Pl_clash_79 : decode b_Pl_clash 79 = .ok (.ireturn, 1) := by decide +kernel
theorem d_Pl_clash_80 : decode b_Pl_clash 80 = .ok (.iload 4, 2) := by decide +kernel
theorem d_Pl_clash_82 : decode b_Pl_clash 82 = .ok (.iload 6, 2) := by decide +kernel
theorem d_Pl_clash_84 : decode b_Pl_clash 84 = .ok (.if_icmp .ne 13, 3) := by decide +kernel
theorem d_Pl_clash_87 : decode b_Pl_clash 87 = .ok (.aload_n 0, 1) := by decide +kernel
theorem d_Pl_clash_88 : decode b_Pl_clash 88 = .ok (.iload 4, 2) := by decide +kernel
theorem d_Pl_clash_90 : decode b_Pl_clash 90 = .ok (.iload_n 3, 1) := by decide +kernel
theorem d_Pl_clash_91 : decode b_Pl_clash 91 = .ok (.iload 5, 2) := by decide +kernel
theorem d_Pl_clash_93 : decode b_Pl_clash 93 = .ok (.invokevirtual 59, 3) := by decide +kernel
theorem d_Pl_clash_96 : decode b_Pl_clash 96 = .ok (.ireturn, 1) := by decide +kernel
theorem d_Pl_clash_97 : decode b_Pl_clash 97 = .ok (.aload_n 0, 1) := by decide +kernel
theorem d_Pl_clash_98 : decode b_Pl_clash 98 = .ok (.getfield 9, 3) := by decide +kernel
theorem d_Pl_clash_101 : decode b_Pl_clash 101 = .ok (.iload_n 3, 1) := by decide +kernel
theorem d_Pl_clash_102 : decode b_Pl_clash 102 = .ok (.iload 4, 2) := by decide +kernel
theorem d_Pl_clash_104 : decode b_Pl_clash 104 = .ok (.iload 5, 2) := by decide +kernel
theorem d_Pl_clash_106 : decode b_Pl_clash 106 = .ok (.iload 6, 2) := by decide +kernel
theorem d_Pl_clash_108 : decode b_Pl_clash 108 = .ok (.invokestatic 63, 3) := by decide +kernel
theorem d_Pl_clash_111 : decode b_Pl_clash 111 = .ok (.ifCond .eq 52, 3) := by decide +kernel
theorem d_Pl_clash_114 : decode b_Pl_clash 114 = .ok (.aload_n 0, 1) := by decide +kernel
theorem d_Pl_clash_115 : decode b_Pl_clash 115 = .ok (.getfield 15, 3) := by decide +kernel
theorem d_Pl_clash_118 : decode b_Pl_clash 118 = .ok (.iload_n 3, 1) := by decide +kernel
theorem d_Pl_clash_119 : decode b_Pl_clash 119 = .ok (.iload 4, 2) := by decide +kernel
theorem d_Pl_clash_121 : decode b_Pl_clash 121 = .ok (.iload 5, 2) := by decide +kernel
theorem d_Pl_clash_123 : decode b_Pl_clash 123 = .ok (.iload 6, 2) := by decide +kernel
theorem d_Pl_clash_125 : decode b_Pl_clash 125 = .ok (.invokestatic 63, 3) := by decide +kernel
theorem d_Pl_clash_128 : decode b_Pl_clash 128 = .ok (.ifCond .eq 35, 3) := by decide +kernel
theorem d_Pl_clash_131 : decode b_Pl_clash 131 = .ok (.aload_n 0, 1) := by decide +kernel
theorem d_Pl_clash_132 : decode b_Pl_clash 132 = .ok (.iload_n 3, 1) := by decide +kernel
theorem d_Pl_clash_133 : decode b_Pl_clash 133 = .ok (.iload 4, 2) := by decide +kernel
theorem d_Pl_clash_135 : decode b_Pl_clash 135 = .ok (.iload 5, 2) := by decide +kernel
theorem d_Pl_clash_137 : decode b_Pl_clash 137 = .ok (.iload 6, 2) := by decide +kernel
theorem d_Pl_clash_139 : decode b_Pl_clash 139 = .ok (.invokevirtual 67, 3) := by decide +kernel
theorem d_Pl_clash_142 : decode b_Pl_clash 142 = .ok (.ifCond .eq 21, 3) := by decide +kernel
theorem d_Pl_clash_145 : decode b_Pl_clash 145 = .ok (.aload_n 0, 1) := by decide +kernel
theorem d_Pl_clash_146 : decode b_Pl_clash 146 = .ok (.iload 5, 2) := by decide +kernel
theorem d_Pl_clash_148 : decode b_Pl_clash 148 = .ok (.iload 6, 2) := by decide +kernel
theorem d_Pl_clash_150 : decode b_Pl_clash 150 = .ok (.iload_n 3, 1) := by decide +kernel
theorem d_Pl_clash_151 : decode b_Pl_clash 151 = .ok (.iload 4, 2) := by decide +kernel
theorem d_Pl_clash_153 : decode b_Pl_clash 153 = .ok (.invokevirtual 67, 3) := by decide +kernel
theorem d_Pl_clash_156 : decode b_Pl_clash 156 = .ok (.ifCond .eq 7, 3) := by decide +kernel
theorem d_Pl_clash_159 : decode b_Pl_clash 159 = .ok (.iconst 1, 1) := by decide +kernel
theorem d_Pl_clash_160 : decode b_Pl_clash 160 = .ok (.goto 4, 3) := by decide +kernel
theorem d_Pl_clash_163 : decode b_Pl_clash 163 = .ok (.iconst 0, 1) := by decide +kernel
theorem d_Pl_clash_164 : decode b_Pl_clash 164 = .ok (.ireturn, 1) := by decide +kernel
theorem d_Pl_firstWrongWall_0 : decode b_Pl_firstWrongWall 0 = .ok (.iconst 1, 1) := by decide +kernel
theorem d_Pl_firstWrongWall_1 : decode b_Pl_firstWrongWall 1 = .ok (.istore_n 1, 1) := by decide +kernel
theorem d_Pl_firstWrongWall_2 : decode b_Pl_firstWrongWall 2 = .ok (.iload_n 1, 1) := by decide +kernel
theorem d_Pl_firstWrongWall_3 : decode b_Pl_firstWrongWall 3 = .ok (.aload_n 0, 1) := by decide +kernel
theorem d_Pl_firstWrongWall_4 : decode b_Pl_firstWrongWall 4 = .ok (.getfield 47, 3) := by decide +kernel
theorem d_Pl_firstWrongWall_7 : decode b_Pl_firstWrongWall 7 = .ok (.if_icmp .ge 33, 3) := by decide +kernel
theorem d_Pl_firstWrongWall_10 : decode b_Pl_firstWrongWall 10 = .ok (.iconst 0, 1) := by decide +kernel
theorem d_Pl_firstWrongWall_11 : decode b_Pl_firstWrongWall 11 = .ok (.istore_n 2, 1) := by decide +kernel
theorem d_Pl_firstWrongWall_12 : decode b_Pl_firstWrongWall 12 = .ok (.iload_n 2, 1) := by decide +kernel
theorem d_Pl_firstWrongWall_13 : decode b_Pl_firstWrongWall 13 = .ok (.iload_n 1, 1) := by decide +kernel
theorem d_Pl_firstWrongWall_14 : decode b_Pl_firstWrongWall 14 = .ok (.if_icmp .ge 20, 3) := by decide +kernel
theorem d_Pl_firstWrongWall_17 : decode b_Pl_firstWrongWall 17 = .ok (.aload_n 0, 1) := by decide +kernel
theorem d_Pl_firstWrongWall_18 : decode b_Pl_firstWrongWall 18 = .ok (.iload_n 2, 1) := by decide +kernel
theorem d_Pl_firstWrongWall_19 : decode b_Pl_firstWrongWall 19 = .ok (.iload_n 1, 1) := by decide +kernel
theorem d_Pl_firstWrongWall_20 : decode b_Pl_firstWrongWall 20 = .ok (.invokevirtual 56, 3) := by decide +kernel
theorem d_Pl_firstWrongWall_23 : decode b_Pl_firstWrongWall 23 = .ok (.ifCond .eq 5, 3) := by decide +kernel
theorem d_Pl_firstWrongWall_26 : decode b_Pl_firstWrongWall 26 = .ok (.iload_n 1, 1) := by decide +kernel
theorem d_Pl_firstWrongWall_27 : decode b_Pl_firstWrongWall 27 = .ok (.ireturn, 1) := by decide +kernel
theorem d_Pl_firstWrongWall_28 : decode b_Pl_firstWrongWall 28 = .ok (.iinc 2 1, 3) := by decide +kernel
theorem d_Pl_firstWrongWall_31 : decode b_Pl_firstWrongWall 31 = .ok (.goto (-19), 3) := by decide +kernel
theorem d_Pl_firstWrongWall_34 : decode b_Pl_firstWrongWall 34 = .ok (.iinc 1 1, 3) := by decide +kernel
theorem d_Pl_firstWrongWall_37 : decode b_Pl_firstWrongWall 37 = .ok (.goto (-35), 3) := by decide +kernel
theorem d_Pl_firstWrongWall_40 : decode b_Pl_firstWrongWall 40 = .ok (.iconst (-1), 1) := by decide +kernel
theorem d_Pl_firstWrongWall_41 : decode b_Pl_firstWrongWall 41 = .ok (.ireturn, 1) := by decide +kernel
theorem d_Pl_stops_0 : decode b_Pl_stops 0 = .ok (.aload_n 0, 1) := by decide +kernel
theorem d_Pl_stops_1 : decode b_Pl_stops 1 = .ok (.getfield 33, 3) := by decide +kernel
theorem d_Pl_stops_4 : decode b_Pl_stops 4 = .ok (.iload_n 1, 1) := by decide +kernel
theorem d_Pl_stops_5 : decode b_Pl_stops 5 = .ok (.iaload, 1) := by decide +kernel
theorem d_Pl_stops_6 : decode b_Pl_stops 6 = .ok (.iconst (-1), 1) := by decide +kernel
theorem d_Pl_stops_7 : decode b_Pl_stops 7 = .ok (.if_icmp .ne 5, 3) := by decide +kernel
theorem d_Pl_stops_10 : decode b_Pl_stops 10 = .ok (.iconst 1, 1) := by decide +kernel
theorem d_Pl_stops_11 : decode b_Pl_stops 11 = .ok (.ireturn, 1) := by decide +kernel
theorem d_Pl_stops_12 : decode b_Pl_stops 12 = .ok (.iload_n 2, 1) := by decide +kernel
theorem d_Pl_stops_13 : decode b_Pl_stops 13 = .ok (.ifCond .eq 12, 3) := by decide +kernel
theorem d_Pl_stops_16 : decode b_Pl_stops 16 = .ok (.aload_n 0, 1) := by decide +kernel
theorem d_Pl_stops_17 : decode b_Pl_stops 17 = .ok (.getfield 30, 3) := by decide +kernel
theorem d_Pl_stops_20 : decode b_Pl_stops 20 = .ok (.iload_n 1, 1) := by decide +kernel
theorem d_Pl_stops_21 : decode b_Pl_stops 21 = .ok (.iaload, 1) := by decide +kernel
theorem d_Pl_stops_22 : decode b_Pl_stops 22 = .ok (.goto 9, 3) := by decide +kernel
theorem d_Pl_stops_25 : decode b_Pl_stops 25 = .ok (.aload_n 0, 1) := by decide +kernel
theorem d_Pl_stops_26 : decode b_Pl_stops 26 = .ok (.getfield 33, 3) := by decide +kernel
theorem d_Pl_stops_29 : decode b_Pl_stops 29 = .ok (.iload_n 1, 1) := by decide +kernel
theorem d_Pl_stops_30 : decode b_Pl_stops 30 = .ok (.iaload, 1) := by decide +kernel
theorem d_Pl_stops_31 : decode b_Pl_stops 31 = .ok (.istore_n 3, 1) := by decide +kernel
theorem d_Pl_stops_32 : decode b_Pl_stops 32 = .ok (.iload_n 2, 1) := by decide +kernel
theorem d_Pl_stops_33 : decode b_Pl_stops 33 = .ok (.ifCond .eq 12, 3) := by decide +kernel
theorem d_Pl_stops_36 : decode b_Pl_stops 36 = .ok (.aload_n 0, 1) := by decide +kernel
theorem d_Pl_stops_37 : decode b_Pl_stops 37 = .ok (.getfield 33, 3) := by decide +kernel
theorem d_Pl_stops_40 : decode b_Pl_stops 40 = .ok (.iload_n 1, 1) := by decide +kernel
theorem d_Pl_stops_41 : decode b_Pl_stops 41 = .ok (.iaload, 1) := by decide +kernel
theorem d_Pl_stops_42 : decode b_Pl_stops 42 = .ok (.goto 9, 3) := by decide +kernel
theorem d_Pl_stops_45 : decode b_Pl_stops 45 = .ok (.aload_n 0, 1) := by decide +kernel
theorem d_Pl_stops_46 : decode b_Pl_stops 46 = .ok (.getfield 30, 3) := by decide +kernel
theorem d_Pl_stops_49 : decode b_Pl_stops 49 = .ok (.iload_n 1, 1) := by decide +kernel
theorem d_Pl_stops_50 : decode b_Pl_stops 50 = .ok (.iaload, 1) := by decide +kernel
theorem d_Pl_stops_51 : decode b_Pl_stops 51 = .ok (.istore 4, 2) := by decide +kernel
theorem d_Pl_stops_53 : decode b_Pl_stops 53 = .ok (.aload_n 0, 1) := by decide +kernel
theorem d_Pl_stops_54 : decode b_Pl_stops 54 = .ok (.getfield 21, 3) := by decide +kernel
theorem d_Pl_stops_57 : decode b_Pl_stops 57 = .ok (.iload_n 3, 1) := by decide +kernel
theorem d_Pl_stops_58 : decode b_Pl_stops 58 = .ok (.iaload, 1) := by decide +kernel
theorem d_Pl_stops_59 : decode b_Pl_stops 59 = .ok (.aload_n 0, 1) := by decide +kernel
theorem d_Pl_stops_60 : decode b_Pl_stops 60 = .ok (.getfield 21, 3) := by decide +kernel
theorem d_Pl_stops_63 : decode b_Pl_stops 63 = .ok (.iload 4, 2) := by decide +kernel
theorem d_Pl_stops_65 : decode b_Pl_stops 65 = .ok (.iaload, 1) := by decide +kernel
theorem d_Pl_stops_66 : decode b_Pl_stops 66 = .ok (.invokestatic 81, 3) := by decide +kernel
theorem d_Pl_stops_69 : decode b_Pl_stops 69 = .ok (.aload_n 0, 1) := by decide +kernel
theorem d_Pl_stops_70 : decode b_Pl_stops 70 = .ok (.getfield 18, 3) := by decide +kernel
theorem d_Pl_stops_73 : decode b_Pl_stops 73 = .ok (.iload_n 3, 1) := by decide +kernel
theorem d_Pl_stops_74 : decode b_Pl_stops 74 = .ok (.iaload, 1) := by decide +kernel
theorem d_Pl_stops_75 : decode b_Pl_stops 75 = .ok (.aload_n 0, 1) := by decide +kernel
theorem d_Pl_stops_76 : decode b_Pl_stops 76 = .ok (.getfield 18, 3) := by decide +kernel
theorem d_Pl_stops_79 : decode b_Pl_stops 79 = .ok (.iload 4, 2) := by decide +kernel
theorem d_Pl_stops_81 : decode b_Pl_stops 81 = .ok (.iaload, 1) := by decide +kernel
theorem d_Pl_stops_82 : decode b_Pl_stops 82 = .ok (.invokestatic 75, 3) := by decide +kernel
theorem d_Pl_stops_85 : decode b_Pl_stops 85 = .ok (.isub, 1) := by decide +kernel
theorem d_Pl_stops_86 : decode b_Pl_stops 86 = .ok (.istore 5, 2) := by decide +kernel
theorem d_Pl_stops_88 : decode b_Pl_stops 88 = .ok (.aload_n 0, 1) := by decide +kernel
theorem d_Pl_stops_89 : decode b_Pl_stops 89 = .ok (.getfield 18, 3) := by decide +kernel
theorem d_Pl_stops_92 : decode b_Pl_stops 92 = .ok (.iload 4, 2) := by decide +kernel
theorem d_Pl_stops_94 : decode b_Pl_stops 94 = .ok (.iaload, 1) := by decide +kernel
theorem d_Pl_stops_95 : decode b_Pl_stops 95 = .ok (.aload_n 0, 1) := by decide +kernel
theorem d_Pl_stops_96 : decode b_Pl_stops 96 = .ok (.getfield 18, 3) := by decide +kernel
theorem d_Pl_stops_99 : decode b_Pl_stops 99 = .ok (.iload_n 3, 1) := by decide +kernel
theorem d_Pl_stops_100 : decode b_Pl_stops 100 = .ok (.iaload, 1) := by decide +kernel
theorem d_Pl_stops_101 : decode b_Pl_stops 101 = .ok (.isub, 1) := by decide +kernel
theorem d_Pl_stops_102 : decode b_Pl_stops 102 = .ok (.bipush 24, 2) := by decide +kernel
theorem d_Pl_stops_104 : decode b_Pl_stops 104 = .ok (.if_icmp .gt 10, 3) := by decide +kernel
theorem d_Pl_stops_107 : decode b_Pl_stops 107 = .ok (.iload 5, 2) := by decide +kernel
theorem d_Pl_stops_109 : decode b_Pl_stops 109 = .ok (.bipush 56, 2) := by decide +kernel
theorem d_Pl_stops_111 : decode b_Pl_stops 111 = .ok (.if_icmp .ge 7, 3) := by decide +kernel
theorem d_Pl_stops_114 : decode b_Pl_stops 114 = .ok (.iconst 1, 1) := by decide +kernel
theorem d_Pl_stops_115 : decode b_Pl_stops 115 = .ok (.goto 4, 3) := by decide +kernel
theorem d_Pl_stops_118 : decode b_Pl_stops 118 = .ok (.iconst 0, 1) := by decide +kernel
theorem d_Pl_stops_119 : decode b_Pl_stops 119 = .ok (.ireturn, 1) := by decide +kernel
theorem d_Cr_comesFromFront_0 : decode b_Cr_comesFromFront 0 = .ok (.aload_n 0, 1) := by decide +kernel
theorem d_Cr_comesFromFront_1 : decode b_Cr_comesFromFront 1 = .ok (.getfield 15, 3) := by decide +kernel
theorem d_Cr_comesFromFront_4 : decode b_Cr_comesFromFront 4 = .ok (.iload_n 1, 1) := by decide +kernel
theorem d_Cr_comesFromFront_5 : decode b_Cr_comesFromFront 5 = .ok (.iaload, 1) := by decide +kernel
theorem d_Cr_comesFromFront_6 : decode b_Cr_comesFromFront 6 = .ok (.ifCond .ge 7, 3) := by decide +kernel
theorem d_Cr_comesFromFront_9 : decode b_Cr_comesFromFront 9 = .ok (.iconst 1, 1) := by decide +kernel
theorem d_Cr_comesFromFront_10 : decode b_Cr_comesFromFront 10 = .ok (.goto 4, 3) := by decide +kernel
theorem d_Cr_comesFromFront_13 : decode b_Cr_comesFromFront 13 = .ok (.iconst 0, 1) := by decide +kernel
theorem d_Cr_comesFromFront_14 : decode b_Cr_comesFromFront 14 = .ok (.ireturn, 1) := by decide +kernel
theorem d_Cr_isUpToOne_0 : decode b_Cr_isUpToOne 0 = .ok (.iload_n 1, 1) := by decide +kernel
theorem d_Cr_isUpToOne_1 : decode b_Cr_isUpToOne 1 = .ok (.ifCond .le 20, 3) := by decide +kernel
theorem d_Cr_isUpToOne_4 : decode b_Cr_isUpToOne 4 = .ok (.iload_n 0, 1) := by decide +kernel
theorem d_Cr_isUpToOne_5 : decode b_Cr_isUpToOne 5 = .ok (.ifCond .le 12, 3) := by decide +kernel
theorem d_Cr_isUpToOne_8 : decode b_Cr_isUpToOne 8 = .ok (.iload_n 0, 1) := by decide +kernel
theorem d_Cr_isUpToOne_9 : decode b_Cr_isUpToOne 9 = .ok (.iload_n 1, 1) := by decide +kernel
theorem d_Cr_isUpToOne_10 : decode b_Cr_isUpToOne 10 = .ok (.if_icmp .gt 7, 3) := by decide +kernel
theorem d_Cr_isUpToOne_13 : decode b_Cr_isUpToOne 13 = .ok (.iconst 1, 1) := by decide +kernel
theorem d_Cr_isUpToOne_14 : decode b_Cr_isUpToOne 14 = .ok (.goto 21, 3) := by decide +kernel
theorem d_Cr_isUpToOne_17 : decode b_Cr_isUpToOne 17 = .ok (.iconst 0, 1) := by decide +kernel
theorem d_Cr_isUpToOne_18 : decode b_Cr_isUpToOne 18 = .ok (.goto 17, 3) := by decide +kernel
theorem d_Cr_isUpToOne_21 : decode b_Cr_isUpToOne 21 = .ok (.iload_n 0, 1) := by decide +kernel
theorem d_Cr_isUpToOne_22 : decode b_Cr_isUpToOne 22 = .ok (.ifCond .ge 12, 3) := by decide +kernel
theorem d_Cr_isUpToOne_25 : decode b_Cr_isUpToOne 25 = .ok (.iload_n 0, 1) := by decide +kernel
theorem d_Cr_isUpToOne_26 : decode b_Cr_isUpToOne 26 = .ok (.iload_n 1, 1) := by decide +kernel
theorem d_Cr_isUpToOne_27 : decode b_Cr_isUpToOne 27 = .ok (.if_icmp .lt 7, 3) := by decide +kernel
theorem d_Cr_isUpToOne_30 : decode b_Cr_isUpToOne 30 = .ok (.iconst 1, 1) := by decide +kernel
theorem d_Cr_isUpToOne_31 : decode b_Cr_isUpToOne 31 = .ok (.goto 4, 3) := by decide +kernel
theorem d_Cr_isUpToOne_34 : decode b_Cr_isUpToOne 34 = .ok (.iconst 0, 1) := by decide +kernel
theorem d_Cr_isUpToOne_35 : decode b_Cr_isUpToOne 35 = .ok (.ireturn, 1) := by decide +kernel
theorem d_Cr_isFarther_0 : decode b_Cr_isFarther 0 = .ok (.aload_n 0, 1) := by decide +kernel
theorem d_Cr_isFarther_1 : decode b_Cr_isFarther 1 = .ok (.getfield 15, 3) := by decide +kernel
theorem d_Cr_isFarther_4 : decode b_Cr_isFarther 4 = .ok (.iload_n 1, 1) := by decide +kernel
theorem d_Cr_isFarther_5 : decode b_Cr_isFarther 5 = .ok (.iaload, 1) := by decide +kernel
theorem d_Cr_isFarther_6 : decode b_Cr_isFarther 6 = .ok (.invokestatic 80, 3) := by decide +kernel
theorem d_Cr_isFarther_9 : decode b_Cr_isFarther 9 = .ok (.i2l, 1) := by decide +kernel
theorem d_Cr_isFarther_10 : decode b_Cr_isFarther 10 = .ok (.aload_n 0, 1) := by decide +kernel
theorem d_Cr_isFarther_11 : decode b_Cr_isFarther 11 = .ok (.getfield 18, 3) := by decide +kernel
theorem d_Cr_isFarther_14 : decode b_Cr_isFarther 14 = .ok (.iload_n 2, 1) := by decide +kernel
theorem d_Cr_isFarther_15 : decode b_Cr_isFarther 15 = .ok (.iaload, 1) := by decide +kernel
theorem d_Cr_isFarther_16 : decode b_Cr_isFarther 16 = .ok (.invokestatic 80, 3) := by decide +kernel
theorem d_Cr_isFarther_19 : decode b_Cr_isFarther 19 = .ok (.i2l, 1) := by decide +kernel
theorem d_Cr_isFarther_20 : decode b_Cr_isFarther 20 = .ok (.lmul, 1) := by decide +kernel
theorem d_Cr_isFarther_21 : decode b_Cr_isFarther 21 = .ok (.lstore_n 3, 1) := by decide +kernel
theorem d_Cr_isFarther_22 : decode b_Cr_isFarther 22 = .ok (.aload_n 0, 1) := by decide +kernel
theorem d_Cr_isFarther_23 : decode b_Cr_isFarther 23 = .ok (.getfield 15, 3) := by decide +kernel
theorem d_Cr_isFarther_26 : decode b_Cr_isFarther 26 = .ok (.iload_n 2, 1) := by decide +kernel
theorem d_Cr_isFarther_27 : decode b_Cr_isFarther 27 = .ok (.iaload, 1) := by decide +kernel
theorem d_Cr_isFarther_28 : decode b_Cr_isFarther 28 = .ok (.invokestatic 80, 3) := by decide +kernel
theorem d_Cr_isFarther_31 : decode b_Cr_isFarther 31 = .ok (.i2l, 1) := by decide +kernel
theorem d_Cr_isFarther_32 : decode b_Cr_isFarther 32 = .ok (.aload_n 0, 1) := by decide +kernel
theorem d_Cr_isFarther_33 : decode b_Cr_isFarther 33 = .ok (.getfield 18, 3) := by decide +kernel
theorem d_Cr_isFarther_36 : decode b_Cr_isFarther 36 = .ok (.iload_n 1, 1) := by decide +kernel
theorem d_Cr_isFarther_37 : decode b_Cr_isFarther 37 = .ok (.iaload, 1) := by decide +kernel
theorem d_Cr_isFarther_38 : decode b_Cr_isFarther 38 = .ok (.invokestatic 80, 3) := by decide +kernel
theorem d_Cr_isFarther_41 : decode b_Cr_isFarther 41 = .ok (.i2l, 1) := by decide +kernel
theorem d_Cr_isFarther_42 : decode b_Cr_isFarther 42 = .ok (.lmul, 1) := by decide +kernel
theorem d_Cr_isFarther_43 : decode b_Cr_isFarther 43 = .ok (.lstore 5, 2) := by decide +kernel
theorem d_Cr_isFarther_45 : decode b_Cr_isFarther 45 = .ok (.lload_n 3, 1) := by decide +kernel
theorem d_Cr_isFarther_46 : decode b_Cr_isFarther 46 = .ok (.lload 5, 2) := by decide +kernel
theorem d_Cr_isFarther_48 : decode b_Cr_isFarther 48 = .ok (.lcmp, 1) := by decide +kernel
theorem d_Cr_isFarther_49 : decode b_Cr_isFarther 49 = .ok (.ifCond .le 7, 3) := by decide +kernel
theorem d_Cr_isFarther_52 : decode b_Cr_isFarther 52 = .ok (.iconst 1, 1) := by decide +kernel
theorem d_Cr_isFarther_53 : decode b_Cr_isFarther 53 = .ok (.goto 4, 3) := by decide +kernel
theorem d_Cr_isFarther_56 : decode b_Cr_isFarther 56 = .ok (.iconst 0, 1) := by decide +kernel
theorem d_Cr_isFarther_57 : decode b_Cr_isFarther 57 = .ok (.ireturn, 1) := by decide +kernel
theorem d_Cr_sectorBehind_0 : decode b_Cr_sectorBehind 0 = .ok (.aload_n 0, 1) := by decide +kernel
theorem d_Cr_sectorBehind_1 : decode b_Cr_sectorBehind 1 = .ok (.getfield 21, 3) := by decide +kernel
theorem d_Cr_sectorBehind_4 : decode b_Cr_sectorBehind 4 = .ok (.ifCond .ne 5, 3) := by decide +kernel
theorem d_Cr_sectorBehind_7 : decode b_Cr_sectorBehind 7 = .ok (.iload_n 2, 1) := by decide +kernel
theorem d_Cr_sectorBehind_8 : decode b_Cr_sectorBehind 8 = .ok (.ireturn, 1) := by decide +kernel
theorem d_Cr_sectorBehind_9 : decode b_Cr_sectorBehind 9 = .ok (.aload_n 0, 1) := by decide +kernel
theorem d_Cr_sectorBehind_10 : decode b_Cr_sectorBehind 10 = .ok (.getfield 9, 3) := by decide +kernel
theorem d_Cr_sectorBehind_13 : decode b_Cr_sectorBehind 13 = .ok (.aload_n 0, 1) := by decide +kernel
theorem d_Cr_sectorBehind_14 : decode b_Cr_sectorBehind 14 = .ok (.getfield 21, 3) := by decide +kernel
theorem d_Cr_sectorBehind_17 : decode b_Cr_sectorBehind 17 = .ok (.iconst 1, 1) := by decide +kernel
theorem d_Cr_sectorBehind_18 : decode b_Cr_sectorBehind 18 = .ok (.isub, 1) := by decide +kernel
theorem d_Cr_sectorBehind_19 : decode b_Cr_sectorBehind 19 = .ok (.iaload, 1) := by decide +kernel
theorem d_Cr_sectorBehind_20 : decode b_Cr_sectorBehind 20 = .ok (.istore_n 3, 1) := by decide +kernel
theorem d_Cr_sectorBehind_21 : decode b_Cr_sectorBehind 21 = .ok (.aload_n 0, 1) := by decide +kernel
theorem d_Cr_sectorBehind_22 : decode b_Cr_sectorBehind 22 = .ok (.iload_n 3, 1) := by decide +kernel
theorem d_Cr_sectorBehind_23 : decode b_Cr_sectorBehind 23 = .ok (.invokevirtual 41, 3) := by decide +kernel
theorem d_Cr_sectorBehind_26 : decode b_Cr_sectorBehind 26 = .ok (.ifCond .eq 12, 3) := by decide +kernel
theorem d_Cr_sectorBehind_29 : decode b_Cr_sectorBehind 29 = .ok (.aload_n 1, 1) := by decide +kernel
theorem d_Cr_sectorBehind_30 : decode b_Cr_sectorBehind 30 = .ok (.getfield 86, 3) := by decide +kernel
theorem d_Cr_sectorBehind_33 : decode b_Cr_sectorBehind 33 = .ok (.iload_n 3, 1) := by decide +kernel
theorem d_Cr_sectorBehind_34 : decode b_Cr_sectorBehind 34 = .ok (.iaload, 1) := by decide +kernel
theorem d_Cr_sectorBehind_35 : decode b_Cr_sectorBehind 35 = .ok (.goto 9, 3) := by decide +kernel
theorem d_Cr_sectorBehind_38 : decode b_Cr_sectorBehind 38 = .ok (.aload_n 1, 1) := by decide +kernel
theorem d_Cr_sectorBehind_39 : decode b_Cr_sectorBehind 39 = .ok (.getfield 89, 3) := by decide +kernel
theorem d_Cr_sectorBehind_42 : decode b_Cr_sectorBehind 42 = .ok (.iload_n 3, 1) := by decide +kernel
theorem d_Cr_sectorBehind_43 : decode b_Cr_sectorBehind 43 = .ok (.iaload, 1) := by decide +kernel
theorem d_Cr_sectorBehind_44 : decode b_Cr_sectorBehind 44 = .ok (.ireturn, 1) := by decide +kernel
theorem d_Cr_insert_0 : decode b_Cr_insert 0 = .ok (.aload_n 0, 1) := by decide +kernel
theorem d_Cr_insert_1 : decode b_Cr_insert 1 = .ok (.getfield 21, 3) := by decide +kernel
theorem d_Cr_insert_4 : decode b_Cr_insert 4 = .ok (.istore_n 2, 1) := by decide +kernel
theorem d_Cr_insert_5 : decode b_Cr_insert 5 = .ok (.iload_n 2, 1) := by decide +kernel
theorem d_Cr_insert_6 : decode b_Cr_insert 6 = .ok (.ifCond .le 39, 3) := by decide +kernel
theorem d_Cr_insert_9 : decode b_Cr_insert 9 = .ok (.aload_n 0, 1) := by decide +kernel
theorem d_Cr_insert_10 : decode b_Cr_insert 10 = .ok (.aload_n 0, 1) := by decide +kernel
theorem d_Cr_insert_11 : decode b_Cr_insert 11 = .ok (.getfield 9, 3) := by decide +kernel
theorem d_Cr_insert_14 : decode b_Cr_insert 14 = .ok (.iload_n 2, 1) := by decide +kernel
theorem d_Cr_insert_15 : decode b_Cr_insert 15 = .ok (.iconst 1, 1) := by decide +kernel
theorem d_Cr_insert_16 : decode b_Cr_insert 16 = .ok (.isub, 1) := by decide +kernel
theorem d_Cr_insert_17 : decode b_Cr_insert 17 = .ok (.iaload, 1) := by decide +kernel
theorem d_Cr_insert_18 : decode b_Cr_insert 18 = .ok (.iload_n 1, 1) := by decide +kernel
theorem d_Cr_insert_19 : decode b_Cr_insert 19 = .ok (.invokevirtual 77, 3) := by decide +kernel
theorem d_Cr_insert_22 : decode b_Cr_insert 22 = .ok (.ifCond .eq 23, 3) := by decide +kernel
theorem d_Cr_insert_25 : decode b_Cr_insert 25 = .ok (.aload_n 0, 1) := by decide +kernel
theorem d_Cr_insert_26 : decode b_Cr_insert 26 = .ok (.getfield 9, 3) := by decide +kernel
theorem d_Cr_insert_29 : decode b_Cr_insert 29 = .ok (.iload_n 2, 1) := by decide +kernel
theorem d_Cr_insert_30 : decode b_Cr_insert 30 = .ok (.aload_n 0, 1) := by decide +kernel
theorem d_Cr_insert_31 : decode b_Cr_insert 31 = .ok (.getfield 9, 3) := by decide +kernel
theorem d_Cr_insert_34 : decode b_Cr_insert 34 = .ok (.iload_n 2, 1) := by decide +kernel
theorem d_Cr_insert_35 : decode b_Cr_insert 35 = .ok (.iconst 1, 1) := by decide +kernel
theorem d_Cr_insert_36 : decode b_Cr_insert 36 = .ok (.isub, 1) := by decide +kernel
theorem d_Cr_insert_37 : decode b_Cr_insert 37 = .ok (.iaload, 1) := by decide +kernel
theorem d_Cr_insert_38 : decode b_Cr_insert 38 = .ok (.iastore, 1) := by decide +kernel
theorem d_Cr_insert_39 : decode b_Cr_insert 39 = .ok (.iinc 2 (-1), 3) := by decide +kernel
theorem d_Cr_insert_42 : decode b_Cr_insert 42 = .ok (.goto (-37), 3) := by decide +kernel
theorem d_Cr_insert_45 : decode b_Cr_insert 45 = .ok (.aload_n 0, 1) := by decide +kernel
theorem d_Cr_insert_46 : decode b_Cr_insert 46 = .ok (.getfield 9, 3) := by decide +kernel
theorem d_Cr_insert_49 : decode b_Cr_insert 49 = .ok (.iload_n 2, 1) := by decide +kernel
theorem d_Cr_insert_50 : decode b_Cr_insert 50 = .ok (.iload_n 1, 1) := by decide +kernel
theorem d_Cr_insert_51 : decode b_Cr_insert 51 = .ok (.iastore, 1) := by decide +kernel
theorem d_Cr_insert_52 : decode b_Cr_insert 52 = .ok (.aload_n 0, 1) := by decide +kernel
theorem d_Cr_insert_53 : decode b_Cr_insert 53 = .ok (.dup, 1) := by decide +kernel
theorem d_Cr_insert_54 : decode b_Cr_insert 54 = .ok (.getfield 21, 3) := by decide +kernel
theorem d_Cr_insert_57 : decode b_Cr_insert 57 = .ok (.iconst 1, 1) := by decide +kernel
theorem d_Cr_insert_58 : decode b_Cr_insert 58 = .ok (.iadd, 1) := by decide +kernel
theorem d_Cr_insert_59 : decode b_Cr_insert 59 = .ok (.putfield 21, 3) := by decide +kernel
theorem d_Cr_insert_62 : decode b_Cr_insert 62 = .ok (.return_, 1) := by decide +kernel
theorem d_Cr_isCrossed_0 : decode b_Cr_isCrossed 0 = .ok (.aload_n 1, 1) := by decide +kernel
theorem d_Cr_isCrossed_1 : decode b_Cr_isCrossed 1 = .ok (.getfield 49, 3) := by decide +kernel
theorem d_Cr_isCrossed_4 : decode b_Cr_isCrossed 4 = .ok (.aload_n 1, 1) := by decide +kernel
theorem d_Cr_isCrossed_5 : decode b_Cr_isCrossed 5 = .ok (.getfield 52, 3) := by decide +kernel
theorem d_Cr_isCrossed_8 : decode b_Cr_isCrossed 8 = .ok (.iload_n 2, 1) := by decide +kernel
theorem d_Cr_isCrossed_9 : decode b_Cr_isCrossed 9 = .ok (.iaload, 1) := by decide +kernel
theorem d_Cr_isCrossed_10 : decode b_Cr_isCrossed 10 = .ok (.iaload, 1) := by decide +kernel
theorem d_Cr_isCrossed_11 : decode b_Cr_isCrossed 11 = .ok (.aload_n 3, 1) := by decide +kernel
theorem d_Cr_isCrossed_12 : decode b_Cr_isCrossed 12 = .ok (.getfield 55, 3) := by decide +kernel
theorem d_Cr_isCrossed_15 : decode b_Cr_isCrossed 15 = .ok (.isub, 1) := by decide +kernel
theorem d_Cr_isCrossed_16 : decode b_Cr_isCrossed 16 = .ok (.istore 6, 2) := by decide +kernel
theorem d_Cr_isCrossed_18 : decode b_Cr_isCrossed 18 = .ok (.aload_n 1, 1) := by decide +kernel
theorem d_Cr_isCrossed_19 : decode b_Cr_isCrossed 19 = .ok (.getfield 60, 3) := by decide +kernel
theorem d_Cr_isCrossed_22 : decode b_Cr_isCrossed 22 = .ok (.aload_n 1, 1) := by decide +kernel
theorem d_Cr_isCrossed_23 : decode b_Cr_isCrossed 23 = .ok (.getfield 52, 3) := by decide +kernel
theorem d_Cr_isCrossed_26 : decode b_Cr_isCrossed 26 = .ok (.iload_n 2, 1) := by decide +kernel
theorem d_Cr_isCrossed_27 : decode b_Cr_isCrossed 27 = .ok (.iaload, 1) := by decide +kernel
theorem d_Cr_isCrossed_28 : decode b_Cr_isCrossed 28 = .ok (.iaload, 1) := by decide +kernel
theorem d_Cr_isCrossed_29 : decode b_Cr_isCrossed 29 = .ok (.aload_n 3, 1) := by decide +kernel
theorem d_Cr_isCrossed_30 : decode b_Cr_isCrossed 30 = .ok (.getfield 63, 3) := by decide +kernel
theorem d_Cr_isCrossed_33 : decode b_Cr_isCrossed 33 = .ok (.isub, 1) := by decide +kernel
theorem d_Cr_isCrossed_34 : decode b_Cr_isCrossed 34 = .ok (.istore 7, 2) := by decide +kernel
theorem d_Cr_isCrossed_36 : decode b_Cr_isCrossed 36 = .ok (.aload_n 1, 1) := by decide +kernel
theorem d_Cr_isCrossed_37 : decode b_Cr_isCrossed 37 = .ok (.getfield 49, 3) := by decide +kernel
theorem d_Cr_isCrossed_40 : decode b_Cr_isCrossed 40 = .ok (.aload_n 1, 1) := by decide +kernel
theorem d_Cr_isCrossed_41 : decode b_Cr_isCrossed 41 = .ok (.getfield 66, 3) := by decide +kernel
theorem d_Cr_isCrossed_44 : decode b_Cr_isCrossed 44 = .ok (.iload_n 2, 1) := by decide +kernel
theorem d_Cr_isCrossed_45 : decode b_Cr_isCrossed 45 = .ok (.iaload, 1) := by decide +kernel
theorem d_Cr_isCrossed_46 : decode b_Cr_isCrossed 46 = .ok (.iaload, 1) := by decide +kernel
theorem d_Cr_isCrossed_47 : decode b_Cr_isCrossed 47 = .ok (.aload_n 3, 1) := by decide +kernel
theorem d_Cr_isCrossed_48 : decode b_Cr_isCrossed 48 = .ok (.getfield 55, 3) := by decide +kernel
theorem d_Cr_isCrossed_51 : decode b_Cr_isCrossed 51 = .ok (.isub, 1) := by decide +kernel
theorem d_Cr_isCrossed_52 : decode b_Cr_isCrossed 52 = .ok (.istore 8, 2) := by decide +kernel
theorem d_Cr_isCrossed_54 : decode b_Cr_isCrossed 54 = .ok (.aload_n 1, 1) := by decide +kernel
theorem d_Cr_isCrossed_55 : decode b_Cr_isCrossed 55 = .ok (.getfield 60, 3) := by decide +kernel
theorem d_Cr_isCrossed_58 : decode b_Cr_isCrossed 58 = .ok (.aload_n 1, 1) := by decide +kernel
theorem d_Cr_isCrossed_59 : decode b_Cr_isCrossed 59 = .ok (.getfield 66, 3) := by decide +kernel
theorem d_Cr_isCrossed_62 : decode b_Cr_isCrossed 62 = .ok (.iload_n 2, 1) := by decide +kernel
theorem d_Cr_isCrossed_63 : decode b_Cr_isCrossed 63 = .ok (.iaload, 1) := by decide +kernel
theorem d_Cr_isCrossed_64 : decode b_Cr_isCrossed 64 = .ok (.iaload, 1) := by decide +kernel
theorem d_Cr_isCrossed_65 : decode b_Cr_isCrossed 65 = .ok (.aload_n 3, 1) := by decide +kernel
theorem d_Cr_isCrossed_66 : decode b_Cr_isCrossed 66 = .ok (.getfield 63, 3) := by decide +kernel
theorem d_Cr_isCrossed_69 : decode b_Cr_isCrossed 69 = .ok (.isub, 1) := by decide +kernel
theorem d_Cr_isCrossed_70 : decode b_Cr_isCrossed 70 = .ok (.istore 9, 2) := by decide +kernel
theorem d_Cr_isCrossed_72 : decode b_Cr_isCrossed 72 = .ok (.iload 4, 2) := by decide +kernel
theorem d_Cr_isCrossed_74 : decode b_Cr_isCrossed 74 = .ok (.iload 5, 2) := by decide +kernel
theorem d_Cr_isCrossed_76 : decode b_Cr_isCrossed 76 = .ok (.iload 6, 2) := by decide +kernel
theorem d_Cr_isCrossed_78 : decode b_Cr_isCrossed 78 = .ok (.iload 7, 2) := by decide +kernel
theorem d_Cr_isCrossed_80 : decode b_Cr_isCrossed 80 = .ok (.invokestatic 69, 3) := by decide +kernel
theorem d_Cr_isCrossed_83 : decode b_Cr_isCrossed 83 = .ok (.istore 10, 2) := by decide +kernel
theorem d_Cr_isCrossed_85 : decode b_Cr_isCrossed 85 = .ok (.iload 4, 2) := by decide +kernel
theorem d_Cr_isCrossed_87 : decode b_Cr_isCrossed 87 = .ok (.iload 5, 2) := by decide +kernel
theorem d_Cr_isCrossed_89 : decode b_Cr_isCrossed 89 = .ok (.iload 8, 2) := by decide +kernel
theorem d_Cr_isCrossed_91 : decode b_Cr_isCrossed 91 = .ok (.iload 9, 2) := by decide +kernel
theorem d_Cr_isCrossed_93 : decode b_Cr_isCrossed 93 = .ok (.invokestatic 69, 3) := by decide +kernel
theorem d_Cr_isCrossed_96 : decode b_Cr_isCrossed 96 = .ok (.istore 11, 2) := by decide +kernel
theorem d_Cr_isCrossed_98 : decode b_Cr_isCrossed 98 = .ok (.iload 10, 2) := by decide +kernel
theorem d_Cr_isCrossed_100 : decode b_Cr_isCrossed 100 = .ok (.ifCond .ge 7, 3) := by decide +kernel
theorem d_Cr_isCrossed_103 : decode b_Cr_isCrossed 103 = .ok (.iconst 1, 1) := by decide +kernel
theorem d_Cr_isCrossed_104 : decode b_Cr_isCrossed 104 = .ok (.goto 4, 3) := by decide +kernel
theorem d_Cr_isCrossed_107 : decode b_Cr_isCrossed 107 = .ok (.iconst 0, 1) := by decide +kernel
theorem d_Cr_isCrossed_108 : decode b_Cr_isCrossed 108 = .ok (.iload 11, 2) := by decide +kernel
theorem d_Cr_isCrossed_110 : decode b_Cr_isCrossed 110 = .ok (.ifCond .ge 7, 3) := by decide +kernel
theorem d_Cr_isCrossed_113 : decode b_Cr_isCrossed 113 = .ok (.iconst 1, 1) := by decide +kernel
theorem d_Cr_isCrossed_114 : decode b_Cr_isCrossed 114 = .ok (.goto 4, 3) := by decide +kernel
theorem d_Cr_isCrossed_117 : decode b_Cr_isCrossed 117 = .ok (.iconst 0, 1) := by decide +kernel
theorem d_Cr_isCrossed_118 : decode b_Cr_isCrossed 118 = .ok (.if_icmp .ne 5, 3) := by decide +kernel
theorem d_Cr_isCrossed_121 : decode b_Cr_isCrossed 121 = .ok (.iconst 0, 1) := by decide +kernel
theorem d_Cr_isCrossed_122 : decode b_Cr_isCrossed 122 = .ok (.ireturn, 1) := by decide +kernel
theorem d_Cr_isCrossed_123 : decode b_Cr_isCrossed 123 = .ok (.aload_n 0, 1) := by decide +kernel
theorem d_Cr_isCrossed_124 : decode b_Cr_isCrossed 124 = .ok (.getfield 15, 3) := by decide +kernel
theorem d_Cr_isCrossed_127 : decode b_Cr_isCrossed 127 = .ok (.iload_n 2, 1) := by decide +kernel
theorem d_Cr_isCrossed_128 : decode b_Cr_isCrossed 128 = .ok (.iload 6, 2) := by decide +kernel
theorem d_Cr_isCrossed_130 : decode b_Cr_isCrossed 130 = .ok (.iload 7, 2) := by decide +kernel
theorem d_Cr_isCrossed_132 : decode b_Cr_isCrossed 132 = .ok (.iload 8, 2) := by decide +kernel
theorem d_Cr_isCrossed_134 : decode b_Cr_isCrossed 134 = .ok (.iload 6, 2) := by decide +kernel
theorem d_Cr_isCrossed_136 : decode b_Cr_isCrossed 136 = .ok (.isub, 1) := by decide +kernel
theorem d_Cr_isCrossed_137 : decode b_Cr_isCrossed 137 = .ok (.iload 9, 2) := by decide +kernel
theorem d_Cr_isCrossed_139 : decode b_Cr_isCrossed 139 = .ok (.iload 7, 2) := by decide +kernel
theorem d_Cr_isCrossed_141 : decode b_Cr_isCrossed 141 = .ok (.isub, 1) := by decide +kernel
theorem d_Cr_isCrossed_142 : decode b_Cr_isCrossed 142 = .ok (.invokestatic 69, 3) := by decide +kernel
theorem d_Cr_isCrossed_145 : decode b_Cr_isCrossed 145 = .ok (.iastore, 1) := by decide +kernel
theorem d_Cr_isCrossed_146 : decode b_Cr_isCrossed 146 = .ok (.aload_n 0, 1) := by decide +kernel
theorem d_Cr_isCrossed_147 : decode b_Cr_isCrossed 147 = .ok (.getfield 18, 3) := by decide +kernel
theorem d_Cr_isCrossed_150 : decode b_Cr_isCrossed 150 = .ok (.iload_n 2, 1) := by decide +kernel
theorem d_Cr_isCrossed_151 : decode b_Cr_isCrossed 151 = .ok (.iload 11, 2) := by decide +kernel
theorem d_Cr_isCrossed_153 : decode b_Cr_isCrossed 153 = .ok (.iload 10, 2) := by decide +kernel
theorem d_Cr_isCrossed_155 : decode b_Cr_isCrossed 155 = .ok (.isub, 1) := by decide +kernel
theorem d_Cr_isCrossed_156 : decode b_Cr_isCrossed 156 = .ok (.iastore, 1) := by decide +kernel
theorem d_Cr_isCrossed_157 : decode b_Cr_isCrossed 157 = .ok (.aload_n 0, 1) := by decide +kernel
theorem d_Cr_isCrossed_158 : decode b_Cr_isCrossed 158 = .ok (.getfield 15, 3) := by decide +kernel
theorem d_Cr_isCrossed_161 : decode b_Cr_isCrossed 161 = .ok (.iload_n 2, 1) := by decide +kernel
theorem d_Cr_isCrossed_162 : decode b_Cr_isCrossed 162 = .ok (.iaload, 1) := by decide +kernel
theorem d_Cr_isCrossed_163 : decode b_Cr_isCrossed 163 = .ok (.aload_n 0, 1) := by decide +kernel
theorem d_Cr_isCrossed_164 : decode b_Cr_isCrossed 164 = .ok (.getfield 18, 3) := by decide +kernel
theorem d_Cr_isCrossed_167 : decode b_Cr_isCrossed 167 = .ok (.iload_n 2, 1) := by decide +kernel
theorem d_Cr_isCrossed_168 : decode b_Cr_isCrossed 168 = .ok (.iaload, 1) := by decide +kernel
theorem d_Cr_isCrossed_169 : decode b_Cr_isCrossed 169 = .ok (.invokestatic 73, 3) := by decide +kernel
theorem d_Cr_isCrossed_172 : decode b_Cr_isCrossed 172 = .ok (.ireturn, 1) := by decide +kernel
theorem d_Cr_fill_0 : decode b_Cr_fill 0 = .ok (.iconst 0, 1) := by decide +kernel
theorem d_Cr_fill_1 : decode b_Cr_fill 1 = .ok (.istore 5, 2) := by decide +kernel
theorem d_Cr_fill_3 : decode b_Cr_fill 3 = .ok (.iload 5, 2) := by decide +kernel
theorem d_Cr_fill_5 : decode b_Cr_fill 5 = .ok (.aload_n 1, 1) := by decide +kernel
theorem d_Cr_fill_6 : decode b_Cr_fill 6 = .ok (.getfield 28, 3) := by decide +kernel
theorem d_Cr_fill_9 : decode b_Cr_fill 9 = .ok (.if_icmp .ge 29, 3) := by decide +kernel
theorem d_Cr_fill_12 : decode b_Cr_fill 12 = .ok (.aload_n 0, 1) := by decide +kernel
theorem d_Cr_fill_13 : decode b_Cr_fill 13 = .ok (.aload_n 1, 1) := by decide +kernel
theorem d_Cr_fill_14 : decode b_Cr_fill 14 = .ok (.iload 5, 2) := by decide +kernel
theorem d_Cr_fill_16 : decode b_Cr_fill 16 = .ok (.aload_n 2, 1) := by decide +kernel
theorem d_Cr_fill_17 : decode b_Cr_fill 17 = .ok (.iload_n 3, 1) := by decide +kernel
theorem d_Cr_fill_18 : decode b_Cr_fill 18 = .ok (.iload 4, 2) := by decide +kernel
theorem d_Cr_fill_20 : decode b_Cr_fill 20 = .ok (.invokevirtual 33, 3) := by decide +kernel
theorem d_Cr_fill_23 : decode b_Cr_fill 23 = .ok (.ifCond .eq 9, 3) := by decide +kernel
theorem d_Cr_fill_26 : decode b_Cr_fill 26 = .ok (.aload_n 0, 1) := by decide +kernel
theorem d_Cr_fill_27 : decode b_Cr_fill 27 = .ok (.iload 5, 2) := by decide +kernel
theorem d_Cr_fill_29 : decode b_Cr_fill 29 = .ok (.invokevirtual 37, 3) := by decide +kernel
theorem d_Cr_fill_32 : decode b_Cr_fill 32 = .ok (.iinc 5 1, 3) := by decide +kernel
theorem d_Cr_fill_35 : decode b_Cr_fill 35 = .ok (.goto (-32), 3) := by decide +kernel
theorem d_Cr_fill_38 : decode b_Cr_fill 38 = .ok (.iconst 0, 1) := by decide +kernel
theorem d_Cr_fill_39 : decode b_Cr_fill 39 = .ok (.istore 5, 2) := by decide +kernel
theorem d_Cr_fill_41 : decode b_Cr_fill 41 = .ok (.iload 5, 2) := by decide +kernel
theorem d_Cr_fill_43 : decode b_Cr_fill 43 = .ok (.aload_n 0, 1) := by decide +kernel
theorem d_Cr_fill_44 : decode b_Cr_fill 44 = .ok (.getfield 21, 3) := by decide +kernel
theorem d_Cr_fill_47 : decode b_Cr_fill 47 = .ok (.if_icmp .ge 53, 3) := by decide +kernel
theorem d_Cr_fill_50 : decode b_Cr_fill 50 = .ok (.aload_n 0, 1) := by decide +kernel
theorem d_Cr_fill_51 : decode b_Cr_fill 51 = .ok (.getfield 25, 3) := by decide +kernel
theorem d_Cr_fill_54 : decode b_Cr_fill 54 = .ok (.iconst (-1), 1) := by decide +kernel
theorem d_Cr_fill_55 : decode b_Cr_fill 55 = .ok (.if_icmp .ne 45, 3) := by decide +kernel
theorem d_Cr_fill_58 : decode b_Cr_fill 58 = .ok (.aload_n 1, 1) := by decide +kernel
theorem d_Cr_fill_59 : decode b_Cr_fill 59 = .ok (.aload_n 0, 1) := by decide +kernel
theorem d_Cr_fill_60 : decode b_Cr_fill 60 = .ok (.getfield 9, 3) := by decide +kernel
theorem d_Cr_fill_63 : decode b_Cr_fill 63 = .ok (.iload 5, 2) := by decide +kernel
theorem d_Cr_fill_65 : decode b_Cr_fill 65 = .ok (.iaload, 1) := by decide +kernel
theorem d_Cr_fill_66 : decode b_Cr_fill 66 = .ok (.aload_n 0, 1) := by decide +kernel
theorem d_Cr_fill_67 : decode b_Cr_fill 67 = .ok (.aload_n 0, 1) := by decide +kernel
theorem d_Cr_fill_68 : decode b_Cr_fill 68 = .ok (.getfield 9, 3) := by decide +kernel
theorem d_Cr_fill_71 : decode b_Cr_fill 71 = .ok (.iload 5, 2) := by decide +kernel
theorem d_Cr_fill_73 : decode b_Cr_fill 73 = .ok (.iaload, 1) := by decide +kernel
theorem d_Cr_fill_74 : decode b_Cr_fill 74 = .ok (.invokevirtual 41, 3) := by decide +kernel
theorem d_Cr_fill_77 : decode b_Cr_fill 77 = .ok (.invokevirtual 45, 3) := by decide +kernel
theorem d_Cr_fill_80 : decode b_Cr_fill 80 = .ok (.ifCond .eq 14, 3) := by decide +kernel
theorem d_Cr_fill_83 : decode b_Cr_fill 83 = .ok (.aload_n 0, 1) := by decide +kernel
theorem d_Cr_fill_84 : decode b_Cr_fill 84 = .ok (.aload_n 0, 1) := by decide +kernel
theorem d_Cr_fill_85 : decode b_Cr_fill 85 = .ok (.getfield 9, 3) := by decide +kernel
theorem d_Cr_fill_88 : decode b_Cr_fill 88 = .ok (.iload 5, 2) := by decide +kernel
theorem d_Cr_fill_90 : decode b_Cr_fill 90 = .ok (.iaload, 1) := by decide +kernel
theorem d_Cr_fill_91 : decode b_Cr_fill 91 = .ok (.putfield 25, 3) := by decide +kernel
theorem d_Cr_fill_94 : decode b_Cr_fill 94 = .ok (.iinc 5 1, 3) := by decide +kernel
theorem d_Cr_fill_97 : decode b_Cr_fill 97 = .ok (.goto (-56), 3) := by decide +kernel
theorem d_Cr_fill_100 : decode b_Cr_fill 100 = .ok (.return_, 1) := by decide +kernel
theorem d_St_init_0 : decode b_St_init 0 = .ok (.aload_n 0, 1) := by decide +kernel
theorem d_St_init_1 : decode b_St_init 1 = .ok (.invokespecial 1, 3) := by decide +kernel
theorem d_St_init_4 : decode b_St_init 4 = .ok (.return_, 1) := by decide +kernel
theorem d_Ta_init_0 : decode b_Ta_init 0 = .ok (.aload_n 0, 1) := by decide +kernel
theorem d_Ta_init_1 : decode b_Ta_init 1 = .ok (.invokespecial 3, 3) := by decide +kernel
theorem d_Ta_init_4 : decode b_Ta_init 4 = .ok (.aload_n 0, 1) := by decide +kernel
theorem d_Ta_init_5 : decode b_Ta_init 5 = .ok (.sipush 256, 3) := by decide +kernel
theorem d_Ta_init_8 : decode b_Ta_init 8 = .ok (.newarray .int, 2) := by decide +kernel
theorem d_Ta_init_10 : decode b_Ta_init 10 = .ok (.putfield 9, 3) := by decide +kernel
theorem d_Ta_init_13 : decode b_Ta_init 13 = .ok (.aload_n 0, 1) := by decide +kernel
theorem d_Ta_init_14 : decode b_Ta_init 14 = .ok (.sipush 256, 3) := by decide +kernel
theorem d_Ta_init_17 : decode b_Ta_init 17 = .ok (.newarray .int, 2) := by decide +kernel
theorem d_Ta_init_19 : decode b_Ta_init 19 = .ok (.putfield 15, 3) := by decide +kernel
theorem d_Ta_init_22 : decode b_Ta_init 22 = .ok (.aload_n 0, 1) := by decide +kernel
theorem d_Ta_init_23 : decode b_Ta_init 23 = .ok (.sipush 256, 3) := by decide +kernel
theorem d_Ta_init_26 : decode b_Ta_init 26 = .ok (.newarray .int, 2) := by decide +kernel
theorem d_Ta_init_28 : decode b_Ta_init 28 = .ok (.putfield 18, 3) := by decide +kernel
theorem d_Ta_init_31 : decode b_Ta_init 31 = .ok (.return_, 1) := by decide +kernel
theorem d_Cr_init_0 : decode b_Cr_init 0 = .ok (.aload_n 0, 1) := by decide +kernel
theorem d_Cr_init_1 : decode b_Cr_init 1 = .ok (.invokespecial 3, 3) := by decide +kernel
theorem d_Cr_init_4 : decode b_Cr_init 4 = .ok (.aload_n 0, 1) := by decide +kernel
theorem d_Cr_init_5 : decode b_Cr_init 5 = .ok (.bipush 64, 2) := by decide +kernel
theorem d_Cr_init_7 : decode b_Cr_init 7 = .ok (.newarray .int, 2) := by decide +kernel
theorem d_Cr_init_9 : decode b_Cr_init 9 = .ok (.putfield 9, 3) := by decide +kernel
theorem d_Cr_init_12 : decode b_Cr_init 12 = .ok (.aload_n 0, 1) := by decide +kernel
theorem d_Cr_init_13 : decode b_Cr_init 13 = .ok (.bipush 64, 2) := by decide +kernel
theorem d_Cr_init_15 : decode b_Cr_init 15 = .ok (.newarray .int, 2) := by decide +kernel
theorem d_Cr_init_17 : decode b_Cr_init 17 = .ok (.putfield 15, 3) := by decide +kernel
theorem d_Cr_init_20 : decode b_Cr_init 20 = .ok (.aload_n 0, 1) := by decide +kernel
theorem d_Cr_init_21 : decode b_Cr_init 21 = .ok (.bipush 64, 2) := by decide +kernel
theorem d_Cr_init_23 : decode b_Cr_init 23 = .ok (.newarray .int, 2) := by decide +kernel
theorem d_Cr_init_25 : decode b_Cr_init 25 = .ok (.putfield 18, 3) := by decide +kernel
theorem d_Cr_init_28 : decode b_Cr_init 28 = .ok (.aload_n 0, 1) := by decide +kernel
theorem d_Cr_init_29 : decode b_Cr_init 29 = .ok (.iconst 0, 1) := by decide +kernel
theorem d_Cr_init_30 : decode b_Cr_init 30 = .ok (.putfield 21, 3) := by decide +kernel
theorem d_Cr_init_33 : decode b_Cr_init 33 = .ok (.aload_n 0, 1) := by decide +kernel
theorem d_Cr_init_34 : decode b_Cr_init 34 = .ok (.iconst (-1), 1) := by decide +kernel
theorem d_Cr_init_35 : decode b_Cr_init 35 = .ok (.putfield 25, 3) := by decide +kernel
theorem d_Cr_init_38 : decode b_Cr_init 38 = .ok (.return_, 1) := by decide +kernel
theorem d_Pl_init_0 : decode b_Pl_init 0 = .ok (.aload_n 0, 1) := by decide +kernel
theorem d_Pl_init_1 : decode b_Pl_init 1 = .ok (.invokespecial 3, 3) := by decide +kernel
theorem d_Pl_init_4 : decode b_Pl_init 4 = .ok (.aload_n 0, 1) := by decide +kernel
theorem d_Pl_init_5 : decode b_Pl_init 5 = .ok (.bipush 64, 2) := by decide +kernel
theorem d_Pl_init_7 : decode b_Pl_init 7 = .ok (.newarray .int, 2) := by decide +kernel
theorem d_Pl_init_9 : decode b_Pl_init 9 = .ok (.putfield 9, 3) := by decide +kernel
theorem d_Pl_init_12 : decode b_Pl_init 12 = .ok (.aload_n 0, 1) := by decide +kernel
theorem d_Pl_init_13 : decode b_Pl_init 13 = .ok (.bipush 64, 2) := by decide +kernel
theorem d_Pl_init_15 : decode b_Pl_init 15 = .ok (.newarray .int, 2) := by decide +kernel
theorem d_Pl_init_17 : decode b_Pl_init 17 = .ok (.putfield 15, 3) := by decide +kernel
theorem d_Pl_init_20 : decode b_Pl_init 20 = .ok (.aload_n 0, 1) := by decide +kernel
theorem d_Pl_init_21 : decode b_Pl_init 21 = .ok (.bipush 16, 2) := by decide +kernel
theorem d_Pl_init_23 : decode b_Pl_init 23 = .ok (.newarray .int, 2) := by decide +kernel
theorem d_Pl_init_25 : decode b_Pl_init 25 = .ok (.putfield 18, 3) := by decide +kernel
theorem d_Pl_init_28 : decode b_Pl_init 28 = .ok (.aload_n 0, 1) := by decide +kernel
theorem d_Pl_init_29 : decode b_Pl_init 29 = .ok (.bipush 16, 2) := by decide +kernel
theorem d_Pl_init_31 : decode b_Pl_init 31 = .ok (.newarray .int, 2) := by decide +kernel
theorem d_Pl_init_33 : decode b_Pl_init 33 = .ok (.putfield 21, 3) := by decide +kernel
theorem d_Pl_init_36 : decode b_Pl_init 36 = .ok (.aload_n 0, 1) := by decide +kernel
theorem d_Pl_init_37 : decode b_Pl_init 37 = .ok (.bipush 64, 2) := by decide +kernel
theorem d_Pl_init_39 : decode b_Pl_init 39 = .ok (.newarray .int, 2) := by decide +kernel
theorem d_Pl_init_41 : decode b_Pl_init 41 = .ok (.putfield 24, 3) := by decide +kernel
theorem d_Pl_init_44 : decode b_Pl_init 44 = .ok (.aload_n 0, 1) := by decide +kernel
theorem d_Pl_init_45 : decode b_Pl_init 45 = .ok (.bipush 64, 2) := by decide +kernel
theorem d_Pl_init_47 : decode b_Pl_init 47 = .ok (.newarray .int, 2) := by decide +kernel
theorem d_Pl_init_49 : decode b_Pl_init 49 = .ok (.putfield 27, 3) := by decide +kernel
theorem d_Pl_init_52 : decode b_Pl_init 52 = .ok (.aload_n 0, 1) := by decide +kernel
theorem d_Pl_init_53 : decode b_Pl_init 53 = .ok (.bipush 64, 2) := by decide +kernel
theorem d_Pl_init_55 : decode b_Pl_init 55 = .ok (.newarray .int, 2) := by decide +kernel
theorem d_Pl_init_57 : decode b_Pl_init 57 = .ok (.putfield 30, 3) := by decide +kernel
theorem d_Pl_init_60 : decode b_Pl_init 60 = .ok (.aload_n 0, 1) := by decide +kernel
theorem d_Pl_init_61 : decode b_Pl_init 61 = .ok (.bipush 64, 2) := by decide +kernel
theorem d_Pl_init_63 : decode b_Pl_init 63 = .ok (.newarray .int, 2) := by decide +kernel
theorem d_Pl_init_65 : decode b_Pl_init 65 = .ok (.putfield 33, 3) := by decide +kernel
theorem d_Pl_init_68 : decode b_Pl_init 68 = .ok (.return_, 1) := by decide +kernel
theorem d_SW_init_0 : decode b_SW_init 0 = .ok (.aload_n 0, 1) := by decide +kernel
theorem d_SW_init_1 : decode b_SW_init 1 = .ok (.invokespecial 1, 3) := by decide +kernel
theorem d_SW_init_4 : decode b_SW_init 4 = .ok (.aload_n 0, 1) := by decide +kernel
theorem d_SW_init_5 : decode b_SW_init 5 = .ok (.new 7, 3) := by decide +kernel
theorem d_SW_init_8 : decode b_SW_init 8 = .ok (.dup, 1) := by decide +kernel
theorem d_SW_init_9 : decode b_SW_init 9 = .ok (.invokespecial 9, 3) := by decide +kernel
theorem d_SW_init_12 : decode b_SW_init 12 = .ok (.putfield 10, 3) := by decide +kernel
theorem d_SW_init_15 : decode b_SW_init 15 = .ok (.aload_n 0, 1) := by decide +kernel
theorem d_SW_init_16 : decode b_SW_init 16 = .ok (.new 7, 3) := by decide +kernel
theorem d_SW_init_19 : decode b_SW_init 19 = .ok (.dup, 1) := by decide +kernel
theorem d_SW_init_20 : decode b_SW_init 20 = .ok (.invokespecial 9, 3) := by decide +kernel
theorem d_SW_init_23 : decode b_SW_init 23 = .ok (.putfield 16, 3) := by decide +kernel
theorem d_SW_init_26 : decode b_SW_init 26 = .ok (.aload_n 0, 1) := by decide +kernel
theorem d_SW_init_27 : decode b_SW_init 27 = .ok (.new 19, 3) := by decide +kernel
theorem d_SW_init_30 : decode b_SW_init 30 = .ok (.dup, 1) := by decide +kernel
theorem d_SW_init_31 : decode b_SW_init 31 = .ok (.invokespecial 21, 3) := by decide +kernel
theorem d_SW_init_34 : decode b_SW_init 34 = .ok (.putfield 22, 3) := by decide +kernel
theorem d_SW_init_37 : decode b_SW_init 37 = .ok (.aload_n 0, 1) := by decide +kernel
theorem d_SW_init_38 : decode b_SW_init 38 = .ok (.new 26, 3) := by decide +kernel
theorem d_SW_init_41 : decode b_SW_init 41 = .ok (.dup, 1) := by decide +kernel
theorem d_SW_init_42 : decode b_SW_init 42 = .ok (.invokespecial 28, 3) := by decide +kernel
theorem d_SW_init_45 : decode b_SW_init 45 = .ok (.putfield 29, 3) := by decide +kernel
theorem d_SW_init_48 : decode b_SW_init 48 = .ok (.aload_n 0, 1) := by decide +kernel
theorem d_SW_init_49 : decode b_SW_init 49 = .ok (.new 26, 3) := by decide +kernel
theorem d_SW_init_52 : decode b_SW_init 52 = .ok (.dup, 1) := by decide +kernel
theorem d_SW_init_53 : decode b_SW_init 53 = .ok (.invokespecial 28, 3) := by decide +kernel
theorem d_SW_init_56 : decode b_SW_init 56 = .ok (.putfield 33, 3) := by decide +kernel
theorem d_SW_init_59 : decode b_SW_init 59 = .ok (.aload_n 0, 1) := by decide +kernel
theorem d_SW_init_60 : decode b_SW_init 60 = .ok (.new 36, 3) := by decide +kernel
theorem d_SW_init_63 : decode b_SW_init 63 = .ok (.dup, 1) := by decide +kernel
theorem d_SW_init_64 : decode b_SW_init 64 = .ok (.invokespecial 38, 3) := by decide +kernel
theorem d_SW_init_67 : decode b_SW_init 67 = .ok (.putfield 39, 3) := by decide +kernel
theorem d_SW_init_70 : decode b_SW_init 70 = .ok (.aload_n 0, 1) := by decide +kernel
theorem d_SW_init_71 : decode b_SW_init 71 = .ok (.iconst 0, 1) := by decide +kernel
theorem d_SW_init_72 : decode b_SW_init 72 = .ok (.putfield 43, 3) := by decide +kernel
theorem d_SW_init_75 : decode b_SW_init 75 = .ok (.aload_n 0, 1) := by decide +kernel
theorem d_SW_init_76 : decode b_SW_init 76 = .ok (.iconst 0, 1) := by decide +kernel
theorem d_SW_init_77 : decode b_SW_init 77 = .ok (.putfield 47, 3) := by decide +kernel
theorem d_SW_init_80 : decode b_SW_init 80 = .ok (.return_, 1) := by decide +kernel
theorem d_SW_vertex_0 : decode b_SW_vertex 0 = .ok (.iload_n 1, 1) := by decide +kernel
theorem d_SW_vertex_1 : decode b_SW_vertex 1 = .ok (.sipush 2000, 3) := by decide +kernel
theorem d_SW_vertex_4 : decode b_SW_vertex 4 = .ok (.invokestatic 51, 3) := by decide +kernel
theorem d_SW_vertex_7 : decode b_SW_vertex 7 = .ok (.ifCond .eq 13, 3) := by decide +kernel
theorem d_SW_vertex_10 : decode b_SW_vertex 10 = .ok (.iload_n 2, 1) := by decide +kernel
theorem d_SW_vertex_11 : decode b_SW_vertex 11 = .ok (.sipush 2000, 3) := by decide +kernel
theorem d_SW_vertex_14 : decode b_SW_vertex 14 = .ok (.invokestatic 51, 3) := by decide +kernel
theorem d_SW_vertex_17 : decode b_SW_vertex 17 = .ok (.ifCond .ne 5, 3) := by decide +kernel
theorem d_SW_vertex_20 : decode b_SW_vertex 20 = .ok (.iconst (-1), 1) := by decide +kernel
theorem d_SW_vertex_21 : decode b_SW_vertex 21 = .ok (.ireturn, 1) := by decide +kernel
theorem d_SW_vertex_22 : decode b_SW_vertex 22 = .ok (.aload_n 0, 1) := by decide +kernel
theorem d_SW_vertex_23 : decode b_SW_vertex 23 = .ok (.getfield 10, 3) := by decide +kernel
theorem d_SW_vertex_26 : decode b_SW_vertex 26 = .ok (.iload_n 1, 1) := by decide +kernel
theorem d_SW_vertex_27 : decode b_SW_vertex 27 = .ok (.iload_n 2, 1) := by decide +kernel
theorem d_SW_vertex_28 : decode b_SW_vertex 28 = .ok (.invokevirtual 55, 3) := by decide +kernel
theorem d_SW_vertex_31 : decode b_SW_vertex 31 = .ok (.ireturn, 1) := by decide +kernel
theorem d_SW_sector_0 : decode b_SW_sector 0 = .ok (.iload_n 1, 1) := by decide +kernel
theorem d_SW_sector_1 : decode b_SW_sector 1 = .ok (.sipush 256, 3) := by decide +kernel
theorem d_SW_sector_4 : decode b_SW_sector 4 = .ok (.invokestatic 51, 3) := by decide +kernel
theorem d_SW_sector_7 : decode b_SW_sector 7 = .ok (.ifCond .eq 18, 3) := by decide +kernel
theorem d_SW_sector_10 : decode b_SW_sector 10 = .ok (.iload_n 2, 1) := by decide +kernel
theorem d_SW_sector_11 : decode b_SW_sector 11 = .ok (.sipush 256, 3) := by decide +kernel
theorem d_SW_sector_14 : decode b_SW_sector 14 = .ok (.invokestatic 51, 3) := by decide +kernel
theorem d_SW_sector_17 : decode b_SW_sector 17 = .ok (.ifCond .eq 8, 3) := by decide +kernel
theorem d_SW_sector_20 : decode b_SW_sector 20 = .ok (.iload_n 2, 1) := by decide +kernel
theorem d_SW_sector_21 : decode b_SW_sector 21 = .ok (.iload_n 1, 1) := by decide +kernel
theorem d_SW_sector_22 : decode b_SW_sector 22 = .ok (.if_icmp .gt 5, 3) := by decide +kernel
theorem d_SW_sector_25 : decode b_SW_sector 25 = .ok (.iconst (-1), 1) := by decide +kernel
theorem d_SW_sector_26 : decode b_SW_sector 26 = .ok (.ireturn, 1) := by decide +kernel
theorem d_SW_sector_27 : decode b_SW_sector 27 = .ok (.aload_n 0, 1) := by decide +kernel
theorem d_SW_sector_28 : decode b_SW_sector 28 = .ok (.getfield 10, 3) := by decide +kernel
theorem d_SW_sector_31 : decode b_SW_sector 31 = .ok (.iload_n 1, 1) := by decide +kernel
theorem d_SW_sector_32 : decode b_SW_sector 32 = .ok (.iload_n 2, 1) := by decide +kernel
theorem d_SW_sector_33 : decode b_SW_sector 33 = .ok (.invokevirtual 59, 3) := by decide +kernel
theorem d_SW_sector_36 : decode b_SW_sector 36 = .ok (.ireturn, 1) := by decide +kernel
theorem d_SW_wall_0 : decode b_SW_wall 0 = .ok (.aload_n 0, 1) := by decide +kernel
theorem d_SW_wall_1 : decode b_SW_wall 1 = .ok (.getfield 10, 3) := by decide +kernel
theorem d_SW_wall_4 : decode b_SW_wall 4 = .ok (.iload_n 1, 1) := by decide +kernel
theorem d_SW_wall_5 : decode b_SW_wall 5 = .ok (.invokevirtual 62, 3) := by decide +kernel
theorem d_SW_wall_8 : decode b_SW_wall 8 = .ok (.ifCond .eq 19, 3) := by decide +kernel
theorem d_SW_wall_11 : decode b_SW_wall 11 = .ok (.aload_n 0, 1) := by decide +kernel
theorem d_SW_wall_12 : decode b_SW_wall 12 = .ok (.getfield 10, 3) := by decide +kernel
theorem d_SW_wall_15 : decode b_SW_wall 15 = .ok (.iload_n 2, 1) := by decide +kernel
theorem d_SW_wall_16 : decode b_SW_wall 16 = .ok (.invokevirtual 62, 3) := by decide +kernel
theorem d_SW_wall_19 : decode b_SW_wall 19 = .ok (.ifCond .eq 8, 3) := by decide +kernel
theorem d_SW_wall_22 : decode b_SW_wall 22 = .ok (.iload_n 1, 1) := by decide +kernel
theorem d_SW_wall_23 : decode b_SW_wall 23 = .ok (.iload_n 2, 1) := by decide +kernel
theorem d_SW_wall_24 : decode b_SW_wall 24 = .ok (.if_icmp .ne 5, 3) := by decide +kernel
theorem d_SW_wall_27 : decode b_SW_wall 27 = .ok (.iconst (-1), 1) := by decide +kernel
theorem d_SW_wall_28 : decode b_SW_wall 28 = .ok (.ireturn, 1) := by decide +kernel
theorem d_SW_wall_29 : decode b_SW_wall 29 = .ok (.aload_n 0, 1) := by decide +kernel
theorem d_SW_wall_30 : decode b_SW_wall 30 = .ok (.getfield 10, 3) := by decide +kernel
theorem d_SW_wall_33 : decode b_SW_wall 33 = .ok (.iload_n 3, 1) := by decide +kernel
theorem d_SW_wall_34 : decode b_SW_wall 34 = .ok (.invokevirtual 66, 3) := by decide +kernel
theorem d_SW_wall_37 : decode b_SW_wall 37 = .ok (.ifCond .eq 21, 3) := by decide +kernel
theorem d_SW_wall_40 : decode b_SW_wall 40 = .ok (.iload 4, 2) := by decide +kernel
theorem d_SW_wall_42 : decode b_SW_wall 42 = .ok (.iconst (-1), 1) := by decide +kernel
theorem d_SW_wall_43 : decode b_SW_wall 43 = .ok (.if_icmp .eq 17, 3) := by decide +kernel
theorem d_SW_wall_46 : decode b_SW_wall 46 = .ok (.aload_n 0, 1) := by decide +kernel
theorem d_SW_wall_47 : decode b_SW_wall 47 = .ok (.getfield 10, 3) := by decide +kernel
theorem d_SW_wall_50 : decode b_SW_wall 50 = .ok (.iload 4, 2) := by decide +kernel
theorem d_SW_wall_52 : decode b_SW_wall 52 = .ok (.invokevirtual 66, 3) := by decide +kernel
theorem d_SW_wall_55 : decode b_SW_wall 55 = .ok (.ifCond .ne 5, 3) := by decide +kernel
theorem d_SW_wall_58 : decode b_SW_wall 58 = .ok (.iconst (-1), 1) := by decide +kernel
theorem d_SW_wall_59 : decode b_SW_wall 59 = .ok (.ireturn, 1) := by decide +kernel
theorem d_SW_wall_60 : decode b_SW_wall 60 = .ok (.aload_n 0, 1) := by decide +kernel
theorem d_SW_wall_61 : decode b_SW_wall 61 = .ok (.getfield 10, 3) := by decide +kernel
theorem d_SW_wall_64 : decode b_SW_wall 64 = .ok (.iload_n 1, 1) := by decide +kernel
theorem d_SW_wall_65 : decode b_SW_wall 65 = .ok (.iload_n 2, 1) := by decide +kernel
theorem d_SW_wall_66 : decode b_SW_wall 66 = .ok (.iload_n 3, 1) := by decide +kernel
theorem d_SW_wall_67 : decode b_SW_wall 67 = .ok (.iload 4, 2) := by decide +kernel
theorem d_SW_wall_69 : decode b_SW_wall 69 = .ok (.invokevirtual 69, 3) := by decide +kernel
theorem d_SW_wall_72 : decode b_SW_wall 72 = .ok (.ireturn, 1) := by decide +kernel
theorem d_SW_drop_0 : decode b_SW_drop 0 = .ok (.aload_n 0, 1) := by decide +kernel
theorem d_SW_drop_1 : decode b_SW_drop 1 = .ok (.getfield 10, 3) := by decide +kernel
theorem d_SW_drop_4 : decode b_SW_drop 4 = .ok (.invokevirtual 73, 3) := by decide +kernel
theorem d_SW_drop_7 : decode b_SW_drop 7 = .ok (.ireturn, 1) := by decide +kernel
theorem d_SW_clear_0 : decode b_SW_clear 0 = .ok (.aload_n 0, 1) := by decide +kernel
theorem d_SW_clear_1 : decode b_SW_clear 1 = .ok (.getfield 10, 3) := by decide +kernel
theorem d_SW_clear_4 : decode b_SW_clear 4 = .ok (.invokevirtual 77, 3) := by decide +kernel
theorem d_SW_clear_7 : decode b_SW_clear 7 = .ok (.return_, 1) := by decide +kernel
theorem d_SW_input_0 : decode b_SW_input 0 = .ok (.iload_n 1, 1) := by decide +kernel
theorem d_SW_input_1 : decode b_SW_input 1 = .ok (.iload_n 2, 1) := by decide +kernel
theorem d_SW_input_2 : decode b_SW_input 2 = .ok (.iload_n 3, 1) := by decide +kernel
theorem d_SW_input_3 : decode b_SW_input 3 = .ok (.invokestatic 109, 3) := by decide +kernel
theorem d_SW_input_6 : decode b_SW_input 6 = .ok (.ifCond .ne 5, 3) := by decide +kernel
theorem d_SW_input_9 : decode b_SW_input 9 = .ok (.iconst (-1), 1) := by decide +kernel
theorem d_SW_input_10 : decode b_SW_input 10 = .ok (.ireturn, 1) := by decide +kernel
theorem d_SW_input_11 : decode b_SW_input 11 = .ok (.aload_n 0, 1) := by decide +kernel
theorem d_SW_input_12 : decode b_SW_input 12 = .ok (.getfield 22, 3) := by decide +kernel
theorem d_SW_input_15 : decode b_SW_input 15 = .ok (.iload_n 1, 1) := by decide +kernel
theorem d_SW_input_16 : decode b_SW_input 16 = .ok (.iload_n 2, 1) := by decide +kernel
theorem d_SW_input_17 : decode b_SW_input 17 = .ok (.iload_n 3, 1) := by decide +kernel
theorem d_SW_input_18 : decode b_SW_input 18 = .ok (.invokevirtual 113, 3) := by decide +kernel
theorem d_SW_input_21 : decode b_SW_input 21 = .ok (.ireturn, 1) := by decide +kernel
theorem d_SW_undo_0 : decode b_SW_undo 0 = .ok (.aload_n 0, 1) := by decide +kernel
theorem d_SW_undo_1 : decode b_SW_undo 1 = .ok (.getfield 22, 3) := by decide +kernel
theorem d_SW_undo_4 : decode b_SW_undo 4 = .ok (.iload_n 1, 1) := by decide +kernel
theorem d_SW_undo_5 : decode b_SW_undo 5 = .ok (.invokevirtual 117, 3) := by decide +kernel
theorem d_SW_undo_8 : decode b_SW_undo 8 = .ok (.ireturn, 1) := by decide +kernel
theorem d_SW_crossed_0 : decode b_SW_crossed 0 = .ok (.iload_n 1, 1) := by decide +kernel
theorem d_SW_crossed_1 : decode b_SW_crossed 1 = .ok (.ifCond .lt 14, 3) := by decide +kernel
theorem d_SW_crossed_4 : decode b_SW_crossed 4 = .ok (.iload_n 1, 1) := by decide +kernel
theorem d_SW_crossed_5 : decode b_SW_crossed 5 = .ok (.aload_n 0, 1) := by decide +kernel
theorem d_SW_crossed_6 : decode b_SW_crossed 6 = .ok (.getfield 39, 3) := by decide +kernel
theorem d_SW_crossed_9 : decode b_SW_crossed 9 = .ok (.getfield 136, 3) := by decide +kernel
theorem d_SW_crossed_12 : decode b_SW_crossed 12 = .ok (.if_icmp .lt 5, 3) := by decide +kernel
theorem d_SW_crossed_15 : decode b_SW_crossed 15 = .ok (.iconst (-1), 1) := by decide +kernel
theorem d_SW_crossed_16 : decode b_SW_crossed 16 = .ok (.ireturn, 1) := by decide +kernel
theorem d_SW_crossed_17 : decode b_SW_crossed 17 = .ok (.aload_n 0, 1) := by decide +kernel
theorem d_SW_crossed_18 : decode b_SW_crossed 18 = .ok (.getfield 39, 3) := by decide +kernel
theorem d_SW_crossed_21 : decode b_SW_crossed 21 = .ok (.getfield 137, 3) := by decide +kernel
theorem d_SW_crossed_24 : decode b_SW_crossed 24 = .ok (.iload_n 1, 1) := by decide +kernel
theorem d_SW_crossed_25 : decode b_SW_crossed 25 = .ok (.iaload, 1) := by decide +kernel
theorem d_SW_crossed_26 : decode b_SW_crossed 26 = .ok (.ireturn, 1) := by decide +kernel
theorem d_SW_stopper_0 : decode b_SW_stopper 0 = .ok (.aload_n 0, 1) := by decide +kernel
theorem d_SW_stopper_1 : decode b_SW_stopper 1 = .ok (.getfield 39, 3) := by decide +kernel
theorem d_SW_stopper_4 : decode b_SW_stopper 4 = .ok (.getfield 140, 3) := by decide +kernel
theorem d_SW_stopper_7 : decode b_SW_stopper 7 = .ok (.ireturn, 1) := by decide +kernel
theorem d_SW_walker_0 : decode b_SW_walker 0 = .ok (.aload_n 0, 1) := by decide +kernel
theorem d_SW_walker_1 : decode b_SW_walker 1 = .ok (.getfield 47, 3) := by decide +kernel
theorem d_SW_walker_4 : decode b_SW_walker 4 = .ok (.ifCond .ne 6, 3) := by decide +kernel
theorem d_SW_walker_7 : decode b_SW_walker 7 = .ok (.ldc 143, 2) := by decide +kernel
theorem d_SW_walker_9 : decode b_SW_walker 9 = .ok (.ireturn, 1) := by decide +kernel
theorem d_SW_walker_10 : decode b_SW_walker 10 = .ok (.iload_n 1, 1) := by decide +kernel
theorem d_SW_walker_11 : decode b_SW_walker 11 = .ok (.tableswitch 61 0 3 #[29, 37, 45, 53], 29) := by decide +kernel
theorem d_SW_walker_40 : decode b_SW_walker 40 = .ok (.aload_n 0, 1) := by decide +kernel
theorem d_SW_walker_41 : decode b_SW_walker 41 = .ok (.getfield 33, 3) := by decide +kernel
theorem d_SW_walker_44 : decode b_SW_walker 44 = .ok (.getfield 94, 3) := by decide +kernel
theorem d_SW_walker_47 : decode b_SW_walker 47 = .ok (.ireturn, 1) := by decide +kernel
theorem d_SW_walker_48 : decode b_SW_walker 48 = .ok (.aload_n 0, 1) := by decide +kernel
theorem d_SW_walker_49 : decode b_SW_walker 49 = .ok (.getfield 33, 3) := by decide +kernel
theorem d_SW_walker_52 : decode b_SW_walker 52 = .ok (.getfield 97, 3) := by decide +kernel
theorem d_SW_walker_55 : decode b_SW_walker 55 = .ok (.ireturn, 1) := by decide +kernel
theorem d_SW_walker_56 : decode b_SW_walker 56 = .ok (.aload_n 0, 1) := by decide +kernel
theorem d_SW_walker_57 : decode b_SW_walker 57 = .ok (.getfield 33, 3) := by decide +kernel
theorem d_SW_walker_60 : decode b_SW_walker 60 = .ok (.getfield 100, 3) := by decide +kernel
theorem d_SW_walker_63 : decode b_SW_walker 63 = .ok (.ireturn, 1) := by decide +kernel
theorem d_SW_walker_64 : decode b_SW_walker 64 = .ok (.aload_n 0, 1) := by decide +kernel
theorem d_SW_walker_65 : decode b_SW_walker 65 = .ok (.getfield 33, 3) := by decide +kernel
theorem d_SW_walker_68 : decode b_SW_walker 68 = .ok (.getfield 103, 3) := by decide +kernel
theorem d_SW_walker_71 : decode b_SW_walker 71 = .ok (.ireturn, 1) := by decide +kernel
theorem d_SW_walker_72 : decode b_SW_walker 72 = .ok (.ldc 143, 2) := by decide +kernel
theorem d_SW_walker_74 : decode b_SW_walker 74 = .ok (.ireturn, 1) := by decide +kernel
theorem d_SW_look_0 : decode b_SW_look 0 = .ok (.iload_n 1, 1) := by decide +kernel
theorem d_SW_look_1 : decode b_SW_look 1 = .ok (.tableswitch 158 0 8 #[51, 59, 67, 75, 94, 113, 132, 140, 153], 51) := by decide +kernel
theorem d_SW_look_52 : decode b_SW_look 52 = .ok (.aload_n 0, 1) := by decide +kernel
theorem d_SW_look_53 : decode b_SW_look 53 = .ok (.getfield 10, 3) := by decide +kernel
theorem d_SW_look_56 : decode b_SW_look 56 = .ok (.getfield 144, 3) := by decide +kernel
theorem d_SW_look_59 : decode b_SW_look 59 = .ok (.ireturn, 1) := by decide +kernel
theorem d_SW_look_60 : decode b_SW_look 60 = .ok (.aload_n 0, 1) := by decide +kernel
theorem d_SW_look_61 : decode b_SW_look 61 = .ok (.getfield 10, 3) := by decide +kernel
theorem d_SW_look_64 : decode b_SW_look 64 = .ok (.getfield 147, 3) := by decide +kernel
theorem d_SW_look_67 : decode b_SW_look 67 = .ok (.ireturn, 1) := by decide +kernel
theorem d_SW_look_68 : decode b_SW_look 68 = .ok (.aload_n 0, 1) := by decide +kernel
theorem d_SW_look_69 : decode b_SW_look 69 = .ok (.getfield 10, 3) := by decide +kernel
theorem d_SW_look_72 : decode b_SW_look 72 = .ok (.getfield 150, 3) := by decide +kernel
theorem d_SW_look_75 : decode b_SW_look 75 = .ok (.ireturn, 1) := by decide +kernel
theorem d_SW_look_76 : decode b_SW_look 76 = .ok (.aload_n 0, 1) := by decide +kernel
theorem d_SW_look_77 : decode b_SW_look 77 = .ok (.getfield 43, 3) := by decide +kernel
theorem d_SW_look_80 : decode b_SW_look 80 = .ok (.ifCond .ne 7, 3) := by decide +kernel
theorem d_SW_look_83 : decode b_SW_look 83 = .ok (.iconst (-1), 1) := by decide +kernel
theorem d_SW_look_84 : decode b_SW_look 84 = .ok (.goto 10, 3) := by decide +kernel
theorem d_SW_look_87 : decode b_SW_look 87 = .ok (.aload_n 0, 1) := by decide +kernel
theorem d_SW_look_88 : decode b_SW_look 88 = .ok (.getfield 16, 3) := by decide +kernel
theorem d_SW_look_91 : decode b_SW_look 91 = .ok (.getfield 144, 3) := by decide +kernel
theorem d_SW_look_94 : decode b_SW_look 94 = .ok (.ireturn, 1) := by decide +kernel
theorem d_SW_look_95 : decode b_SW_look 95 = .ok (.aload_n 0, 1) := by decide +kernel
theorem d_SW_look_96 : decode b_SW_look 96 = .ok (.getfield 43, 3) := by decide +kernel
theorem d_SW_look_99 : decode b_SW_look 99 = .ok (.ifCond .ne 7, 3) := by decide +kernel
theorem d_SW_look_102 : decode b_SW_look 102 = .ok (.iconst (-1), 1) := by decide +kernel
theorem d_SW_look_103 : decode b_SW_look 103 = .ok (.goto 10, 3) := by decide +kernel
theorem d_SW_look_106 : decode b_SW_look 106 = .ok (.aload_n 0, 1) := by decide +kernel
theorem d_SW_look_107 : decode b_SW_look 107 = .ok (.getfield 16, 3) := by decide +kernel
theorem d_SW_look_110 : decode b_SW_look 110 = .ok (.getfield 147, 3) := by decide +kernel
theorem d_SW_look_113 : decode b_SW_look 113 = .ok (.ireturn, 1) := by decide +kernel
theorem d_SW_look_114 : decode b_SW_look 114 = .ok (.aload_n 0, 1) := by decide +kernel
theorem d_SW_look_115 : decode b_SW_look 115 = .ok (.getfield 43, 3) := by decide +kernel
theorem d_SW_look_118 : decode b_SW_look 118 = .ok (.ifCond .ne 7, 3) := by decide +kernel
theorem d_SW_look_121 : decode b_SW_look 121 = .ok (.iconst (-1), 1) := by decide +kernel
theorem d_SW_look_122 : decode b_SW_look 122 = .ok (.goto 10, 3) := by decide +kernel
theorem d_SW_look_125 : decode b_SW_look 125 = .ok (.aload_n 0, 1) := by decide +kernel
theorem d_SW_look_126 : decode b_SW_look 126 = .ok (.getfield 16, 3) := by decide +kernel
theorem d_SW_look_129 : decode b_SW_look 129 = .ok (.getfield 150, 3) := by decide +kernel
theorem d_SW_look_132 : decode b_SW_look 132 = .ok (.ireturn, 1) := by decide +kernel
theorem d_SW_look_133 : decode b_SW_look 133 = .ok (.aload_n 0, 1) := by decide +kernel
theorem d_SW_look_134 : decode b_SW_look 134 = .ok (.getfield 22, 3) := by decide +kernel
theorem d_SW_look_137 : decode b_SW_look 137 = .ok (.getfield 120, 3) := by decide +kernel
theorem d_SW_look_140 : decode b_SW_look 140 = .ok (.ireturn, 1) := by decide +kernel
theorem d_SW_look_141 : decode b_SW_look 141 = .ok (.aload_n 0, 1) := by decide +kernel
theorem d_SW_look_142 : decode b_SW_look 142 = .ok (.getfield 47, 3) := by decide +kernel
theorem d_SW_look_145 : decode b_SW_look 145 = .ok (.ifCond .eq 7, 3) := by decide +kernel
theorem d_SW_look_148 : decode b_SW_look 148 = .ok (.iconst 1, 1) := by decide +kernel
theorem d_SW_look_149 : decode b_SW_look 149 = .ok (.goto 4, 3) := by decide +kernel
theorem d_SW_look_152 : decode b_SW_look 152 = .ok (.iconst 0, 1) := by decide +kernel
theorem d_SW_look_153 : decode b_SW_look 153 = .ok (.ireturn, 1) := by decide +kernel
theorem d_SW_look_154 : decode b_SW_look 154 = .ok (.aload_n 0, 1) := by decide +kernel
theorem d_SW_look_155 : decode b_SW_look 155 = .ok (.getfield 43, 3) := by decide +kernel
theorem d_SW_look_158 : decode b_SW_look 158 = .ok (.ireturn, 1) := by decide +kernel
theorem d_SW_look_159 : decode b_SW_look 159 = .ok (.iconst (-1), 1) := by decide +kernel
theorem d_SW_look_160 : decode b_SW_look 160 = .ok (.ireturn, 1) := by decide +kernel
theorem d_SW_returnToOrigin_0 : decode b_SW_returnToOrigin 0 = .ok (.aload_n 0, 1) := by decide +kernel
theorem d_SW_returnToOrigin_1 : decode b_SW_returnToOrigin 1 = .ok (.getfield 33, 3) := by decide +kernel
theorem d_SW_returnToOrigin_4 : decode b_SW_returnToOrigin 4 = .ok (.aload_n 0, 1) := by decide +kernel
theorem d_SW_returnToOrigin_5 : decode b_SW_returnToOrigin 5 = .ok (.getfield 29, 3) := by decide +kernel
theorem d_SW_returnToOrigin_8 : decode b_SW_returnToOrigin 8 = .ok (.invokevirtual 153, 3) := by decide +kernel
theorem d_SW_returnToOrigin_11 : decode b_SW_returnToOrigin 11 = .ok (.aload_n 0, 1) := by decide +kernel
theorem d_SW_returnToOrigin_12 : decode b_SW_returnToOrigin 12 = .ok (.getfield 39, 3) := by decide +kernel
theorem d_SW_returnToOrigin_15 : decode b_SW_returnToOrigin 15 = .ok (.invokevirtual 88, 3) := by decide +kernel
theorem d_SW_returnToOrigin_18 : decode b_SW_returnToOrigin 18 = .ok (.return_, 1) := by decide +kernel
theorem d_SW_start_0 : decode b_SW_start 0 = .ok (.iload_n 1, 1) := by decide +kernel
theorem d_SW_start_1 : decode b_SW_start 1 = .ok (.iload_n 2, 1) := by decide +kernel
theorem d_SW_start_2 : decode b_SW_start 2 = .ok (.invokestatic 91, 3) := by decide +kernel
theorem d_SW_start_5 : decode b_SW_start 5 = .ok (.ifCond .eq 25, 3) := by decide +kernel
theorem d_SW_start_8 : decode b_SW_start 8 = .ok (.iload_n 3, 1) := by decide +kernel
theorem d_SW_start_9 : decode b_SW_start 9 = .ok (.ifCond .lt 21, 3) := by decide +kernel
theorem d_SW_start_12 : decode b_SW_start 12 = .ok (.iload_n 3, 1) := by decide +kernel
theorem d_SW_start_13 : decode b_SW_start 13 = .ok (.bipush 64, 2) := by decide +kernel
theorem d_SW_start_15 : decode b_SW_start 15 = .ok (.if_icmp .ge 15, 3) := by decide +kernel
theorem d_SW_start_18 : decode b_SW_start 18 = .ok (.aload_n 0, 1) := by decide +kernel
theorem d_SW_start_19 : decode b_SW_start 19 = .ok (.getfield 16, 3) := by decide +kernel
theorem d_SW_start_22 : decode b_SW_start 22 = .ok (.iload 4, 2) := by decide +kernel
theorem d_SW_start_24 : decode b_SW_start 24 = .ok (.invokevirtual 66, 3) := by decide +kernel
theorem d_SW_start_27 : decode b_SW_start 27 = .ok (.ifCond .ne 5, 3) := by decide +kernel
theorem d_SW_start_30 : decode b_SW_start 30 = .ok (.iconst 0, 1) := by decide +kernel
theorem d_SW_start_31 : decode b_SW_start 31 = .ok (.ireturn, 1) := by decide +kernel
theorem d_SW_start_32 : decode b_SW_start 32 = .ok (.aload_n 0, 1) := by decide +kernel
theorem d_SW_start_33 : decode b_SW_start 33 = .ok (.getfield 29, 3) := by decide +kernel
theorem d_SW_start_36 : decode b_SW_start 36 = .ok (.iload_n 1, 1) := by decide +kernel
theorem d_SW_start_37 : decode b_SW_start 37 = .ok (.putfield 94, 3) := by decide +kernel
theorem d_SW_start_40 : decode b_SW_start 40 = .ok (.aload_n 0, 1) := by decide +kernel
theorem d_SW_start_41 : decode b_SW_start 41 = .ok (.getfield 29, 3) := by decide +kernel
theorem d_SW_start_44 : decode b_SW_start 44 = .ok (.iload_n 2, 1) := by decide +kernel
theorem d_SW_start_45 : decode b_SW_start 45 = .ok (.putfield 97, 3) := by decide +kernel
theorem d_SW_start_48 : decode b_SW_start 48 = .ok (.aload_n 0, 1) := by decide +kernel
theorem d_SW_start_49 : decode b_SW_start 49 = .ok (.getfield 29, 3) := by decide +kernel
theorem d_SW_start_52 : decode b_SW_start 52 = .ok (.iload_n 3, 1) := by decide +kernel
theorem d_SW_start_53 : decode b_SW_start 53 = .ok (.putfield 100, 3) := by decide +kernel
theorem d_SW_start_56 : decode b_SW_start 56 = .ok (.aload_n 0, 1) := by decide +kernel
theorem d_SW_start_57 : decode b_SW_start 57 = .ok (.getfield 29, 3) := by decide +kernel
theorem d_SW_start_60 : decode b_SW_start 60 = .ok (.iload 4, 2) := by decide +kernel
theorem d_SW_start_62 : decode b_SW_start 62 = .ok (.putfield 103, 3) := by decide +kernel
theorem d_SW_start_65 : decode b_SW_start 65 = .ok (.aload_n 0, 1) := by decide +kernel
theorem d_SW_start_66 : decode b_SW_start 66 = .ok (.iconst 1, 1) := by decide +kernel
theorem d_SW_start_67 : decode b_SW_start 67 = .ok (.putfield 47, 3) := by decide +kernel
theorem d_SW_start_70 : decode b_SW_start 70 = .ok (.aload_n 0, 1) := by decide +kernel
theorem d_SW_start_71 : decode b_SW_start 71 = .ok (.invokevirtual 106, 3) := by decide +kernel
theorem d_SW_start_74 : decode b_SW_start 74 = .ok (.iconst 1, 1) := by decide +kernel
theorem d_SW_start_75 : decode b_SW_start 75 = .ok (.ireturn, 1) := by decide +kernel
theorem d_SW_build_0 : decode b_SW_build 0 = .ok (.aload_n 0, 1) := by decide +kernel
theorem d_SW_build_1 : decode b_SW_build 1 = .ok (.getfield 10, 3) := by decide +kernel
theorem d_SW_build_4 : decode b_SW_build 4 = .ok (.invokevirtual 80, 3) := by decide +kernel
theorem d_SW_build_7 : decode b_SW_build 7 = .ok (.istore_n 1, 1) := by decide +kernel
theorem d_SW_build_8 : decode b_SW_build 8 = .ok (.iload_n 1, 1) := by decide +kernel
theorem d_SW_build_9 : decode b_SW_build 9 = .ok (.iconst (-1), 1) := by decide +kernel
theorem d_SW_build_10 : decode b_SW_build 10 = .ok (.if_icmp .eq 5, 3) := by decide +kernel
theorem d_SW_build_13 : decode b_SW_build 13 = .ok (.iload_n 1, 1) := by decide +kernel
theorem d_SW_build_14 : decode b_SW_build 14 = .ok (.ireturn, 1) := by decide +kernel
theorem d_SW_build_15 : decode b_SW_build 15 = .ok (.aload_n 0, 1) := by decide +kernel
theorem d_SW_build_16 : decode b_SW_build 16 = .ok (.getfield 16, 3) := by decide +kernel
theorem d_SW_build_19 : decode b_SW_build 19 = .ok (.aload_n 0, 1) := by decide +kernel
theorem d_SW_build_20 : decode b_SW_build 20 = .ok (.getfield 10, 3) := by decide +kernel
theorem d_SW_build_23 : decode b_SW_build 23 = .ok (.invokevirtual 84, 3) := by decide +kernel
theorem d_SW_build_26 : decode b_SW_build 26 = .ok (.aload_n 0, 1) := by decide +kernel
theorem d_SW_build_27 : decode b_SW_build 27 = .ok (.dup, 1) := by decide +kernel
theorem d_SW_build_28 : decode b_SW_build 28 = .ok (.getfield 43, 3) := by decide +kernel
theorem d_SW_build_31 : decode b_SW_build 31 = .ok (.iconst 1, 1) := by decide +kernel
theorem d_SW_build_32 : decode b_SW_build 32 = .ok (.iadd, 1) := by decide +kernel
theorem d_SW_build_33 : decode b_SW_build 33 = .ok (.putfield 43, 3) := by decide +kernel
theorem d_SW_build_36 : decode b_SW_build 36 = .ok (.aload_n 0, 1) := by decide +kernel
theorem d_SW_build_37 : decode b_SW_build 37 = .ok (.iconst 0, 1) := by decide +kernel
theorem d_SW_build_38 : decode b_SW_build 38 = .ok (.putfield 47, 3) := by decide +kernel
theorem d_SW_build_41 : decode b_SW_build 41 = .ok (.aload_n 0, 1) := by decide +kernel
theorem d_SW_build_42 : decode b_SW_build 42 = .ok (.getfield 39, 3) := by decide +kernel
theorem d_SW_build_45 : decode b_SW_build 45 = .ok (.invokevirtual 88, 3) := by decide +kernel
theorem d_SW_build_48 : decode b_SW_build 48 = .ok (.iconst (-1), 1) := by decide +kernel
theorem d_SW_build_49 : decode b_SW_build 49 = .ok (.ireturn, 1) := by decide +kernel
theorem d_SW_walk_0 : decode b_SW_walk 0 = .ok (.aload_n 0, 1) := by decide +kernel
theorem d_SW_walk_1 : decode b_SW_walk 1 = .ok (.getfield 33, 3) := by decide +kernel
theorem d_SW_walk_4 : decode b_SW_walk 4 = .ok (.aload_n 0, 1) := by decide +kernel
theorem d_SW_walk_5 : decode b_SW_walk 5 = .ok (.getfield 33, 3) := by decide +kernel
theorem d_SW_walk_8 : decode b_SW_walk 8 = .ok (.getfield 100, 3) := by decide +kernel
theorem d_SW_walk_11 : decode b_SW_walk 11 = .ok (.iload_n 3, 1) := by decide +kernel
theorem d_SW_walk_12 : decode b_SW_walk 12 = .ok (.iadd, 1) := by decide +kernel
theorem d_SW_walk_13 : decode b_SW_walk 13 = .ok (.bipush 64, 2) := by decide +kernel
theorem d_SW_walk_15 : decode b_SW_walk 15 = .ok (.invokestatic 156, 3) := by decide +kernel
theorem d_SW_walk_18 : decode b_SW_walk 18 = .ok (.putfield 100, 3) := by decide +kernel
theorem d_SW_walk_21 : decode b_SW_walk 21 = .ok (.aload_n 0, 1) := by decide +kernel
theorem d_SW_walk_22 : decode b_SW_walk 22 = .ok (.getfield 33, 3) := by decide +kernel
theorem d_SW_walk_25 : decode b_SW_walk 25 = .ok (.getfield 100, 3) := by decide +kernel
theorem d_SW_walk_28 : decode b_SW_walk 28 = .ok (.invokestatic 161, 3) := by decide +kernel
theorem d_SW_walk_31 : decode b_SW_walk 31 = .ok (.istore 4, 2) := by decide +kernel
theorem d_SW_walk_33 : decode b_SW_walk 33 = .ok (.aload_n 0, 1) := by decide +kernel
theorem d_SW_walk_34 : decode b_SW_walk 34 = .ok (.getfield 33, 3) := by decide +kernel
theorem d_SW_walk_37 : decode b_SW_walk 37 = .ok (.getfield 100, 3) := by decide +kernel
theorem d_SW_walk_40 : decode b_SW_walk 40 = .ok (.bipush 16, 2) := by decide +kernel
theorem d_SW_walk_42 : decode b_SW_walk 42 = .ok (.isub, 1) := by decide +kernel
theorem d_SW_walk_43 : decode b_SW_walk 43 = .ok (.invokestatic 161, 3) := by decide +kernel
theorem d_SW_walk_46 : decode b_SW_walk 46 = .ok (.istore 5, 2) := by decide +kernel
theorem d_SW_walk_48 : decode b_SW_walk 48 = .ok (.iload 4, 2) := by decide +kernel
theorem d_SW_walk_50 : decode b_SW_walk 50 = .ok (.iload_n 1, 1) := by decide +kernel
theorem d_SW_walk_51 : decode b_SW_walk 51 = .ok (.imul, 1) := by decide +kernel
theorem d_SW_walk_52 : decode b_SW_walk 52 = .ok (.iload 5, 2) := by decide +kernel
theorem d_SW_walk_54 : decode b_SW_walk 54 = .ok (.iload_n 2, 1) := by decide +kernel
theorem d_SW_walk_55 : decode b_SW_walk 55 = .ok (.imul, 1) := by decide +kernel
theorem d_SW_walk_56 : decode b_SW_walk 56 = .ok (.iadd, 1) := by decide +kernel
theorem d_SW_walk_57 : decode b_SW_walk 57 = .ok (.sipush 256, 3) := by decide +kernel
theorem d_SW_walk_60 : decode b_SW_walk 60 = .ok (.invokestatic 165, 3) := by decide +kernel
theorem d_SW_walk_63 : decode b_SW_walk 63 = .ok (.istore 6, 2) := by decide +kernel
theorem d_SW_walk_65 : decode b_SW_walk 65 = .ok (.iload 5, 2) := by decide +kernel
theorem d_SW_walk_67 : decode b_SW_walk 67 = .ok (.iload_n 1, 1) := by decide +kernel
theorem d_SW_walk_68 : decode b_SW_walk 68 = .ok (.imul, 1) := by decide +kernel
theorem d_SW_walk_69 : decode b_SW_walk 69 = .ok (.iload 4, 2) := by decide +kernel
theorem d_SW_walk_71 : decode b_SW_walk 71 = .ok (.iload_n 2, 1) := by decide +kernel
theorem d_SW_walk_72 : decode b_SW_walk 72 = .ok (.imul, 1) := by decide +kernel
theorem d_SW_walk_73 : decode b_SW_walk 73 = .ok (.isub, 1) := by decide +kernel
theorem d_SW_walk_74 : decode b_SW_walk 74 = .ok (.sipush 256, 3) := by decide +kernel
theorem d_SW_walk_77 : decode b_SW_walk 77 = .ok (.invokestatic 165, 3) := by decide +kernel
theorem d_SW_walk_80 : decode b_SW_walk 80 = .ok (.istore 7, 2) := by decide +kernel
theorem d_SW_walk_82 : decode b_SW_walk 82 = .ok (.aload_n 0, 1) := by decide +kernel
theorem d_SW_walk_83 : decode b_SW_walk 83 = .ok (.getfield 39, 3) := by decide +kernel
theorem d_SW_walk_86 : decode b_SW_walk 86 = .ok (.invokevirtual 88, 3) := by decide +kernel
theorem d_SW_walk_89 : decode b_SW_walk 89 = .ok (.iload 6, 2) := by decide +kernel
theorem d_SW_walk_91 : decode b_SW_walk 91 = .ok (.ifCond .ne 10, 3) := by decide +kernel
theorem d_SW_walk_94 : decode b_SW_walk 94 = .ok (.iload 7, 2) := by decide +kernel
theorem d_SW_walk_96 : decode b_SW_walk 96 = .ok (.ifCond .ne 5, 3) := by decide +kernel
theorem d_SW_walk_99 : decode b_SW_walk 99 = .ok (.iconst 0, 1) := by decide +kernel
theorem d_SW_walk_100 : decode b_SW_walk 100 = .ok (.ireturn, 1) := by decide +kernel
theorem d_SW_walk_101 : decode b_SW_walk 101 = .ok (.aload_n 0, 1) := by decide +kernel
theorem d_SW_walk_102 : decode b_SW_walk 102 = .ok (.getfield 39, 3) := by decide +kernel
theorem d_SW_walk_105 : decode b_SW_walk 105 = .ok (.aload_n 0, 1) := by decide +kernel
theorem d_SW_walk_106 : decode b_SW_walk 106 = .ok (.getfield 16, 3) := by decide +kernel
theorem d_SW_walk_109 : decode b_SW_walk 109 = .ok (.aload_n 0, 1) := by decide +kernel
theorem d_SW_walk_110 : decode b_SW_walk 110 = .ok (.getfield 33, 3) := by decide +kernel
theorem d_SW_walk_113 : decode b_SW_walk 113 = .ok (.iload 6, 2) := by decide +kernel
theorem d_SW_walk_115 : decode b_SW_walk 115 = .ok (.iload 7, 2) := by decide +kernel
theorem d_SW_walk_117 : decode b_SW_walk 117 = .ok (.invokevirtual 168, 3) := by decide +kernel
theorem d_SW_walk_120 : decode b_SW_walk 120 = .ok (.aload_n 0, 1) := by decide +kernel
theorem d_SW_walk_121 : decode b_SW_walk 121 = .ok (.getfield 39, 3) := by decide +kernel
theorem d_SW_walk_124 : decode b_SW_walk 124 = .ok (.getfield 140, 3) := by decide +kernel
theorem d_SW_walk_127 : decode b_SW_walk 127 = .ok (.iconst (-1), 1) := by decide +kernel
theorem d_SW_walk_128 : decode b_SW_walk 128 = .ok (.if_icmp .ne 29, 3) := by decide +kernel
theorem d_SW_walk_131 : decode b_SW_walk 131 = .ok (.aload_n 0, 1) := by decide +kernel
theorem d_SW_walk_132 : decode b_SW_walk 132 = .ok (.getfield 33, 3) := by decide +kernel
theorem d_SW_walk_135 : decode b_SW_walk 135 = .ok (.getfield 94, 3) := by decide +kernel
theorem d_SW_walk_138 : decode b_SW_walk 138 = .ok (.iload 6, 2) := by decide +kernel
theorem d_SW_walk_140 : decode b_SW_walk 140 = .ok (.iadd, 1) := by decide +kernel
theorem d_SW_walk_141 : decode b_SW_walk 141 = .ok (.aload_n 0, 1) := by decide +kernel
theorem d_SW_walk_142 : decode b_SW_walk 142 = .ok (.getfield 33, 3) := by decide +kernel
theorem d_SW_walk_145 : decode b_SW_walk 145 = .ok (.getfield 97, 3) := by decide +kernel
theorem d_SW_walk_148 : decode b_SW_walk 148 = .ok (.iload 7, 2) := by decide +kernel
theorem d_SW_walk_150 : decode b_SW_walk 150 = .ok (.iadd, 1) := by decide +kernel
theorem d_SW_walk_151 : decode b_SW_walk 151 = .ok (.invokestatic 91, 3) := by decide +kernel
theorem d_SW_walk_154 : decode b_SW_walk 154 = .ok (.ifCond .ne 5, 3) := by decide +kernel
theorem d_SW_walk_157 : decode b_SW_walk 157 = .ok (.iconst 2, 1) := by decide +kernel
theorem d_SW_walk_158 : decode b_SW_walk 158 = .ok (.ireturn, 1) := by decide +kernel
theorem d_SW_walk_159 : decode b_SW_walk 159 = .ok (.aload_n 0, 1) := by decide +kernel
theorem d_SW_walk_160 : decode b_SW_walk 160 = .ok (.getfield 33, 3) := by decide +kernel
theorem d_SW_walk_163 : decode b_SW_walk 163 = .ok (.dup, 1) := by decide +kernel
theorem d_SW_walk_164 : decode b_SW_walk 164 = .ok (.getfield 94, 3) := by decide +kernel
theorem d_SW_walk_167 : decode b_SW_walk 167 = .ok (.iload 6, 2) := by decide +kernel
theorem d_SW_walk_169 : decode b_SW_walk 169 = .ok (.iadd, 1) := by decide +kernel
theorem d_SW_walk_170 : decode b_SW_walk 170 = .ok (.putfield 94, 3) := by decide +kernel
theorem d_SW_walk_173 : decode b_SW_walk 173 = .ok (.aload_n 0, 1) := by decide +kernel
theorem d_SW_walk_174 : decode b_SW_walk 174 = .ok (.getfield 33, 3) := by decide +kernel
theorem d_SW_walk_177 : decode b_SW_walk 177 = .ok (.dup, 1) := by decide +kernel
theorem d_SW_walk_178 : decode b_SW_walk 178 = .ok (.getfield 97, 3) := by decide +kernel
theorem d_SW_walk_181 : decode b_SW_walk 181 = .ok (.iload 7, 2) := by decide +kernel
theorem d_SW_walk_183 : decode b_SW_walk 183 = .ok (.iadd, 1) := by decide +kernel
theorem d_SW_walk_184 : decode b_SW_walk 184 = .ok (.putfield 97, 3) := by decide +kernel
theorem d_SW_walk_187 : decode b_SW_walk 187 = .ok (.aload_n 0, 1) := by decide +kernel
theorem d_SW_walk_188 : decode b_SW_walk 188 = .ok (.getfield 33, 3) := by decide +kernel
theorem d_SW_walk_191 : decode b_SW_walk 191 = .ok (.aload_n 0, 1) := by decide +kernel
theorem d_SW_walk_192 : decode b_SW_walk 192 = .ok (.getfield 39, 3) := by decide +kernel
theorem d_SW_walk_195 : decode b_SW_walk 195 = .ok (.aload_n 0, 1) := by decide +kernel
theorem d_SW_walk_196 : decode b_SW_walk 196 = .ok (.getfield 16, 3) := by decide +kernel
theorem d_SW_walk_199 : decode b_SW_walk 199 = .ok (.aload_n 0, 1) := by decide +kernel
theorem d_SW_walk_200 : decode b_SW_walk 200 = .ok (.getfield 33, 3) := by decide +kernel
theorem d_SW_walk_203 : decode b_SW_walk 203 = .ok (.getfield 103, 3) := by decide +kernel
theorem d_SW_walk_206 : decode b_SW_walk 206 = .ok (.invokevirtual 172, 3) := by decide +kernel
theorem d_SW_walk_209 : decode b_SW_walk 209 = .ok (.putfield 103, 3) := by decide +kernel
theorem d_SW_walk_212 : decode b_SW_walk 212 = .ok (.iconst 1, 1) := by decide +kernel
theorem d_SW_walk_213 : decode b_SW_walk 213 = .ok (.ireturn, 1) := by decide +kernel
theorem d_SW_step_0 : decode b_SW_step 0 = .ok (.aload_n 0, 1) := by decide +kernel
theorem d_SW_step_1 : decode b_SW_step 1 = .ok (.getfield 47, 3) := by decide +kernel
theorem d_SW_step_4 : decode b_SW_step 4 = .ok (.ifCond .eq 12, 3) := by decide +kernel
theorem d_SW_step_7 : decode b_SW_step 7 = .ok (.iload_n 1, 1) := by decide +kernel
theorem d_SW_step_8 : decode b_SW_step 8 = .ok (.iload_n 2, 1) := by decide +kernel
theorem d_SW_step_9 : decode b_SW_step 9 = .ok (.iload_n 3, 1) := by decide +kernel
theorem d_SW_step_10 : decode b_SW_step 10 = .ok (.invokestatic 109, 3) := by decide +kernel
theorem d_SW_step_13 : decode b_SW_step 13 = .ok (.ifCond .ne 5, 3) := by decide +kernel
theorem d_SW_step_16 : decode b_SW_step 16 = .ok (.iconst (-1), 1) := by decide +kernel
theorem d_SW_step_17 : decode b_SW_step 17 = .ok (.ireturn, 1) := by decide +kernel
theorem d_SW_step_18 : decode b_SW_step 18 = .ok (.aload_n 0, 1) := by decide +kernel
theorem d_SW_step_19 : decode b_SW_step 19 = .ok (.iload_n 1, 1) := by decide +kernel
theorem d_SW_step_20 : decode b_SW_step 20 = .ok (.iload_n 2, 1) := by decide +kernel
theorem d_SW_step_21 : decode b_SW_step 21 = .ok (.iload_n 3, 1) := by decide +kernel
theorem d_SW_step_22 : decode b_SW_step 22 = .ok (.invokevirtual 133, 3) := by decide +kernel
theorem d_SW_step_25 : decode b_SW_step 25 = .ok (.ireturn, 1) := by decide +kernel
theorem d_SW_play_0 : decode b_SW_play 0 = .ok (.aload_n 0, 1) := by decide +kernel
theorem d_SW_play_1 : decode b_SW_play 1 = .ok (.getfield 47, 3) := by decide +kernel
theorem d_SW_play_4 : decode b_SW_play 4 = .ok (.ifCond .eq 18, 3) := by decide +kernel
theorem d_SW_play_7 : decode b_SW_play 7 = .ok (.iload_n 1, 1) := by decide +kernel
theorem d_SW_play_8 : decode b_SW_play 8 = .ok (.ifCond .lt 14, 3) := by decide +kernel
theorem d_SW_play_11 : decode b_SW_play 11 = .ok (.iload_n 1, 1) := by decide +kernel
theorem d_SW_play_12 : decode b_SW_play 12 = .ok (.aload_n 0, 1) := by decide +kernel
theorem d_SW_play_13 : decode b_SW_play 13 = .ok (.getfield 22, 3) := by decide +kernel
theorem d_SW_play_16 : decode b_SW_play 16 = .ok (.getfield 120, 3) := by decide +kernel
theorem d_SW_play_19 : decode b_SW_play 19 = .ok (.if_icmp .le 5, 3) := by decide +kernel
theorem d_SW_play_22 : decode b_SW_play 22 = .ok (.iconst (-1), 1) := by decide +kernel
theorem d_SW_play_23 : decode b_SW_play 23 = .ok (.ireturn, 1) := by decide +kernel
theorem d_SW_play_24 : decode b_SW_play 24 = .ok (.aload_n 0, 1) := by decide +kernel
theorem d_SW_play_25 : decode b_SW_play 25 = .ok (.invokevirtual 106, 3) := by decide +kernel
theorem d_SW_play_28 : decode b_SW_play 28 = .ok (.iconst 0, 1) := by decide +kernel
theorem d_SW_play_29 : decode b_SW_play 29 = .ok (.istore_n 2, 1) := by decide +kernel
theorem d_SW_play_30 : decode b_SW_play 30 = .ok (.iconst 0, 1) := by decide +kernel
theorem d_SW_play_31 : decode b_SW_play 31 = .ok (.istore_n 3, 1) := by decide +kernel
theorem d_SW_play_32 : decode b_SW_play 32 = .ok (.iload_n 3, 1) := by decide +kernel
theorem d_SW_play_33 : decode b_SW_play 33 = .ok (.iload_n 1, 1) := by decide +kernel
theorem d_SW_play_34 : decode b_SW_play 34 = .ok (.if_icmp .ge 47, 3) := by decide +kernel
theorem d_SW_play_37 : decode b_SW_play 37 = .ok (.aload_n 0, 1) := by decide +kernel
theorem d_SW_play_38 : decode b_SW_play 38 = .ok (.aload_n 0, 1) := by decide +kernel
theorem d_SW_play_39 : decode b_SW_play 39 = .ok (.getfield 22, 3) := by decide +kernel
theorem d_SW_play_42 : decode b_SW_play 42 = .ok (.getfield 123, 3) := by decide +kernel
theorem d_SW_play_45 : decode b_SW_play 45 = .ok (.iload_n 3, 1) := by decide +kernel
theorem d_SW_play_46 : decode b_SW_play 46 = .ok (.iaload, 1) := by decide +kernel
theorem d_SW_play_47 : decode b_SW_play 47 = .ok (.aload_n 0, 1) := by decide +kernel
theorem d_SW_play_48 : decode b_SW_play 48 = .ok (.getfield 22, 3) := by decide +kernel
theorem d_SW_play_51 : decode b_SW_play 51 = .ok (.getfield 127, 3) := by decide +kernel
theorem d_SW_play_54 : decode b_SW_play 54 = .ok (.iload_n 3, 1) := by decide +kernel
theorem d_SW_play_55 : decode b_SW_play 55 = .ok (.iaload, 1) := by decide +kernel
theorem d_SW_play_56 : decode b_SW_play 56 = .ok (.aload_n 0, 1) := by decide +kernel
theorem d_SW_play_57 : decode b_SW_play 57 = .ok (.getfield 22, 3) := by decide +kernel
theorem d_SW_play_60 : decode b_SW_play 60 = .ok (.getfield 130, 3) := by decide +kernel
theorem d_SW_play_63 : decode b_SW_play 63 = .ok (.iload_n 3, 1) := by decide +kernel
theorem d_SW_play_64 : decode b_SW_play 64 = .ok (.iaload, 1) := by decide +kernel
theorem d_SW_play_65 : decode b_SW_play 65 = .ok (.invokevirtual 133, 3) := by decide +kernel
theorem d_SW_play_68 : decode b_SW_play 68 = .ok (.iconst 2, 1) := by decide +kernel
theorem d_SW_play_69 : decode b_SW_play 69 = .ok (.if_icmp .ne 6, 3) := by decide +kernel
theorem d_SW_play_72 : decode b_SW_play 72 = .ok (.iinc 2 1, 3) := by decide +kernel
theorem d_SW_play_75 : decode b_SW_play 75 = .ok (.iinc 3 1, 3) := by decide +kernel
theorem d_SW_play_78 : decode b_SW_play 78 = .ok (.goto (-46), 3) := by decide +kernel
theorem d_SW_play_81 : decode b_SW_play 81 = .ok (.iload_n 2, 1) := by decide +kernel
theorem d_SW_play_82 : decode b_SW_play 82 = .ok (.ireturn, 1) := by decide +kernel
