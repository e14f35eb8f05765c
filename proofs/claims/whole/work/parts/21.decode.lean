theorem d_Mo_init_0 : decode b_Mo_init 0 = .ok (.aload_n 0, 1) := by decide +kernel
theorem d_Mo_init_1 : decode b_Mo_init 1 = .ok (.invokespecial 1, 3) := by decide +kernel
theorem d_Mo_init_4 : decode b_Mo_init 4 = .ok (.aload_n 0, 1) := by decide +kernel
theorem d_Mo_init_5 : decode b_Mo_init 5 = .ok (.bipush 64, 2) := by decide +kernel
theorem d_Mo_init_7 : decode b_Mo_init 7 = .ok (.newarray .int, 2) := by decide +kernel
theorem d_Mo_init_9 : decode b_Mo_init 9 = .ok (.putfield 7, 3) := by decide +kernel
theorem d_Mo_init_12 : decode b_Mo_init 12 = .ok (.aload_n 0, 1) := by decide +kernel
theorem d_Mo_init_13 : decode b_Mo_init 13 = .ok (.bipush 64, 2) := by decide +kernel
theorem d_Mo_init_15 : decode b_Mo_init 15 = .ok (.newarray .int, 2) := by decide +kernel
theorem d_Mo_init_17 : decode b_Mo_init 17 = .ok (.putfield 13, 3) := by decide +kernel
theorem d_Mo_init_20 : decode b_Mo_init 20 = .ok (.aload_n 0, 1) := by decide +kernel
theorem d_Mo_init_21 : decode b_Mo_init 21 = .ok (.bipush 16, 2) := by decide +kernel
theorem d_Mo_init_23 : decode b_Mo_init 23 = .ok (.newarray .int, 2) := by decide +kernel
theorem d_Mo_init_25 : decode b_Mo_init 25 = .ok (.putfield 16, 3) := by decide +kernel
theorem d_Mo_init_28 : decode b_Mo_init 28 = .ok (.aload_n 0, 1) := by decide +kernel
theorem d_Mo_init_29 : decode b_Mo_init 29 = .ok (.bipush 16, 2) := by decide +kernel
theorem d_Mo_init_31 : decode b_Mo_init 31 = .ok (.newarray .int, 2) := by decide +kernel
theorem d_Mo_init_33 : decode b_Mo_init 33 = .ok (.putfield 19, 3) := by decide +kernel
theorem d_Mo_init_36 : decode b_Mo_init 36 = .ok (.aload_n 0, 1) := by decide +kernel
theorem d_Mo_init_37 : decode b_Mo_init 37 = .ok (.bipush 64, 2) := by decide +kernel
theorem d_Mo_init_39 : decode b_Mo_init 39 = .ok (.newarray .int, 2) := by decide +kernel
theorem d_Mo_init_41 : decode b_Mo_init 41 = .ok (.putfield 22, 3) := by decide +kernel
theorem d_Mo_init_44 : decode b_Mo_init 44 = .ok (.aload_n 0, 1) := by decide +kernel
theorem d_Mo_init_45 : decode b_Mo_init 45 = .ok (.bipush 64, 2) := by decide +kernel
theorem d_Mo_init_47 : decode b_Mo_init 47 = .ok (.newarray .int, 2) := by decide +kernel
theorem d_Mo_init_49 : decode b_Mo_init 49 = .ok (.putfield 25, 3) := by decide +kernel
theorem d_Mo_init_52 : decode b_Mo_init 52 = .ok (.aload_n 0, 1) := by decide +kernel
theorem d_Mo_init_53 : decode b_Mo_init 53 = .ok (.bipush 64, 2) := by decide +kernel
theorem d_Mo_init_55 : decode b_Mo_init 55 = .ok (.newarray .int, 2) := by decide +kernel
theorem d_Mo_init_57 : decode b_Mo_init 57 = .ok (.putfield 28, 3) := by decide +kernel
theorem d_Mo_init_60 : decode b_Mo_init 60 = .ok (.aload_n 0, 1) := by decide +kernel
theorem d_Mo_init_61 : decode b_Mo_init 61 = .ok (.bipush 64, 2) := by decide +kernel
theorem d_Mo_init_63 : decode b_Mo_init 63 = .ok (.newarray .int, 2) := by decide +kernel
theorem d_Mo_init_65 : decode b_Mo_init 65 = .ok (.putfield 31, 3) := by decide +kernel
theorem d_Mo_init_68 : decode b_Mo_init 68 = .ok (.aload_n 0, 1) := by decide +kernel
theorem d_Mo_init_69 : decode b_Mo_init 69 = .ok (.bipush 64, 2) := by decide +kernel
theorem d_Mo_init_71 : decode b_Mo_init 71 = .ok (.newarray .int, 2) := by decide +kernel
theorem d_Mo_init_73 : decode b_Mo_init 73 = .ok (.putfield 34, 3) := by decide +kernel
theorem d_Mo_init_76 : decode b_Mo_init 76 = .ok (.aload_n 0, 1) := by decide +kernel
theorem d_Mo_init_77 : decode b_Mo_init 77 = .ok (.bipush 64, 2) := by decide +kernel
theorem d_Mo_init_79 : decode b_Mo_init 79 = .ok (.newarray .int, 2) := by decide +kernel
theorem d_Mo_init_81 : decode b_Mo_init 81 = .ok (.putfield 37, 3) := by decide +kernel
theorem d_Mo_init_84 : decode b_Mo_init 84 = .ok (.aload_n 0, 1) := by decide +kernel
theorem d_Mo_init_85 : decode b_Mo_init 85 = .ok (.bipush 64, 2) := by decide +kernel
theorem d_Mo_init_87 : decode b_Mo_init 87 = .ok (.newarray .int, 2) := by decide +kernel
theorem d_Mo_init_89 : decode b_Mo_init 89 = .ok (.putfield 40, 3) := by decide +kernel
theorem d_Mo_init_92 : decode b_Mo_init 92 = .ok (.aload_n 0, 1) := by decide +kernel
theorem d_Mo_init_93 : decode b_Mo_init 93 = .ok (.bipush 64, 2) := by decide +kernel
theorem d_Mo_init_95 : decode b_Mo_init 95 = .ok (.newarray .int, 2) := by decide +kernel
theorem d_Mo_init_97 : decode b_Mo_init 97 = .ok (.putfield 43, 3) := by decide +kernel
theorem d_Mo_init_100 : decode b_Mo_init 100 = .ok (.aload_n 0, 1) := by decide +kernel
theorem d_Mo_init_101 : decode b_Mo_init 101 = .ok (.bipush 64, 2) := by decide +kernel
theorem d_Mo_init_103 : decode b_Mo_init 103 = .ok (.newarray .int, 2) := by decide +kernel
theorem d_Mo_init_105 : decode b_Mo_init 105 = .ok (.putfield 46, 3) := by decide +kernel
theorem d_Mo_init_108 : decode b_Mo_init 108 = .ok (.aload_n 0, 1) := by decide +kernel
theorem d_Mo_init_109 : decode b_Mo_init 109 = .ok (.bipush 64, 2) := by decide +kernel
theorem d_Mo_init_111 : decode b_Mo_init 111 = .ok (.newarray .int, 2) := by decide +kernel
theorem d_Mo_init_113 : decode b_Mo_init 113 = .ok (.putfield 49, 3) := by decide +kernel
theorem d_Mo_init_116 : decode b_Mo_init 116 = .ok (.aload_n 0, 1) := by decide +kernel
theorem d_Mo_init_117 : decode b_Mo_init 117 = .ok (.bipush 16, 2) := by decide +kernel
theorem d_Mo_init_119 : decode b_Mo_init 119 = .ok (.newarray .int, 2) := by decide +kernel
theorem d_Mo_init_121 : decode b_Mo_init 121 = .ok (.putfield 52, 3) := by decide +kernel
theorem d_Mo_init_124 : decode b_Mo_init 124 = .ok (.aload_n 0, 1) := by decide +kernel
theorem d_Mo_init_125 : decode b_Mo_init 125 = .ok (.bipush 16, 2) := by decide +kernel
theorem d_Mo_init_127 : decode b_Mo_init 127 = .ok (.newarray .int, 2) := by decide +kernel
theorem d_Mo_init_129 : decode b_Mo_init 129 = .ok (.putfield 55, 3) := by decide +kernel
theorem d_Mo_init_132 : decode b_Mo_init 132 = .ok (.aload_n 0, 1) := by decide +kernel
theorem d_Mo_init_133 : decode b_Mo_init 133 = .ok (.iconst 4, 1) := by decide +kernel
theorem d_Mo_init_134 : decode b_Mo_init 134 = .ok (.newarray .int, 2) := by decide +kernel
theorem d_Mo_init_136 : decode b_Mo_init 136 = .ok (.putfield 58, 3) := by decide +kernel
theorem d_Mo_init_139 : decode b_Mo_init 139 = .ok (.aload_n 0, 1) := by decide +kernel
theorem d_Mo_init_140 : decode b_Mo_init 140 = .ok (.iconst 4, 1) := by decide +kernel
theorem d_Mo_init_141 : decode b_Mo_init 141 = .ok (.newarray .int, 2) := by decide +kernel
theorem d_Mo_init_143 : decode b_Mo_init 143 = .ok (.putfield 61, 3) := by decide +kernel
theorem d_Mo_init_146 : decode b_Mo_init 146 = .ok (.aload_n 0, 1) := by decide +kernel
theorem d_Mo_init_147 : decode b_Mo_init 147 = .ok (.sipush 256, 3) := by decide +kernel
theorem d_Mo_init_150 : decode b_Mo_init 150 = .ok (.newarray .int, 2) := by decide +kernel
theorem d_Mo_init_152 : decode b_Mo_init 152 = .ok (.putfield 64, 3) := by decide +kernel
theorem d_Mo_init_155 : decode b_Mo_init 155 = .ok (.aload_n 0, 1) := by decide +kernel
theorem d_Mo_init_156 : decode b_Mo_init 156 = .ok (.sipush 256, 3) := by decide +kernel
theorem d_Mo_init_159 : decode b_Mo_init 159 = .ok (.newarray .int, 2) := by decide +kernel
theorem d_Mo_init_161 : decode b_Mo_init 161 = .ok (.putfield 67, 3) := by decide +kernel
theorem d_Mo_init_164 : decode b_Mo_init 164 = .ok (.aload_n 0, 1) := by decide +kernel
theorem d_Mo_init_165 : decode b_Mo_init 165 = .ok (.sipush 256, 3) := by decide +kernel
theorem d_Mo_init_168 : decode b_Mo_init 168 = .ok (.newarray .int, 2) := by decide +kernel
theorem d_Mo_init_170 : decode b_Mo_init 170 = .ok (.putfield 70, 3) := by decide +kernel
theorem d_Mo_init_173 : decode b_Mo_init 173 = .ok (.aload_n 0, 1) := by decide +kernel
theorem d_Mo_init_174 : decode b_Mo_init 174 = .ok (.bipush 64, 2) := by decide +kernel
theorem d_Mo_init_176 : decode b_Mo_init 176 = .ok (.newarray .int, 2) := by decide +kernel
theorem d_Mo_init_178 : decode b_Mo_init 178 = .ok (.putfield 73, 3) := by decide +kernel
theorem d_Mo_init_181 : decode b_Mo_init 181 = .ok (.aload_n 0, 1) := by decide +kernel
theorem d_Mo_init_182 : decode b_Mo_init 182 = .ok (.bipush 64, 2) := by decide +kernel
theorem d_Mo_init_184 : decode b_Mo_init 184 = .ok (.newarray .long, 2) := by decide +kernel
theorem d_Mo_init_186 : decode b_Mo_init 186 = .ok (.putfield 76, 3) := by decide +kernel
theorem d_Mo_init_189 : decode b_Mo_init 189 = .ok (.aload_n 0, 1) := by decide +kernel
theorem d_Mo_init_190 : decode b_Mo_init 190 = .ok (.bipush 64, 2) := by decide +kernel
theorem d_Mo_init_192 : decode b_Mo_init 192 = .ok (.newarray .long, 2) := by decide +kernel
theorem d_Mo_init_194 : decode b_Mo_init 194 = .ok (.putfield 80, 3) := by decide +kernel
theorem d_Mo_init_197 : decode b_Mo_init 197 = .ok (.aload_n 0, 1) := by decide +kernel
theorem d_Mo_init_198 : decode b_Mo_init 198 = .ok (.iconst (-1), 1) := by decide +kernel
theorem d_Mo_init_199 : decode b_Mo_init 199 = .ok (.putfield 83, 3) := by decide +kernel
theorem d_Mo_init_202 : decode b_Mo_init 202 = .ok (.return_, 1) := by decide +kernel
theorem d_Mo_isWithin_0 : decode b_Mo_isWithin 0 = .ok (.iload_n 0, 1) := by decide +kernel
theorem d_Mo_isWithin_1 : decode b_Mo_isWithin 1 = .ok (.iload_n 1, 1) := by decide +kernel
theorem d_Mo_isWithin_2 : decode b_Mo_isWithin 2 = .ok (.ineg, 1) := by decide +kernel
theorem d_Mo_isWithin_3 : decode b_Mo_isWithin 3 = .ok (.if_icmp .lt 12, 3) := by decide +kernel
theorem d_Mo_isWithin_6 : decode b_Mo_isWithin 6 = .ok (.iload_n 0, 1) := by decide +kernel
theorem d_Mo_isWithin_7 : decode b_Mo_isWithin 7 = .ok (.iload_n 1, 1) := by decide +kernel
theorem d_Mo_isWithin_8 : decode b_Mo_isWithin 8 = .ok (.if_icmp .gt 7, 3) := by decide +kernel
theorem d_Mo_isWithin_11 : decode b_Mo_isWithin 11 = .ok (.iconst 1, 1) := by decide +kernel
theorem d_Mo_isWithin_12 : decode b_Mo_isWithin 12 = .ok (.goto 4, 3) := by decide +kernel
theorem d_Mo_isWithin_15 : decode b_Mo_isWithin 15 = .ok (.iconst 0, 1) := by decide +kernel
theorem d_Mo_isWithin_16 : decode b_Mo_isWithin 16 = .ok (.ireturn, 1) := by decide +kernel
theorem d_Mo_vertex_0 : decode b_Mo_vertex 0 = .ok (.aload_n 0, 1) := by decide +kernel
theorem d_Mo_vertex_1 : decode b_Mo_vertex 1 = .ok (.iconst 0, 1) := by decide +kernel
theorem d_Mo_vertex_2 : decode b_Mo_vertex 2 = .ok (.putfield 87, 3) := by decide +kernel
theorem d_Mo_vertex_5 : decode b_Mo_vertex 5 = .ok (.iload_n 1, 1) := by decide +kernel
theorem d_Mo_vertex_6 : decode b_Mo_vertex 6 = .ok (.sipush 2000, 3) := by decide +kernel
theorem d_Mo_vertex_9 : decode b_Mo_vertex 9 = .ok (.invokestatic 90, 3) := by decide +kernel
theorem d_Mo_vertex_12 : decode b_Mo_vertex 12 = .ok (.ifCond .eq 26, 3) := by decide +kernel
theorem d_Mo_vertex_15 : decode b_Mo_vertex 15 = .ok (.iload_n 2, 1) := by decide +kernel
theorem d_Mo_vertex_16 : decode b_Mo_vertex 16 = .ok (.sipush 2000, 3) := by decide +kernel
theorem d_Mo_vertex_19 : decode b_Mo_vertex 19 = .ok (.invokestatic 90, 3) := by decide +kernel
theorem d_Mo_vertex_22 : decode b_Mo_vertex 22 = .ok (.ifCond .eq 16, 3) := by decide +kernel
theorem d_Mo_vertex_25 : decode b_Mo_vertex 25 = .ok (.aload_n 0, 1) := by decide +kernel
theorem d_Mo_vertex_26 : decode b_Mo_vertex 26 = .ok (.getfield 94, 3) := by decide +kernel
theorem d_Mo_vertex_29 : decode b_Mo_vertex 29 = .ok (.bipush 64, 2) := by decide +kernel
theorem d_Mo_vertex_31 : decode b_Mo_vertex 31 = .ok (.if_icmp .ge 7, 3) := by decide +kernel
theorem d_Mo_vertex_34 : decode b_Mo_vertex 34 = .ok (.iconst 1, 1) := by decide +kernel
theorem d_Mo_vertex_35 : decode b_Mo_vertex 35 = .ok (.goto 4, 3) := by decide +kernel
theorem d_Mo_vertex_38 : decode b_Mo_vertex 38 = .ok (.iconst 0, 1) := by decide +kernel
theorem d_Mo_vertex_39 : decode b_Mo_vertex 39 = .ok (.istore_n 3, 1) := by decide +kernel
theorem d_Mo_vertex_40 : decode b_Mo_vertex 40 = .ok (.iconst 0, 1) := by decide +kernel
theorem d_Mo_vertex_41 : decode b_Mo_vertex 41 = .ok (.istore 4, 2) := by decide +kernel
theorem d_Mo_vertex_43 : decode b_Mo_vertex 43 = .ok (.iload 4, 2) := by decide +kernel
theorem d_Mo_vertex_45 : decode b_Mo_vertex 45 = .ok (.aload_n 0, 1) := by decide +kernel
theorem d_Mo_vertex_46 : decode b_Mo_vertex 46 = .ok (.getfield 94, 3) := by decide +kernel
theorem d_Mo_vertex_49 : decode b_Mo_vertex 49 = .ok (.if_icmp .ge 41, 3) := by decide +kernel
theorem d_Mo_vertex_52 : decode b_Mo_vertex 52 = .ok (.iload_n 3, 1) := by decide +kernel
theorem d_Mo_vertex_53 : decode b_Mo_vertex 53 = .ok (.ifCond .eq 29, 3) := by decide +kernel
theorem d_Mo_vertex_56 : decode b_Mo_vertex 56 = .ok (.aload_n 0, 1) := by decide +kernel
theorem d_Mo_vertex_57 : decode b_Mo_vertex 57 = .ok (.getfield 7, 3) := by decide +kernel
theorem d_Mo_vertex_60 : decode b_Mo_vertex 60 = .ok (.iload 4, 2) := by decide +kernel
theorem d_Mo_vertex_62 : decode b_Mo_vertex 62 = .ok (.iaload, 1) := by decide +kernel
theorem d_Mo_vertex_63 : decode b_Mo_vertex 63 = .ok (.iload_n 1, 1) := by decide +kernel
theorem d_Mo_vertex_64 : decode b_Mo_vertex 64 = .ok (.if_icmp .ne 14, 3) := by decide +kernel
theorem d_Mo_vertex_67 : decode b_Mo_vertex 67 = .ok (.aload_n 0, 1) := by decide +kernel
theorem d_Mo_vertex_68 : decode b_Mo_vertex 68 = .ok (.getfield 13, 3) := by decide +kernel
theorem d_Mo_vertex_71 : decode b_Mo_vertex 71 = .ok (.iload 4, 2) := by decide +kernel
theorem d_Mo_vertex_73 : decode b_Mo_vertex 73 = .ok (.iaload, 1) := by decide +kernel
theorem d_Mo_vertex_74 : decode b_Mo_vertex 74 = .ok (.iload_n 2, 1) := by decide +kernel
theorem d_Mo_vertex_75 : decode b_Mo_vertex 75 = .ok (.if_icmp .eq 7, 3) := by decide +kernel
theorem d_Mo_vertex_78 : decode b_Mo_vertex 78 = .ok (.iconst 1, 1) := by decide +kernel
theorem d_Mo_vertex_79 : decode b_Mo_vertex 79 = .ok (.goto 4, 3) := by decide +kernel
theorem d_Mo_vertex_82 : decode b_Mo_vertex 82 = .ok (.iconst 0, 1) := by decide +kernel
theorem d_Mo_vertex_83 : decode b_Mo_vertex 83 = .ok (.istore_n 3, 1) := by decide +kernel
theorem d_Mo_vertex_84 : decode b_Mo_vertex 84 = .ok (.iinc 4 1, 3) := by decide +kernel
theorem d_Mo_vertex_87 : decode b_Mo_vertex 87 = .ok (.goto (-44), 3) := by decide +kernel
theorem d_Mo_vertex_90 : decode b_Mo_vertex 90 = .ok (.iload_n 3, 1) := by decide +kernel
theorem d_Mo_vertex_91 : decode b_Mo_vertex 91 = .ok (.ifCond .ne 5, 3) := by decide +kernel
theorem d_Mo_vertex_94 : decode b_Mo_vertex 94 = .ok (.iconst (-1), 1) := by decide +kernel
theorem d_Mo_vertex_95 : decode b_Mo_vertex 95 = .ok (.ireturn, 1) := by decide +kernel
theorem d_Mo_vertex_96 : decode b_Mo_vertex 96 = .ok (.aload_n 0, 1) := by decide +kernel
theorem d_Mo_vertex_97 : decode b_Mo_vertex 97 = .ok (.getfield 7, 3) := by decide +kernel
theorem d_Mo_vertex_100 : decode b_Mo_vertex 100 = .ok (.aload_n 0, 1) := by decide +kernel
theorem d_Mo_vertex_101 : decode b_Mo_vertex 101 = .ok (.getfield 94, 3) := by decide +kernel
theorem d_Mo_vertex_104 : decode b_Mo_vertex 104 = .ok (.iload_n 1, 1) := by decide +kernel
theorem d_Mo_vertex_105 : decode b_Mo_vertex 105 = .ok (.iastore, 1) := by decide +kernel
theorem d_Mo_vertex_106 : decode b_Mo_vertex 106 = .ok (.aload_n 0, 1) := by decide +kernel
theorem d_Mo_vertex_107 : decode b_Mo_vertex 107 = .ok (.getfield 13, 3) := by decide +kernel
theorem d_Mo_vertex_110 : decode b_Mo_vertex 110 = .ok (.aload_n 0, 1) := by decide +kernel
theorem d_Mo_vertex_111 : decode b_Mo_vertex 111 = .ok (.getfield 94, 3) := by decide +kernel
theorem d_Mo_vertex_114 : decode b_Mo_vertex 114 = .ok (.iload_n 2, 1) := by decide +kernel
theorem d_Mo_vertex_115 : decode b_Mo_vertex 115 = .ok (.iastore, 1) := by decide +kernel
theorem d_Mo_vertex_116 : decode b_Mo_vertex 116 = .ok (.aload_n 0, 1) := by decide +kernel
theorem d_Mo_vertex_117 : decode b_Mo_vertex 117 = .ok (.dup, 1) := by decide +kernel
theorem d_Mo_vertex_118 : decode b_Mo_vertex 118 = .ok (.getfield 94, 3) := by decide +kernel
theorem d_Mo_vertex_121 : decode b_Mo_vertex 121 = .ok (.iconst 1, 1) := by decide +kernel
theorem d_Mo_vertex_122 : decode b_Mo_vertex 122 = .ok (.iadd, 1) := by decide +kernel
theorem d_Mo_vertex_123 : decode b_Mo_vertex 123 = .ok (.putfield 94, 3) := by decide +kernel
theorem d_Mo_vertex_126 : decode b_Mo_vertex 126 = .ok (.aload_n 0, 1) := by decide +kernel
theorem d_Mo_vertex_127 : decode b_Mo_vertex 127 = .ok (.getfield 94, 3) := by decide +kernel
theorem d_Mo_vertex_130 : decode b_Mo_vertex 130 = .ok (.iconst 1, 1) := by decide +kernel
theorem d_Mo_vertex_131 : decode b_Mo_vertex 131 = .ok (.isub, 1) := by decide +kernel
theorem d_Mo_vertex_132 : decode b_Mo_vertex 132 = .ok (.ireturn, 1) := by decide +kernel
theorem d_Mo_sector_0 : decode b_Mo_sector 0 = .ok (.aload_n 0, 1) := by decide +kernel
theorem d_Mo_sector_1 : decode b_Mo_sector 1 = .ok (.iconst 0, 1) := by decide +kernel
theorem d_Mo_sector_2 : decode b_Mo_sector 2 = .ok (.putfield 87, 3) := by decide +kernel
theorem d_Mo_sector_5 : decode b_Mo_sector 5 = .ok (.iload_n 1, 1) := by decide +kernel
theorem d_Mo_sector_6 : decode b_Mo_sector 6 = .ok (.sipush 256, 3) := by decide +kernel
theorem d_Mo_sector_9 : decode b_Mo_sector 9 = .ok (.invokestatic 90, 3) := by decide +kernel
theorem d_Mo_sector_12 : decode b_Mo_sector 12 = .ok (.ifCond .eq 27, 3) := by decide +kernel
theorem d_Mo_sector_15 : decode b_Mo_sector 15 = .ok (.iload_n 2, 1) := by decide +kernel
theorem d_Mo_sector_16 : decode b_Mo_sector 16 = .ok (.sipush 256, 3) := by decide +kernel
theorem d_Mo_sector_19 : decode b_Mo_sector 19 = .ok (.invokestatic 90, 3) := by decide +kernel
theorem d_Mo_sector_22 : decode b_Mo_sector 22 = .ok (.ifCond .eq 17, 3) := by decide +kernel
theorem d_Mo_sector_25 : decode b_Mo_sector 25 = .ok (.iload_n 2, 1) := by decide +kernel
theorem d_Mo_sector_26 : decode b_Mo_sector 26 = .ok (.iload_n 1, 1) := by decide +kernel
theorem d_Mo_sector_27 : decode b_Mo_sector 27 = .ok (.if_icmp .le 12, 3) := by decide +kernel
theorem d_Mo_sector_30 : decode b_Mo_sector 30 = .ok (.aload_n 0, 1) := by decide +kernel
theorem d_Mo_sector_31 : decode b_Mo_sector 31 = .ok (.getfield 97, 3) := by decide +kernel
theorem d_Mo_sector_34 : decode b_Mo_sector 34 = .ok (.bipush 16, 2) := by decide +kernel
theorem d_Mo_sector_36 : decode b_Mo_sector 36 = .ok (.if_icmp .ne 5, 3) := by decide +kernel
theorem d_Mo_sector_39 : decode b_Mo_sector 39 = .ok (.iconst (-1), 1) := by decide +kernel
theorem d_Mo_sector_40 : decode b_Mo_sector 40 = .ok (.ireturn, 1) := by decide +kernel
theorem d_Mo_sector_41 : decode b_Mo_sector 41 = .ok (.aload_n 0, 1) := by decide +kernel
theorem d_Mo_sector_42 : decode b_Mo_sector 42 = .ok (.getfield 16, 3) := by decide +kernel
theorem d_Mo_sector_45 : decode b_Mo_sector 45 = .ok (.aload_n 0, 1) := by decide +kernel
theorem d_Mo_sector_46 : decode b_Mo_sector 46 = .ok (.getfield 97, 3) := by decide +kernel
theorem d_Mo_sector_49 : decode b_Mo_sector 49 = .ok (.iload_n 1, 1) := by decide +kernel
theorem d_Mo_sector_50 : decode b_Mo_sector 50 = .ok (.iastore, 1) := by decide +kernel
theorem d_Mo_sector_51 : decode b_Mo_sector 51 = .ok (.aload_n 0, 1) := by decide +kernel
theorem d_Mo_sector_52 : decode b_Mo_sector 52 = .ok (.getfield 19, 3) := by decide +kernel
theorem d_Mo_sector_55 : decode b_Mo_sector 55 = .ok (.aload_n 0, 1) := by decide +kernel
theorem d_Mo_sector_56 : decode b_Mo_sector 56 = .ok (.getfield 97, 3) := by decide +kernel
theorem d_Mo_sector_59 : decode b_Mo_sector 59 = .ok (.iload_n 2, 1) := by decide +kernel
theorem d_Mo_sector_60 : decode b_Mo_sector 60 = .ok (.iastore, 1) := by decide +kernel
theorem d_Mo_sector_61 : decode b_Mo_sector 61 = .ok (.aload_n 0, 1) := by decide +kernel
theorem d_Mo_sector_62 : decode b_Mo_sector 62 = .ok (.dup, 1) := by decide +kernel
theorem d_Mo_sector_63 : decode b_Mo_sector 63 = .ok (.getfield 97, 3) := by decide +kernel
theorem d_Mo_sector_66 : decode b_Mo_sector 66 = .ok (.iconst 1, 1) := by decide +kernel
theorem d_Mo_sector_67 : decode b_Mo_sector 67 = .ok (.iadd, 1) := by decide +kernel
theorem d_Mo_sector_68 : decode b_Mo_sector 68 = .ok (.putfield 97, 3) := by decide +kernel
theorem d_Mo_sector_71 : decode b_Mo_sector 71 = .ok (.aload_n 0, 1) := by decide +kernel
theorem d_Mo_sector_72 : decode b_Mo_sector 72 = .ok (.getfield 97, 3) := by decide +kernel
theorem d_Mo_sector_75 : decode b_Mo_sector 75 = .ok (.iconst 1, 1) := by decide +kernel
theorem d_Mo_sector_76 : decode b_Mo_sector 76 = .ok (.isub, 1) := by decide +kernel
theorem d_Mo_sector_77 : decode b_Mo_sector 77 = .ok (.ireturn, 1) := by decide +kernel
theorem d_Mo_wall_0 : decode b_Mo_wall 0 = .ok (.aload_n 0, 1) := by decide +kernel
theorem d_Mo_wall_1 : decode b_Mo_wall 1 = .ok (.iconst 0, 1) := by decide +kernel
theorem d_Mo_wall_2 : decode b_Mo_wall 2 = .ok (.putfield 87, 3) := by decide +kernel
theorem d_Mo_wall_5 : decode b_Mo_wall 5 = .ok (.iload_n 1, 1) := by decide +kernel
theorem d_Mo_wall_6 : decode b_Mo_wall 6 = .ok (.ifCond .lt 68, 3) := by decide +kernel
theorem d_Mo_wall_9 : decode b_Mo_wall 9 = .ok (.iload_n 1, 1) := by decide +kernel
theorem d_Mo_wall_10 : decode b_Mo_wall 10 = .ok (.aload_n 0, 1) := by decide +kernel
theorem d_Mo_wall_11 : decode b_Mo_wall 11 = .ok (.getfield 94, 3) := by decide +kernel
theorem d_Mo_wall_14 : decode b_Mo_wall 14 = .ok (.if_icmp .ge 60, 3) := by decide +kernel
theorem d_Mo_wall_17 : decode b_Mo_wall 17 = .ok (.iload_n 2, 1) := by decide +kernel
theorem d_Mo_wall_18 : decode b_Mo_wall 18 = .ok (.ifCond .lt 56, 3) := by decide +kernel
theorem d_Mo_wall_21 : decode b_Mo_wall 21 = .ok (.iload_n 2, 1) := by decide +kernel
theorem d_Mo_wall_22 : decode b_Mo_wall 22 = .ok (.aload_n 0, 1) := by decide +kernel
theorem d_Mo_wall_23 : decode b_Mo_wall 23 = .ok (.getfield 94, 3) := by decide +kernel
theorem d_Mo_wall_26 : decode b_Mo_wall 26 = .ok (.if_icmp .ge 48, 3) := by decide +kernel
theorem d_Mo_wall_29 : decode b_Mo_wall 29 = .ok (.iload_n 1, 1) := by decide +kernel
theorem d_Mo_wall_30 : decode b_Mo_wall 30 = .ok (.iload_n 2, 1) := by decide +kernel
theorem d_Mo_wall_31 : decode b_Mo_wall 31 = .ok (.if_icmp .eq 43, 3) := by decide +kernel
theorem d_Mo_wall_34 : decode b_Mo_wall 34 = .ok (.iload_n 3, 1) := by decide +kernel
theorem d_Mo_wall_35 : decode b_Mo_wall 35 = .ok (.ifCond .lt 39, 3) := by decide +kernel
theorem d_Mo_wall_38 : decode b_Mo_wall 38 = .ok (.iload_n 3, 1) := by decide +kernel
theorem d_Mo_wall_39 : decode b_Mo_wall 39 = .ok (.aload_n 0, 1) := by decide +kernel
theorem d_Mo_wall_40 : decode b_Mo_wall 40 = .ok (.getfield 97, 3) := by decide +kernel
theorem d_Mo_wall_43 : decode b_Mo_wall 43 = .ok (.if_icmp .ge 31, 3) := by decide +kernel
theorem d_Mo_wall_46 : decode b_Mo_wall 46 = .ok (.iload 4, 2) := by decide +kernel
theorem d_Mo_wall_48 : decode b_Mo_wall 48 = .ok (.iconst (-1), 1) := by decide +kernel
theorem d_Mo_wall_49 : decode b_Mo_wall 49 = .ok (.if_icmp .lt 25, 3) := by decide +kernel
theorem d_Mo_wall_52 : decode b_Mo_wall 52 = .ok (.iload 4, 2) := by decide +kernel
theorem d_Mo_wall_54 : decode b_Mo_wall 54 = .ok (.aload_n 0, 1) := by decide +kernel
theorem d_Mo_wall_55 : decode b_Mo_wall 55 = .ok (.getfield 97, 3) := by decide +kernel
theorem d_Mo_wall_58 : decode b_Mo_wall 58 = .ok (.if_icmp .ge 16, 3) := by decide +kernel
theorem d_Mo_wall_61 : decode b_Mo_wall 61 = .ok (.aload_n 0, 1) := by decide +kernel
theorem d_Mo_wall_62 : decode b_Mo_wall 62 = .ok (.getfield 100, 3) := by decide +kernel
theorem d_Mo_wall_65 : decode b_Mo_wall 65 = .ok (.bipush 64, 2) := by decide +kernel
theorem d_Mo_wall_67 : decode b_Mo_wall 67 = .ok (.if_icmp .ge 7, 3) := by decide +kernel
theorem d_Mo_wall_70 : decode b_Mo_wall 70 = .ok (.iconst 1, 1) := by decide +kernel
theorem d_Mo_wall_71 : decode b_Mo_wall 71 = .ok (.goto 4, 3) := by decide +kernel
theorem d_Mo_wall_74 : decode b_Mo_wall 74 = .ok (.iconst 0, 1) := by decide +kernel
theorem d_Mo_wall_75 : decode b_Mo_wall 75 = .ok (.istore 5, 2) := by decide +kernel
theorem d_Mo_wall_77 : decode b_Mo_wall 77 = .ok (.iload 5, 2) := by decide +kernel
theorem d_Mo_wall_79 : decode b_Mo_wall 79 = .ok (.ifCond .ne 5, 3) := by decide +kernel
theorem d_Mo_wall_82 : decode b_Mo_wall 82 = .ok (.iconst (-1), 1) := by decide +kernel
theorem d_Mo_wall_83 : decode b_Mo_wall 83 = .ok (.ireturn, 1) := by decide +kernel
theorem d_Mo_wall_84 : decode b_Mo_wall 84 = .ok (.aload_n 0, 1) := by decide +kernel
theorem d_Mo_wall_85 : decode b_Mo_wall 85 = .ok (.getfield 22, 3) := by decide +kernel
theorem d_Mo_wall_88 : decode b_Mo_wall 88 = .ok (.aload_n 0, 1) := by decide +kernel
theorem d_Mo_wall_89 : decode b_Mo_wall 89 = .ok (.getfield 100, 3) := by decide +kernel
theorem d_Mo_wall_92 : decode b_Mo_wall 92 = .ok (.iload_n 1, 1) := by decide +kernel
theorem d_Mo_wall_93 : decode b_Mo_wall 93 = .ok (.iastore, 1) := by decide +kernel
theorem d_Mo_wall_94 : decode b_Mo_wall 94 = .ok (.aload_n 0, 1) := by decide +kernel
theorem d_Mo_wall_95 : decode b_Mo_wall 95 = .ok (.getfield 25, 3) := by decide +kernel
theorem d_Mo_wall_98 : decode b_Mo_wall 98 = .ok (.aload_n 0, 1) := by decide +kernel
theorem d_Mo_wall_99 : decode b_Mo_wall 99 = .ok (.getfield 100, 3) := by decide +kernel
theorem d_Mo_wall_102 : decode b_Mo_wall 102 = .ok (.iload_n 2, 1) := by decide +kernel
theorem d_Mo_wall_103 : decode b_Mo_wall 103 = .ok (.iastore, 1) := by decide +kernel
theorem d_Mo_wall_104 : decode b_Mo_wall 104 = .ok (.aload_n 0, 1) := by decide +kernel
theorem d_Mo_wall_105 : decode b_Mo_wall 105 = .ok (.getfield 28, 3) := by decide +kernel
theorem d_Mo_wall_108 : decode b_Mo_wall 108 = .ok (.aload_n 0, 1) := by decide +kernel
theorem d_Mo_wall_109 : decode b_Mo_wall 109 = .ok (.getfield 100, 3) := by decide +kernel
theorem d_Mo_wall_112 : decode b_Mo_wall 112 = .ok (.iload_n 3, 1) := by decide +kernel
theorem d_Mo_wall_113 : decode b_Mo_wall 113 = .ok (.iastore, 1) := by decide +kernel
theorem d_Mo_wall_114 : decode b_Mo_wall 114 = .ok (.aload_n 0, 1) := by decide +kernel
theorem d_Mo_wall_115 : decode b_Mo_wall 115 = .ok (.getfield 31, 3) := by decide +kernel
theorem d_Mo_wall_118 : decode b_Mo_wall 118 = .ok (.aload_n 0, 1) := by decide +kernel
theorem d_Mo_wall_119 : decode b_Mo_wall 119 = .ok (.getfield 100, 3) := by decide +kernel
theorem d_Mo_wall_122 : decode b_Mo_wall 122 = .ok (.iload 4, 2) := by decide +kernel
theorem d_Mo_wall_124 : decode b_Mo_wall 124 = .ok (.iastore, 1) := by decide +kernel
theorem d_Mo_wall_125 : decode b_Mo_wall 125 = .ok (.aload_n 0, 1) := by decide +kernel
theorem d_Mo_wall_126 : decode b_Mo_wall 126 = .ok (.dup, 1) := by decide +kernel
theorem d_Mo_wall_127 : decode b_Mo_wall 127 = .ok (.getfield 100, 3) := by decide +kernel
theorem d_Mo_wall_130 : decode b_Mo_wall 130 = .ok (.iconst 1, 1) := by decide +kernel
theorem d_Mo_wall_131 : decode b_Mo_wall 131 = .ok (.iadd, 1) := by decide +kernel
theorem d_Mo_wall_132 : decode b_Mo_wall 132 = .ok (.putfield 100, 3) := by decide +kernel
theorem d_Mo_wall_135 : decode b_Mo_wall 135 = .ok (.aload_n 0, 1) := by decide +kernel
theorem d_Mo_wall_136 : decode b_Mo_wall 136 = .ok (.getfield 100, 3) := by decide +kernel
theorem d_Mo_wall_139 : decode b_Mo_wall 139 = .ok (.iconst 1, 1) := by decide +kernel
theorem d_Mo_wall_140 : decode b_Mo_wall 140 = .ok (.isub, 1) := by decide +kernel
theorem d_Mo_wall_141 : decode b_Mo_wall 141 = .ok (.ireturn, 1) := by decide +kernel
theorem d_Mo_drop_0 : decode b_Mo_drop 0 = .ok (.aload_n 0, 1) := by decide +kernel
theorem d_Mo_drop_1 : decode b_Mo_drop 1 = .ok (.iconst 0, 1) := by decide +kernel
theorem d_Mo_drop_2 : decode b_Mo_drop 2 = .ok (.putfield 87, 3) := by decide +kernel
theorem d_Mo_drop_5 : decode b_Mo_drop 5 = .ok (.aload_n 0, 1) := by decide +kernel
theorem d_Mo_drop_6 : decode b_Mo_drop 6 = .ok (.getfield 100, 3) := by decide +kernel
theorem d_Mo_drop_9 : decode b_Mo_drop 9 = .ok (.ifCond .ne 5, 3) := by decide +kernel
theorem d_Mo_drop_12 : decode b_Mo_drop 12 = .ok (.iconst 0, 1) := by decide +kernel
theorem d_Mo_drop_13 : decode b_Mo_drop 13 = .ok (.ireturn, 1) := by decide +kernel
theorem d_Mo_drop_14 : decode b_Mo_drop 14 = .ok (.aload_n 0, 1) := by decide +kernel
theorem d_Mo_drop_15 : decode b_Mo_drop 15 = .ok (.dup, 1) := by decide +kernel
theorem d_Mo_drop_16 : decode b_Mo_drop 16 = .ok (.getfield 100, 3) := by decide +kernel
theorem d_Mo_drop_19 : decode b_Mo_drop 19 = .ok (.iconst 1, 1) := by decide +kernel
theorem d_Mo_drop_20 : decode b_Mo_drop 20 = .ok (.isub, 1) := by decide +kernel
theorem d_Mo_drop_21 : decode b_Mo_drop 21 = .ok (.putfield 100, 3) := by decide +kernel
theorem d_Mo_drop_24 : decode b_Mo_drop 24 = .ok (.iconst 1, 1) := by decide +kernel
theorem d_Mo_drop_25 : decode b_Mo_drop 25 = .ok (.ireturn, 1) := by decide +kernel
theorem d_Mo_clear_0 : decode b_Mo_clear 0 = .ok (.aload_n 0, 1) := by decide +kernel
theorem d_Mo_clear_1 : decode b_Mo_clear 1 = .ok (.iconst 0, 1) := by decide +kernel
theorem d_Mo_clear_2 : decode b_Mo_clear 2 = .ok (.putfield 87, 3) := by decide +kernel
theorem d_Mo_clear_5 : decode b_Mo_clear 5 = .ok (.aload_n 0, 1) := by decide +kernel
theorem d_Mo_clear_6 : decode b_Mo_clear 6 = .ok (.iconst 0, 1) := by decide +kernel
theorem d_Mo_clear_7 : decode b_Mo_clear 7 = .ok (.putfield 94, 3) := by decide +kernel
theorem d_Mo_clear_10 : decode b_Mo_clear 10 = .ok (.aload_n 0, 1) := by decide +kernel
theorem d_Mo_clear_11 : decode b_Mo_clear 11 = .ok (.iconst 0, 1) := by decide +kernel
theorem d_Mo_clear_12 : decode b_Mo_clear 12 = .ok (.putfield 97, 3) := by decide +kernel
theorem d_Mo_clear_15 : decode b_Mo_clear 15 = .ok (.aload_n 0, 1) := by decide +kernel
theorem d_Mo_clear_16 : decode b_Mo_clear 16 = .ok (.iconst 0, 1) := by decide +kernel
theorem d_Mo_clear_17 : decode b_Mo_clear 17 = .ok (.putfield 100, 3) := by decide +kernel
theorem d_Mo_clear_20 : decode b_Mo_clear 20 = .ok (.return_, 1) := by decide +kernel
theorem d_Mo_side_0 : decode b_Mo_side 0 = .ok (.aload_n 0, 1) := by decide +kernel
theorem d_Mo_side_1 : decode b_Mo_side 1 = .ok (.getfield 7, 3) := by decide +kernel
theorem d_Mo_side_4 : decode b_Mo_side 4 = .ok (.iload_n 2, 1) := by decide +kernel
theorem d_Mo_side_5 : decode b_Mo_side 5 = .ok (.iaload, 1) := by decide +kernel
theorem d_Mo_side_6 : decode b_Mo_side 6 = .ok (.aload_n 0, 1) := by decide +kernel
theorem d_Mo_side_7 : decode b_Mo_side 7 = .ok (.getfield 7, 3) := by decide +kernel
theorem d_Mo_side_10 : decode b_Mo_side 10 = .ok (.iload_n 1, 1) := by decide +kernel
theorem d_Mo_side_11 : decode b_Mo_side 11 = .ok (.iaload, 1) := by decide +kernel
theorem d_Mo_side_12 : decode b_Mo_side 12 = .ok (.isub, 1) := by decide +kernel
theorem d_Mo_side_13 : decode b_Mo_side 13 = .ok (.i2l, 1) := by decide +kernel
theorem d_Mo_side_14 : decode b_Mo_side 14 = .ok (.aload_n 0, 1) := by decide +kernel
theorem d_Mo_side_15 : decode b_Mo_side 15 = .ok (.getfield 13, 3) := by decide +kernel
theorem d_Mo_side_18 : decode b_Mo_side 18 = .ok (.iload_n 3, 1) := by decide +kernel
theorem d_Mo_side_19 : decode b_Mo_side 19 = .ok (.iaload, 1) := by decide +kernel
theorem d_Mo_side_20 : decode b_Mo_side 20 = .ok (.aload_n 0, 1) := by decide +kernel
theorem d_Mo_side_21 : decode b_Mo_side 21 = .ok (.getfield 13, 3) := by decide +kernel
theorem d_Mo_side_24 : decode b_Mo_side 24 = .ok (.iload_n 1, 1) := by decide +kernel
theorem d_Mo_side_25 : decode b_Mo_side 25 = .ok (.iaload, 1) := by decide +kernel
theorem d_Mo_side_26 : decode b_Mo_side 26 = .ok (.isub, 1) := by decide +kernel
theorem d_Mo_side_27 : decode b_Mo_side 27 = .ok (.i2l, 1) := by decide +kernel
theorem d_Mo_side_28 : decode b_Mo_side 28 = .ok (.lmul, 1) := by decide +kernel
theorem d_Mo_side_29 : decode b_Mo_side 29 = .ok (.aload_n 0, 1) := by decide +kernel
theorem d_Mo_side_30 : decode b_Mo_side 30 = .ok (.getfield 13, 3) := by decide +kernel
theorem d_Mo_side_33 : decode b_Mo_side 33 = .ok (.iload_n 2, 1) := by decide +kernel
theorem d_Mo_side_34 : decode b_Mo_side 34 = .ok (.iaload, 1) := by decide +kernel
theorem d_Mo_side_35 : decode b_Mo_side 35 = .ok (.aload_n 0, 1) := by decide +kernel
theorem d_Mo_side_36 : decode b_Mo_side 36 = .ok (.getfield 13, 3) := by decide +kernel
theorem d_Mo_side_39 : decode b_Mo_side 39 = .ok (.iload_n 1, 1) := by decide +kernel
theorem d_Mo_side_40 : decode b_Mo_side 40 = .ok (.iaload, 1) := by decide +kernel
theorem d_Mo_side_41 : decode b_Mo_side 41 = .ok (.isub, 1) := by decide +kernel
theorem d_Mo_side_42 : decode b_Mo_side 42 = .ok (.i2l, 1) := by decide +kernel
theorem d_Mo_side_43 : decode b_Mo_side 43 = .ok (.aload_n 0, 1) := by decide +kernel
theorem d_Mo_side_44 : decode b_Mo_side 44 = .ok (.getfield 7, 3) := by decide +kernel
theorem d_Mo_side_47 : decode b_Mo_side 47 = .ok (.iload_n 3, 1) := by decide +kernel
theorem d_Mo_side_48 : decode b_Mo_side 48 = .ok (.iaload, 1) := by decide +kernel
theorem d_Mo_side_49 : decode b_Mo_side 49 = .ok (.aload_n 0, 1) := by decide +kernel
theorem d_Mo_side_50 : decode b_Mo_side 50 = .ok (.getfield 7, 3) := by decide +kernel
theorem d_Mo_side_53 : decode b_Mo_side 53 = .ok (.iload_n 1, 1) := by decide +kernel
theorem d_Mo_side_54 : decode b_Mo_side 54 = .ok (.iaload, 1) := by decide +kernel
theorem d_Mo_side_55 : decode b_Mo_side 55 = .ok (.isub, 1) := by decide +kernel
theorem d_Mo_side_56 : decode b_Mo_side 56 = .ok (.i2l, 1) := by decide +kernel
theorem d_Mo_side_57 : decode b_Mo_side 57 = .ok (.lmul, 1) := by decide +kernel
theorem d_Mo_side_58 : decode b_Mo_side 58 = .ok (.lsub, 1) := by decide +kernel
theorem d_Mo_side_59 : decode b_Mo_side 59 = .ok (.lstore 4, 2) := by decide +kernel
theorem d_Mo_side_61 : decode b_Mo_side 61 = .ok (.lload 4, 2) := by decide +kernel
theorem d_Mo_side_63 : decode b_Mo_side 63 = .ok (.lconst 0, 1) := by decide +kernel
theorem d_Mo_side_64 : decode b_Mo_side 64 = .ok (.lcmp, 1) := by decide +kernel
theorem d_Mo_side_65 : decode b_Mo_side 65 = .ok (.ifCond .ge 7, 3) := by decide +kernel
theorem d_Mo_side_68 : decode b_Mo_side 68 = .ok (.iconst (-1), 1) := by decide +kernel
theorem d_Mo_side_69 : decode b_Mo_side 69 = .ok (.goto 15, 3) := by decide +kernel
theorem d_Mo_side_72 : decode b_Mo_side 72 = .ok (.lload 4, 2) := by decide +kernel
theorem d_Mo_side_74 : decode b_Mo_side 74 = .ok (.lconst 0, 1) := by decide +kernel
theorem d_Mo_side_75 : decode b_Mo_side 75 = .ok (.lcmp, 1) := by decide +kernel
theorem d_Mo_side_76 : decode b_Mo_side 76 = .ok (.ifCond .le 7, 3) := by decide +kernel
theorem d_Mo_side_79 : decode b_Mo_side 79 = .ok (.iconst 1, 1) := by decide +kernel
theorem d_Mo_side_80 : decode b_Mo_side 80 = .ok (.goto 4, 3) := by decide +kernel
theorem d_Mo_side_83 : decode b_Mo_side 83 = .ok (.iconst 0, 1) := by decide +kernel
theorem d_Mo_side_84 : decode b_Mo_side 84 = .ok (.ireturn, 1) := by decide +kernel
theorem d_Mo_isBetween_0 : decode b_Mo_isBetween 0 = .ok (.iload_n 1, 1) := by decide +kernel
theorem d_Mo_isBetween_1 : decode b_Mo_isBetween 1 = .ok (.iload_n 2, 1) := by decide +kernel
theorem d_Mo_isBetween_2 : decode b_Mo_isBetween 2 = .ok (.if_icmp .ge 21, 3) := by decide +kernel
theorem d_Mo_isBetween_5 : decode b_Mo_isBetween 5 = .ok (.iload_n 0, 1) := by decide +kernel
theorem d_Mo_isBetween_6 : decode b_Mo_isBetween 6 = .ok (.iload_n 1, 1) := by decide +kernel
theorem d_Mo_isBetween_7 : decode b_Mo_isBetween 7 = .ok (.if_icmp .lt 12, 3) := by decide +kernel
theorem d_Mo_isBetween_10 : decode b_Mo_isBetween 10 = .ok (.iload_n 0, 1) := by decide +kernel
theorem d_Mo_isBetween_11 : decode b_Mo_isBetween 11 = .ok (.iload_n 2, 1) := by decide +kernel
theorem d_Mo_isBetween_12 : decode b_Mo_isBetween 12 = .ok (.if_icmp .gt 7, 3) := by decide +kernel
theorem d_Mo_isBetween_15 : decode b_Mo_isBetween 15 = .ok (.iconst 1, 1) := by decide +kernel
theorem d_Mo_isBetween_16 : decode b_Mo_isBetween 16 = .ok (.goto 22, 3) := by decide +kernel
theorem d_Mo_isBetween_19 : decode b_Mo_isBetween 19 = .ok (.iconst 0, 1) := by decide +kernel
theorem d_Mo_isBetween_20 : decode b_Mo_isBetween 20 = .ok (.goto 18, 3) := by decide +kernel
theorem d_Mo_isBetween_23 : decode b_Mo_isBetween 23 = .ok (.iload_n 0, 1) := by decide +kernel
theorem d_Mo_isBetween_24 : decode b_Mo_isBetween 24 = .ok (.iload_n 2, 1) := by decide +kernel
theorem d_Mo_isBetween_25 : decode b_Mo_isBetween 25 = .ok (.if_icmp .lt 12, 3) := by decide +kernel
theorem d_Mo_isBetween_28 : decode b_Mo_isBetween 28 = .ok (.iload_n 0, 1) := by decide +kernel
theorem d_Mo_isBetween_29 : decode b_Mo_isBetween 29 = .ok (.iload_n 1, 1) := by decide +kernel
theorem d_Mo_isBetween_30 : decode b_Mo_isBetween 30 = .ok (.if_icmp .gt 7, 3) := by decide +kernel
theorem d_Mo_isBetween_33 : decode b_Mo_isBetween 33 = .ok (.iconst 1, 1) := by decide +kernel
theorem d_Mo_isBetween_34 : decode b_Mo_isBetween 34 = .ok (.goto 4, 3) := by decide +kernel
theorem d_Mo_isBetween_37 : decode b_Mo_isBetween 37 = .ok (.iconst 0, 1) := by decide +kernel
theorem d_Mo_isBetween_38 : decode b_Mo_isBetween 38 = .ok (.ireturn, 1) := by decide +kernel
theorem d_Mo_isIn_0 : decode b_Mo_isIn 0 = .ok (.aload_n 0, 1) := by decide +kernel
theorem d_Mo_isIn_1 : decode b_Mo_isIn 1 = .ok (.getfield 22, 3) := by decide +kernel
theorem d_Mo_isIn_4 : decode b_Mo_isIn 4 = .ok (.iload_n 2, 1) := by decide +kernel
theorem d_Mo_isIn_5 : decode b_Mo_isIn 5 = .ok (.iaload, 1) := by decide +kernel
theorem d_Mo_isIn_6 : decode b_Mo_isIn 6 = .ok (.istore_n 3, 1) := by decide +kernel
theorem d_Mo_isIn_7 : decode b_Mo_isIn 7 = .ok (.aload_n 0, 1) := by decide +kernel
theorem d_Mo_isIn_8 : decode b_Mo_isIn 8 = .ok (.getfield 25, 3) := by decide +kernel
theorem d_Mo_isIn_11 : decode b_Mo_isIn 11 = .ok (.iload_n 2, 1) := by decide +kernel
theorem d_Mo_isIn_12 : decode b_Mo_isIn 12 = .ok (.iaload, 1) := by decide +kernel
theorem d_Mo_isIn_13 : decode b_Mo_isIn 13 = .ok (.istore 4, 2) := by decide +kernel
theorem d_Mo_isIn_15 : decode b_Mo_isIn 15 = .ok (.iload_n 1, 1) := by decide +kernel
theorem d_Mo_isIn_16 : decode b_Mo_isIn 16 = .ok (.iload_n 3, 1) := by decide +kernel
theorem d_Mo_isIn_17 : decode b_Mo_isIn 17 = .ok (.if_icmp .eq 74, 3) := by decide +kernel
theorem d_Mo_isIn_20 : decode b_Mo_isIn 20 = .ok (.iload_n 1, 1) := by decide +kernel
theorem d_Mo_isIn_21 : decode b_Mo_isIn 21 = .ok (.iload 4, 2) := by decide +kernel
theorem d_Mo_isIn_23 : decode b_Mo_isIn 23 = .ok (.if_icmp .eq 68, 3) := by decide +kernel
theorem d_Mo_isIn_26 : decode b_Mo_isIn 26 = .ok (.aload_n 0, 1) := by decide +kernel
theorem d_Mo_isIn_27 : decode b_Mo_isIn 27 = .ok (.iload_n 3, 1) := by decide +kernel
theorem d_Mo_isIn_28 : decode b_Mo_isIn 28 = .ok (.iload 4, 2) := by decide +kernel
theorem d_Mo_isIn_30 : decode b_Mo_isIn 30 = .ok (.iload_n 1, 1) := by decide +kernel
theorem d_Mo_isIn_31 : decode b_Mo_isIn 31 = .ok (.invokevirtual 103, 3) := by decide +kernel
theorem d_Mo_isIn_34 : decode b_Mo_isIn 34 = .ok (.ifCond .ne 57, 3) := by decide +kernel
theorem d_Mo_isIn_37 : decode b_Mo_isIn 37 = .ok (.aload_n 0, 1) := by decide +kernel
theorem d_Mo_isIn_38 : decode b_Mo_isIn 38 = .ok (.getfield 7, 3) := by decide +kernel
theorem d_Mo_isIn_41 : decode b_Mo_isIn 41 = .ok (.iload_n 1, 1) := by decide +kernel
theorem d_Mo_isIn_42 : decode b_Mo_isIn 42 = .ok (.iaload, 1) := by decide +kernel
theorem d_Mo_isIn_43 : decode b_Mo_isIn 43 = .ok (.aload_n 0, 1) := by decide +kernel
theorem d_Mo_isIn_44 : decode b_Mo_isIn 44 = .ok (.getfield 7, 3) := by decide +kernel
theorem d_Mo_isIn_47 : decode b_Mo_isIn 47 = .ok (.iload_n 3, 1) := by decide +kernel
theorem d_Mo_isIn_48 : decode b_Mo_isIn 48 = .ok (.iaload, 1) := by decide +kernel
theorem d_Mo_isIn_49 : decode b_Mo_isIn 49 = .ok (.aload_n 0, 1) := by decide +kernel
theorem d_Mo_isIn_50 : decode b_Mo_isIn 50 = .ok (.getfield 7, 3) := by decide +kernel
theorem d_Mo_isIn_53 : decode b_Mo_isIn 53 = .ok (.iload 4, 2) := by decide +kernel
theorem d_Mo_isIn_55 : decode b_Mo_isIn 55 = .ok (.iaload, 1) := by decide +kernel
theorem d_Mo_isIn_56 : decode b_Mo_isIn 56 = .ok (.invokestatic 107, 3) := by decide +kernel
theorem d_Mo_isIn_59 : decode b_Mo_isIn 59 = .ok (.ifCond .eq 32, 3) := by decide +kernel
theorem d_Mo_isIn_62 : decode b_Mo_isIn 62 = .ok (.aload_n 0, 1) := by decide +kernel
theorem d_Mo_isIn_63 : decode b_Mo_isIn 63 = .ok (.getfield 13, 3) := by decide +kernel
theorem d_Mo_isIn_66 : decode b_Mo_isIn 66 = .ok (.iload_n 1, 1) := by decide +kernel
theorem d_Mo_isIn_67 : decode b_Mo_isIn 67 = .ok (.iaload, 1) := by decide +kernel
theorem d_Mo_isIn_68 : decode b_Mo_isIn 68 = .ok (.aload_n 0, 1) := by decide +kernel
theorem d_Mo_isIn_69 : decode b_Mo_isIn 69 = .ok (.getfield 13, 3) := by decide +kernel
theorem d_Mo_isIn_72 : decode b_Mo_isIn 72 = .ok (.iload_n 3, 1) := by decide +kernel
theorem d_Mo_isIn_73 : decode b_Mo_isIn 73 = .ok (.iaload, 1) := by decide +kernel
theorem d_Mo_isIn_74 : decode b_Mo_isIn 74 = .ok (.aload_n 0, 1) := by decide +kernel
theorem d_Mo_isIn_75 : decode b_Mo_isIn 75 = .ok (.getfield 13, 3) := by decide +kernel
theorem d_Mo_isIn_78 : decode b_Mo_isIn 78 = .ok (.iload 4, 2) := by decide +kernel
theorem d_Mo_isIn_80 : decode b_Mo_isIn 80 = .ok (.iaload, 1) := by decide +kernel
theorem d_Mo_isIn_81 : decode b_Mo_isIn 81 = .ok (.invokestatic 107, 3) := by decide +kernel
theorem d_Mo_isIn_84 : decode b_Mo_isIn 84 = .ok (.ifCond .eq 7, 3) := by decide +kernel
theorem d_Mo_isIn_87 : decode b_Mo_isIn 87 = .ok (.iconst 1, 1) := by decide +kernel
theorem d_Mo_isIn_88 : decode b_Mo_isIn 88 = .ok (.goto 4, 3) := by decide +kernel
theorem d_Mo_isIn_91 : decode b_Mo_isIn 91 = .ok (.iconst 0, 1) := by decide +kernel
theorem d_Mo_isIn_92 : decode b_Mo_isIn 92 = .ok (.ireturn, 1) := by decide +kernel
theorem d_Mo_clash_0 : decode b_Mo_clash 0 = .ok (.aload_n 0, 1) := by decide +kernel
theorem d_Mo_clash_1 : decode b_Mo_clash 1 = .ok (.getfield 22, 3) := by decide +kernel
theorem d_Mo_clash_4 : decode b_Mo_clash 4 = .ok (.iload_n 1, 1) := by decide +kernel
theorem d_Mo_clash_5 : decode b_Mo_clash 5 = .ok (.iaload, 1) := by decide +kernel
theorem d_Mo_clash_6 : decode b_Mo_clash 6 = .ok (.istore_n 3, 1) := by decide +kernel
theorem d_Mo_clash_7 : decode b_Mo_clash 7 = .ok (.aload_n 0, 1) := by decide +kernel
theorem d_Mo_clash_8 : decode b_Mo_clash 8 = .ok (.getfield 25, 3) := by decide +kernel
theorem d_Mo_clash_11 : decode b_Mo_clash 11 = .ok (.iload_n 1, 1) := by decide +kernel
theorem d_Mo_clash_12 : decode b_Mo_clash 12 = .ok (.iaload, 1) := by decide +kernel
theorem d_Mo_clash_13 : decode b_Mo_clash 13 = .ok (.istore 4, 2) := by decide +kernel
theorem d_Mo_clash_15 : decode b_Mo_clash 15 = .ok (.aload_n 0, 1) := by decide +kernel
theorem d_Mo_clash_16 : decode b_Mo_clash 16 = .ok (.getfield 22, 3) := by decide +kernel
theorem d_Mo_clash_19 : decode b_Mo_clash 19 = .ok (.iload_n 2, 1) := by decide +kernel
theorem d_Mo_clash_20 : decode b_Mo_clash 20 = .ok (.iaload, 1) := by decide +kernel
theorem d_Mo_clash_21 : decode b_Mo_clash 21 = .ok (.istore 5, 2) := by decide +kernel
theorem d_Mo_clash_23 : decode b_Mo_clash 23 = .ok (.aload_n 0, 1) := by decide +kernel
theorem d_Mo_clash_24 : decode b_Mo_clash 24 = .ok (.getfield 25, 3) := by decide +kernel
theorem d_Mo_clash_27 : decode b_Mo_clash 27 = .ok (.iload_n 2, 1) := by decide +kernel
theorem d_Mo_clash_28 : decode b_Mo_clash 28 = .ok (.iaload, 1) := by decide +kernel
theorem d_Mo_clash_29 : decode b_Mo_clash 29 = .ok (.istore 6, 2) := by decide +kernel
theorem d_Mo_clash_31 : decode b_Mo_clash 31 = .ok (.iload_n 3, 1) := by decide +kernel
theorem d_Mo_clash_32 : decode b_Mo_clash 32 = .ok (.iload 5, 2) := by decide +kernel
theorem d_Mo_clash_34 : decode b_Mo_clash 34 = .ok (.if_icmp .ne 10, 3) := by decide +kernel
theorem d_Mo_clash_37 : decode b_Mo_clash 37 = .ok (.iload 4, 2) := by decide +kernel
theorem d_Mo_clash_39 : decode b_Mo_clash 39 = .ok (.iload 6, 2) := by decide +kernel
theorem d_Mo_clash_41 : decode b_Mo_clash 41 = .ok (.if_icmp .eq 55, 3) := by decide +kernel
theorem d_Mo_clash_44 : decode b_Mo_clash 44 = .ok (.iload_n 3, 1) := by decide +kernel
theorem d_Mo_clash_45 : decode b_Mo_clash 45 = .ok (.iload 6, 2) := by decide +kernel
theorem d_Mo_clash_47 : decode b_Mo_clash 47 = .ok (.if_icmp .ne 10, 3) := by decide +kernel
theorem d_Mo_clash_50 : decode b_Mo_clash 50 = .ok (.iload 4, 2) := by decide +kernel
theorem d_Mo_clash_52 : decode b_Mo_clash 52 = .ok (.iload 5, 2) := by decide +kernel
theorem d_Mo_clash_54 : decode b_Mo_clash 54 = .ok (.if_icmp .eq 42, 3) := by decide +kernel
theorem d_Mo_clash_57 : decode b_Mo_clash 57 = .ok (.aload_n 0, 1) := by decide +kernel
theorem d_Mo_clash_58 : decode b_Mo_clash 58 = .ok (.iload_n 3, 1) := by decide +kernel
theorem d_Mo_clash_59 : decode b_Mo_clash 59 = .ok (.iload_n 2, 1) := by decide +kernel
theorem d_Mo_clash_60 : decode b_Mo_clash 60 = .ok (.invokevirtual 111, 3) := by decide +kernel
theorem d_Mo_clash_63 : decode b_Mo_clash 63 = .ok (.ifCond .ne 33, 3) := by decide +kernel
theorem d_Mo_clash_66 : decode b_Mo_clash 66 = .ok (.aload_n 0, 1) := by decide +kernel
theorem d_Mo_clash_67 : decode b_Mo_clash 67 = .ok (.iload 4, 2) := by decide +kernel
theorem d_Mo_clash_69 : decode b_Mo_clash 69 = .ok (.iload_n 2, 1) := by decide +kernel
theorem d_Mo_clash_70 : decode b_Mo_clash 70 = .ok (.invokevirtual 111, 3) := by decide +kernel
theorem d_Mo_clash_73 : decode b_Mo_clash 73 = .ok (.ifCond .ne 23, 3) := by decide +kernel
theorem d_Mo_clash_76 : decode b_Mo_clash 76 = .ok (.aload_n 0, 1) := by decide +kernel
theorem d_Mo_clash_77 : decode b_Mo_clash 77 = .ok (.iload 5, 2) := by decide +kernel
theorem d_Mo_clash_79 : decode b_Mo_clash 79 = .ok (.iload_n 1, 1) := by decide +kernel
theorem d_Mo_clash_80 : decode b_Mo_clash 80 = .ok (.invokevirtual 111, 3) := by decide +kernel
theorem d_Mo_clash_83 : decode b_Mo_clash 83 = .ok (.ifCond .ne 13, 3) := by decide +kernel
theorem d_Mo_clash_86 : decode b_Mo_clash 86 = .ok (.aload_n 0, 1) := by decide +kernel
theorem d_Mo_clash_87 : decode b_Mo_clash 87 = .ok (.iload 6, 2) := by decide +kernel
theorem d_Mo_clash_89 : decode b_Mo_clash 89 = .ok (.iload_n 1, 1) := by decide +kernel
theorem d_Mo_clash_90 : decode b_Mo_clash 90 = .ok (.invokevirtual 111, 3) := by decide +kernel
theorem d_Mo_clash_93 : decode b_Mo_clash 93 = .ok (.ifCond .eq 5, 3) := by decide +kernel
theorem d_Mo_clash_96 : decode b_Mo_clash 96 = .ok (.iconst 1, 1) := by decide +kernel
theorem d_Mo_clash_97 : decode b_Mo_clash 97 = .ok (.ireturn, 1) := by decide +kernel
theorem d_Mo_clash_98 : decode b_Mo_clash 98 = .ok (.aload_n 0, 1) := by decide +kernel
theorem d_Mo_clash_99 : decode b_Mo_clash 99 = .ok (.iload_n 3, 1) := by decide +kernel
theorem d_Mo_clash_100 : decode b_Mo_clash 100 = .ok (.iload 4, 2) := by decide +kernel
theorem d_Mo_clash_102 : decode b_Mo_clash 102 = .ok (.iload 5, 2) := by decide +kernel
theorem d_Mo_clash_104 : decode b_Mo_clash 104 = .ok (.invokevirtual 103, 3) := by decide +kernel
theorem d_Mo_clash_107 : decode b_Mo_clash 107 = .ok (.aload_n 0, 1) := by decide +kernel
theorem d_Mo_clash_108 : decode b_Mo_clash 108 = .ok (.iload_n 3, 1) := by decide +kernel
theorem d_Mo_clash_109 : decode b_Mo_clash 109 = .ok (.iload 4, 2) := by decide +kernel
theorem d_Mo_clash_111 : decode b_Mo_clash 111 = .ok (.iload 6, 2) := by decide +kernel
theorem d_Mo_clash_113 : decode b_Mo_clash 113 = .ok (.invokevirtual 103, 3) := by decide +kernel
theorem d_Mo_clash_116 : decode b_Mo_clash 116 = .ok (.imul, 1) := by decide +kernel
theorem d_Mo_clash_117 : decode b_Mo_clash 117 = .ok (.ifCond .ge 30, 3) := by decide +kernel
theorem d_Mo_clash_120 : decode b_Mo_clash 120 = .ok (.aload_n 0, 1) := by decide +kernel
theorem d_Mo_clash_121 : decode b_Mo_clash 121 = .ok (.iload 5, 2) := by decide +kernel
theorem d_Mo_clash_123 : decode b_Mo_clash 123 = .ok (.iload 6, 2) := by decide +kernel
theorem d_Mo_clash_125 : decode b_Mo_clash 125 = .ok (.iload_n 3, 1) := by decide +kernel
theorem d_Mo_clash_126 : decode b_Mo_clash 126 = .ok (.invokevirtual 103, 3) := by decide +kernel
theorem d_Mo_clash_129 : decode b_Mo_clash 129 = .ok (.aload_n 0, 1) := by decide +kernel
theorem d_Mo_clash_130 : decode b_Mo_clash 130 = .ok (.iload 5, 2) := by decide +kernel
theorem d_Mo_clash_132 : decode b_Mo_clash 132 = .ok (.iload 6, 2) := by decide +kernel
theorem d_Mo_clash_134 : decode b_Mo_clash 134 = .ok (.iload 4, 2) := by decide +kernel
theorem d_Mo_clash_136 : decode b_Mo_clash 136 = .ok (.invokevirtual 103, 3) := by decide +kernel
theorem d_Mo_clash_139 : decode b_Mo_clash 139 = .ok (.imul, 1) := by decide +kernel
theorem d_Mo_clash_140 : decode b_Mo_clash 140 = .ok (.ifCond .ge 7, 3) := by decide +kernel
theorem d_Mo_clash_143 : decode b_Mo_clash 143 = .ok (.iconst 1, 1) := by decide +kernel
theorem d_Mo_clash_144 : decode b_Mo_clash 144 = .ok (.goto 4, 3) := by decide +kernel
theorem d_Mo_clash_147 : decode b_Mo_clash 147 = .ok (.iconst 0, 1) := by decide +kernel
theorem d_Mo_clash_148 : decode b_Mo_clash 148 = .ok (.ireturn, 1) := by decide +kernel
theorem d_Mo_build_0 : decode b_Mo_build 0 = .ok (.aload_n 0, 1) := by decide +kernel
theorem d_Mo_build_1 : decode b_Mo_build 1 = .ok (.iconst 0, 1) := by decide +kernel
theorem d_Mo_build_2 : decode b_Mo_build 2 = .ok (.putfield 87, 3) := by decide +kernel
theorem d_Mo_build_5 : decode b_Mo_build 5 = .ok (.iconst 0, 1) := by decide +kernel
theorem d_Mo_build_6 : decode b_Mo_build 6 = .ok (.istore_n 1, 1) := by decide +kernel
theorem d_Mo_build_7 : decode b_Mo_build 7 = .ok (.iload_n 1, 1) := by decide +kernel
theorem d_Mo_build_8 : decode b_Mo_build 8 = .ok (.aload_n 0, 1) := by decide +kernel
theorem d_Mo_build_9 : decode b_Mo_build 9 = .ok (.getfield 100, 3) := by decide +kernel
theorem d_Mo_build_12 : decode b_Mo_build 12 = .ok (.if_icmp .ge 33, 3) := by decide +kernel
theorem d_Mo_build_15 : decode b_Mo_build 15 = .ok (.iconst 0, 1) := by decide +kernel
theorem d_Mo_build_16 : decode b_Mo_build 16 = .ok (.istore_n 2, 1) := by decide +kernel
theorem d_Mo_build_17 : decode b_Mo_build 17 = .ok (.iload_n 2, 1) := by decide +kernel
theorem d_Mo_build_18 : decode b_Mo_build 18 = .ok (.iload_n 1, 1) := by decide +kernel
theorem d_Mo_build_19 : decode b_Mo_build 19 = .ok (.if_icmp .ge 20, 3) := by decide +kernel
theorem d_Mo_build_22 : decode b_Mo_build 22 = .ok (.aload_n 0, 1) := by decide +kernel
theorem d_Mo_build_23 : decode b_Mo_build 23 = .ok (.iload_n 1, 1) := by decide +kernel
theorem d_Mo_build_24 : decode b_Mo_build 24 = .ok (.iload_n 2, 1) := by decide +kernel
theorem d_Mo_build_25 : decode b_Mo_build 25 = .ok (.invokevirtual 114, 3) := by decide +kernel
theorem d_Mo_build_28 : decode b_Mo_build 28 = .ok (.ifCond .eq 5, 3) := by decide +kernel
theorem d_Mo_build_31 : decode b_Mo_build 31 = .ok (.iload_n 1, 1) := by decide +kernel
theorem d_Mo_build_32 : decode b_Mo_build 32 = .ok (.ireturn, 1) := by decide +kernel
theorem d_Mo_build_33 : decode b_Mo_build 33 = .ok (.iinc 2 1, 3) := by decide +kernel
theorem d_Mo_build_36 : decode b_Mo_build 36 = .ok (.goto (-19), 3) := by decide +kernel
theorem d_Mo_build_39 : decode b_Mo_build 39 = .ok (.iinc 1 1, 3) := by decide +kernel
theorem d_Mo_build_42 : decode b_Mo_build 42 = .ok (.goto (-35), 3) := by decide +kernel
theorem d_Mo_build_45 : decode b_Mo_build 45 = .ok (.aload_n 0, 1) := by decide +kernel
theorem d_Mo_build_46 : decode b_Mo_build 46 = .ok (.aload_n 0, 1) := by decide +kernel
theorem d_Mo_build_47 : decode b_Mo_build 47 = .ok (.getfield 94, 3) := by decide +kernel
theorem d_Mo_build_50 : decode b_Mo_build 50 = .ok (.putfield 117, 3) := by decide +kernel
theorem d_Mo_build_53 : decode b_Mo_build 53 = .ok (.aload_n 0, 1) := by decide +kernel
theorem d_Mo_build_54 : decode b_Mo_build 54 = .ok (.aload_n 0, 1) := by decide +kernel
theorem d_Mo_build_55 : decode b_Mo_build 55 = .ok (.getfield 97, 3) := by decide +kernel
theorem d_Mo_build_58 : decode b_Mo_build 58 = .ok (.putfield 120, 3) := by decide +kernel
theorem d_Mo_build_61 : decode b_Mo_build 61 = .ok (.aload_n 0, 1) := by decide +kernel
theorem d_Mo_build_62 : decode b_Mo_build 62 = .ok (.aload_n 0, 1) := by decide +kernel
theorem d_Mo_build_63 : decode b_Mo_build 63 = .ok (.getfield 100, 3) := by decide +kernel
theorem d_Mo_build_66 : decode b_Mo_build 66 = .ok (.putfield 123, 3) := by decide +kernel
theorem d_Mo_build_69 : decode b_Mo_build 69 = .ok (.iconst 0, 1) := by decide +kernel
theorem d_Mo_build_70 : decode b_Mo_build 70 = .ok (.istore_n 1, 1) := by decide +kernel
theorem d_Mo_build_71 : decode b_Mo_build 71 = .ok (.iload_n 1, 1) := by decide +kernel
theorem d_Mo_build_72 : decode b_Mo_build 72 = .ok (.aload_n 0, 1) := by decide +kernel
theorem d_Mo_build_73 : decode b_Mo_build 73 = .ok (.getfield 100, 3) := by decide +kernel
theorem d_Mo_build_76 : decode b_Mo_build 76 = .ok (.if_icmp .ge 101, 3) := by decide +kernel
theorem d_Mo_build_79 : decode b_Mo_build 79 = .ok (.aload_n 0, 1) := by decide +kernel
theorem d_Mo_build_80 : decode b_Mo_build 80 = .ok (.getfield 34, 3) := by decide +kernel
theorem d_Mo_build_83 : decode b_Mo_build 83 = .ok (.iload_n 1, 1) := by decide +kernel
theorem d_Mo_build_84 : decode b_Mo_build 84 = .ok (.aload_n 0, 1) := by decide +kernel
theorem d_Mo_build_85 : decode b_Mo_build 85 = .ok (.getfield 7, 3) := by decide +kernel
theorem d_Mo_build_88 : decode b_Mo_build 88 = .ok (.aload_n 0, 1) := by decide +kernel
theorem d_Mo_build_89 : decode b_Mo_build 89 = .ok (.getfield 22, 3) := by decide +kernel
theorem d_Mo_build_92 : decode b_Mo_build 92 = .ok (.iload_n 1, 1) := by decide +kernel
theorem d_Mo_build_93 : decode b_Mo_build 93 = .ok (.iaload, 1) := by decide +kernel
theorem d_Mo_build_94 : decode b_Mo_build 94 = .ok (.iaload, 1) := by decide +kernel
theorem d_Mo_build_95 : decode b_Mo_build 95 = .ok (.iastore, 1) := by decide +kernel
theorem d_Mo_build_96 : decode b_Mo_build 96 = .ok (.aload_n 0, 1) := by decide +kernel
theorem d_Mo_build_97 : decode b_Mo_build 97 = .ok (.getfield 37, 3) := by decide +kernel
theorem d_Mo_build_100 : decode b_Mo_build 100 = .ok (.iload_n 1, 1) := by decide +kernel
theorem d_Mo_build_101 : decode b_Mo_build 101 = .ok (.aload_n 0, 1) := by decide +kernel
theorem d_Mo_build_102 : decode b_Mo_build 102 = .ok (.getfield 13, 3) := by decide +kernel
theorem d_Mo_build_105 : decode b_Mo_build 105 = .ok (.aload_n 0, 1) := by decide +kernel
theorem d_Mo_build_106 : decode b_Mo_build 106 = .ok (.getfield 22, 3) := by decide +kernel
theorem d_Mo_build_109 : decode b_Mo_build 109 = .ok (.iload_n 1, 1) := by decide +kernel
theorem d_Mo_build_110 : decode b_Mo_build 110 = .ok (.iaload, 1) := by decide +kernel
theorem d_Mo_build_111 : decode b_Mo_build 111 = .ok (.iaload, 1) := by decide +kernel
theorem d_Mo_build_112 : decode b_Mo_build 112 = .ok (.iastore, 1) := by decide +kernel
theorem d_Mo_build_113 : decode b_Mo_build 113 = .ok (.aload_n 0, 1) := by decide +kernel
theorem d_Mo_build_114 : decode b_Mo_build 114 = .ok (.getfield 40, 3) := by decide +kernel
theorem d_Mo_build_117 : decode b_Mo_build 117 = .ok (.iload_n 1, 1) := by decide +kernel
theorem d_Mo_build_118 : decode b_Mo_build 118 = .ok (.aload_n 0, 1) := by decide +kernel
theorem d_Mo_build_119 : decode b_Mo_build 119 = .ok (.getfield 7, 3) := by decide +kernel
theorem d_Mo_build_122 : decode b_Mo_build 122 = .ok (.aload_n 0, 1) := by decide +kernel
theorem d_Mo_build_123 : decode b_Mo_build 123 = .ok (.getfield 25, 3) := by decide +kernel
theorem d_Mo_build_126 : decode b_Mo_build 126 = .ok (.iload_n 1, 1) := by decide +kernel
theorem d_Mo_build_127 : decode b_Mo_build 127 = .ok (.iaload, 1) := by decide +kernel
theorem d_Mo_build_128 : decode b_Mo_build 128 = .ok (.iaload, 1) := by decide +kernel
theorem d_Mo_build_129 : decode b_Mo_build 129 = .ok (.iastore, 1) := by decide +kernel
theorem d_Mo_build_130 : decode b_Mo_build 130 = .ok (.aload_n 0, 1) := by decide +kernel
theorem d_Mo_build_131 : decode b_Mo_build 131 = .ok (.getfield 43, 3) := by decide +kernel
theorem d_Mo_build_134 : decode b_Mo_build 134 = .ok (.iload_n 1, 1) := by decide +kernel
theorem d_Mo_build_135 : decode b_Mo_build 135 = .ok (.aload_n 0, 1) := by decide +kernel
theorem d_Mo_build_136 : decode b_Mo_build 136 = .ok (.getfield 13, 3) := by decide +kernel
theorem d_Mo_build_139 : decode b_Mo_build 139 = .ok (.aload_n 0, 1) := by decide +kernel
theorem d_Mo_build_140 : decode b_Mo_build 140 = .ok (.getfield 25, 3) := by decide +kernel
theorem d_Mo_build_143 : decode b_Mo_build 143 = .ok (.iload_n 1, 1) := by decide +kernel
theorem d_Mo_build_144 : decode b_Mo_build 144 = .ok (.iaload, 1) := by decide +kernel
theorem d_Mo_build_145 : decode b_Mo_build 145 = .ok (.iaload, 1) := by decide +kernel
theorem d_Mo_build_146 : decode b_Mo_build 146 = .ok (.iastore, 1) := by decide +kernel
theorem d_Mo_build_147 : decode b_Mo_build 147 = .ok (.aload_n 0, 1) := by decide +kernel
theorem d_Mo_build_148 : decode b_Mo_build 148 = .ok (.getfield 46, 3) := by decide +kernel
theorem d_Mo_build_151 : decode b_Mo_build 151 = .ok (.iload_n 1, 1) := by decide +kernel
theorem d_Mo_build_152 : decode b_Mo_build 152 = .ok (.aload_n 0, 1) := by decide +kernel
theorem d_Mo_build_153 : decode b_Mo_build 153 = .ok (.getfield 28, 3) := by decide +kernel
theorem d_Mo_build_156 : decode b_Mo_build 156 = .ok (.iload_n 1, 1) := by decide +kernel
theorem d_Mo_build_157 : decode b_Mo_build 157 = .ok (.iaload, 1) := by decide +kernel
theorem d_Mo_build_158 : decode b_Mo_build 158 = .ok (.iastore, 1) := by decide +kernel
theorem d_Mo_build_159 : decode b_Mo_build 159 = .ok (.aload_n 0, 1) := by decide +kernel
theorem d_Mo_build_160 : decode b_Mo_build 160 = .ok (.getfield 49, 3) := by decide +kernel
theorem d_Mo_build_163 : decode b_Mo_build 163 = .ok (.iload_n 1, 1) := by decide +kernel
theorem d_Mo_build_164 : decode b_Mo_build 164 = .ok (.aload_n 0, 1) := by decide +kernel
theorem d_Mo_build_165 : decode b_Mo_build 165 = .ok (.getfield 31, 3) := by decide +kernel
theorem d_Mo_build_168 : decode b_Mo_build 168 = .ok (.iload_n 1, 1) := by decide +kernel
theorem d_Mo_build_169 : decode b_Mo_build 169 = .ok (.iaload, 1) := by decide +kernel
theorem d_Mo_build_170 : decode b_Mo_build 170 = .ok (.iastore, 1) := by decide +kernel
theorem d_Mo_build_171 : decode b_Mo_build 171 = .ok (.iinc 1 1, 3) := by decide +kernel
theorem d_Mo_build_174 : decode b_Mo_build 174 = .ok (.goto (-103), 3) := by decide +kernel
theorem d_Mo_build_177 : decode b_Mo_build 177 = .ok (.iconst 0, 1) := by decide +kernel
theorem d_Mo_build_178 : decode b_Mo_build 178 = .ok (.istore_n 1, 1) := by decide +kernel
theorem d_Mo_build_179 : decode b_Mo_build 179 = .ok (.iload_n 1, 1) := by decide +kernel
theorem d_Mo_build_180 : decode b_Mo_build 180 = .ok (.aload_n 0, 1) := by decide +kernel
theorem d_Mo_build_181 : decode b_Mo_build 181 = .ok (.getfield 97, 3) := by decide +kernel
theorem d_Mo_build_184 : decode b_Mo_build 184 = .ok (.if_icmp .ge 33, 3) := by decide +kernel
theorem d_Mo_build_187 : decode b_Mo_build 187 = .ok (.aload_n 0, 1) := by decide +kernel
theorem d_Mo_build_188 : decode b_Mo_build 188 = .ok (.getfield 52, 3) := by decide +kernel
theorem d_Mo_build_191 : decode b_Mo_build 191 = .ok (.iload_n 1, 1) := by decide +kernel
theorem d_Mo_build_192 : decode b_Mo_build 192 = .ok (.aload_n 0, 1) := by decide +kernel
theorem d_Mo_build_193 : decode b_Mo_build 193 = .ok (.getfield 16, 3) := by decide +kernel
theorem d_Mo_build_196 : decode b_Mo_build 196 = .ok (.iload_n 1, 1) := by decide +kernel
theorem d_Mo_build_197 : decode b_Mo_build 197 = .ok (.iaload, 1) := by decide +kernel
theorem d_Mo_build_198 : decode b_Mo_build 198 = .ok (.iastore, 1) := by decide +kernel
theorem d_Mo_build_199 : decode b_Mo_build 199 = .ok (.aload_n 0, 1) := by decide +kernel
theorem d_Mo_build_200 : decode b_Mo_build 200 = .ok (.getfield 55, 3) := by decide +kernel
theorem d_Mo_build_203 : decode b_Mo_build 203 = .ok (.iload_n 1, 1) := by decide +kernel
theorem d_Mo_build_204 : decode b_Mo_build 204 = .ok (.aload_n 0, 1) := by decide +kernel
theorem d_Mo_build_205 : decode b_Mo_build 205 = .ok (.getfield 19, 3) := by decide +kernel
theorem d_Mo_build_208 : decode b_Mo_build 208 = .ok (.iload_n 1, 1) := by decide +kernel
theorem d_Mo_build_209 : decode b_Mo_build 209 = .ok (.iaload, 1) := by decide +kernel
theorem d_Mo_build_210 : decode b_Mo_build 210 = .ok (.iastore, 1) := by decide +kernel
theorem d_Mo_build_211 : decode b_Mo_build 211 = .ok (.iinc 1 1, 3) := by decide +kernel
theorem d_Mo_build_214 : decode b_Mo_build 214 = .ok (.goto (-35), 3) := by decide +kernel
theorem d_Mo_build_217 : decode b_Mo_build 217 = .ok (.aload_n 0, 1) := by decide +kernel
theorem d_Mo_build_218 : decode b_Mo_build 218 = .ok (.dup, 1) := by decide +kernel
theorem d_Mo_build_219 : decode b_Mo_build 219 = .ok (.getfield 126, 3) := by decide +kernel
theorem d_Mo_build_222 : decode b_Mo_build 222 = .ok (.iconst 1, 1) := by decide +kernel
theorem d_Mo_build_223 : decode b_Mo_build 223 = .ok (.iadd, 1) := by decide +kernel
theorem d_Mo_build_224 : decode b_Mo_build 224 = .ok (.putfield 126, 3) := by decide +kernel
theorem d_Mo_build_227 : decode b_Mo_build 227 = .ok (.aload_n 0, 1) := by decide +kernel
theorem d_Mo_build_228 : decode b_Mo_build 228 = .ok (.iconst 0, 1) := by decide +kernel
theorem d_Mo_build_229 : decode b_Mo_build 229 = .ok (.putfield 129, 3) := by decide +kernel
theorem d_Mo_build_232 : decode b_Mo_build 232 = .ok (.aload_n 0, 1) := by decide +kernel
theorem d_Mo_build_233 : decode b_Mo_build 233 = .ok (.iconst 0, 1) := by decide +kernel
theorem d_Mo_build_234 : decode b_Mo_build 234 = .ok (.putfield 133, 3) := by decide +kernel
theorem d_Mo_build_237 : decode b_Mo_build 237 = .ok (.aload_n 0, 1) := by decide +kernel
theorem d_Mo_build_238 : decode b_Mo_build 238 = .ok (.iconst (-1), 1) := by decide +kernel
theorem d_Mo_build_239 : decode b_Mo_build 239 = .ok (.putfield 83, 3) := by decide +kernel
theorem d_Mo_build_242 : decode b_Mo_build 242 = .ok (.iconst (-1), 1) := by decide +kernel
theorem d_Mo_build_243 : decode b_Mo_build 243 = .ok (.ireturn, 1) := by decide +kernel
theorem d_Mo_start_0 : decode b_Mo_start 0 = .ok (.aload_n 0, 1) := by decide +kernel
theorem d_Mo_start_1 : decode b_Mo_start 1 = .ok (.iconst 0, 1) := by decide +kernel
theorem d_Mo_start_2 : decode b_Mo_start 2 = .ok (.putfield 87, 3) := by decide +kernel
theorem d_Mo_start_5 : decode b_Mo_start 5 = .ok (.aload_n 0, 1) := by decide +kernel
theorem d_Mo_start_6 : decode b_Mo_start 6 = .ok (.getfield 126, 3) := by decide +kernel
theorem d_Mo_start_9 : decode b_Mo_start 9 = .ok (.ifCond .eq 47, 3) := by decide +kernel
theorem d_Mo_start_12 : decode b_Mo_start 12 = .ok (.iload_n 1, 1) := by decide +kernel
theorem d_Mo_start_13 : decode b_Mo_start 13 = .ok (.sipush 3000, 3) := by decide +kernel
theorem d_Mo_start_16 : decode b_Mo_start 16 = .ok (.invokestatic 90, 3) := by decide +kernel
theorem d_Mo_start_19 : decode b_Mo_start 19 = .ok (.ifCond .eq 37, 3) := by decide +kernel
theorem d_Mo_start_22 : decode b_Mo_start 22 = .ok (.iload_n 2, 1) := by decide +kernel
theorem d_Mo_start_23 : decode b_Mo_start 23 = .ok (.sipush 3000, 3) := by decide +kernel
theorem d_Mo_start_26 : decode b_Mo_start 26 = .ok (.invokestatic 90, 3) := by decide +kernel
theorem d_Mo_start_29 : decode b_Mo_start 29 = .ok (.ifCond .eq 27, 3) := by decide +kernel
theorem d_Mo_start_32 : decode b_Mo_start 32 = .ok (.iload_n 3, 1) := by decide +kernel
theorem d_Mo_start_33 : decode b_Mo_start 33 = .ok (.ifCond .lt 23, 3) := by decide +kernel
theorem d_Mo_start_36 : decode b_Mo_start 36 = .ok (.iload_n 3, 1) := by decide +kernel
theorem d_Mo_start_37 : decode b_Mo_start 37 = .ok (.bipush 63, 2) := by decide +kernel
theorem d_Mo_start_39 : decode b_Mo_start 39 = .ok (.if_icmp .gt 17, 3) := by decide +kernel
theorem d_Mo_start_42 : decode b_Mo_start 42 = .ok (.iload 4, 2) := by decide +kernel
theorem d_Mo_start_44 : decode b_Mo_start 44 = .ok (.ifCond .lt 12, 3) := by decide +kernel
theorem d_Mo_start_47 : decode b_Mo_start 47 = .ok (.iload 4, 2) := by decide +kernel
theorem d_Mo_start_49 : decode b_Mo_start 49 = .ok (.aload_n 0, 1) := by decide +kernel
theorem d_Mo_start_50 : decode b_Mo_start 50 = .ok (.getfield 120, 3) := by decide +kernel
theorem d_Mo_start_53 : decode b_Mo_start 53 = .ok (.if_icmp .lt 5, 3) := by decide +kernel
theorem d_Mo_start_56 : decode b_Mo_start 56 = .ok (.iconst 0, 1) := by decide +kernel
theorem d_Mo_start_57 : decode b_Mo_start 57 = .ok (.ireturn, 1) := by decide +kernel
theorem d_Mo_start_58 : decode b_Mo_start 58 = .ok (.aload_n 0, 1) := by decide +kernel
theorem d_Mo_start_59 : decode b_Mo_start 59 = .ok (.getfield 58, 3) := by decide +kernel
theorem d_Mo_start_62 : decode b_Mo_start 62 = .ok (.iconst 0, 1) := by decide +kernel
theorem d_Mo_start_63 : decode b_Mo_start 63 = .ok (.iload_n 1, 1) := by decide +kernel
theorem d_Mo_start_64 : decode b_Mo_start 64 = .ok (.iastore, 1) := by decide +kernel
theorem d_Mo_start_65 : decode b_Mo_start 65 = .ok (.aload_n 0, 1) := by decide +kernel
theorem d_Mo_start_66 : decode b_Mo_start 66 = .ok (.getfield 58, 3) := by decide +kernel
theorem d_Mo_start_69 : decode b_Mo_start 69 = .ok (.iconst 1, 1) := by decide +kernel
theorem d_Mo_start_70 : decode b_Mo_start 70 = .ok (.iload_n 2, 1) := by decide +kernel
theorem d_Mo_start_71 : decode b_Mo_start 71 = .ok (.iastore, 1) := by decide +kernel
theorem d_Mo_start_72 : decode b_Mo_start 72 = .ok (.aload_n 0, 1) := by decide +kernel
theorem d_Mo_start_73 : decode b_Mo_start 73 = .ok (.getfield 58, 3) := by decide +kernel
theorem d_Mo_start_76 : decode b_Mo_start 76 = .ok (.iconst 2, 1) := by decide +kernel
theorem d_Mo_start_77 : decode b_Mo_start 77 = .ok (.iload_n 3, 1) := by decide +kernel
theorem d_Mo_start_78 : decode b_Mo_start 78 = .ok (.iastore, 1) := by decide +kernel
theorem d_Mo_start_79 : decode b_Mo_start 79 = .ok (.aload_n 0, 1) := by decide +kernel
theorem d_Mo_start_80 : decode b_Mo_start 80 = .ok (.getfield 58, 3) := by decide +kernel
theorem d_Mo_start_83 : decode b_Mo_start 83 = .ok (.iconst 3, 1) := by decide +kernel
theorem d_Mo_start_84 : decode b_Mo_start 84 = .ok (.iload 4, 2) := by decide +kernel
theorem d_Mo_start_86 : decode b_Mo_start 86 = .ok (.iastore, 1) := by decide +kernel
theorem d_Mo_start_87 : decode b_Mo_start 87 = .ok (.aload_n 0, 1) := by decide +kernel
theorem d_Mo_start_88 : decode b_Mo_start 88 = .ok (.iconst 1, 1) := by decide +kernel
theorem d_Mo_start_89 : decode b_Mo_start 89 = .ok (.putfield 129, 3) := by decide +kernel
theorem d_Mo_start_92 : decode b_Mo_start 92 = .ok (.aload_n 0, 1) := by decide +kernel
theorem d_Mo_start_93 : decode b_Mo_start 93 = .ok (.invokevirtual 136, 3) := by decide +kernel
theorem d_Mo_start_96 : decode b_Mo_start 96 = .ok (.iconst 1, 1) := by decide +kernel
theorem d_Mo_start_97 : decode b_Mo_start 97 = .ok (.ireturn, 1) := by decide +kernel
theorem d_Mo_restart_0 : decode b_Mo_restart 0 = .ok (.iconst 0, 1) := by decide +kernel
theorem d_Mo_restart_1 : decode b_Mo_restart 1 = .ok (.istore_n 1, 1) := by decide +kernel
theorem d_Mo_restart_2 : decode b_Mo_restart 2 = .ok (.iload_n 1, 1) := by decide +kernel
theorem d_Mo_restart_3 : decode b_Mo_restart 3 = .ok (.iconst 4, 1) := by decide +kernel
theorem d_Mo_restart_4 : decode b_Mo_restart 4 = .ok (.if_icmp .ge 21, 3) := by decide +kernel
theorem d_Mo_restart_7 : decode b_Mo_restart 7 = .ok (.aload_n 0, 1) := by decide +kernel
theorem d_Mo_restart_8 : decode b_Mo_restart 8 = .ok (.getfield 61, 3) := by decide +kernel
theorem d_Mo_restart_11 : decode b_Mo_restart 11 = .ok (.iload_n 1, 1) := by decide +kernel
theorem d_Mo_restart_12 : decode b_Mo_restart 12 = .ok (.aload_n 0, 1) := by decide +kernel
theorem d_Mo_restart_13 : decode b_Mo_restart 13 = .ok (.getfield 58, 3) := by decide +kernel
theorem d_Mo_restart_16 : decode b_Mo_restart 16 = .ok (.iload_n 1, 1) := by decide +kernel
theorem d_Mo_restart_17 : decode b_Mo_restart 17 = .ok (.iaload, 1) := by decide +kernel
theorem d_Mo_restart_18 : decode b_Mo_restart 18 = .ok (.iastore, 1) := by decide +kernel
theorem d_Mo_restart_19 : decode b_Mo_restart 19 = .ok (.iinc 1 1, 3) := by decide +kernel
theorem d_Mo_restart_22 : decode b_Mo_restart 22 = .ok (.goto (-20), 3) := by decide +kernel
theorem d_Mo_restart_25 : decode b_Mo_restart 25 = .ok (.aload_n 0, 1) := by decide +kernel
theorem d_Mo_restart_26 : decode b_Mo_restart 26 = .ok (.iconst 0, 1) := by decide +kernel
theorem d_Mo_restart_27 : decode b_Mo_restart 27 = .ok (.putfield 133, 3) := by decide +kernel
theorem d_Mo_restart_30 : decode b_Mo_restart 30 = .ok (.aload_n 0, 1) := by decide +kernel
theorem d_Mo_restart_31 : decode b_Mo_restart 31 = .ok (.iconst (-1), 1) := by decide +kernel
theorem d_Mo_restart_32 : decode b_Mo_restart 32 = .ok (.putfield 83, 3) := by decide +kernel
theorem d_Mo_restart_35 : decode b_Mo_restart 35 = .ok (.return_, 1) := by decide +kernel
theorem d_Mo_isInput_0 : decode b_Mo_isInput 0 = .ok (.iload_n 0, 1) := by decide +kernel
theorem d_Mo_isInput_1 : decode b_Mo_isInput 1 = .ok (.bipush 64, 2) := by decide +kernel
theorem d_Mo_isInput_3 : decode b_Mo_isInput 3 = .ok (.invokestatic 90, 3) := by decide +kernel
theorem d_Mo_isInput_6 : decode b_Mo_isInput 6 = .ok (.ifCond .eq 25, 3) := by decide +kernel
theorem d_Mo_isInput_9 : decode b_Mo_isInput 9 = .ok (.iload_n 1, 1) := by decide +kernel
theorem d_Mo_isInput_10 : decode b_Mo_isInput 10 = .ok (.bipush 64, 2) := by decide +kernel
theorem d_Mo_isInput_12 : decode b_Mo_isInput 12 = .ok (.invokestatic 90, 3) := by decide +kernel
theorem d_Mo_isInput_15 : decode b_Mo_isInput 15 = .ok (.ifCond .eq 16, 3) := by decide +kernel
theorem d_Mo_isInput_18 : decode b_Mo_isInput 18 = .ok (.iload_n 2, 1) := by decide +kernel
theorem d_Mo_isInput_19 : decode b_Mo_isInput 19 = .ok (.bipush 16, 2) := by decide +kernel
theorem d_Mo_isInput_21 : decode b_Mo_isInput 21 = .ok (.invokestatic 90, 3) := by decide +kernel
theorem d_Mo_isInput_24 : decode b_Mo_isInput 24 = .ok (.ifCond .eq 7, 3) := by decide +kernel
theorem d_Mo_isInput_27 : decode b_Mo_isInput 27 = .ok (.iconst 1, 1) := by decide +kernel
theorem d_Mo_isInput_28 : decode b_Mo_isInput 28 = .ok (.goto 4, 3) := by decide +kernel
theorem d_Mo_isInput_31 : decode b_Mo_isInput 31 = .ok (.iconst 0, 1) := by decide +kernel
theorem d_Mo_isInput_32 : decode b_Mo_isInput 32 = .ok (.ireturn, 1) := by decide +kernel
theorem d_Mo_input_0 : decode b_Mo_input 0 = .ok (.aload_n 0, 1) := by decide +kernel
theorem d_Mo_input_1 : decode b_Mo_input 1 = .ok (.iconst 0, 1) := by decide +kernel
theorem d_Mo_input_2 : decode b_Mo_input 2 = .ok (.putfield 87, 3) := by decide +kernel
theorem d_Mo_input_5 : decode b_Mo_input 5 = .ok (.iload_n 1, 1) := by decide +kernel
theorem d_Mo_input_6 : decode b_Mo_input 6 = .ok (.iload_n 2, 1) := by decide +kernel
theorem d_Mo_input_7 : decode b_Mo_input 7 = .ok (.iload_n 3, 1) := by decide +kernel
theorem d_Mo_input_8 : decode b_Mo_input 8 = .ok (.invokestatic 139, 3) := by decide +kernel
theorem d_Mo_input_11 : decode b_Mo_input 11 = .ok (.ifCond .eq 13, 3) := by decide +kernel
theorem d_Mo_input_14 : decode b_Mo_input 14 = .ok (.aload_n 0, 1) := by decide +kernel
theorem d_Mo_input_15 : decode b_Mo_input 15 = .ok (.getfield 142, 3) := by decide +kernel
theorem d_Mo_input_18 : decode b_Mo_input 18 = .ok (.sipush 256, 3) := by decide +kernel
theorem d_Mo_input_21 : decode b_Mo_input 21 = .ok (.if_icmp .ne 5, 3) := by decide +kernel
theorem d_Mo_input_24 : decode b_Mo_input 24 = .ok (.iconst (-1), 1) := by decide +kernel
theorem d_Mo_input_25 : decode b_Mo_input 25 = .ok (.ireturn, 1) := by decide +kernel
theorem d_Mo_input_26 : decode b_Mo_input 26 = .ok (.aload_n 0, 1) := by decide +kernel
theorem d_Mo_input_27 : decode b_Mo_input 27 = .ok (.getfield 64, 3) := by decide +kernel
theorem d_Mo_input_30 : decode b_Mo_input 30 = .ok (.aload_n 0, 1) := by decide +kernel
theorem d_Mo_input_31 : decode b_Mo_input 31 = .ok (.getfield 142, 3) := by decide +kernel
theorem d_Mo_input_34 : decode b_Mo_input 34 = .ok (.iload_n 1, 1) := by decide +kernel
theorem d_Mo_input_35 : decode b_Mo_input 35 = .ok (.iastore, 1) := by decide +kernel
theorem d_Mo_input_36 : decode b_Mo_input 36 = .ok (.aload_n 0, 1) := by decide +kernel
theorem d_Mo_input_37 : decode b_Mo_input 37 = .ok (.getfield 67, 3) := by decide +kernel
theorem d_Mo_input_40 : decode b_Mo_input 40 = .ok (.aload_n 0, 1) := by decide +kernel
theorem d_Mo_input_41 : decode b_Mo_input 41 = .ok (.getfield 142, 3) := by decide +kernel
theorem d_Mo_input_44 : decode b_Mo_input 44 = .ok (.iload_n 2, 1) := by decide +kernel
theorem d_Mo_input_45 : decode b_Mo_input 45 = .ok (.iastore, 1) := by decide +kernel
theorem d_Mo_input_46 : decode b_Mo_input 46 = .ok (.aload_n 0, 1) := by decide +kernel
theorem d_Mo_input_47 : decode b_Mo_input 47 = .ok (.getfield 70, 3) := by decide +kernel
theorem d_Mo_input_50 : decode b_Mo_input 50 = .ok (.aload_n 0, 1) := by decide +kernel
theorem d_Mo_input_51 : decode b_Mo_input 51 = .ok (.getfield 142, 3) := by decide +kernel
theorem d_Mo_input_54 : decode b_Mo_input 54 = .ok (.iload_n 3, 1) := by decide +kernel
theorem d_Mo_input_55 : decode b_Mo_input 55 = .ok (.iastore, 1) := by decide +kernel
theorem d_Mo_input_56 : decode b_Mo_input 56 = .ok (.aload_n 0, 1) := by decide +kernel
theorem d_Mo_input_57 : decode b_Mo_input 57 = .ok (.dup, 1) := by decide +kernel
theorem d_Mo_input_58 : decode b_Mo_input 58 = .ok (.getfield 142, 3) := by decide +kernel
theorem d_Mo_input_61 : decode b_Mo_input 61 = .ok (.iconst 1, 1) := by decide +kernel
theorem d_Mo_input_62 : decode b_Mo_input 62 = .ok (.iadd, 1) := by decide +kernel
theorem d_Mo_input_63 : decode b_Mo_input 63 = .ok (.putfield 142, 3) := by decide +kernel
theorem d_Mo_input_66 : decode b_Mo_input 66 = .ok (.aload_n 0, 1) := by decide +kernel
theorem d_Mo_input_67 : decode b_Mo_input 67 = .ok (.getfield 142, 3) := by decide +kernel
theorem d_Mo_input_70 : decode b_Mo_input 70 = .ok (.ireturn, 1) := by decide +kernel
theorem d_Mo_undo_0 : decode b_Mo_undo 0 = .ok (.aload_n 0, 1) := by decide +kernel
theorem d_Mo_undo_1 : decode b_Mo_undo 1 = .ok (.iconst 0, 1) := by decide +kernel
theorem d_Mo_undo_2 : decode b_Mo_undo 2 = .ok (.putfield 87, 3) := by decide +kernel
theorem d_Mo_undo_5 : decode b_Mo_undo 5 = .ok (.iload_n 1, 1) := by decide +kernel
theorem d_Mo_undo_6 : decode b_Mo_undo 6 = .ok (.ifCond .lt 11, 3) := by decide +kernel
theorem d_Mo_undo_9 : decode b_Mo_undo 9 = .ok (.iload_n 1, 1) := by decide +kernel
theorem d_Mo_undo_10 : decode b_Mo_undo 10 = .ok (.aload_n 0, 1) := by decide +kernel
theorem d_Mo_undo_11 : decode b_Mo_undo 11 = .ok (.getfield 142, 3) := by decide +kernel
theorem d_Mo_undo_14 : decode b_Mo_undo 14 = .ok (.if_icmp .le 5, 3) := by decide +kernel
theorem d_Mo_undo_17 : decode b_Mo_undo 17 = .ok (.iconst 0, 1) := by decide +kernel
theorem d_Mo_undo_18 : decode b_Mo_undo 18 = .ok (.ireturn, 1) := by decide +kernel
theorem d_Mo_undo_19 : decode b_Mo_undo 19 = .ok (.aload_n 0, 1) := by decide +kernel
theorem d_Mo_undo_20 : decode b_Mo_undo 20 = .ok (.dup, 1) := by decide +kernel
theorem d_Mo_undo_21 : decode b_Mo_undo 21 = .ok (.getfield 142, 3) := by decide +kernel
theorem d_Mo_undo_24 : decode b_Mo_undo 24 = .ok (.iload_n 1, 1) := by decide +kernel
theorem d_Mo_undo_25 : decode b_Mo_undo 25 = .ok (.isub, 1) := by decide +kernel
theorem d_Mo_undo_26 : decode b_Mo_undo 26 = .ok (.putfield 142, 3) := by decide +kernel
theorem d_Mo_undo_29 : decode b_Mo_undo 29 = .ok (.iconst 1, 1) := by decide +kernel
theorem d_Mo_undo_30 : decode b_Mo_undo 30 = .ok (.ireturn, 1) := by decide +kernel
theorem d_Mo_k_0 : decode b_Mo_k 0 = .ok (.iload_n 0, 1) := by decide +kernel
theorem d_Mo_k_1 : decode b_Mo_k 1 = .ok (.tableswitch 138 0 15 #[79, 83, 87, 91, 95, 99, 103, 107, 111, 115, 119, 123, 126, 129, 132, 135], 79) := by decide +kernel
theorem d_Mo_k_80 : decode b_Mo_k 80 = .ok (.sipush 256, 3) := by decide +kernel
theorem d_Mo_k_83 : decode b_Mo_k 83 = .ok (.ireturn, 1) := by decide +kernel
theorem d_Mo_k_84 : decode b_Mo_k 84 = .ok (.sipush 255, 3) := by decide +kernel
theorem d_Mo_k_87 : decode b_Mo_k 87 = .ok (.ireturn, 1) := by decide +kernel
theorem d_Mo_k_88 : decode b_Mo_k 88 = .ok (.sipush 251, 3) := by decide +kernel
theorem d_Mo_k_91 : decode b_Mo_k 91 = .ok (.ireturn, 1) := by decide +kernel
theorem d_Mo_k_92 : decode b_Mo_k 92 = .ok (.sipush 245, 3) := by decide +kernel
theorem d_Mo_k_95 : decode b_Mo_k 95 = .ok (.ireturn, 1) := by decide +kernel
theorem d_Mo_k_96 : decode b_Mo_k 96 = .ok (.sipush 237, 3) := by decide +kernel
theorem d_Mo_k_99 : decode b_Mo_k 99 = .ok (.ireturn, 1) := by decide +kernel
theorem d_Mo_k_100 : decode b_Mo_k 100 = .ok (.sipush 226, 3) := by decide +kernel
theorem d_Mo_k_103 : decode b_Mo_k 103 = .ok (.ireturn, 1) := by decide +kernel
theorem d_Mo_k_104 : decode b_Mo_k 104 = .ok (.sipush 213, 3) := by decide +kernel
theorem d_Mo_k_107 : decode b_Mo_k 107 = .ok (.ireturn, 1) := by decide +kernel
theorem d_Mo_k_108 : decode b_Mo_k 108 = .ok (.sipush 198, 3) := by decide +kernel
theorem d_Mo_k_111 : decode b_Mo_k 111 = .ok (.ireturn, 1) := by decide +kernel
theorem d_Mo_k_112 : decode b_Mo_k 112 = .ok (.sipush 181, 3) := by decide +kernel
theorem d_Mo_k_115 : decode b_Mo_k 115 = .ok (.ireturn, 1) := by decide +kernel
theorem d_Mo_k_116 : decode b_Mo_k 116 = .ok (.sipush 162, 3) := by decide +kernel
theorem d_Mo_k_119 : decode b_Mo_k 119 = .ok (.ireturn, 1) := by decide +kernel
theorem d_Mo_k_120 : decode b_Mo_k 120 = .ok (.sipush 142, 3) := by decide +kernel
theorem d_Mo_k_123 : decode b_Mo_k 123 = .ok (.ireturn, 1) := by decide +kernel
theorem d_Mo_k_124 : decode b_Mo_k 124 = .ok (.bipush 121, 2) := by decide +kernel
theorem d_Mo_k_126 : decode b_Mo_k 126 = .ok (.ireturn, 1) := by decide +kernel
theorem d_Mo_k_127 : decode b_Mo_k 127 = .ok (.bipush 98, 2) := by decide +kernel
theorem d_Mo_k_129 : decode b_Mo_k 129 = .ok (.ireturn, 1) := by decide +kernel
theorem d_Mo_k_130 : decode b_Mo_k 130 = .ok (.bipush 74, 2) := by decide +kernel
theorem d_Mo_k_132 : decode b_Mo_k 132 = .ok (.ireturn, 1) := by decide +kernel
theorem d_Mo_k_133 : decode b_Mo_k 133 = .ok (.bipush 50, 2) := by decide +kernel
theorem d_Mo_k_135 : decode b_Mo_k 135 = .ok (.ireturn, 1) := by decide +kernel
theorem d_Mo_k_136 : decode b_Mo_k 136 = .ok (.bipush 25, 2) := by decide +kernel
theorem d_Mo_k_138 : decode b_Mo_k 138 = .ok (.ireturn, 1) := by decide +kernel
theorem d_Mo_k_139 : decode b_Mo_k 139 = .ok (.iconst 0, 1) := by decide +kernel
theorem d_Mo_k_140 : decode b_Mo_k 140 = .ok (.ireturn, 1) := by decide +kernel
theorem d_Mo_c_0 : decode b_Mo_c 0 = .ok (.iload_n 0, 1) := by decide +kernel
theorem d_Mo_c_1 : decode b_Mo_c 1 = .ok (.bipush 17, 2) := by decide +kernel
theorem d_Mo_c_3 : decode b_Mo_c 3 = .ok (.if_icmp .ge 10, 3) := by decide +kernel
theorem d_Mo_c_6 : decode b_Mo_c 6 = .ok (.iload_n 0, 1) := by decide +kernel
theorem d_Mo_c_7 : decode b_Mo_c 7 = .ok (.invokestatic 145, 3) := by decide +kernel
theorem d_Mo_c_10 : decode b_Mo_c 10 = .ok (.goto 44, 3) := by decide +kernel
theorem d_Mo_c_13 : decode b_Mo_c 13 = .ok (.iload_n 0, 1) := by decide +kernel
theorem d_Mo_c_14 : decode b_Mo_c 14 = .ok (.bipush 33, 2) := by decide +kernel
theorem d_Mo_c_16 : decode b_Mo_c 16 = .ok (.if_icmp .ge 14, 3) := by decide +kernel
theorem d_Mo_c_19 : decode b_Mo_c 19 = .ok (.bipush 32, 2) := by decide +kernel
theorem d_Mo_c_21 : decode b_Mo_c 21 = .ok (.iload_n 0, 1) := by decide +kernel
theorem d_Mo_c_22 : decode b_Mo_c 22 = .ok (.isub, 1) := by decide +kernel
theorem d_Mo_c_23 : decode b_Mo_c 23 = .ok (.invokestatic 145, 3) := by decide +kernel
theorem d_Mo_c_26 : decode b_Mo_c 26 = .ok (.ineg, 1) := by decide +kernel
theorem d_Mo_c_27 : decode b_Mo_c 27 = .ok (.goto 27, 3) := by decide +kernel
theorem d_Mo_c_30 : decode b_Mo_c 30 = .ok (.iload_n 0, 1) := by decide +kernel
theorem d_Mo_c_31 : decode b_Mo_c 31 = .ok (.bipush 49, 2) := by decide +kernel
theorem d_Mo_c_33 : decode b_Mo_c 33 = .ok (.if_icmp .ge 14, 3) := by decide +kernel
theorem d_Mo_c_36 : decode b_Mo_c 36 = .ok (.iload_n 0, 1) := by decide +kernel
theorem d_Mo_c_37 : decode b_Mo_c 37 = .ok (.bipush 32, 2) := by decide +kernel
theorem d_Mo_c_39 : decode b_Mo_c 39 = .ok (.isub, 1) := by decide +kernel
theorem d_Mo_c_40 : decode b_Mo_c 40 = .ok (.invokestatic 145, 3) := by decide +kernel
theorem d_Mo_c_43 : decode b_Mo_c 43 = .ok (.ineg, 1) := by decide +kernel
theorem d_Mo_c_44 : decode b_Mo_c 44 = .ok (.goto 10, 3) := by decide +kernel
theorem d_Mo_c_47 : decode b_Mo_c 47 = .ok (.bipush 64, 2) := by decide +kernel
theorem d_Mo_c_49 : decode b_Mo_c 49 = .ok (.iload_n 0, 1) := by decide +kernel
theorem d_Mo_c_50 : decode b_Mo_c 50 = .ok (.isub, 1) := by decide +kernel
theorem d_Mo_c_51 : decode b_Mo_c 51 = .ok (.invokestatic 145, 3) := by decide +kernel
theorem d_Mo_c_54 : decode b_Mo_c 54 = .ok (.ireturn, 1) := by decide +kernel
theorem d_Mo_s_0 : decode b_Mo_s 0 = .ok (.iload_n 0, 1) := by decide +kernel
theorem d_Mo_s_1 : decode b_Mo_s 1 = .ok (.bipush 48, 2) := by decide +kernel
theorem d_Mo_s_3 : decode b_Mo_s 3 = .ok (.iadd, 1) := by decide +kernel
theorem d_Mo_s_4 : decode b_Mo_s 4 = .ok (.bipush 64, 2) := by decide +kernel
theorem d_Mo_s_6 : decode b_Mo_s 6 = .ok (.irem, 1) := by decide +kernel
theorem d_Mo_s_7 : decode b_Mo_s 7 = .ok (.invokestatic 149, 3) := by decide +kernel
theorem d_Mo_s_10 : decode b_Mo_s 10 = .ok (.ireturn, 1) := by decide +kernel
theorem d_Mo_part_0 : decode b_Mo_part 0 = .ok (.iload_n 0, 1) := by decide +kernel
theorem d_Mo_part_1 : decode b_Mo_part 1 = .ok (.sipush 256, 3) := by decide +kernel
theorem d_Mo_part_4 : decode b_Mo_part 4 = .ok (.idiv, 1) := by decide +kernel
theorem d_Mo_part_5 : decode b_Mo_part 5 = .ok (.istore_n 1, 1) := by decide +kernel
theorem d_Mo_part_6 : decode b_Mo_part 6 = .ok (.iload_n 0, 1) := by decide +kernel
theorem d_Mo_part_7 : decode b_Mo_part 7 = .ok (.ifCond .ge 18, 3) := by decide +kernel
theorem d_Mo_part_10 : decode b_Mo_part 10 = .ok (.iload_n 1, 1) := by decide +kernel
theorem d_Mo_part_11 : decode b_Mo_part 11 = .ok (.sipush 256, 3) := by decide +kernel
theorem d_Mo_part_14 : decode b_Mo_part 14 = .ok (.imul, 1) := by decide +kernel
theorem d_Mo_part_15 : decode b_Mo_part 15 = .ok (.iload_n 0, 1) := by decide +kernel
theorem d_Mo_part_16 : decode b_Mo_part 16 = .ok (.if_icmp .eq 9, 3) := by decide +kernel
theorem d_Mo_part_19 : decode b_Mo_part 19 = .ok (.iload_n 1, 1) := by decide +kernel
theorem d_Mo_part_20 : decode b_Mo_part 20 = .ok (.iconst 1, 1) := by decide +kernel
theorem d_Mo_part_21 : decode b_Mo_part 21 = .ok (.isub, 1) := by decide +kernel
theorem d_Mo_part_22 : decode b_Mo_part 22 = .ok (.goto 4, 3) := by decide +kernel
theorem d_Mo_part_25 : decode b_Mo_part 25 = .ok (.iload_n 1, 1) := by decide +kernel
theorem d_Mo_part_26 : decode b_Mo_part 26 = .ok (.ireturn, 1) := by decide +kernel
theorem d_Mo_cross_0 : decode b_Mo_cross 0 = .ok (.aload_n 0, 1) := by decide +kernel
theorem d_Mo_cross_1 : decode b_Mo_cross 1 = .ok (.iconst 0, 1) := by decide +kernel
theorem d_Mo_cross_2 : decode b_Mo_cross 2 = .ok (.putfield 133, 3) := by decide +kernel
theorem d_Mo_cross_5 : decode b_Mo_cross 5 = .ok (.iconst 0, 1) := by decide +kernel
theorem d_Mo_cross_6 : decode b_Mo_cross 6 = .ok (.istore_n 3, 1) := by decide +kernel
theorem d_Mo_cross_7 : decode b_Mo_cross 7 = .ok (.iload_n 3, 1) := by decide +kernel
theorem d_Mo_cross_8 : decode b_Mo_cross 8 = .ok (.aload_n 0, 1) := by decide +kernel
theorem d_Mo_cross_9 : decode b_Mo_cross 9 = .ok (.getfield 123, 3) := by decide +kernel
theorem d_Mo_cross_12 : decode b_Mo_cross 12 = .ok (.if_icmp .ge 280, 3) := by decide +kernel
theorem d_Mo_cross_15 : decode b_Mo_cross 15 = .ok (.iload_n 1, 1) := by decide +kernel
theorem d_Mo_cross_16 : decode b_Mo_cross 16 = .ok (.i2l, 1) := by decide +kernel
theorem d_Mo_cross_17 : decode b_Mo_cross 17 = .ok (.aload_n 0, 1) := by decide +kernel
theorem d_Mo_cross_18 : decode b_Mo_cross 18 = .ok (.getfield 37, 3) := by decide +kernel
theorem d_Mo_cross_21 : decode b_Mo_cross 21 = .ok (.iload_n 3, 1) := by decide +kernel
theorem d_Mo_cross_22 : decode b_Mo_cross 22 = .ok (.iaload, 1) := by decide +kernel
theorem d_Mo_cross_23 : decode b_Mo_cross 23 = .ok (.aload_n 0, 1) := by decide +kernel
theorem d_Mo_cross_24 : decode b_Mo_cross 24 = .ok (.getfield 61, 3) := by decide +kernel
theorem d_Mo_cross_27 : decode b_Mo_cross 27 = .ok (.iconst 1, 1) := by decide +kernel
theorem d_Mo_cross_28 : decode b_Mo_cross 28 = .ok (.iaload, 1) := by decide +kernel
theorem d_Mo_cross_29 : decode b_Mo_cross 29 = .ok (.isub, 1) := by decide +kernel
theorem d_Mo_cross_30 : decode b_Mo_cross 30 = .ok (.i2l, 1) := by decide +kernel
theorem d_Mo_cross_31 : decode b_Mo_cross 31 = .ok (.lmul, 1) := by decide +kernel
theorem d_Mo_cross_32 : decode b_Mo_cross 32 = .ok (.iload_n 2, 1) := by decide +kernel
theorem d_Mo_cross_33 : decode b_Mo_cross 33 = .ok (.i2l, 1) := by decide +kernel
theorem d_Mo_cross_34 : decode b_Mo_cross 34 = .ok (.aload_n 0, 1) := by decide +kernel
theorem d_Mo_cross_35 : decode b_Mo_cross 35 = .ok (.getfield 34, 3) := by decide +kernel
theorem d_Mo_cross_38 : decode b_Mo_cross 38 = .ok (.iload_n 3, 1) := by decide +kernel
theorem d_Mo_cross_39 : decode b_Mo_cross 39 = .ok (.iaload, 1) := by decide +kernel
theorem d_Mo_cross_40 : decode b_Mo_cross 40 = .ok (.aload_n 0, 1) := by decide +kernel
theorem d_Mo_cross_41 : decode b_Mo_cross 41 = .ok (.getfield 61, 3) := by decide +kernel
theorem d_Mo_cross_44 : decode b_Mo_cross 44 = .ok (.iconst 0, 1) := by decide +kernel
theorem d_Mo_cross_45 : decode b_Mo_cross 45 = .ok (.iaload, 1) := by decide +kernel
theorem d_Mo_cross_46 : decode b_Mo_cross 46 = .ok (.isub, 1) := by decide +kernel
theorem d_Mo_cross_47 : decode b_Mo_cross 47 = .ok (.i2l, 1) := by decide +kernel
theorem d_Mo_cross_48 : decode b_Mo_cross 48 = .ok (.lmul, 1) := by decide +kernel
theorem d_Mo_cross_49 : decode b_Mo_cross 49 = .ok (.lsub, 1) := by decide +kernel
theorem d_Mo_cross_50 : decode b_Mo_cross 50 = .ok (.lstore 4, 2) := by decide +kernel
theorem d_Mo_cross_52 : decode b_Mo_cross 52 = .ok (.iload_n 1, 1) := by decide +kernel
theorem d_Mo_cross_53 : decode b_Mo_cross 53 = .ok (.i2l, 1) := by decide +kernel
theorem d_Mo_cross_54 : decode b_Mo_cross 54 = .ok (.aload_n 0, 1) := by decide +kernel
theorem d_Mo_cross_55 : decode b_Mo_cross 55 = .ok (.getfield 43, 3) := by decide +kernel
theorem d_Mo_cross_58 : decode b_Mo_cross 58 = .ok (.iload_n 3, 1) := by decide +kernel
theorem d_Mo_cross_59 : decode b_Mo_cross 59 = .ok (.iaload, 1) := by decide +kernel
theorem d_Mo_cross_60 : decode b_Mo_cross 60 = .ok (.aload_n 0, 1) := by decide +kernel
theorem d_Mo_cross_61 : decode b_Mo_cross 61 = .ok (.getfield 61, 3) := by decide +kernel
theorem d_Mo_cross_64 : decode b_Mo_cross 64 = .ok (.iconst 1, 1) := by decide +kernel
theorem d_Mo_cross_65 : decode b_Mo_cross 65 = .ok (.iaload, 1) := by decide +kernel
theorem d_Mo_cross_66 : decode b_Mo_cross 66 = .ok (.isub, 1) := by decide +kernel
theorem d_Mo_cross_67 : decode b_Mo_cross 67 = .ok (.i2l, 1) := by decide +kernel
theorem d_Mo_cross_68 : decode b_Mo_cross 68 = .ok (.lmul, 1) := by decide +kernel
theorem d_Mo_cross_69 : decode b_Mo_cross 69 = .ok (.iload_n 2, 1) := by decide +kernel
theorem d_Mo_cross_70 : decode b_Mo_cross 70 = .ok (.i2l, 1) := by decide +kernel
theorem d_Mo_cross_71 : decode b_Mo_cross 71 = .ok (.aload_n 0, 1) := by decide +kernel
theorem d_Mo_cross_72 : decode b_Mo_cross 72 = .ok (.getfield 40, 3) := by decide +kernel
theorem d_Mo_cross_75 : decode b_Mo_cross 75 = .ok (.iload_n 3, 1) := by decide +kernel
theorem d_Mo_cross_76 : decode b_Mo_cross 76 = .ok (.iaload, 1) := by decide +kernel
theorem d_Mo_cross_77 : decode b_Mo_cross 77 = .ok (.aload_n 0, 1) := by decide +kernel
theorem d_Mo_cross_78 : decode b_Mo_cross 78 = .ok (.getfield 61, 3) := by decide +kernel
theorem d_Mo_cross_81 : decode b_Mo_cross 81 = .ok (.iconst 0, 1) := by decide +kernel
theorem d_Mo_cross_82 : decode b_Mo_cross 82 = .ok (.iaload, 1) := by decide +kernel
theorem d_Mo_cross_83 : decode b_Mo_cross 83 = .ok (.isub, 1) := by decide +kernel
theorem d_Mo_cross_84 : decode b_Mo_cross 84 = .ok (.i2l, 1) := by decide +kernel
theorem d_Mo_cross_85 : decode b_Mo_cross 85 = .ok (.lmul, 1) := by decide +kernel
theorem d_Mo_cross_86 : decode b_Mo_cross 86 = .ok (.lsub, 1) := by decide +kernel
theorem d_Mo_cross_87 : decode b_Mo_cross 87 = .ok (.lstore 6, 2) := by decide +kernel
theorem d_Mo_cross_89 : decode b_Mo_cross 89 = .ok (.aload_n 0, 1) := by decide +kernel
theorem d_Mo_cross_90 : decode b_Mo_cross 90 = .ok (.getfield 34, 3) := by decide +kernel
theorem d_Mo_cross_93 : decode b_Mo_cross 93 = .ok (.iload_n 3, 1) := by decide +kernel
theorem d_Mo_cross_94 : decode b_Mo_cross 94 = .ok (.iaload, 1) := by decide +kernel
theorem d_Mo_cross_95 : decode b_Mo_cross 95 = .ok (.aload_n 0, 1) := by decide +kernel
theorem d_Mo_cross_96 : decode b_Mo_cross 96 = .ok (.getfield 61, 3) := by decide +kernel
theorem d_Mo_cross_99 : decode b_Mo_cross 99 = .ok (.iconst 0, 1) := by decide +kernel
theorem d_Mo_cross_100 : decode b_Mo_cross 100 = .ok (.iaload, 1) := by decide +kernel
theorem d_Mo_cross_101 : decode b_Mo_cross 101 = .ok (.isub, 1) := by decide +kernel
theorem d_Mo_cross_102 : decode b_Mo_cross 102 = .ok (.i2l, 1) := by decide +kernel
theorem d_Mo_cross_103 : decode b_Mo_cross 103 = .ok (.aload_n 0, 1) := by decide +kernel
theorem d_Mo_cross_104 : decode b_Mo_cross 104 = .ok (.getfield 43, 3) := by decide +kernel
theorem d_Mo_cross_107 : decode b_Mo_cross 107 = .ok (.iload_n 3, 1) := by decide +kernel
theorem d_Mo_cross_108 : decode b_Mo_cross 108 = .ok (.iaload, 1) := by decide +kernel
theorem d_Mo_cross_109 : decode b_Mo_cross 109 = .ok (.aload_n 0, 1) := by decide +kernel
theorem d_Mo_cross_110 : decode b_Mo_cross 110 = .ok (.getfield 37, 3) := by decide +kernel
theorem d_Mo_cross_113 : decode b_Mo_cross 113 = .ok (.iload_n 3, 1) := by decide +kernel
theorem d_Mo_cross_114 : decode b_Mo_cross 114 = .ok (.iaload, 1) := by decide +kernel
theorem d_Mo_cross_115 : decode b_Mo_cross 115 = .ok (.isub, 1) := by decide +kernel
theorem d_Mo_cross_116 : decode b_Mo_cross 116 = .ok (.i2l, 1) := by decide +kernel
theorem d_Mo_cross_117 : decode b_Mo_cross 117 = .ok (.lmul, 1) := by decide +kernel
theorem d_Mo_cross_118 : decode b_Mo_cross 118 = .ok (.aload_n 0, 1) := by decide +kernel
theorem d_Mo_cross_119 : decode b_Mo_cross 119 = .ok (.getfield 37, 3) := by decide +kernel
theorem d_Mo_cross_122 : decode b_Mo_cross 122 = .ok (.iload_n 3, 1) := by decide +kernel
theorem d_Mo_cross_123 : decode b_Mo_cross 123 = .ok (.iaload, 1) := by decide +kernel
theorem d_Mo_cross_124 : decode b_Mo_cross 124 = .ok (.aload_n 0, 1) := by decide +kernel
theorem d_Mo_cross_125 : decode b_Mo_cross 125 = .ok (.getfield 61, 3) := by decide +kernel
theorem d_Mo_cross_128 : decode b_Mo_cross 128 = .ok (.iconst 1, 1) := by decide +kernel
theorem d_Mo_cross_129 : decode b_Mo_cross 129 = .ok (.iaload, 1) := by decide +kernel
theorem d_Mo_cross_130 : decode b_Mo_cross 130 = .ok (.isub, 1) := by decide +kernel
theorem d_Mo_cross_131 : decode b_Mo_cross 131 = .ok (.i2l, 1) := by decide +kernel
theorem d_Mo_cross_132 : decode b_Mo_cross 132 = .ok (.aload_n 0, 1) := by decide +kernel
theorem d_Mo_cross_133 : decode b_Mo_cross 133 = .ok (.getfield 40, 3) := by decide +kernel
theorem d_Mo_cross_136 : decode b_Mo_cross 136 = .ok (.iload_n 3, 1) := by decide +kernel
theorem d_Mo_cross_137 : decode b_Mo_cross 137 = .ok (.iaload, 1) := by decide +kernel
theorem d_Mo_cross_138 : decode b_Mo_cross 138 = .ok (.aload_n 0, 1) := by decide +kernel
theorem d_Mo_cross_139 : decode b_Mo_cross 139 = .ok (.getfield 34, 3) := by decide +kernel
theorem d_Mo_cross_142 : decode b_Mo_cross 142 = .ok (.iload_n 3, 1) := by decide +kernel
theorem d_Mo_cross_143 : decode b_Mo_cross 143 = .ok (.iaload, 1) := by decide +kernel
theorem d_Mo_cross_144 : decode b_Mo_cross 144 = .ok (.isub, 1) := by decide +kernel
theorem d_Mo_cross_145 : decode b_Mo_cross 145 = .ok (.i2l, 1) := by decide +kernel
theorem d_Mo_cross_146 : decode b_Mo_cross 146 = .ok (.lmul, 1) := by decide +kernel
theorem d_Mo_cross_147 : decode b_Mo_cross 147 = .ok (.lsub, 1) := by decide +kernel
theorem d_Mo_cross_148 : decode b_Mo_cross 148 = .ok (.lstore 8, 2) := by decide +kernel
theorem d_Mo_cross_150 : decode b_Mo_cross 150 = .ok (.lload 6, 2) := by decide +kernel
theorem d_Mo_cross_152 : decode b_Mo_cross 152 = .ok (.lload 4, 2) := by decide +kernel
theorem d_Mo_cross_154 : decode b_Mo_cross 154 = .ok (.lsub, 1) := by decide +kernel
theorem d_Mo_cross_155 : decode b_Mo_cross 155 = .ok (.lstore 10, 2) := by decide +kernel
theorem d_Mo_cross_157 : decode b_Mo_cross 157 = .ok (.lload 4, 2) := by decide +kernel
theorem d_Mo_cross_159 : decode b_Mo_cross 159 = .ok (.lconst 0, 1) := by decide +kernel
theorem d_Mo_cross_160 : decode b_Mo_cross 160 = .ok (.lcmp, 1) := by decide +kernel
theorem d_Mo_cross_161 : decode b_Mo_cross 161 = .ok (.ifCond .ge 7, 3) := by decide +kernel
theorem d_Mo_cross_164 : decode b_Mo_cross 164 = .ok (.iconst 1, 1) := by decide +kernel
theorem d_Mo_cross_165 : decode b_Mo_cross 165 = .ok (.goto 4, 3) := by decide +kernel
theorem d_Mo_cross_168 : decode b_Mo_cross 168 = .ok (.iconst 0, 1) := by decide +kernel
theorem d_Mo_cross_169 : decode b_Mo_cross 169 = .ok (.lload 6, 2) := by decide +kernel
theorem d_Mo_cross_171 : decode b_Mo_cross 171 = .ok (.lconst 0, 1) := by decide +kernel
theorem d_Mo_cross_172 : decode b_Mo_cross 172 = .ok (.lcmp, 1) := by decide +kernel
theorem d_Mo_cross_173 : decode b_Mo_cross 173 = .ok (.ifCond .ge 7, 3) := by decide +kernel
theorem d_Mo_cross_176 : decode b_Mo_cross 176 = .ok (.iconst 1, 1) := by decide +kernel
theorem d_Mo_cross_177 : decode b_Mo_cross 177 = .ok (.goto 4, 3) := by decide +kernel
theorem d_Mo_cross_180 : decode b_Mo_cross 180 = .ok (.iconst 0, 1) := by decide +kernel
theorem d_Mo_cross_181 : decode b_Mo_cross 181 = .ok (.if_icmp .eq 105, 3) := by decide +kernel
theorem d_Mo_cross_184 : decode b_Mo_cross 184 = .ok (.lload 8, 2) := by decide +kernel
theorem d_Mo_cross_186 : decode b_Mo_cross 186 = .ok (.lconst 0, 1) := by decide +kernel
theorem d_Mo_cross_187 : decode b_Mo_cross 187 = .ok (.lcmp, 1) := by decide +kernel
theorem d_Mo_cross_188 : decode b_Mo_cross 188 = .ok (.ifCond .eq 98, 3) := by decide +kernel
theorem d_Mo_cross_191 : decode b_Mo_cross 191 = .ok (.lload 8, 2) := by decide +kernel
theorem d_Mo_cross_193 : decode b_Mo_cross 193 = .ok (.lconst 0, 1) := by decide +kernel
theorem d_Mo_cross_194 : decode b_Mo_cross 194 = .ok (.lcmp, 1) := by decide +kernel
theorem d_Mo_cross_195 : decode b_Mo_cross 195 = .ok (.ifCond .ge 7, 3) := by decide +kernel
theorem d_Mo_cross_198 : decode b_Mo_cross 198 = .ok (.iconst 1, 1) := by decide +kernel
theorem d_Mo_cross_199 : decode b_Mo_cross 199 = .ok (.goto 4, 3) := by decide +kernel
theorem d_Mo_cross_202 : decode b_Mo_cross 202 = .ok (.iconst 0, 1) := by decide +kernel
theorem d_Mo_cross_203 : decode b_Mo_cross 203 = .ok (.lload 10, 2) := by decide +kernel
theorem d_Mo_cross_205 : decode b_Mo_cross 205 = .ok (.lconst 0, 1) := by decide +kernel
theorem d_Mo_cross_206 : decode b_Mo_cross 206 = .ok (.lcmp, 1) := by decide +kernel
theorem d_Mo_cross_207 : decode b_Mo_cross 207 = .ok (.ifCond .ge 7, 3) := by decide +kernel
theorem d_Mo_cross_210 : decode b_Mo_cross 210 = .ok (.iconst 1, 1) := by decide +kernel
theorem d_Mo_cross_211 : decode b_Mo_cross 211 = .ok (.goto 4, 3) := by decide +kernel
theorem d_Mo_cross_214 : decode b_Mo_cross 214 = .ok (.iconst 0, 1) := by decide +kernel
theorem d_Mo_cross_215 : decode b_Mo_cross 215 = .ok (.if_icmp .ne 71, 3) := by decide +kernel
theorem d_Mo_cross_218 : decode b_Mo_cross 218 = .ok (.lload 8, 2) := by decide +kernel
theorem d_Mo_cross_220 : decode b_Mo_cross 220 = .ok (.lconst 0, 1) := by decide +kernel
theorem d_Mo_cross_221 : decode b_Mo_cross 221 = .ok (.lcmp, 1) := by decide +kernel
theorem d_Mo_cross_222 : decode b_Mo_cross 222 = .ok (.ifCond .ge 9, 3) := by decide +kernel
theorem d_Mo_cross_225 : decode b_Mo_cross 225 = .ok (.lload 8, 2) := by decide +kernel
theorem d_Mo_cross_227 : decode b_Mo_cross 227 = .ok (.lneg, 1) := by decide +kernel
theorem d_Mo_cross_228 : decode b_Mo_cross 228 = .ok (.goto 5, 3) := by decide +kernel
theorem d_Mo_cross_231 : decode b_Mo_cross 231 = .ok (.lload 8, 2) := by decide +kernel
theorem d_Mo_cross_233 : decode b_Mo_cross 233 = .ok (.lstore 12, 2) := by decide +kernel
theorem d_Mo_cross_235 : decode b_Mo_cross 235 = .ok (.lload 10, 2) := by decide +kernel
theorem d_Mo_cross_237 : decode b_Mo_cross 237 = .ok (.lconst 0, 1) := by decide +kernel
theorem d_Mo_cross_238 : decode b_Mo_cross 238 = .ok (.lcmp, 1) := by decide +kernel
theorem d_Mo_cross_239 : decode b_Mo_cross 239 = .ok (.ifCond .ge 9, 3) := by decide +kernel
theorem d_Mo_cross_242 : decode b_Mo_cross 242 = .ok (.lload 10, 2) := by decide +kernel
theorem d_Mo_cross_244 : decode b_Mo_cross 244 = .ok (.lneg, 1) := by decide +kernel
theorem d_Mo_cross_245 : decode b_Mo_cross 245 = .ok (.goto 5, 3) := by decide +kernel
theorem d_Mo_cross_248 : decode b_Mo_cross 248 = .ok (.lload 10, 2) := by decide +kernel
theorem d_Mo_cross_250 : decode b_Mo_cross 250 = .ok (.lstore 14, 2) := by decide +kernel
theorem d_Mo_cross_252 : decode b_Mo_cross 252 = .ok (.lload 12, 2) := by decide +kernel
theorem d_Mo_cross_254 : decode b_Mo_cross 254 = .ok (.lload 14, 2) := by decide +kernel
theorem d_Mo_cross_256 : decode b_Mo_cross 256 = .ok (.lcmp, 1) := by decide +kernel
theorem d_Mo_cross_257 : decode b_Mo_cross 257 = .ok (.ifCond .gt 29, 3) := by decide +kernel
theorem d_Mo_cross_260 : decode b_Mo_cross 260 = .ok (.aload_n 0, 1) := by decide +kernel
theorem d_Mo_cross_261 : decode b_Mo_cross 261 = .ok (.lload 8, 2) := by decide +kernel
theorem d_Mo_cross_263 : decode b_Mo_cross 263 = .ok (.lconst 0, 1) := by decide +kernel
theorem d_Mo_cross_264 : decode b_Mo_cross 264 = .ok (.lcmp, 1) := by decide +kernel
theorem d_Mo_cross_265 : decode b_Mo_cross 265 = .ok (.ifCond .ge 9, 3) := by decide +kernel
theorem d_Mo_cross_268 : decode b_Mo_cross 268 = .ok (.iconst 2, 1) := by decide +kernel
theorem d_Mo_cross_269 : decode b_Mo_cross 269 = .ok (.iload_n 3, 1) := by decide +kernel
theorem d_Mo_cross_270 : decode b_Mo_cross 270 = .ok (.imul, 1) := by decide +kernel
theorem d_Mo_cross_271 : decode b_Mo_cross 271 = .ok (.goto 8, 3) := by decide +kernel
theorem d_Mo_cross_274 : decode b_Mo_cross 274 = .ok (.iconst 2, 1) := by decide +kernel
theorem d_Mo_cross_275 : decode b_Mo_cross 275 = .ok (.iload_n 3, 1) := by decide +kernel
theorem d_Mo_cross_276 : decode b_Mo_cross 276 = .ok (.imul, 1) := by decide +kernel
theorem d_Mo_cross_277 : decode b_Mo_cross 277 = .ok (.iconst 1, 1) := by decide +kernel
theorem d_Mo_cross_278 : decode b_Mo_cross 278 = .ok (.iadd, 1) := by decide +kernel
theorem d_Mo_cross_279 : decode b_Mo_cross 279 = .ok (.lload 12, 2) := by decide +kernel
theorem d_Mo_cross_281 : decode b_Mo_cross 281 = .ok (.lload 14, 2) := by decide +kernel
theorem d_Mo_cross_283 : decode b_Mo_cross 283 = .ok (.invokevirtual 152, 3) := by decide +kernel
theorem d_Mo_cross_286 : decode b_Mo_cross 286 = .ok (.iinc 3 1, 3) := by decide +kernel
theorem d_Mo_cross_289 : decode b_Mo_cross 289 = .ok (.goto (-282), 3) := by decide +kernel
theorem d_Mo_cross_292 : decode b_Mo_cross 292 = .ok (.return_, 1) := by decide +kernel
theorem d_Mo_add_0 : decode b_Mo_add 0 = .ok (.aload_n 0, 1) := by decide +kernel
theorem d_Mo_add_1 : decode b_Mo_add 1 = .ok (.getfield 133, 3) := by decide +kernel
theorem d_Mo_add_4 : decode b_Mo_add 4 = .ok (.istore 6, 2) := by decide +kernel
theorem d_Mo_add_6 : decode b_Mo_add 6 = .ok (.iload 6, 2) := by decide +kernel
theorem d_Mo_add_8 : decode b_Mo_add 8 = .ok (.ifCond .le 84, 3) := by decide +kernel
theorem d_Mo_add_11 : decode b_Mo_add 11 = .ok (.aload_n 0, 1) := by decide +kernel
theorem d_Mo_add_12 : decode b_Mo_add 12 = .ok (.getfield 76, 3) := by decide +kernel
theorem d_Mo_add_15 : decode b_Mo_add 15 = .ok (.iload 6, 2) := by decide +kernel
theorem d_Mo_add_17 : decode b_Mo_add 17 = .ok (.iconst 1, 1) := by decide +kernel
theorem d_Mo_add_18 : decode b_Mo_add 18 = .ok (.isub, 1) := by decide +kernel
theorem d_Mo_add_19 : decode b_Mo_add 19 = .ok (.laload, 1) := by decide +kernel
theorem d_Mo_add_20 : decode b_Mo_add 20 = .ok (.lload 4, 2) := by decide +kernel
theorem d_Mo_add_22 : decode b_Mo_add 22 = .ok (.lmul, 1) := by decide +kernel
theorem d_Mo_add_23 : decode b_Mo_add 23 = .ok (.lload_n 2, 1) := by decide +kernel
theorem d_Mo_add_24 : decode b_Mo_add 24 = .ok (.aload_n 0, 1) := by decide +kernel
theorem d_Mo_add_25 : decode b_Mo_add 25 = .ok (.getfield 80, 3) := by decide +kernel
theorem d_Mo_add_28 : decode b_Mo_add 28 = .ok (.iload 6, 2) := by decide +kernel
theorem d_Mo_add_30 : decode b_Mo_add 30 = .ok (.iconst 1, 1) := by decide +kernel
theorem d_Mo_add_31 : decode b_Mo_add 31 = .ok (.isub, 1) := by decide +kernel
theorem d_Mo_add_32 : decode b_Mo_add 32 = .ok (.laload, 1) := by decide +kernel
theorem d_Mo_add_33 : decode b_Mo_add 33 = .ok (.lmul, 1) := by decide +kernel
theorem d_Mo_add_34 : decode b_Mo_add 34 = .ok (.lcmp, 1) := by decide +kernel
theorem d_Mo_add_35 : decode b_Mo_add 35 = .ok (.ifCond .le 57, 3) := by decide +kernel
theorem d_Mo_add_38 : decode b_Mo_add 38 = .ok (.aload_n 0, 1) := by decide +kernel
theorem d_Mo_add_39 : decode b_Mo_add 39 = .ok (.getfield 73, 3) := by decide +kernel
theorem d_Mo_add_42 : decode b_Mo_add 42 = .ok (.iload 6, 2) := by decide +kernel
theorem d_Mo_add_44 : decode b_Mo_add 44 = .ok (.aload_n 0, 1) := by decide +kernel
theorem d_Mo_add_45 : decode b_Mo_add 45 = .ok (.getfield 73, 3) := by decide +kernel
theorem d_Mo_add_48 : decode b_Mo_add 48 = .ok (.iload 6, 2) := by decide +kernel
theorem d_Mo_add_50 : decode b_Mo_add 50 = .ok (.iconst 1, 1) := by decide +kernel
theorem d_Mo_add_51 : decode b_Mo_add 51 = .ok (.isub, 1) := by decide +kernel
theorem d_Mo_add_52 : decode b_Mo_add 52 = .ok (.iaload, 1) := by decide +kernel
theorem d_Mo_add_53 : decode b_Mo_add 53 = .ok (.iastore, 1) := by decide +kernel
theorem d_Mo_add_54 : decode b_Mo_add 54 = .ok (.aload_n 0, 1) := by decide +kernel
theorem d_Mo_add_55 : decode b_Mo_add 55 = .ok (.getfield 76, 3) := by decide +kernel
theorem d_Mo_add_58 : decode b_Mo_add 58 = .ok (.iload 6, 2) := by decide +kernel
theorem d_Mo_add_60 : decode b_Mo_add 60 = .ok (.aload_n 0, 1) := by decide +kernel
theorem d_Mo_add_61 : decode b_Mo_add 61 = .ok (.getfield 76, 3) := by decide +kernel
theorem d_Mo_add_64 : decode b_Mo_add 64 = .ok (.iload 6, 2) := by decide +kernel
theorem d_Mo_add_66 : decode b_Mo_add 66 = .ok (.iconst 1, 1) := by decide +kernel
theorem d_Mo_add_67 : decode b_Mo_add 67 = .ok (.isub, 1) := by decide +kernel
theorem d_Mo_add_68 : decode b_Mo_add 68 = .ok (.laload, 1) := by decide +kernel
theorem d_Mo_add_69 : decode b_Mo_add 69 = .ok (.lastore, 1) := by decide +kernel
theorem d_Mo_add_70 : decode b_Mo_add 70 = .ok (.aload_n 0, 1) := by decide +kernel
theorem d_Mo_add_71 : decode b_Mo_add 71 = .ok (.getfield 80, 3) := by decide +kernel
theorem d_Mo_add_74 : decode b_Mo_add 74 = .ok (.iload 6, 2) := by decide +kernel
theorem d_Mo_add_76 : decode b_Mo_add 76 = .ok (.aload_n 0, 1) := by decide +kernel
theorem d_Mo_add_77 : decode b_Mo_add 77 = .ok (.getfield 80, 3) := by decide +kernel
theorem d_Mo_add_80 : decode b_Mo_add 80 = .ok (.iload 6, 2) := by decide +kernel
theorem d_Mo_add_82 : decode b_Mo_add 82 = .ok (.iconst 1, 1) := by decide +kernel
theorem d_Mo_add_83 : decode b_Mo_add 83 = .ok (.isub, 1) := by decide +kernel
theorem d_Mo_add_84 : decode b_Mo_add 84 = .ok (.laload, 1) := by decide +kernel
theorem d_Mo_add_85 : decode b_Mo_add 85 = .ok (.lastore, 1) := by decide +kernel
theorem d_Mo_add_86 : decode b_Mo_add 86 = .ok (.iinc 6 (-1), 3) := by decide +kernel
theorem d_Mo_add_89 : decode b_Mo_add 89 = .ok (.goto (-83), 3) := by decide +kernel
theorem d_Mo_add_92 : decode b_Mo_add 92 = .ok (.aload_n 0, 1) := by decide +kernel
theorem d_Mo_add_93 : decode b_Mo_add 93 = .ok (.getfield 73, 3) := by decide +kernel
theorem d_Mo_add_96 : decode b_Mo_add 96 = .ok (.iload 6, 2) := by decide +kernel
theorem d_Mo_add_98 : decode b_Mo_add 98 = .ok (.iload_n 1, 1) := by decide +kernel
theorem d_Mo_add_99 : decode b_Mo_add 99 = .ok (.iastore, 1) := by decide +kernel
theorem d_Mo_add_100 : decode b_Mo_add 100 = .ok (.aload_n 0, 1) := by decide +kernel
theorem d_Mo_add_101 : decode b_Mo_add 101 = .ok (.getfield 76, 3) := by decide +kernel
theorem d_Mo_add_104 : decode b_Mo_add 104 = .ok (.iload 6, 2) := by decide +kernel
theorem d_Mo_add_106 : decode b_Mo_add 106 = .ok (.lload_n 2, 1) := by decide +kernel
theorem d_Mo_add_107 : decode b_Mo_add 107 = .ok (.lastore, 1) := by decide +kernel
theorem d_Mo_add_108 : decode b_Mo_add 108 = .ok (.aload_n 0, 1) := by decide +kernel
theorem d_Mo_add_109 : decode b_Mo_add 109 = .ok (.getfield 80, 3) := by decide +kernel
theorem d_Mo_add_112 : decode b_Mo_add 112 = .ok (.iload 6, 2) := by decide +kernel
theorem d_Mo_add_114 : decode b_Mo_add 114 = .ok (.lload 4, 2) := by decide +kernel
theorem d_Mo_add_116 : decode b_Mo_add 116 = .ok (.lastore, 1) := by decide +kernel
theorem d_Mo_add_117 : decode b_Mo_add 117 = .ok (.aload_n 0, 1) := by decide +kernel
theorem d_Mo_add_118 : decode b_Mo_add 118 = .ok (.dup, 1) := by decide +kernel
theorem d_Mo_add_119 : decode b_Mo_add 119 = .ok (.getfield 133, 3) := by decide +kernel
theorem d_Mo_add_122 : decode b_Mo_add 122 = .ok (.iconst 1, 1) := by decide +kernel
theorem d_Mo_add_123 : decode b_Mo_add 123 = .ok (.iadd, 1) := by decide +kernel
theorem d_Mo_add_124 : decode b_Mo_add 124 = .ok (.putfield 133, 3) := by decide +kernel
theorem d_Mo_add_127 : decode b_Mo_add 127 = .ok (.return_, 1) := by decide +kernel
theorem d_Mo_isStop_0 : decode b_Mo_isStop 0 = .ok (.aload_n 0, 1) := by decide +kernel
theorem d_Mo_isStop_1 : decode b_Mo_isStop 1 = .ok (.getfield 49, 3) := by decide +kernel
theorem d_Mo_isStop_4 : decode b_Mo_isStop 4 = .ok (.iload_n 1, 1) := by decide +kernel
theorem d_Mo_isStop_5 : decode b_Mo_isStop 5 = .ok (.iaload, 1) := by decide +kernel
theorem d_Mo_isStop_6 : decode b_Mo_isStop 6 = .ok (.ifCond .ge 5, 3) := by decide +kernel
theorem d_Mo_isStop_9 : decode b_Mo_isStop 9 = .ok (.iconst 1, 1) := by decide +kernel
theorem d_Mo_isStop_10 : decode b_Mo_isStop 10 = .ok (.ireturn, 1) := by decide +kernel
theorem d_Mo_isStop_11 : decode b_Mo_isStop 11 = .ok (.aload_n 0, 1) := by decide +kernel
theorem d_Mo_isStop_12 : decode b_Mo_isStop 12 = .ok (.getfield 55, 3) := by decide +kernel
theorem d_Mo_isStop_15 : decode b_Mo_isStop 15 = .ok (.iload_n 2, 1) := by decide +kernel
theorem d_Mo_isStop_16 : decode b_Mo_isStop 16 = .ok (.iaload, 1) := by decide +kernel
theorem d_Mo_isStop_17 : decode b_Mo_isStop 17 = .ok (.aload_n 0, 1) := by decide +kernel
theorem d_Mo_isStop_18 : decode b_Mo_isStop 18 = .ok (.getfield 55, 3) := by decide +kernel
theorem d_Mo_isStop_21 : decode b_Mo_isStop 21 = .ok (.iload_n 3, 1) := by decide +kernel
theorem d_Mo_isStop_22 : decode b_Mo_isStop 22 = .ok (.iaload, 1) := by decide +kernel
theorem d_Mo_isStop_23 : decode b_Mo_isStop 23 = .ok (.if_icmp .ge 12, 3) := by decide +kernel
theorem d_Mo_isStop_26 : decode b_Mo_isStop 26 = .ok (.aload_n 0, 1) := by decide +kernel
theorem d_Mo_isStop_27 : decode b_Mo_isStop 27 = .ok (.getfield 55, 3) := by decide +kernel
theorem d_Mo_isStop_30 : decode b_Mo_isStop 30 = .ok (.iload_n 2, 1) := by decide +kernel
theorem d_Mo_isStop_31 : decode b_Mo_isStop 31 = .ok (.iaload, 1) := by decide +kernel
theorem d_Mo_isStop_32 : decode b_Mo_isStop 32 = .ok (.goto 9, 3) := by decide +kernel
theorem d_Mo_isStop_35 : decode b_Mo_isStop 35 = .ok (.aload_n 0, 1) := by decide +kernel
theorem d_Mo_isStop_36 : decode b_Mo_isStop 36 = .ok (.getfield 55, 3) := by decide +kernel
theorem d_Mo_isStop_39 : decode b_Mo_isStop 39 = .ok (.iload_n 3, 1) := by decide +kernel
theorem d_Mo_isStop_40 : decode b_Mo_isStop 40 = .ok (.iaload, 1) := by decide +kernel
theorem d_Mo_isStop_41 : decode b_Mo_isStop 41 = .ok (.istore 4, 2) := by decide +kernel
theorem d_Mo_isStop_43 : decode b_Mo_isStop 43 = .ok (.aload_n 0, 1) := by decide +kernel
theorem d_Mo_isStop_44 : decode b_Mo_isStop 44 = .ok (.getfield 52, 3) := by decide +kernel
theorem d_Mo_isStop_47 : decode b_Mo_isStop 47 = .ok (.iload_n 2, 1) := by decide +kernel
theorem d_Mo_isStop_48 : decode b_Mo_isStop 48 = .ok (.iaload, 1) := by decide +kernel
theorem d_Mo_isStop_49 : decode b_Mo_isStop 49 = .ok (.aload_n 0, 1) := by decide +kernel
theorem d_Mo_isStop_50 : decode b_Mo_isStop 50 = .ok (.getfield 52, 3) := by decide +kernel
theorem d_Mo_isStop_53 : decode b_Mo_isStop 53 = .ok (.iload_n 3, 1) := by decide +kernel
theorem d_Mo_isStop_54 : decode b_Mo_isStop 54 = .ok (.iaload, 1) := by decide +kernel
theorem d_Mo_isStop_55 : decode b_Mo_isStop 55 = .ok (.if_icmp .le 12, 3) := by decide +kernel
theorem d_Mo_isStop_58 : decode b_Mo_isStop 58 = .ok (.aload_n 0, 1) := by decide +kernel
theorem d_Mo_isStop_59 : decode b_Mo_isStop 59 = .ok (.getfield 52, 3) := by decide +kernel
theorem d_Mo_isStop_62 : decode b_Mo_isStop 62 = .ok (.iload_n 2, 1) := by decide +kernel
theorem d_Mo_isStop_63 : decode b_Mo_isStop 63 = .ok (.iaload, 1) := by decide +kernel
theorem d_Mo_isStop_64 : decode b_Mo_isStop 64 = .ok (.goto 9, 3) := by decide +kernel
theorem d_Mo_isStop_67 : decode b_Mo_isStop 67 = .ok (.aload_n 0, 1) := by decide +kernel
theorem d_Mo_isStop_68 : decode b_Mo_isStop 68 = .ok (.getfield 52, 3) := by decide +kernel
theorem d_Mo_isStop_71 : decode b_Mo_isStop 71 = .ok (.iload_n 3, 1) := by decide +kernel
theorem d_Mo_isStop_72 : decode b_Mo_isStop 72 = .ok (.iaload, 1) := by decide +kernel
theorem d_Mo_isStop_73 : decode b_Mo_isStop 73 = .ok (.istore 5, 2) := by decide +kernel
theorem d_Mo_isStop_75 : decode b_Mo_isStop 75 = .ok (.aload_n 0, 1) := by decide +kernel
theorem d_Mo_isStop_76 : decode b_Mo_isStop 76 = .ok (.getfield 52, 3) := by decide +kernel
theorem d_Mo_isStop_79 : decode b_Mo_isStop 79 = .ok (.iload_n 3, 1) := by decide +kernel
theorem d_Mo_isStop_80 : decode b_Mo_isStop 80 = .ok (.iaload, 1) := by decide +kernel
theorem d_Mo_isStop_81 : decode b_Mo_isStop 81 = .ok (.aload_n 0, 1) := by decide +kernel
theorem d_Mo_isStop_82 : decode b_Mo_isStop 82 = .ok (.getfield 52, 3) := by decide +kernel
theorem d_Mo_isStop_85 : decode b_Mo_isStop 85 = .ok (.iload_n 2, 1) := by decide +kernel
theorem d_Mo_isStop_86 : decode b_Mo_isStop 86 = .ok (.iaload, 1) := by decide +kernel
theorem d_Mo_isStop_87 : decode b_Mo_isStop 87 = .ok (.isub, 1) := by decide +kernel
theorem d_Mo_isStop_88 : decode b_Mo_isStop 88 = .ok (.bipush 24, 2) := by decide +kernel
theorem d_Mo_isStop_90 : decode b_Mo_isStop 90 = .ok (.if_icmp .gt 13, 3) := by decide +kernel
theorem d_Mo_isStop_93 : decode b_Mo_isStop 93 = .ok (.iload 4, 2) := by decide +kernel
theorem d_Mo_isStop_95 : decode b_Mo_isStop 95 = .ok (.iload 5, 2) := by decide +kernel
theorem d_Mo_isStop_97 : decode b_Mo_isStop 97 = .ok (.isub, 1) := by decide +kernel
theorem d_Mo_isStop_98 : decode b_Mo_isStop 98 = .ok (.bipush 56, 2) := by decide +kernel
theorem d_Mo_isStop_100 : decode b_Mo_isStop 100 = .ok (.if_icmp .ge 7, 3) := by decide +kernel
theorem d_Mo_isStop_103 : decode b_Mo_isStop 103 = .ok (.iconst 1, 1) := by decide +kernel
theorem d_Mo_isStop_104 : decode b_Mo_isStop 104 = .ok (.goto 4, 3) := by decide +kernel
theorem d_Mo_isStop_107 : decode b_Mo_isStop 107 = .ok (.iconst 0, 1) := by decide +kernel
theorem d_Mo_isStop_108 : decode b_Mo_isStop 108 = .ok (.ireturn, 1) := by decide +kernel
theorem d_Mo_go_0 : decode b_Mo_go 0 = .ok (.aload_n 0, 1) := by decide +kernel
theorem d_Mo_go_1 : decode b_Mo_go 1 = .ok (.getfield 61, 3) := by decide +kernel
theorem d_Mo_go_4 : decode b_Mo_go 4 = .ok (.iconst 2, 1) := by decide +kernel
theorem d_Mo_go_5 : decode b_Mo_go 5 = .ok (.aload_n 0, 1) := by decide +kernel
theorem d_Mo_go_6 : decode b_Mo_go 6 = .ok (.getfield 61, 3) := by decide +kernel
theorem d_Mo_go_9 : decode b_Mo_go 9 = .ok (.iconst 2, 1) := by decide +kernel
theorem d_Mo_go_10 : decode b_Mo_go 10 = .ok (.iaload, 1) := by decide +kernel
theorem d_Mo_go_11 : decode b_Mo_go 11 = .ok (.iload_n 3, 1) := by decide +kernel
theorem d_Mo_go_12 : decode b_Mo_go 12 = .ok (.iadd, 1) := by decide +kernel
theorem d_Mo_go_13 : decode b_Mo_go 13 = .ok (.bipush 64, 2) := by decide +kernel
theorem d_Mo_go_15 : decode b_Mo_go 15 = .ok (.iadd, 1) := by decide +kernel
theorem d_Mo_go_16 : decode b_Mo_go 16 = .ok (.bipush 64, 2) := by decide +kernel
theorem d_Mo_go_18 : decode b_Mo_go 18 = .ok (.irem, 1) := by decide +kernel
theorem d_Mo_go_19 : decode b_Mo_go 19 = .ok (.iastore, 1) := by decide +kernel
theorem d_Mo_go_20 : decode b_Mo_go 20 = .ok (.aload_n 0, 1) := by decide +kernel
theorem d_Mo_go_21 : decode b_Mo_go 21 = .ok (.getfield 61, 3) := by decide +kernel
theorem d_Mo_go_24 : decode b_Mo_go 24 = .ok (.iconst 2, 1) := by decide +kernel
theorem d_Mo_go_25 : decode b_Mo_go 25 = .ok (.iaload, 1) := by decide +kernel
theorem d_Mo_go_26 : decode b_Mo_go 26 = .ok (.invokestatic 149, 3) := by decide +kernel
theorem d_Mo_go_29 : decode b_Mo_go 29 = .ok (.iload_n 1, 1) := by decide +kernel
theorem d_Mo_go_30 : decode b_Mo_go 30 = .ok (.imul, 1) := by decide +kernel
theorem d_Mo_go_31 : decode b_Mo_go 31 = .ok (.aload_n 0, 1) := by decide +kernel
theorem d_Mo_go_32 : decode b_Mo_go 32 = .ok (.getfield 61, 3) := by decide +kernel
theorem d_Mo_go_35 : decode b_Mo_go 35 = .ok (.iconst 2, 1) := by decide +kernel
theorem d_Mo_go_36 : decode b_Mo_go 36 = .ok (.iaload, 1) := by decide +kernel
theorem d_Mo_go_37 : decode b_Mo_go 37 = .ok (.invokestatic 156, 3) := by decide +kernel
theorem d_Mo_go_40 : decode b_Mo_go 40 = .ok (.iload_n 2, 1) := by decide +kernel
theorem d_Mo_go_41 : decode b_Mo_go 41 = .ok (.imul, 1) := by decide +kernel
theorem d_Mo_go_42 : decode b_Mo_go 42 = .ok (.iadd, 1) := by decide +kernel
theorem d_Mo_go_43 : decode b_Mo_go 43 = .ok (.invokestatic 159, 3) := by decide +kernel
theorem d_Mo_go_46 : decode b_Mo_go 46 = .ok (.istore 4, 2) := by decide +kernel
theorem d_Mo_go_48 : decode b_Mo_go 48 = .ok (.aload_n 0, 1) := by decide +kernel
theorem d_Mo_go_49 : decode b_Mo_go 49 = .ok (.getfield 61, 3) := by decide +kernel
theorem d_Mo_go_52 : decode b_Mo_go 52 = .ok (.iconst 2, 1) := by decide +kernel
theorem d_Mo_go_53 : decode b_Mo_go 53 = .ok (.iaload, 1) := by decide +kernel
theorem d_Mo_go_54 : decode b_Mo_go 54 = .ok (.invokestatic 156, 3) := by decide +kernel
theorem d_Mo_go_57 : decode b_Mo_go 57 = .ok (.iload_n 1, 1) := by decide +kernel
theorem d_Mo_go_58 : decode b_Mo_go 58 = .ok (.imul, 1) := by decide +kernel
theorem d_Mo_go_59 : decode b_Mo_go 59 = .ok (.aload_n 0, 1) := by decide +kernel
theorem d_Mo_go_60 : decode b_Mo_go 60 = .ok (.getfield 61, 3) := by decide +kernel
theorem d_Mo_go_63 : decode b_Mo_go 63 = .ok (.iconst 2, 1) := by decide +kernel
theorem d_Mo_go_64 : decode b_Mo_go 64 = .ok (.iaload, 1) := by decide +kernel
theorem d_Mo_go_65 : decode b_Mo_go 65 = .ok (.invokestatic 149, 3) := by decide +kernel
theorem d_Mo_go_68 : decode b_Mo_go 68 = .ok (.iload_n 2, 1) := by decide +kernel
theorem d_Mo_go_69 : decode b_Mo_go 69 = .ok (.imul, 1) := by decide +kernel
theorem d_Mo_go_70 : decode b_Mo_go 70 = .ok (.isub, 1) := by decide +kernel
theorem d_Mo_go_71 : decode b_Mo_go 71 = .ok (.invokestatic 159, 3) := by decide +kernel
theorem d_Mo_go_74 : decode b_Mo_go 74 = .ok (.istore 5, 2) := by decide +kernel
theorem d_Mo_go_76 : decode b_Mo_go 76 = .ok (.aload_n 0, 1) := by decide +kernel
theorem d_Mo_go_77 : decode b_Mo_go 77 = .ok (.iconst 0, 1) := by decide +kernel
theorem d_Mo_go_78 : decode b_Mo_go 78 = .ok (.putfield 133, 3) := by decide +kernel
theorem d_Mo_go_81 : decode b_Mo_go 81 = .ok (.aload_n 0, 1) := by decide +kernel
theorem d_Mo_go_82 : decode b_Mo_go 82 = .ok (.iconst (-1), 1) := by decide +kernel
theorem d_Mo_go_83 : decode b_Mo_go 83 = .ok (.putfield 83, 3) := by decide +kernel
theorem d_Mo_go_86 : decode b_Mo_go 86 = .ok (.iload 4, 2) := by decide +kernel
theorem d_Mo_go_88 : decode b_Mo_go 88 = .ok (.ifCond .ne 10, 3) := by decide +kernel
theorem d_Mo_go_91 : decode b_Mo_go 91 = .ok (.iload 5, 2) := by decide +kernel
theorem d_Mo_go_93 : decode b_Mo_go 93 = .ok (.ifCond .ne 5, 3) := by decide +kernel
theorem d_Mo_go_96 : decode b_Mo_go 96 = .ok (.iconst 0, 1) := by decide +kernel
theorem d_Mo_go_97 : decode b_Mo_go 97 = .ok (.ireturn, 1) := by decide +kernel
theorem d_Mo_go_98 : decode b_Mo_go 98 = .ok (.aload_n 0, 1) := by decide +kernel
theorem d_Mo_go_99 : decode b_Mo_go 99 = .ok (.iload 4, 2) := by decide +kernel
theorem d_Mo_go_101 : decode b_Mo_go 101 = .ok (.iload 5, 2) := by decide +kernel
theorem d_Mo_go_103 : decode b_Mo_go 103 = .ok (.invokevirtual 162, 3) := by decide +kernel
theorem d_Mo_go_106 : decode b_Mo_go 106 = .ok (.aload_n 0, 1) := by decide +kernel
theorem d_Mo_go_107 : decode b_Mo_go 107 = .ok (.getfield 61, 3) := by decide +kernel
theorem d_Mo_go_110 : decode b_Mo_go 110 = .ok (.iconst 3, 1) := by decide +kernel
theorem d_Mo_go_111 : decode b_Mo_go 111 = .ok (.iaload, 1) := by decide +kernel
theorem d_Mo_go_112 : decode b_Mo_go 112 = .ok (.istore 6, 2) := by decide +kernel
theorem d_Mo_go_114 : decode b_Mo_go 114 = .ok (.iconst 0, 1) := by decide +kernel
theorem d_Mo_go_115 : decode b_Mo_go 115 = .ok (.istore 7, 2) := by decide +kernel
theorem d_Mo_go_117 : decode b_Mo_go 117 = .ok (.iload 7, 2) := by decide +kernel
theorem d_Mo_go_119 : decode b_Mo_go 119 = .ok (.aload_n 0, 1) := by decide +kernel
theorem d_Mo_go_120 : decode b_Mo_go 120 = .ok (.getfield 133, 3) := by decide +kernel
theorem d_Mo_go_123 : decode b_Mo_go 123 = .ok (.if_icmp .ge 117, 3) := by decide +kernel
theorem d_Mo_go_126 : decode b_Mo_go 126 = .ok (.aload_n 0, 1) := by decide +kernel
theorem d_Mo_go_127 : decode b_Mo_go 127 = .ok (.getfield 73, 3) := by decide +kernel
theorem d_Mo_go_130 : decode b_Mo_go 130 = .ok (.iload 7, 2) := by decide +kernel
theorem d_Mo_go_132 : decode b_Mo_go 132 = .ok (.iaload, 1) := by decide +kernel
theorem d_Mo_go_133 : decode b_Mo_go 133 = .ok (.iconst 2, 1) := by decide +kernel
theorem d_Mo_go_134 : decode b_Mo_go 134 = .ok (.idiv, 1) := by decide +kernel
theorem d_Mo_go_135 : decode b_Mo_go 135 = .ok (.istore 8, 2) := by decide +kernel
theorem d_Mo_go_137 : decode b_Mo_go 137 = .ok (.aload_n 0, 1) := by decide +kernel
theorem d_Mo_go_138 : decode b_Mo_go 138 = .ok (.getfield 73, 3) := by decide +kernel
theorem d_Mo_go_141 : decode b_Mo_go 141 = .ok (.iload 7, 2) := by decide +kernel
theorem d_Mo_go_143 : decode b_Mo_go 143 = .ok (.iaload, 1) := by decide +kernel
theorem d_Mo_go_144 : decode b_Mo_go 144 = .ok (.iconst 2, 1) := by decide +kernel
theorem d_Mo_go_145 : decode b_Mo_go 145 = .ok (.irem, 1) := by decide +kernel
theorem d_Mo_go_146 : decode b_Mo_go 146 = .ok (.ifCond .ne 7, 3) := by decide +kernel
theorem d_Mo_go_149 : decode b_Mo_go 149 = .ok (.iconst 1, 1) := by decide +kernel
theorem d_Mo_go_150 : decode b_Mo_go 150 = .ok (.goto 4, 3) := by decide +kernel
theorem d_Mo_go_153 : decode b_Mo_go 153 = .ok (.iconst 0, 1) := by decide +kernel
theorem d_Mo_go_154 : decode b_Mo_go 154 = .ok (.istore 9, 2) := by decide +kernel
theorem d_Mo_go_156 : decode b_Mo_go 156 = .ok (.iload 9, 2) := by decide +kernel
theorem d_Mo_go_158 : decode b_Mo_go 158 = .ok (.ifCond .eq 13, 3) := by decide +kernel
theorem d_Mo_go_161 : decode b_Mo_go 161 = .ok (.aload_n 0, 1) := by decide +kernel
theorem d_Mo_go_162 : decode b_Mo_go 162 = .ok (.getfield 46, 3) := by decide +kernel
theorem d_Mo_go_165 : decode b_Mo_go 165 = .ok (.iload 8, 2) := by decide +kernel
theorem d_Mo_go_167 : decode b_Mo_go 167 = .ok (.iaload, 1) := by decide +kernel
theorem d_Mo_go_168 : decode b_Mo_go 168 = .ok (.goto 10, 3) := by decide +kernel
theorem d_Mo_go_171 : decode b_Mo_go 171 = .ok (.aload_n 0, 1) := by decide +kernel
theorem d_Mo_go_172 : decode b_Mo_go 172 = .ok (.getfield 49, 3) := by decide +kernel
theorem d_Mo_go_175 : decode b_Mo_go 175 = .ok (.iload 8, 2) := by decide +kernel
theorem d_Mo_go_177 : decode b_Mo_go 177 = .ok (.iaload, 1) := by decide +kernel
theorem d_Mo_go_178 : decode b_Mo_go 178 = .ok (.istore 10, 2) := by decide +kernel
theorem d_Mo_go_180 : decode b_Mo_go 180 = .ok (.iload 9, 2) := by decide +kernel
theorem d_Mo_go_182 : decode b_Mo_go 182 = .ok (.ifCond .eq 13, 3) := by decide +kernel
theorem d_Mo_go_185 : decode b_Mo_go 185 = .ok (.aload_n 0, 1) := by decide +kernel
theorem d_Mo_go_186 : decode b_Mo_go 186 = .ok (.getfield 49, 3) := by decide +kernel
theorem d_Mo_go_189 : decode b_Mo_go 189 = .ok (.iload 8, 2) := by decide +kernel
theorem d_Mo_go_191 : decode b_Mo_go 191 = .ok (.iaload, 1) := by decide +kernel
theorem d_Mo_go_192 : decode b_Mo_go 192 = .ok (.goto 10, 3) := by decide +kernel
theorem d_Mo_go_195 : decode b_Mo_go 195 = .ok (.aload_n 0, 1) := by decide +kernel
theorem d_Mo_go_196 : decode b_Mo_go 196 = .ok (.getfield 46, 3) := by decide +kernel
theorem d_Mo_go_199 : decode b_Mo_go 199 = .ok (.iload 8, 2) := by decide +kernel
theorem d_Mo_go_201 : decode b_Mo_go 201 = .ok (.iaload, 1) := by decide +kernel
theorem d_Mo_go_202 : decode b_Mo_go 202 = .ok (.istore 11, 2) := by decide +kernel
theorem d_Mo_go_204 : decode b_Mo_go 204 = .ok (.aload_n 0, 1) := by decide +kernel
theorem d_Mo_go_205 : decode b_Mo_go 205 = .ok (.getfield 83, 3) := by decide +kernel
theorem d_Mo_go_208 : decode b_Mo_go 208 = .ok (.ifCond .ge 22, 3) := by decide +kernel
theorem d_Mo_go_211 : decode b_Mo_go 211 = .ok (.aload_n 0, 1) := by decide +kernel
theorem d_Mo_go_212 : decode b_Mo_go 212 = .ok (.iload 8, 2) := by decide +kernel
theorem d_Mo_go_214 : decode b_Mo_go 214 = .ok (.iload 10, 2) := by decide +kernel
theorem d_Mo_go_216 : decode b_Mo_go 216 = .ok (.iload 11, 2) := by decide +kernel
theorem d_Mo_go_218 : decode b_Mo_go 218 = .ok (.invokevirtual 166, 3) := by decide +kernel
theorem d_Mo_go_221 : decode b_Mo_go 221 = .ok (.ifCond .eq 9, 3) := by decide +kernel
theorem d_Mo_go_224 : decode b_Mo_go 224 = .ok (.aload_n 0, 1) := by decide +kernel
theorem d_Mo_go_225 : decode b_Mo_go 225 = .ok (.iload 8, 2) := by decide +kernel
theorem d_Mo_go_227 : decode b_Mo_go 227 = .ok (.putfield 83, 3) := by decide +kernel
theorem d_Mo_go_230 : decode b_Mo_go 230 = .ok (.iload 11, 2) := by decide +kernel
theorem d_Mo_go_232 : decode b_Mo_go 232 = .ok (.istore 6, 2) := by decide +kernel
theorem d_Mo_go_234 : decode b_Mo_go 234 = .ok (.iinc 7 1, 3) := by decide +kernel
theorem d_Mo_go_237 : decode b_Mo_go 237 = .ok (.goto (-120), 3) := by decide +kernel
theorem d_Mo_go_240 : decode b_Mo_go 240 = .ok (.aload_n 0, 1) := by decide +kernel
theorem d_Mo_go_241 : decode b_Mo_go 241 = .ok (.getfield 83, 3) := by decide +kernel
theorem d_Mo_go_244 : decode b_Mo_go 244 = .ok (.ifCond .ge 39, 3) := by decide +kernel
theorem d_Mo_go_247 : decode b_Mo_go 247 = .ok (.aload_n 0, 1) := by decide +kernel
theorem d_Mo_go_248 : decode b_Mo_go 248 = .ok (.getfield 61, 3) := by decide +kernel
theorem d_Mo_go_251 : decode b_Mo_go 251 = .ok (.iconst 0, 1) := by decide +kernel
theorem d_Mo_go_252 : decode b_Mo_go 252 = .ok (.iaload, 1) := by decide +kernel
theorem d_Mo_go_253 : decode b_Mo_go 253 = .ok (.iload 4, 2) := by decide +kernel
theorem d_Mo_go_255 : decode b_Mo_go 255 = .ok (.iadd, 1) := by decide +kernel
theorem d_Mo_go_256 : decode b_Mo_go 256 = .ok (.sipush 3000, 3) := by decide +kernel
theorem d_Mo_go_259 : decode b_Mo_go 259 = .ok (.invokestatic 90, 3) := by decide +kernel
theorem d_Mo_go_262 : decode b_Mo_go 262 = .ok (.ifCond .eq 21, 3) := by decide +kernel
theorem d_Mo_go_265 : decode b_Mo_go 265 = .ok (.aload_n 0, 1) := by decide +kernel
theorem d_Mo_go_266 : decode b_Mo_go 266 = .ok (.getfield 61, 3) := by decide +kernel
theorem d_Mo_go_269 : decode b_Mo_go 269 = .ok (.iconst 1, 1) := by decide +kernel
theorem d_Mo_go_270 : decode b_Mo_go 270 = .ok (.iaload, 1) := by decide +kernel
theorem d_Mo_go_271 : decode b_Mo_go 271 = .ok (.iload 5, 2) := by decide +kernel
theorem d_Mo_go_273 : decode b_Mo_go 273 = .ok (.iadd, 1) := by decide +kernel
theorem d_Mo_go_274 : decode b_Mo_go 274 = .ok (.sipush 3000, 3) := by decide +kernel
theorem d_Mo_go_277 : decode b_Mo_go 277 = .ok (.invokestatic 90, 3) := by decide +kernel
theorem d_Mo_go_280 : decode b_Mo_go 280 = .ok (.ifCond .ne 5, 3) := by decide +kernel
theorem d_Mo_go_283 : decode b_Mo_go 283 = .ok (.iconst 2, 1) := by decide +kernel
theorem d_Mo_go_284 : decode b_Mo_go 284 = .ok (.ireturn, 1) := by decide +kernel
theorem d_Mo_go_285 : decode b_Mo_go 285 = .ok (.aload_n 0, 1) := by decide +kernel
theorem d_Mo_go_286 : decode b_Mo_go 286 = .ok (.getfield 61, 3) := by decide +kernel
theorem d_Mo_go_289 : decode b_Mo_go 289 = .ok (.iconst 0, 1) := by decide +kernel
theorem d_Mo_go_290 : decode b_Mo_go 290 = .ok (.dup2, 1) := by decide +kernel
theorem d_Mo_go_291 : decode b_Mo_go 291 = .ok (.iaload, 1) := by decide +kernel
theorem d_Mo_go_292 : decode b_Mo_go 292 = .ok (.iload 4, 2) := by decide +kernel
theorem d_Mo_go_294 : decode b_Mo_go 294 = .ok (.iadd, 1) := by decide +kernel
theorem d_Mo_go_295 : decode b_Mo_go 295 = .ok (.iastore, 1) := by decide +kernel
theorem d_Mo_go_296 : decode b_Mo_go 296 = .ok (.aload_n 0, 1) := by decide +kernel
theorem d_Mo_go_297 : decode b_Mo_go 297 = .ok (.getfield 61, 3) := by decide +kernel
theorem d_Mo_go_300 : decode b_Mo_go 300 = .ok (.iconst 1, 1) := by decide +kernel
theorem d_Mo_go_301 : decode b_Mo_go 301 = .ok (.dup2, 1) := by decide +kernel
theorem d_Mo_go_302 : decode b_Mo_go 302 = .ok (.iaload, 1) := by decide +kernel
theorem d_Mo_go_303 : decode b_Mo_go 303 = .ok (.iload 5, 2) := by decide +kernel
theorem d_Mo_go_305 : decode b_Mo_go 305 = .ok (.iadd, 1) := by decide +kernel
theorem d_Mo_go_306 : decode b_Mo_go 306 = .ok (.iastore, 1) := by decide +kernel
theorem d_Mo_go_307 : decode b_Mo_go 307 = .ok (.aload_n 0, 1) := by decide +kernel
theorem d_Mo_go_308 : decode b_Mo_go 308 = .ok (.getfield 61, 3) := by decide +kernel
theorem d_Mo_go_311 : decode b_Mo_go 311 = .ok (.iconst 3, 1) := by decide +kernel
theorem d_Mo_go_312 : decode b_Mo_go 312 = .ok (.iload 6, 2) := by decide +kernel
theorem d_Mo_go_314 : decode b_Mo_go 314 = .ok (.iastore, 1) := by decide +kernel
theorem d_Mo_go_315 : decode b_Mo_go 315 = .ok (.iconst 1, 1) := by decide +kernel
theorem d_Mo_go_316 : decode b_Mo_go 316 = .ok (.ireturn, 1) := by decide +kernel
theorem d_Mo_play_0 : decode b_Mo_play 0 = .ok (.aload_n 0, 1) := by decide +kernel
theorem d_Mo_play_1 : decode b_Mo_play 1 = .ok (.iconst 0, 1) := by decide +kernel
theorem d_Mo_play_2 : decode b_Mo_play 2 = .ok (.putfield 87, 3) := by decide +kernel
theorem d_Mo_play_5 : decode b_Mo_play 5 = .ok (.aload_n 0, 1) := by decide +kernel
theorem d_Mo_play_6 : decode b_Mo_play 6 = .ok (.getfield 129, 3) := by decide +kernel
theorem d_Mo_play_9 : decode b_Mo_play 9 = .ok (.ifCond .eq 15, 3) := by decide +kernel
theorem d_Mo_play_12 : decode b_Mo_play 12 = .ok (.iload_n 1, 1) := by decide +kernel
theorem d_Mo_play_13 : decode b_Mo_play 13 = .ok (.ifCond .lt 11, 3) := by decide +kernel
theorem d_Mo_play_16 : decode b_Mo_play 16 = .ok (.iload_n 1, 1) := by decide +kernel
theorem d_Mo_play_17 : decode b_Mo_play 17 = .ok (.aload_n 0, 1) := by decide +kernel
theorem d_Mo_play_18 : decode b_Mo_play 18 = .ok (.getfield 142, 3) := by decide +kernel
theorem d_Mo_play_21 : decode b_Mo_play 21 = .ok (.if_icmp .le 5, 3) := by decide +kernel
theorem d_Mo_play_24 : decode b_Mo_play 24 = .ok (.iconst (-1), 1) := by decide +kernel
theorem d_Mo_play_25 : decode b_Mo_play 25 = .ok (.ireturn, 1) := by decide +kernel
theorem d_Mo_play_26 : decode b_Mo_play 26 = .ok (.aload_n 0, 1) := by decide +kernel
theorem d_Mo_play_27 : decode b_Mo_play 27 = .ok (.invokevirtual 136, 3) := by decide +kernel
theorem d_Mo_play_30 : decode b_Mo_play 30 = .ok (.iconst 0, 1) := by decide +kernel
theorem d_Mo_play_31 : decode b_Mo_play 31 = .ok (.istore_n 2, 1) := by decide +kernel
theorem d_Mo_play_32 : decode b_Mo_play 32 = .ok (.iconst 0, 1) := by decide +kernel
theorem d_Mo_play_33 : decode b_Mo_play 33 = .ok (.istore_n 3, 1) := by decide +kernel
theorem d_Mo_play_34 : decode b_Mo_play 34 = .ok (.iload_n 3, 1) := by decide +kernel
theorem d_Mo_play_35 : decode b_Mo_play 35 = .ok (.iload_n 1, 1) := by decide +kernel
theorem d_Mo_play_36 : decode b_Mo_play 36 = .ok (.if_icmp .ge 43, 3) := by decide +kernel
theorem d_Mo_play_39 : decode b_Mo_play 39 = .ok (.iload_n 2, 1) := by decide +kernel
theorem d_Mo_play_40 : decode b_Mo_play 40 = .ok (.aload_n 0, 1) := by decide +kernel
theorem d_Mo_play_41 : decode b_Mo_play 41 = .ok (.aload_n 0, 1) := by decide +kernel
theorem d_Mo_play_42 : decode b_Mo_play 42 = .ok (.getfield 64, 3) := by decide +kernel
theorem d_Mo_play_45 : decode b_Mo_play 45 = .ok (.iload_n 3, 1) := by decide +kernel
theorem d_Mo_play_46 : decode b_Mo_play 46 = .ok (.iaload, 1) := by decide +kernel
theorem d_Mo_play_47 : decode b_Mo_play 47 = .ok (.aload_n 0, 1) := by decide +kernel
theorem d_Mo_play_48 : decode b_Mo_play 48 = .ok (.getfield 67, 3) := by decide +kernel
theorem d_Mo_play_51 : decode b_Mo_play 51 = .ok (.iload_n 3, 1) := by decide +kernel
theorem d_Mo_play_52 : decode b_Mo_play 52 = .ok (.iaload, 1) := by decide +kernel
theorem d_Mo_play_53 : decode b_Mo_play 53 = .ok (.aload_n 0, 1) := by decide +kernel
theorem d_Mo_play_54 : decode b_Mo_play 54 = .ok (.getfield 70, 3) := by decide +kernel
theorem d_Mo_play_57 : decode b_Mo_play 57 = .ok (.iload_n 3, 1) := by decide +kernel
theorem d_Mo_play_58 : decode b_Mo_play 58 = .ok (.iaload, 1) := by decide +kernel
theorem d_Mo_play_59 : decode b_Mo_play 59 = .ok (.invokevirtual 169, 3) := by decide +kernel
theorem d_Mo_play_62 : decode b_Mo_play 62 = .ok (.iconst 2, 1) := by decide +kernel
theorem d_Mo_play_63 : decode b_Mo_play 63 = .ok (.if_icmp .ne 7, 3) := by decide +kernel
theorem d_Mo_play_66 : decode b_Mo_play 66 = .ok (.iconst 1, 1) := by decide +kernel
theorem d_Mo_play_67 : decode b_Mo_play 67 = .ok (.goto 4, 3) := by decide +kernel
theorem d_Mo_play_70 : decode b_Mo_play 70 = .ok (.iconst 0, 1) := by decide +kernel
theorem d_Mo_play_71 : decode b_Mo_play 71 = .ok (.iadd, 1) := by decide +kernel
theorem d_Mo_play_72 : decode b_Mo_play 72 = .ok (.istore_n 2, 1) := by decide +kernel
theorem d_Mo_play_73 : decode b_Mo_play 73 = .ok (.iinc 3 1, 3) := by decide +kernel
theorem d_Mo_play_76 : decode b_Mo_play 76 = .ok (.goto (-42), 3) := by decide +kernel
theorem d_Mo_play_79 : decode b_Mo_play 79 = .ok (.iload_n 2, 1) := by decide +kernel
theorem d_Mo_play_80 : decode b_Mo_play 80 = .ok (.ireturn, 1) := by decide +kernel
theorem d_Mo_step_0 : decode b_Mo_step 0 = .ok (.aload_n 0, 1) := by decide +kernel
theorem d_Mo_step_1 : decode b_Mo_step 1 = .ok (.iconst 0, 1) := by decide +kernel
theorem d_Mo_step_2 : decode b_Mo_step 2 = .ok (.putfield 87, 3) := by decide +kernel
theorem d_Mo_step_5 : decode b_Mo_step 5 = .ok (.aload_n 0, 1) := by decide +kernel
theorem d_Mo_step_6 : decode b_Mo_step 6 = .ok (.getfield 129, 3) := by decide +kernel
theorem d_Mo_step_9 : decode b_Mo_step 9 = .ok (.ifCond .eq 22, 3) := by decide +kernel
theorem d_Mo_step_12 : decode b_Mo_step 12 = .ok (.iload_n 1, 1) := by decide +kernel
theorem d_Mo_step_13 : decode b_Mo_step 13 = .ok (.iload_n 2, 1) := by decide +kernel
theorem d_Mo_step_14 : decode b_Mo_step 14 = .ok (.iload_n 3, 1) := by decide +kernel
theorem d_Mo_step_15 : decode b_Mo_step 15 = .ok (.invokestatic 139, 3) := by decide +kernel
theorem d_Mo_step_18 : decode b_Mo_step 18 = .ok (.ifCond .eq 13, 3) := by decide +kernel
theorem d_Mo_step_21 : decode b_Mo_step 21 = .ok (.aload_n 0, 1) := by decide +kernel
theorem d_Mo_step_22 : decode b_Mo_step 22 = .ok (.iload_n 1, 1) := by decide +kernel
theorem d_Mo_step_23 : decode b_Mo_step 23 = .ok (.iload_n 2, 1) := by decide +kernel
theorem d_Mo_step_24 : decode b_Mo_step 24 = .ok (.iload_n 3, 1) := by decide +kernel
theorem d_Mo_step_25 : decode b_Mo_step 25 = .ok (.invokevirtual 169, 3) := by decide +kernel
theorem d_Mo_step_28 : decode b_Mo_step 28 = .ok (.goto 4, 3) := by decide +kernel
theorem d_Mo_step_31 : decode b_Mo_step 31 = .ok (.iconst (-1), 1) := by decide +kernel
theorem d_Mo_step_32 : decode b_Mo_step 32 = .ok (.ireturn, 1) := by decide +kernel
theorem d_Mo_crossed_0 : decode b_Mo_crossed 0 = .ok (.aload_n 0, 1) := by decide +kernel
theorem d_Mo_crossed_1 : decode b_Mo_crossed 1 = .ok (.iconst 0, 1) := by decide +kernel
theorem d_Mo_crossed_2 : decode b_Mo_crossed 2 = .ok (.putfield 87, 3) := by decide +kernel
theorem d_Mo_crossed_5 : decode b_Mo_crossed 5 = .ok (.iload_n 1, 1) := by decide +kernel
theorem d_Mo_crossed_6 : decode b_Mo_crossed 6 = .ok (.ifCond .lt 11, 3) := by decide +kernel
theorem d_Mo_crossed_9 : decode b_Mo_crossed 9 = .ok (.iload_n 1, 1) := by decide +kernel
theorem d_Mo_crossed_10 : decode b_Mo_crossed 10 = .ok (.aload_n 0, 1) := by decide +kernel
theorem d_Mo_crossed_11 : decode b_Mo_crossed 11 = .ok (.getfield 133, 3) := by decide +kernel
theorem d_Mo_crossed_14 : decode b_Mo_crossed 14 = .ok (.if_icmp .lt 7, 3) := by decide +kernel
theorem d_Mo_crossed_17 : decode b_Mo_crossed 17 = .ok (.iconst (-1), 1) := by decide +kernel
theorem d_Mo_crossed_18 : decode b_Mo_crossed 18 = .ok (.goto 11, 3) := by decide +kernel
theorem d_Mo_crossed_21 : decode b_Mo_crossed 21 = .ok (.aload_n 0, 1) := by decide +kernel
theorem d_Mo_crossed_22 : decode b_Mo_crossed 22 = .ok (.getfield 73, 3) := by decide +kernel
theorem d_Mo_crossed_25 : decode b_Mo_crossed 25 = .ok (.iload_n 1, 1) := by decide +kernel
theorem d_Mo_crossed_26 : decode b_Mo_crossed 26 = .ok (.iaload, 1) := by decide +kernel
theorem d_Mo_crossed_27 : decode b_Mo_crossed 27 = .ok (.iconst 2, 1) := by decide +kernel
theorem d_Mo_crossed_28 : decode b_Mo_crossed 28 = .ok (.idiv, 1) := by decide +kernel
theorem d_Mo_crossed_29 : decode b_Mo_crossed 29 = .ok (.ireturn, 1) := by decide +kernel
theorem d_Mo_stopper_0 : decode b_Mo_stopper 0 = .ok (.aload_n 0, 1) := by decide +kernel
theorem d_Mo_stopper_1 : decode b_Mo_stopper 1 = .ok (.iconst 0, 1) := by decide +kernel
theorem d_Mo_stopper_2 : decode b_Mo_stopper 2 = .ok (.putfield 87, 3) := by decide +kernel
theorem d_Mo_stopper_5 : decode b_Mo_stopper 5 = .ok (.aload_n 0, 1) := by decide +kernel
theorem d_Mo_stopper_6 : decode b_Mo_stopper 6 = .ok (.getfield 83, 3) := by decide +kernel
theorem d_Mo_stopper_9 : decode b_Mo_stopper 9 = .ok (.ireturn, 1) := by decide +kernel
theorem d_Mo_walker_0 : decode b_Mo_walker 0 = .ok (.aload_n 0, 1) := by decide +kernel
theorem d_Mo_walker_1 : decode b_Mo_walker 1 = .ok (.iconst 0, 1) := by decide +kernel
theorem d_Mo_walker_2 : decode b_Mo_walker 2 = .ok (.putfield 87, 3) := by decide +kernel
theorem d_Mo_walker_5 : decode b_Mo_walker 5 = .ok (.aload_n 0, 1) := by decide +kernel
theorem d_Mo_walker_6 : decode b_Mo_walker 6 = .ok (.getfield 129, 3) := by decide +kernel
theorem d_Mo_walker_9 : decode b_Mo_walker 9 = .ok (.ifCond .eq 12, 3) := by decide +kernel
theorem d_Mo_walker_12 : decode b_Mo_walker 12 = .ok (.iload_n 1, 1) := by decide +kernel
theorem d_Mo_walker_13 : decode b_Mo_walker 13 = .ok (.ifCond .lt 8, 3) := by decide +kernel
theorem d_Mo_walker_16 : decode b_Mo_walker 16 = .ok (.iload_n 1, 1) := by decide +kernel
theorem d_Mo_walker_17 : decode b_Mo_walker 17 = .ok (.iconst 3, 1) := by decide +kernel
theorem d_Mo_walker_18 : decode b_Mo_walker 18 = .ok (.if_icmp .le 8, 3) := by decide +kernel
theorem d_Mo_walker_21 : decode b_Mo_walker 21 = .ok (.ldc 172, 2) := by decide +kernel
theorem d_Mo_walker_23 : decode b_Mo_walker 23 = .ok (.goto 9, 3) := by decide +kernel
theorem d_Mo_walker_26 : decode b_Mo_walker 26 = .ok (.aload_n 0, 1) := by decide +kernel
theorem d_Mo_walker_27 : decode b_Mo_walker 27 = .ok (.getfield 61, 3) := by decide +kernel
theorem d_Mo_walker_30 : decode b_Mo_walker 30 = .ok (.iload_n 1, 1) := by decide +kernel
theorem d_Mo_walker_31 : decode b_Mo_walker 31 = .ok (.iaload, 1) := by decide +kernel
theorem d_Mo_walker_32 : decode b_Mo_walker 32 = .ok (.ireturn, 1) := by decide +kernel
theorem d_Mo_look_0 : decode b_Mo_look 0 = .ok (.aload_n 0, 1) := by decide +kernel
theorem d_Mo_look_1 : decode b_Mo_look 1 = .ok (.iconst 0, 1) := by decide +kernel
theorem d_Mo_look_2 : decode b_Mo_look 2 = .ok (.putfield 87, 3) := by decide +kernel
theorem d_Mo_look_5 : decode b_Mo_look 5 = .ok (.iload_n 1, 1) := by decide +kernel
theorem d_Mo_look_6 : decode b_Mo_look 6 = .ok (.tableswitch 136 0 8 #[50, 55, 60, 65, 81, 97, 113, 118, 131], 50) := by decide +kernel
theorem d_Mo_look_56 : decode b_Mo_look 56 = .ok (.aload_n 0, 1) := by decide +kernel
theorem d_Mo_look_57 : decode b_Mo_look 57 = .ok (.getfield 94, 3) := by decide +kernel
theorem d_Mo_look_60 : decode b_Mo_look 60 = .ok (.ireturn, 1) := by decide +kernel
theorem d_Mo_look_61 : decode b_Mo_look 61 = .ok (.aload_n 0, 1) := by decide +kernel
theorem d_Mo_look_62 : decode b_Mo_look 62 = .ok (.getfield 97, 3) := by decide +kernel
theorem d_Mo_look_65 : decode b_Mo_look 65 = .ok (.ireturn, 1) := by decide +kernel
theorem d_Mo_look_66 : decode b_Mo_look 66 = .ok (.aload_n 0, 1) := by decide +kernel
theorem d_Mo_look_67 : decode b_Mo_look 67 = .ok (.getfield 100, 3) := by decide +kernel
theorem d_Mo_look_70 : decode b_Mo_look 70 = .ok (.ireturn, 1) := by decide +kernel
theorem d_Mo_look_71 : decode b_Mo_look 71 = .ok (.aload_n 0, 1) := by decide +kernel
theorem d_Mo_look_72 : decode b_Mo_look 72 = .ok (.getfield 126, 3) := by decide +kernel
theorem d_Mo_look_75 : decode b_Mo_look 75 = .ok (.ifCond .le 10, 3) := by decide +kernel
theorem d_Mo_look_78 : decode b_Mo_look 78 = .ok (.aload_n 0, 1) := by decide +kernel
theorem d_Mo_look_79 : decode b_Mo_look 79 = .ok (.getfield 117, 3) := by decide +kernel
theorem d_Mo_look_82 : decode b_Mo_look 82 = .ok (.goto 4, 3) := by decide +kernel
theorem d_Mo_look_85 : decode b_Mo_look 85 = .ok (.iconst (-1), 1) := by decide +kernel
theorem d_Mo_look_86 : decode b_Mo_look 86 = .ok (.ireturn, 1) := by decide +kernel
theorem d_Mo_look_87 : decode b_Mo_look 87 = .ok (.aload_n 0, 1) := by decide +kernel
theorem d_Mo_look_88 : decode b_Mo_look 88 = .ok (.getfield 126, 3) := by decide +kernel
theorem d_Mo_look_91 : decode b_Mo_look 91 = .ok (.ifCond .le 10, 3) := by decide +kernel
theorem d_Mo_look_94 : decode b_Mo_look 94 = .ok (.aload_n 0, 1) := by decide +kernel
theorem d_Mo_look_95 : decode b_Mo_look 95 = .ok (.getfield 120, 3) := by decide +kernel
theorem d_Mo_look_98 : decode b_Mo_look 98 = .ok (.goto 4, 3) := by decide +kernel
theorem d_Mo_look_101 : decode b_Mo_look 101 = .ok (.iconst (-1), 1) := by decide +kernel
theorem d_Mo_look_102 : decode b_Mo_look 102 = .ok (.ireturn, 1) := by decide +kernel
theorem d_Mo_look_103 : decode b_Mo_look 103 = .ok (.aload_n 0, 1) := by decide +kernel
theorem d_Mo_look_104 : decode b_Mo_look 104 = .ok (.getfield 126, 3) := by decide +kernel
theorem d_Mo_look_107 : decode b_Mo_look 107 = .ok (.ifCond .le 10, 3) := by decide +kernel
theorem d_Mo_look_110 : decode b_Mo_look 110 = .ok (.aload_n 0, 1) := by decide +kernel
theorem d_Mo_look_111 : decode b_Mo_look 111 = .ok (.getfield 123, 3) := by decide +kernel
theorem d_Mo_look_114 : decode b_Mo_look 114 = .ok (.goto 4, 3) := by decide +kernel
theorem d_Mo_look_117 : decode b_Mo_look 117 = .ok (.iconst (-1), 1) := by decide +kernel
theorem d_Mo_look_118 : decode b_Mo_look 118 = .ok (.ireturn, 1) := by decide +kernel
theorem d_Mo_look_119 : decode b_Mo_look 119 = .ok (.aload_n 0, 1) := by decide +kernel
theorem d_Mo_look_120 : decode b_Mo_look 120 = .ok (.getfield 142, 3) := by decide +kernel
theorem d_Mo_look_123 : decode b_Mo_look 123 = .ok (.ireturn, 1) := by decide +kernel
theorem d_Mo_look_124 : decode b_Mo_look 124 = .ok (.aload_n 0, 1) := by decide +kernel
theorem d_Mo_look_125 : decode b_Mo_look 125 = .ok (.getfield 129, 3) := by decide +kernel
theorem d_Mo_look_128 : decode b_Mo_look 128 = .ok (.ifCond .eq 7, 3) := by decide +kernel
theorem d_Mo_look_131 : decode b_Mo_look 131 = .ok (.iconst 1, 1) := by decide +kernel
theorem d_Mo_look_132 : decode b_Mo_look 132 = .ok (.goto 4, 3) := by decide +kernel
theorem d_Mo_look_135 : decode b_Mo_look 135 = .ok (.iconst 0, 1) := by decide +kernel
theorem d_Mo_look_136 : decode b_Mo_look 136 = .ok (.ireturn, 1) := by decide +kernel
theorem d_Mo_look_137 : decode b_Mo_look 137 = .ok (.aload_n 0, 1) := by decide +kernel
theorem d_Mo_look_138 : decode b_Mo_look 138 = .ok (.getfield 126, 3) := by decide +kernel
theorem d_Mo_look_141 : decode b_Mo_look 141 = .ok (.ireturn, 1) := by decide +kernel
theorem d_Mo_look_142 : decode b_Mo_look 142 = .ok (.iconst (-1), 1) := by decide +kernel
theorem d_Mo_look_143 : decode b_Mo_look 143 = .ok (.ireturn, 1) := by decide +kernel
