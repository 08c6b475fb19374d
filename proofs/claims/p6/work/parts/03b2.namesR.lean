theorem dX10_init_0 : decode cX10_init 0 = .ok (.aload_n 0, 1) := by decide +kernel
theorem dX10_init_1 : decode cX10_init 1 = .ok (.invokespecial 1, 3) := by decide +kernel
theorem dX10_init_4 : decode cX10_init 4 = .ok (.aload_n 0, 1) := by decide +kernel
theorem dX10_init_5 : decode cX10_init 5 = .ok (.ldc 7, 2) := by decide +kernel
theorem dX10_init_7 : decode cX10_init 7 = .ok (.newarray .long, 2) := by decide +kernel
theorem dX10_init_9 : decode cX10_init 9 = .ok (.putfield 8, 3) := by decide +kernel
theorem dX10_init_12 : decode cX10_init 12 = .ok (.aload_n 0, 1) := by decide +kernel
theorem dX10_init_13 : decode cX10_init 13 = .ok (.sipush 2068, 3) := by decide +kernel
theorem dX10_init_16 : decode cX10_init 16 = .ok (.newarray .int, 2) := by decide +kernel
theorem dX10_init_18 : decode cX10_init 18 = .ok (.putfield 14, 3) := by decide +kernel
theorem dX10_init_21 : decode cX10_init 21 = .ok (.aload_n 0, 1) := by decide +kernel
theorem dX10_init_22 : decode cX10_init 22 = .ok (.sipush 2068, 3) := by decide +kernel
theorem dX10_init_25 : decode cX10_init 25 = .ok (.newarray .boolean, 2) := by decide +kernel
theorem dX10_init_27 : decode cX10_init 27 = .ok (.putfield 18, 3) := by decide +kernel
theorem dX10_init_30 : decode cX10_init 30 = .ok (.aload_n 0, 1) := by decide +kernel
theorem dX10_init_31 : decode cX10_init 31 = .ok (.bipush 64, 2) := by decide +kernel
theorem dX10_init_33 : decode cX10_init 33 = .ok (.newarray .int, 2) := by decide +kernel
theorem dX10_init_35 : decode cX10_init 35 = .ok (.putfield 22, 3) := by decide +kernel
theorem dX10_init_38 : decode cX10_init 38 = .ok (.aload_n 0, 1) := by decide +kernel
theorem dX10_init_39 : decode cX10_init 39 = .ok (.iconst (-1), 1) := by decide +kernel
theorem dX10_init_40 : decode cX10_init 40 = .ok (.putfield 25, 3) := by decide +kernel
theorem dX10_init_43 : decode cX10_init 43 = .ok (.aload_n 0, 1) := by decide +kernel
theorem dX10_init_44 : decode cX10_init 44 = .ok (.sipush 201, 3) := by decide +kernel
theorem dX10_init_47 : decode cX10_init 47 = .ok (.newarray .int, 2) := by decide +kernel
theorem dX10_init_49 : decode cX10_init 49 = .ok (.putfield 29, 3) := by decide +kernel
theorem dX10_init_52 : decode cX10_init 52 = .ok (.aload_n 0, 1) := by decide +kernel
theorem dX10_init_53 : decode cX10_init 53 = .ok (.sipush 201, 3) := by decide +kernel
theorem dX10_init_56 : decode cX10_init 56 = .ok (.newarray .int, 2) := by decide +kernel
theorem dX10_init_58 : decode cX10_init 58 = .ok (.putfield 32, 3) := by decide +kernel
theorem dX10_init_61 : decode cX10_init 61 = .ok (.aload_n 0, 1) := by decide +kernel
theorem dX10_init_62 : decode cX10_init 62 = .ok (.sipush 201, 3) := by decide +kernel
theorem dX10_init_65 : decode cX10_init 65 = .ok (.newarray .int, 2) := by decide +kernel
theorem dX10_init_67 : decode cX10_init 67 = .ok (.putfield 35, 3) := by decide +kernel
theorem dX10_init_70 : decode cX10_init 70 = .ok (.aload_n 0, 1) := by decide +kernel
theorem dX10_init_71 : decode cX10_init 71 = .ok (.sipush 201, 3) := by decide +kernel
theorem dX10_init_74 : decode cX10_init 74 = .ok (.newarray .int, 2) := by decide +kernel
theorem dX10_init_76 : decode cX10_init 76 = .ok (.putfield 38, 3) := by decide +kernel
theorem dX10_init_79 : decode cX10_init 79 = .ok (.aload_n 0, 1) := by decide +kernel
theorem dX10_init_80 : decode cX10_init 80 = .ok (.sipush 201, 3) := by decide +kernel
theorem dX10_init_83 : decode cX10_init 83 = .ok (.newarray .int, 2) := by decide +kernel
theorem dX10_init_85 : decode cX10_init 85 = .ok (.putfield 41, 3) := by decide +kernel
theorem dX10_init_88 : decode cX10_init 88 = .ok (.aload_n 0, 1) := by decide +kernel
theorem dX10_init_89 : decode cX10_init 89 = .ok (.sipush 201, 3) := by decide +kernel
theorem dX10_init_92 : decode cX10_init 92 = .ok (.newarray .int, 2) := by decide +kernel
theorem dX10_init_94 : decode cX10_init 94 = .ok (.putfield 44, 3) := by decide +kernel
theorem dX10_init_97 : decode cX10_init 97 = .ok (.aload_n 0, 1) := by decide +kernel
theorem dX10_init_98 : decode cX10_init 98 = .ok (.bipush 8, 2) := by decide +kernel
theorem dX10_init_100 : decode cX10_init 100 = .ok (.newarray .int, 2) := by decide +kernel
theorem dX10_init_102 : decode cX10_init 102 = .ok (.putfield 47, 3) := by decide +kernel
theorem dX10_init_105 : decode cX10_init 105 = .ok (.aload_n 0, 1) := by decide +kernel
theorem dX10_init_106 : decode cX10_init 106 = .ok (.sipush 200, 3) := by decide +kernel
theorem dX10_init_109 : decode cX10_init 109 = .ok (.newarray .boolean, 2) := by decide +kernel
theorem dX10_init_111 : decode cX10_init 111 = .ok (.putfield 50, 3) := by decide +kernel
theorem dX10_init_114 : decode cX10_init 114 = .ok (.aload_n 0, 1) := by decide +kernel
theorem dX10_init_115 : decode cX10_init 115 = .ok (.sipush 200, 3) := by decide +kernel
theorem dX10_init_118 : decode cX10_init 118 = .ok (.newarray .int, 2) := by decide +kernel
theorem dX10_init_120 : decode cX10_init 120 = .ok (.putfield 53, 3) := by decide +kernel
theorem dX10_init_123 : decode cX10_init 123 = .ok (.aload_n 0, 1) := by decide +kernel
theorem dX10_init_124 : decode cX10_init 124 = .ok (.bipush 80, 2) := by decide +kernel
theorem dX10_init_126 : decode cX10_init 126 = .ok (.newarray .int, 2) := by decide +kernel
theorem dX10_init_128 : decode cX10_init 128 = .ok (.putfield 56, 3) := by decide +kernel
theorem dX10_init_131 : decode cX10_init 131 = .ok (.aload_n 0, 1) := by decide +kernel
theorem dX10_init_132 : decode cX10_init 132 = .ok (.sipush 160, 3) := by decide +kernel
theorem dX10_init_135 : decode cX10_init 135 = .ok (.newarray .int, 2) := by decide +kernel
theorem dX10_init_137 : decode cX10_init 137 = .ok (.putfield 59, 3) := by decide +kernel
theorem dX10_init_140 : decode cX10_init 140 = .ok (.aload_n 0, 1) := by decide +kernel
theorem dX10_init_141 : decode cX10_init 141 = .ok (.sipush 256, 3) := by decide +kernel
theorem dX10_init_144 : decode cX10_init 144 = .ok (.newarray .int, 2) := by decide +kernel
theorem dX10_init_146 : decode cX10_init 146 = .ok (.putfield 62, 3) := by decide +kernel
theorem dX10_init_149 : decode cX10_init 149 = .ok (.aload_n 0, 1) := by decide +kernel
theorem dX10_init_150 : decode cX10_init 150 = .ok (.sipush 256, 3) := by decide +kernel
theorem dX10_init_153 : decode cX10_init 153 = .ok (.newarray .int, 2) := by decide +kernel
theorem dX10_init_155 : decode cX10_init 155 = .ok (.putfield 65, 3) := by decide +kernel
theorem dX10_init_158 : decode cX10_init 158 = .ok (.aload_n 0, 1) := by decide +kernel
theorem dX10_init_159 : decode cX10_init 159 = .ok (.sipush 200, 3) := by decide +kernel
theorem dX10_init_162 : decode cX10_init 162 = .ok (.newarray .int, 2) := by decide +kernel
theorem dX10_init_164 : decode cX10_init 164 = .ok (.putfield 68, 3) := by decide +kernel
theorem dX10_init_167 : decode cX10_init 167 = .ok (.aload_n 0, 1) := by decide +kernel
theorem dX10_init_168 : decode cX10_init 168 = .ok (.sipush 1200, 3) := by decide +kernel
theorem dX10_init_171 : decode cX10_init 171 = .ok (.newarray .int, 2) := by decide +kernel
theorem dX10_init_173 : decode cX10_init 173 = .ok (.putfield 71, 3) := by decide +kernel
theorem dX10_init_176 : decode cX10_init 176 = .ok (.iconst 0, 1) := by decide +kernel
theorem dX10_init_177 : decode cX10_init 177 = .ok (.istore_n 1, 1) := by decide +kernel
theorem dX10_init_178 : decode cX10_init 178 = .ok (.iload_n 1, 1) := by decide +kernel
theorem dX10_init_179 : decode cX10_init 179 = .ok (.sipush 1034, 3) := by decide +kernel
theorem dX10_init_182 : decode cX10_init 182 = .ok (.if_icmp .ge 19, 3) := by decide +kernel
theorem dX10_init_185 : decode cX10_init 185 = .ok (.aload_n 0, 1) := by decide +kernel
theorem dX10_init_186 : decode cX10_init 186 = .ok (.iconst 2, 1) := by decide +kernel
theorem dX10_init_187 : decode cX10_init 187 = .ok (.iload_n 1, 1) := by decide +kernel
theorem dX10_init_188 : decode cX10_init 188 = .ok (.imul, 1) := by decide +kernel
theorem dX10_init_189 : decode cX10_init 189 = .ok (.iconst 1, 1) := by decide +kernel
theorem dX10_init_190 : decode cX10_init 190 = .ok (.iadd, 1) := by decide +kernel
theorem dX10_init_191 : decode cX10_init 191 = .ok (.lconst 1, 1) := by decide +kernel
theorem dX10_init_192 : decode cX10_init 192 = .ok (.invokevirtual 74, 3) := by decide +kernel
theorem dX10_init_195 : decode cX10_init 195 = .ok (.iinc 1 1, 3) := by decide +kernel
theorem dX10_init_198 : decode cX10_init 198 = .ok (.goto (-20), 3) := by decide +kernel
theorem dX10_init_201 : decode cX10_init 201 = .ok (.iconst 0, 1) := by decide +kernel
theorem dX10_init_202 : decode cX10_init 202 = .ok (.istore_n 1, 1) := by decide +kernel
theorem dX10_init_203 : decode cX10_init 203 = .ok (.iload_n 1, 1) := by decide +kernel
theorem dX10_init_204 : decode cX10_init 204 = .ok (.bipush 8, 2) := by decide +kernel
theorem dX10_init_206 : decode cX10_init 206 = .ok (.if_icmp .ge 16, 3) := by decide +kernel
theorem dX10_init_209 : decode cX10_init 209 = .ok (.aload_n 0, 1) := by decide +kernel
theorem dX10_init_210 : decode cX10_init 210 = .ok (.getfield 47, 3) := by decide +kernel
theorem dX10_init_213 : decode cX10_init 213 = .ok (.iload_n 1, 1) := by decide +kernel
theorem dX10_init_214 : decode cX10_init 214 = .ok (.iconst (-1), 1) := by decide +kernel
theorem dX10_init_215 : decode cX10_init 215 = .ok (.iastore, 1) := by decide +kernel
theorem dX10_init_216 : decode cX10_init 216 = .ok (.iinc 1 1, 3) := by decide +kernel
theorem dX10_init_219 : decode cX10_init 219 = .ok (.goto (-16), 3) := by decide +kernel
theorem dX10_init_222 : decode cX10_init 222 = .ok (.return_, 1) := by decide +kernel
theorem dX10_trim_0 : decode cX10_trim 0 = .ok (.aload_n 0, 1) := by decide +kernel
theorem dX10_trim_1 : decode cX10_trim 1 = .ok (.getfield 14, 3) := by decide +kernel
theorem dX10_trim_4 : decode cX10_trim 4 = .ok (.iload_n 1, 1) := by decide +kernel
theorem dX10_trim_5 : decode cX10_trim 5 = .ok (.iaload, 1) := by decide +kernel
theorem dX10_trim_6 : decode cX10_trim 6 = .ok (.ifCond .le 39, 3) := by decide +kernel
theorem dX10_trim_9 : decode cX10_trim 9 = .ok (.aload_n 0, 1) := by decide +kernel
theorem dX10_trim_10 : decode cX10_trim 10 = .ok (.getfield 8, 3) := by decide +kernel
theorem dX10_trim_13 : decode cX10_trim 13 = .ok (.bipush 80, 2) := by decide +kernel
theorem dX10_trim_15 : decode cX10_trim 15 = .ok (.iload_n 1, 1) := by decide +kernel
theorem dX10_trim_16 : decode cX10_trim 16 = .ok (.imul, 1) := by decide +kernel
theorem dX10_trim_17 : decode cX10_trim 17 = .ok (.aload_n 0, 1) := by decide +kernel
theorem dX10_trim_18 : decode cX10_trim 18 = .ok (.getfield 14, 3) := by decide +kernel
theorem dX10_trim_21 : decode cX10_trim 21 = .ok (.iload_n 1, 1) := by decide +kernel
theorem dX10_trim_22 : decode cX10_trim 22 = .ok (.iaload, 1) := by decide +kernel
theorem dX10_trim_23 : decode cX10_trim 23 = .ok (.iadd, 1) := by decide +kernel
theorem dX10_trim_24 : decode cX10_trim 24 = .ok (.iconst 1, 1) := by decide +kernel
theorem dX10_trim_25 : decode cX10_trim 25 = .ok (.isub, 1) := by decide +kernel
theorem dX10_trim_26 : decode cX10_trim 26 = .ok (.laload, 1) := by decide +kernel
theorem dX10_trim_27 : decode cX10_trim 27 = .ok (.lconst 0, 1) := by decide +kernel
theorem dX10_trim_28 : decode cX10_trim 28 = .ok (.lcmp, 1) := by decide +kernel
theorem dX10_trim_29 : decode cX10_trim 29 = .ok (.ifCond .ne 16, 3) := by decide +kernel
theorem dX10_trim_32 : decode cX10_trim 32 = .ok (.aload_n 0, 1) := by decide +kernel
theorem dX10_trim_33 : decode cX10_trim 33 = .ok (.getfield 14, 3) := by decide +kernel
theorem dX10_trim_36 : decode cX10_trim 36 = .ok (.iload_n 1, 1) := by decide +kernel
theorem dX10_trim_37 : decode cX10_trim 37 = .ok (.dup2, 1) := by decide +kernel
theorem dX10_trim_38 : decode cX10_trim 38 = .ok (.iaload, 1) := by decide +kernel
theorem dX10_trim_39 : decode cX10_trim 39 = .ok (.iconst 1, 1) := by decide +kernel
theorem dX10_trim_40 : decode cX10_trim 40 = .ok (.isub, 1) := by decide +kernel
theorem dX10_trim_41 : decode cX10_trim 41 = .ok (.iastore, 1) := by decide +kernel
theorem dX10_trim_42 : decode cX10_trim 42 = .ok (.goto (-42), 3) := by decide +kernel
theorem dX10_trim_45 : decode cX10_trim 45 = .ok (.aload_n 0, 1) := by decide +kernel
theorem dX10_trim_46 : decode cX10_trim 46 = .ok (.getfield 18, 3) := by decide +kernel
theorem dX10_trim_49 : decode cX10_trim 49 = .ok (.iload_n 1, 1) := by decide +kernel
theorem dX10_trim_50 : decode cX10_trim 50 = .ok (.aload_n 0, 1) := by decide +kernel
theorem dX10_trim_51 : decode cX10_trim 51 = .ok (.getfield 18, 3) := by decide +kernel
theorem dX10_trim_54 : decode cX10_trim 54 = .ok (.iload_n 1, 1) := by decide +kernel
theorem dX10_trim_55 : decode cX10_trim 55 = .ok (.baload, 1) := by decide +kernel
theorem dX10_trim_56 : decode cX10_trim 56 = .ok (.ifCond .eq 16, 3) := by decide +kernel
theorem dX10_trim_59 : decode cX10_trim 59 = .ok (.aload_n 0, 1) := by decide +kernel
theorem dX10_trim_60 : decode cX10_trim 60 = .ok (.getfield 14, 3) := by decide +kernel
theorem dX10_trim_63 : decode cX10_trim 63 = .ok (.iload_n 1, 1) := by decide +kernel
theorem dX10_trim_64 : decode cX10_trim 64 = .ok (.iaload, 1) := by decide +kernel
theorem dX10_trim_65 : decode cX10_trim 65 = .ok (.ifCond .le 7, 3) := by decide +kernel
theorem dX10_trim_68 : decode cX10_trim 68 = .ok (.iconst 1, 1) := by decide +kernel
theorem dX10_trim_69 : decode cX10_trim 69 = .ok (.goto 4, 3) := by decide +kernel
theorem dX10_trim_72 : decode cX10_trim 72 = .ok (.iconst 0, 1) := by decide +kernel
theorem dX10_trim_73 : decode cX10_trim 73 = .ok (.bastore, 1) := by decide +kernel
theorem dX10_trim_74 : decode cX10_trim 74 = .ok (.return_, 1) := by decide +kernel
theorem dX10_piece_0 : decode cX10_piece 0 = .ok (.iload_n 2, 1) := by decide +kernel
theorem dX10_piece_1 : decode cX10_piece 1 = .ok (.aload_n 0, 1) := by decide +kernel
theorem dX10_piece_2 : decode cX10_piece 2 = .ok (.getfield 14, 3) := by decide +kernel
theorem dX10_piece_5 : decode cX10_piece 5 = .ok (.iload_n 1, 1) := by decide +kernel
theorem dX10_piece_6 : decode cX10_piece 6 = .ok (.iaload, 1) := by decide +kernel
theorem dX10_piece_7 : decode cX10_piece 7 = .ok (.if_icmp .ge 17, 3) := by decide +kernel
theorem dX10_piece_10 : decode cX10_piece 10 = .ok (.aload_n 0, 1) := by decide +kernel
theorem dX10_piece_11 : decode cX10_piece 11 = .ok (.getfield 8, 3) := by decide +kernel
theorem dX10_piece_14 : decode cX10_piece 14 = .ok (.bipush 80, 2) := by decide +kernel
theorem dX10_piece_16 : decode cX10_piece 16 = .ok (.iload_n 1, 1) := by decide +kernel
theorem dX10_piece_17 : decode cX10_piece 17 = .ok (.imul, 1) := by decide +kernel
theorem dX10_piece_18 : decode cX10_piece 18 = .ok (.iload_n 2, 1) := by decide +kernel
theorem dX10_piece_19 : decode cX10_piece 19 = .ok (.iadd, 1) := by decide +kernel
theorem dX10_piece_20 : decode cX10_piece 20 = .ok (.laload, 1) := by decide +kernel
theorem dX10_piece_21 : decode cX10_piece 21 = .ok (.goto 4, 3) := by decide +kernel
theorem dX10_piece_24 : decode cX10_piece 24 = .ok (.lconst 0, 1) := by decide +kernel
theorem dX10_piece_25 : decode cX10_piece 25 = .ok (.lreturn, 1) := by decide +kernel
theorem dX10_takeSizes_0 : decode cX10_takeSizes 0 = .ok (.aload_n 0, 1) := by decide +kernel
theorem dX10_takeSizes_1 : decode cX10_takeSizes 1 = .ok (.getfield 14, 3) := by decide +kernel
theorem dX10_takeSizes_4 : decode cX10_takeSizes 4 = .ok (.iload_n 2, 1) := by decide +kernel
theorem dX10_takeSizes_5 : decode cX10_takeSizes 5 = .ok (.iaload, 1) := by decide +kernel
theorem dX10_takeSizes_6 : decode cX10_takeSizes 6 = .ok (.istore 4, 2) := by decide +kernel
theorem dX10_takeSizes_8 : decode cX10_takeSizes 8 = .ok (.lconst 0, 1) := by decide +kernel
theorem dX10_takeSizes_9 : decode cX10_takeSizes 9 = .ok (.lstore 5, 2) := by decide +kernel
theorem dX10_takeSizes_11 : decode cX10_takeSizes 11 = .ok (.iconst 0, 1) := by decide +kernel
theorem dX10_takeSizes_12 : decode cX10_takeSizes 12 = .ok (.istore 7, 2) := by decide +kernel
theorem dX10_takeSizes_14 : decode cX10_takeSizes 14 = .ok (.iload 7, 2) := by decide +kernel
theorem dX10_takeSizes_16 : decode cX10_takeSizes 16 = .ok (.iload 4, 2) := by decide +kernel
theorem dX10_takeSizes_18 : decode cX10_takeSizes 18 = .ok (.if_icmp .ge 59, 3) := by decide +kernel
theorem dX10_takeSizes_21 : decode cX10_takeSizes 21 = .ok (.aload_n 0, 1) := by decide +kernel
theorem dX10_takeSizes_22 : decode cX10_takeSizes 22 = .ok (.iload_n 2, 1) := by decide +kernel
theorem dX10_takeSizes_23 : decode cX10_takeSizes 23 = .ok (.iload 7, 2) := by decide +kernel
theorem dX10_takeSizes_25 : decode cX10_takeSizes 25 = .ok (.invokevirtual 87, 3) := by decide +kernel
theorem dX10_takeSizes_28 : decode cX10_takeSizes 28 = .ok (.aload_n 0, 1) := by decide +kernel
theorem dX10_takeSizes_29 : decode cX10_takeSizes 29 = .ok (.iload_n 3, 1) := by decide +kernel
theorem dX10_takeSizes_30 : decode cX10_takeSizes 30 = .ok (.iload 7, 2) := by decide +kernel
theorem dX10_takeSizes_32 : decode cX10_takeSizes 32 = .ok (.invokevirtual 87, 3) := by decide +kernel
theorem dX10_takeSizes_35 : decode cX10_takeSizes 35 = .ok (.lsub, 1) := by decide +kernel
theorem dX10_takeSizes_36 : decode cX10_takeSizes 36 = .ok (.lload 5, 2) := by decide +kernel
theorem dX10_takeSizes_38 : decode cX10_takeSizes 38 = .ok (.lsub, 1) := by decide +kernel
theorem dX10_takeSizes_39 : decode cX10_takeSizes 39 = .ok (.lstore 8, 2) := by decide +kernel
theorem dX10_takeSizes_41 : decode cX10_takeSizes 41 = .ok (.aload_n 0, 1) := by decide +kernel
theorem dX10_takeSizes_42 : decode cX10_takeSizes 42 = .ok (.getfield 8, 3) := by decide +kernel
theorem dX10_takeSizes_45 : decode cX10_takeSizes 45 = .ok (.ldc 91, 2) := by decide +kernel
theorem dX10_takeSizes_47 : decode cX10_takeSizes 47 = .ok (.iload 7, 2) := by decide +kernel
theorem dX10_takeSizes_49 : decode cX10_takeSizes 49 = .ok (.iadd, 1) := by decide +kernel
theorem dX10_takeSizes_50 : decode cX10_takeSizes 50 = .ok (.lload 8, 2) := by decide +kernel
theorem dX10_takeSizes_52 : decode cX10_takeSizes 52 = .ok (.ldc2_w 81, 3) := by decide +kernel
theorem dX10_takeSizes_55 : decode cX10_takeSizes 55 = .ok (.land, 1) := by decide +kernel
theorem dX10_takeSizes_56 : decode cX10_takeSizes 56 = .ok (.lastore, 1) := by decide +kernel
theorem dX10_takeSizes_57 : decode cX10_takeSizes 57 = .ok (.lload 8, 2) := by decide +kernel
theorem dX10_takeSizes_59 : decode cX10_takeSizes 59 = .ok (.lconst 0, 1) := by decide +kernel
theorem dX10_takeSizes_60 : decode cX10_takeSizes 60 = .ok (.lcmp, 1) := by decide +kernel
theorem dX10_takeSizes_61 : decode cX10_takeSizes 61 = .ok (.ifCond .ge 7, 3) := by decide +kernel
theorem dX10_takeSizes_64 : decode cX10_takeSizes 64 = .ok (.lconst 1, 1) := by decide +kernel
theorem dX10_takeSizes_65 : decode cX10_takeSizes 65 = .ok (.goto 4, 3) := by decide +kernel
theorem dX10_takeSizes_68 : decode cX10_takeSizes 68 = .ok (.lconst 0, 1) := by decide +kernel
theorem dX10_takeSizes_69 : decode cX10_takeSizes 69 = .ok (.lstore 5, 2) := by decide +kernel
theorem dX10_takeSizes_71 : decode cX10_takeSizes 71 = .ok (.iinc 7 1, 3) := by decide +kernel
theorem dX10_takeSizes_74 : decode cX10_takeSizes 74 = .ok (.goto (-60), 3) := by decide +kernel
theorem dX10_takeSizes_77 : decode cX10_takeSizes 77 = .ok (.aload_n 0, 1) := by decide +kernel
theorem dX10_takeSizes_78 : decode cX10_takeSizes 78 = .ok (.getfield 14, 3) := by decide +kernel
theorem dX10_takeSizes_81 : decode cX10_takeSizes 81 = .ok (.sipush 2066, 3) := by decide +kernel
theorem dX10_takeSizes_84 : decode cX10_takeSizes 84 = .ok (.iload 4, 2) := by decide +kernel
theorem dX10_takeSizes_86 : decode cX10_takeSizes 86 = .ok (.iastore, 1) := by decide +kernel
theorem dX10_takeSizes_87 : decode cX10_takeSizes 87 = .ok (.aload_n 0, 1) := by decide +kernel
theorem dX10_takeSizes_88 : decode cX10_takeSizes 88 = .ok (.getfield 18, 3) := by decide +kernel
theorem dX10_takeSizes_91 : decode cX10_takeSizes 91 = .ok (.sipush 2066, 3) := by decide +kernel
theorem dX10_takeSizes_94 : decode cX10_takeSizes 94 = .ok (.iconst 0, 1) := by decide +kernel
theorem dX10_takeSizes_95 : decode cX10_takeSizes 95 = .ok (.bastore, 1) := by decide +kernel
theorem dX10_takeSizes_96 : decode cX10_takeSizes 96 = .ok (.aload_n 0, 1) := by decide +kernel
theorem dX10_takeSizes_97 : decode cX10_takeSizes 97 = .ok (.sipush 2066, 3) := by decide +kernel
theorem dX10_takeSizes_100 : decode cX10_takeSizes 100 = .ok (.invokevirtual 83, 3) := by decide +kernel
theorem dX10_takeSizes_103 : decode cX10_takeSizes 103 = .ok (.aload_n 0, 1) := by decide +kernel
theorem dX10_takeSizes_104 : decode cX10_takeSizes 104 = .ok (.iload_n 1, 1) := by decide +kernel
theorem dX10_takeSizes_105 : decode cX10_takeSizes 105 = .ok (.sipush 2066, 3) := by decide +kernel
theorem dX10_takeSizes_108 : decode cX10_takeSizes 108 = .ok (.invokevirtual 92, 3) := by decide +kernel
theorem dX10_takeSizes_111 : decode cX10_takeSizes 111 = .ok (.return_, 1) := by decide +kernel
theorem dX10_times_0 : decode cX10_times 0 = .ok (.aload_n 0, 1) := by decide +kernel
theorem dX10_times_1 : decode cX10_times 1 = .ok (.getfield 18, 3) := by decide +kernel
theorem dX10_times_4 : decode cX10_times 4 = .ok (.iload_n 2, 1) := by decide +kernel
theorem dX10_times_5 : decode cX10_times 5 = .ok (.baload, 1) := by decide +kernel
theorem dX10_times_6 : decode cX10_times 6 = .ok (.aload_n 0, 1) := by decide +kernel
theorem dX10_times_7 : decode cX10_times 7 = .ok (.getfield 18, 3) := by decide +kernel
theorem dX10_times_10 : decode cX10_times 10 = .ok (.iload_n 3, 1) := by decide +kernel
theorem dX10_times_11 : decode cX10_times 11 = .ok (.baload, 1) := by decide +kernel
theorem dX10_times_12 : decode cX10_times 12 = .ok (.if_icmp .eq 7, 3) := by decide +kernel
theorem dX10_times_15 : decode cX10_times 15 = .ok (.iconst 1, 1) := by decide +kernel
theorem dX10_times_16 : decode cX10_times 16 = .ok (.goto 4, 3) := by decide +kernel
theorem dX10_times_19 : decode cX10_times 19 = .ok (.iconst 0, 1) := by decide +kernel
theorem dX10_times_20 : decode cX10_times 20 = .ok (.istore 4, 2) := by decide +kernel
theorem dX10_times_22 : decode cX10_times 22 = .ok (.aload_n 0, 1) := by decide +kernel
theorem dX10_times_23 : decode cX10_times 23 = .ok (.getfield 14, 3) := by decide +kernel
theorem dX10_times_26 : decode cX10_times 26 = .ok (.iload_n 2, 1) := by decide +kernel
theorem dX10_times_27 : decode cX10_times 27 = .ok (.iaload, 1) := by decide +kernel
theorem dX10_times_28 : decode cX10_times 28 = .ok (.aload_n 0, 1) := by decide +kernel
theorem dX10_times_29 : decode cX10_times 29 = .ok (.getfield 14, 3) := by decide +kernel
theorem dX10_times_32 : decode cX10_times 32 = .ok (.iload_n 3, 1) := by decide +kernel
theorem dX10_times_33 : decode cX10_times 33 = .ok (.iaload, 1) := by decide +kernel
theorem dX10_times_34 : decode cX10_times 34 = .ok (.iadd, 1) := by decide +kernel
theorem dX10_times_35 : decode cX10_times 35 = .ok (.istore 5, 2) := by decide +kernel
theorem dX10_times_37 : decode cX10_times 37 = .ok (.iconst 0, 1) := by decide +kernel
theorem dX10_times_38 : decode cX10_times 38 = .ok (.istore 6, 2) := by decide +kernel
theorem dX10_times_40 : decode cX10_times 40 = .ok (.iload 6, 2) := by decide +kernel
theorem dX10_times_42 : decode cX10_times 42 = .ok (.iload 5, 2) := by decide +kernel
theorem dX10_times_44 : decode cX10_times 44 = .ok (.if_icmp .ge 20, 3) := by decide +kernel
theorem dX10_times_47 : decode cX10_times 47 = .ok (.aload_n 0, 1) := by decide +kernel
theorem dX10_times_48 : decode cX10_times 48 = .ok (.getfield 8, 3) := by decide +kernel
theorem dX10_times_51 : decode cX10_times 51 = .ok (.ldc 91, 2) := by decide +kernel
theorem dX10_times_53 : decode cX10_times 53 = .ok (.iload 6, 2) := by decide +kernel
theorem dX10_times_55 : decode cX10_times 55 = .ok (.iadd, 1) := by decide +kernel
theorem dX10_times_56 : decode cX10_times 56 = .ok (.lconst 0, 1) := by decide +kernel
theorem dX10_times_57 : decode cX10_times 57 = .ok (.lastore, 1) := by decide +kernel
theorem dX10_times_58 : decode cX10_times 58 = .ok (.iinc 6 1, 3) := by decide +kernel
theorem dX10_times_61 : decode cX10_times 61 = .ok (.goto (-21), 3) := by decide +kernel
theorem dX10_times_64 : decode cX10_times 64 = .ok (.iconst 0, 1) := by decide +kernel
theorem dX10_times_65 : decode cX10_times 65 = .ok (.istore 6, 2) := by decide +kernel
theorem dX10_times_67 : decode cX10_times 67 = .ok (.iload 6, 2) := by decide +kernel
theorem dX10_times_69 : decode cX10_times 69 = .ok (.aload_n 0, 1) := by decide +kernel
theorem dX10_times_70 : decode cX10_times 70 = .ok (.getfield 14, 3) := by decide +kernel
theorem dX10_times_73 : decode cX10_times 73 = .ok (.iload_n 2, 1) := by decide +kernel
theorem dX10_times_74 : decode cX10_times 74 = .ok (.iaload, 1) := by decide +kernel
theorem dX10_times_75 : decode cX10_times 75 = .ok (.if_icmp .ge 121, 3) := by decide +kernel
theorem dX10_times_78 : decode cX10_times 78 = .ok (.lconst 0, 1) := by decide +kernel
theorem dX10_times_79 : decode cX10_times 79 = .ok (.lstore 7, 2) := by decide +kernel
theorem dX10_times_81 : decode cX10_times 81 = .ok (.iconst 0, 1) := by decide +kernel
theorem dX10_times_82 : decode cX10_times 82 = .ok (.istore 9, 2) := by decide +kernel
theorem dX10_times_84 : decode cX10_times 84 = .ok (.iload 9, 2) := by decide +kernel
theorem dX10_times_86 : decode cX10_times 86 = .ok (.aload_n 0, 1) := by decide +kernel
theorem dX10_times_87 : decode cX10_times 87 = .ok (.getfield 14, 3) := by decide +kernel
theorem dX10_times_90 : decode cX10_times 90 = .ok (.iload_n 3, 1) := by decide +kernel
theorem dX10_times_91 : decode cX10_times 91 = .ok (.iaload, 1) := by decide +kernel
theorem dX10_times_92 : decode cX10_times 92 = .ok (.if_icmp .ge 79, 3) := by decide +kernel
theorem dX10_times_95 : decode cX10_times 95 = .ok (.aload_n 0, 1) := by decide +kernel
theorem dX10_times_96 : decode cX10_times 96 = .ok (.getfield 8, 3) := by decide +kernel
theorem dX10_times_99 : decode cX10_times 99 = .ok (.bipush 80, 2) := by decide +kernel
theorem dX10_times_101 : decode cX10_times 101 = .ok (.iload_n 2, 1) := by decide +kernel
theorem dX10_times_102 : decode cX10_times 102 = .ok (.imul, 1) := by decide +kernel
theorem dX10_times_103 : decode cX10_times 103 = .ok (.iload 6, 2) := by decide +kernel
theorem dX10_times_105 : decode cX10_times 105 = .ok (.iadd, 1) := by decide +kernel
theorem dX10_times_106 : decode cX10_times 106 = .ok (.laload, 1) := by decide +kernel
theorem dX10_times_107 : decode cX10_times 107 = .ok (.aload_n 0, 1) := by decide +kernel
theorem dX10_times_108 : decode cX10_times 108 = .ok (.getfield 8, 3) := by decide +kernel
theorem dX10_times_111 : decode cX10_times 111 = .ok (.bipush 80, 2) := by decide +kernel
theorem dX10_times_113 : decode cX10_times 113 = .ok (.iload_n 3, 1) := by decide +kernel
theorem dX10_times_114 : decode cX10_times 114 = .ok (.imul, 1) := by decide +kernel
theorem dX10_times_115 : decode cX10_times 115 = .ok (.iload 9, 2) := by decide +kernel
theorem dX10_times_117 : decode cX10_times 117 = .ok (.iadd, 1) := by decide +kernel
theorem dX10_times_118 : decode cX10_times 118 = .ok (.laload, 1) := by decide +kernel
theorem dX10_times_119 : decode cX10_times 119 = .ok (.lmul, 1) := by decide +kernel
theorem dX10_times_120 : decode cX10_times 120 = .ok (.aload_n 0, 1) := by decide +kernel
theorem dX10_times_121 : decode cX10_times 121 = .ok (.getfield 8, 3) := by decide +kernel
theorem dX10_times_124 : decode cX10_times 124 = .ok (.ldc 91, 2) := by decide +kernel
theorem dX10_times_126 : decode cX10_times 126 = .ok (.iload 6, 2) := by decide +kernel
theorem dX10_times_128 : decode cX10_times 128 = .ok (.iadd, 1) := by decide +kernel
theorem dX10_times_129 : decode cX10_times 129 = .ok (.iload 9, 2) := by decide +kernel
theorem dX10_times_131 : decode cX10_times 131 = .ok (.iadd, 1) := by decide +kernel
theorem dX10_times_132 : decode cX10_times 132 = .ok (.laload, 1) := by decide +kernel
theorem dX10_times_133 : decode cX10_times 133 = .ok (.ladd, 1) := by decide +kernel
theorem dX10_times_134 : decode cX10_times 134 = .ok (.lload 7, 2) := by decide +kernel
theorem dX10_times_136 : decode cX10_times 136 = .ok (.ladd, 1) := by decide +kernel
theorem dX10_times_137 : decode cX10_times 137 = .ok (.lstore 10, 2) := by decide +kernel
theorem dX10_times_139 : decode cX10_times 139 = .ok (.aload_n 0, 1) := by decide +kernel
theorem dX10_times_140 : decode cX10_times 140 = .ok (.getfield 8, 3) := by decide +kernel
theorem dX10_times_143 : decode cX10_times 143 = .ok (.ldc 91, 2) := by decide +kernel
theorem dX10_times_145 : decode cX10_times 145 = .ok (.iload 6, 2) := by decide +kernel
theorem dX10_times_147 : decode cX10_times 147 = .ok (.iadd, 1) := by decide +kernel
theorem dX10_times_148 : decode cX10_times 148 = .ok (.iload 9, 2) := by decide +kernel
theorem dX10_times_150 : decode cX10_times 150 = .ok (.iadd, 1) := by decide +kernel
theorem dX10_times_151 : decode cX10_times 151 = .ok (.lload 10, 2) := by decide +kernel
theorem dX10_times_153 : decode cX10_times 153 = .ok (.ldc2_w 81, 3) := by decide +kernel
theorem dX10_times_156 : decode cX10_times 156 = .ok (.land, 1) := by decide +kernel
theorem dX10_times_157 : decode cX10_times 157 = .ok (.lastore, 1) := by decide +kernel
theorem dX10_times_158 : decode cX10_times 158 = .ok (.lload 10, 2) := by decide +kernel
theorem dX10_times_160 : decode cX10_times 160 = .ok (.bipush 32, 2) := by decide +kernel
theorem dX10_times_162 : decode cX10_times 162 = .ok (.lushr, 1) := by decide +kernel
theorem dX10_times_163 : decode cX10_times 163 = .ok (.lstore 7, 2) := by decide +kernel
theorem dX10_times_165 : decode cX10_times 165 = .ok (.iinc 9 1, 3) := by decide +kernel
theorem dX10_times_168 : decode cX10_times 168 = .ok (.goto (-84), 3) := by decide +kernel
theorem dX10_times_171 : decode cX10_times 171 = .ok (.aload_n 0, 1) := by decide +kernel
theorem dX10_times_172 : decode cX10_times 172 = .ok (.getfield 8, 3) := by decide +kernel
theorem dX10_times_175 : decode cX10_times 175 = .ok (.ldc 91, 2) := by decide +kernel
theorem dX10_times_177 : decode cX10_times 177 = .ok (.iload 6, 2) := by decide +kernel
theorem dX10_times_179 : decode cX10_times 179 = .ok (.iadd, 1) := by decide +kernel
theorem dX10_times_180 : decode cX10_times 180 = .ok (.aload_n 0, 1) := by decide +kernel
theorem dX10_times_181 : decode cX10_times 181 = .ok (.getfield 14, 3) := by decide +kernel
theorem dX10_times_184 : decode cX10_times 184 = .ok (.iload_n 3, 1) := by decide +kernel
theorem dX10_times_185 : decode cX10_times 185 = .ok (.iaload, 1) := by decide +kernel
theorem dX10_times_186 : decode cX10_times 186 = .ok (.iadd, 1) := by decide +kernel
theorem dX10_times_187 : decode cX10_times 187 = .ok (.lload 7, 2) := by decide +kernel
theorem dX10_times_189 : decode cX10_times 189 = .ok (.lastore, 1) := by decide +kernel
theorem dX10_times_190 : decode cX10_times 190 = .ok (.iinc 6 1, 3) := by decide +kernel
theorem dX10_times_193 : decode cX10_times 193 = .ok (.goto (-126), 3) := by decide +kernel
theorem dX10_times_196 : decode cX10_times 196 = .ok (.aload_n 0, 1) := by decide +kernel
theorem dX10_times_197 : decode cX10_times 197 = .ok (.getfield 14, 3) := by decide +kernel
theorem dX10_times_200 : decode cX10_times 200 = .ok (.sipush 2066, 3) := by decide +kernel
theorem dX10_times_203 : decode cX10_times 203 = .ok (.iload 5, 2) := by decide +kernel
theorem dX10_times_205 : decode cX10_times 205 = .ok (.iastore, 1) := by decide +kernel
theorem dX10_times_206 : decode cX10_times 206 = .ok (.aload_n 0, 1) := by decide +kernel
theorem dX10_times_207 : decode cX10_times 207 = .ok (.getfield 18, 3) := by decide +kernel
theorem dX10_times_210 : decode cX10_times 210 = .ok (.sipush 2066, 3) := by decide +kernel
theorem dX10_times_213 : decode cX10_times 213 = .ok (.iload 4, 2) := by decide +kernel
theorem dX10_times_215 : decode cX10_times 215 = .ok (.bastore, 1) := by decide +kernel
theorem dX10_times_216 : decode cX10_times 216 = .ok (.aload_n 0, 1) := by decide +kernel
theorem dX10_times_217 : decode cX10_times 217 = .ok (.sipush 2066, 3) := by decide +kernel
theorem dX10_times_220 : decode cX10_times 220 = .ok (.invokevirtual 83, 3) := by decide +kernel
theorem dX10_times_223 : decode cX10_times 223 = .ok (.aload_n 0, 1) := by decide +kernel
theorem dX10_times_224 : decode cX10_times 224 = .ok (.iload_n 1, 1) := by decide +kernel
theorem dX10_times_225 : decode cX10_times 225 = .ok (.sipush 2066, 3) := by decide +kernel
theorem dX10_times_228 : decode cX10_times 228 = .ok (.invokevirtual 92, 3) := by decide +kernel
theorem dX10_times_231 : decode cX10_times 231 = .ok (.return_, 1) := by decide +kernel
theorem dX10_isEven_0 : decode cX10_isEven 0 = .ok (.aload_n 0, 1) := by decide +kernel
theorem dX10_isEven_1 : decode cX10_isEven 1 = .ok (.iload_n 1, 1) := by decide +kernel
theorem dX10_isEven_2 : decode cX10_isEven 2 = .ok (.iconst 0, 1) := by decide +kernel
theorem dX10_isEven_3 : decode cX10_isEven 3 = .ok (.invokevirtual 87, 3) := by decide +kernel
theorem dX10_isEven_6 : decode cX10_isEven 6 = .ok (.lconst 1, 1) := by decide +kernel
theorem dX10_isEven_7 : decode cX10_isEven 7 = .ok (.land, 1) := by decide +kernel
theorem dX10_isEven_8 : decode cX10_isEven 8 = .ok (.lconst 0, 1) := by decide +kernel
theorem dX10_isEven_9 : decode cX10_isEven 9 = .ok (.lcmp, 1) := by decide +kernel
theorem dX10_isEven_10 : decode cX10_isEven 10 = .ok (.ifCond .ne 7, 3) := by decide +kernel
theorem dX10_isEven_13 : decode cX10_isEven 13 = .ok (.iconst 1, 1) := by decide +kernel
theorem dX10_isEven_14 : decode cX10_isEven 14 = .ok (.goto 4, 3) := by decide +kernel
theorem dX10_isEven_17 : decode cX10_isEven 17 = .ok (.iconst 0, 1) := by decide +kernel
theorem dX10_isEven_18 : decode cX10_isEven 18 = .ok (.ireturn, 1) := by decide +kernel
theorem dX10_halve_0 : decode cX10_halve 0 = .ok (.iconst 0, 1) := by decide +kernel
theorem dX10_halve_1 : decode cX10_halve 1 = .ok (.istore_n 2, 1) := by decide +kernel
theorem dX10_halve_2 : decode cX10_halve 2 = .ok (.iload_n 2, 1) := by decide +kernel
theorem dX10_halve_3 : decode cX10_halve 3 = .ok (.aload_n 0, 1) := by decide +kernel
theorem dX10_halve_4 : decode cX10_halve 4 = .ok (.getfield 14, 3) := by decide +kernel
theorem dX10_halve_7 : decode cX10_halve 7 = .ok (.iload_n 1, 1) := by decide +kernel
theorem dX10_halve_8 : decode cX10_halve 8 = .ok (.iaload, 1) := by decide +kernel
theorem dX10_halve_9 : decode cX10_halve 9 = .ok (.if_icmp .ge 47, 3) := by decide +kernel
theorem dX10_halve_12 : decode cX10_halve 12 = .ok (.aload_n 0, 1) := by decide +kernel
theorem dX10_halve_13 : decode cX10_halve 13 = .ok (.getfield 8, 3) := by decide +kernel
theorem dX10_halve_16 : decode cX10_halve 16 = .ok (.bipush 80, 2) := by decide +kernel
theorem dX10_halve_18 : decode cX10_halve 18 = .ok (.iload_n 1, 1) := by decide +kernel
theorem dX10_halve_19 : decode cX10_halve 19 = .ok (.imul, 1) := by decide +kernel
theorem dX10_halve_20 : decode cX10_halve 20 = .ok (.iload_n 2, 1) := by decide +kernel
theorem dX10_halve_21 : decode cX10_halve 21 = .ok (.iadd, 1) := by decide +kernel
theorem dX10_halve_22 : decode cX10_halve 22 = .ok (.aload_n 0, 1) := by decide +kernel
theorem dX10_halve_23 : decode cX10_halve 23 = .ok (.getfield 8, 3) := by decide +kernel
theorem dX10_halve_26 : decode cX10_halve 26 = .ok (.bipush 80, 2) := by decide +kernel
theorem dX10_halve_28 : decode cX10_halve 28 = .ok (.iload_n 1, 1) := by decide +kernel
theorem dX10_halve_29 : decode cX10_halve 29 = .ok (.imul, 1) := by decide +kernel
theorem dX10_halve_30 : decode cX10_halve 30 = .ok (.iload_n 2, 1) := by decide +kernel
theorem dX10_halve_31 : decode cX10_halve 31 = .ok (.iadd, 1) := by decide +kernel
theorem dX10_halve_32 : decode cX10_halve 32 = .ok (.laload, 1) := by decide +kernel
theorem dX10_halve_33 : decode cX10_halve 33 = .ok (.iconst 1, 1) := by decide +kernel
theorem dX10_halve_34 : decode cX10_halve 34 = .ok (.lushr, 1) := by decide +kernel
theorem dX10_halve_35 : decode cX10_halve 35 = .ok (.aload_n 0, 1) := by decide +kernel
theorem dX10_halve_36 : decode cX10_halve 36 = .ok (.iload_n 1, 1) := by decide +kernel
theorem dX10_halve_37 : decode cX10_halve 37 = .ok (.iload_n 2, 1) := by decide +kernel
theorem dX10_halve_38 : decode cX10_halve 38 = .ok (.iconst 1, 1) := by decide +kernel
theorem dX10_halve_39 : decode cX10_halve 39 = .ok (.iadd, 1) := by decide +kernel
theorem dX10_halve_40 : decode cX10_halve 40 = .ok (.invokevirtual 87, 3) := by decide +kernel
theorem dX10_halve_43 : decode cX10_halve 43 = .ok (.lconst 1, 1) := by decide +kernel
theorem dX10_halve_44 : decode cX10_halve 44 = .ok (.land, 1) := by decide +kernel
theorem dX10_halve_45 : decode cX10_halve 45 = .ok (.bipush 31, 2) := by decide +kernel
theorem dX10_halve_47 : decode cX10_halve 47 = .ok (.lshl, 1) := by decide +kernel
theorem dX10_halve_48 : decode cX10_halve 48 = .ok (.lor, 1) := by decide +kernel
theorem dX10_halve_49 : decode cX10_halve 49 = .ok (.lastore, 1) := by decide +kernel
theorem dX10_halve_50 : decode cX10_halve 50 = .ok (.iinc 2 1, 3) := by decide +kernel
theorem dX10_halve_53 : decode cX10_halve 53 = .ok (.goto (-51), 3) := by decide +kernel
theorem dX10_halve_56 : decode cX10_halve 56 = .ok (.aload_n 0, 1) := by decide +kernel
theorem dX10_halve_57 : decode cX10_halve 57 = .ok (.iload_n 1, 1) := by decide +kernel
theorem dX10_halve_58 : decode cX10_halve 58 = .ok (.invokevirtual 83, 3) := by decide +kernel
theorem dX10_halve_61 : decode cX10_halve 61 = .ok (.return_, 1) := by decide +kernel
theorem dX10_twice_0 : decode cX10_twice 0 = .ok (.iload_n 2, 1) := by decide +kernel
theorem dX10_twice_1 : decode cX10_twice 1 = .ok (.i2l, 1) := by decide +kernel
theorem dX10_twice_2 : decode cX10_twice 2 = .ok (.lstore_n 3, 1) := by decide +kernel
theorem dX10_twice_3 : decode cX10_twice 3 = .ok (.iconst 0, 1) := by decide +kernel
theorem dX10_twice_4 : decode cX10_twice 4 = .ok (.istore 5, 2) := by decide +kernel
theorem dX10_twice_6 : decode cX10_twice 6 = .ok (.iload 5, 2) := by decide +kernel
theorem dX10_twice_8 : decode cX10_twice 8 = .ok (.aload_n 0, 1) := by decide +kernel
theorem dX10_twice_9 : decode cX10_twice 9 = .ok (.getfield 14, 3) := by decide +kernel
theorem dX10_twice_12 : decode cX10_twice 12 = .ok (.iload_n 1, 1) := by decide +kernel
theorem dX10_twice_13 : decode cX10_twice 13 = .ok (.iaload, 1) := by decide +kernel
theorem dX10_twice_14 : decode cX10_twice 14 = .ok (.if_icmp .ge 51, 3) := by decide +kernel
theorem dX10_twice_17 : decode cX10_twice 17 = .ok (.aload_n 0, 1) := by decide +kernel
theorem dX10_twice_18 : decode cX10_twice 18 = .ok (.getfield 8, 3) := by decide +kernel
theorem dX10_twice_21 : decode cX10_twice 21 = .ok (.bipush 80, 2) := by decide +kernel
theorem dX10_twice_23 : decode cX10_twice 23 = .ok (.iload_n 1, 1) := by decide +kernel
theorem dX10_twice_24 : decode cX10_twice 24 = .ok (.imul, 1) := by decide +kernel
theorem dX10_twice_25 : decode cX10_twice 25 = .ok (.iload 5, 2) := by decide +kernel
theorem dX10_twice_27 : decode cX10_twice 27 = .ok (.iadd, 1) := by decide +kernel
theorem dX10_twice_28 : decode cX10_twice 28 = .ok (.laload, 1) := by decide +kernel
theorem dX10_twice_29 : decode cX10_twice 29 = .ok (.iconst 1, 1) := by decide +kernel
theorem dX10_twice_30 : decode cX10_twice 30 = .ok (.lshl, 1) := by decide +kernel
theorem dX10_twice_31 : decode cX10_twice 31 = .ok (.lload_n 3, 1) := by decide +kernel
theorem dX10_twice_32 : decode cX10_twice 32 = .ok (.lor, 1) := by decide +kernel
theorem dX10_twice_33 : decode cX10_twice 33 = .ok (.lstore 6, 2) := by decide +kernel
theorem dX10_twice_35 : decode cX10_twice 35 = .ok (.aload_n 0, 1) := by decide +kernel
theorem dX10_twice_36 : decode cX10_twice 36 = .ok (.getfield 8, 3) := by decide +kernel
theorem dX10_twice_39 : decode cX10_twice 39 = .ok (.bipush 80, 2) := by decide +kernel
theorem dX10_twice_41 : decode cX10_twice 41 = .ok (.iload_n 1, 1) := by decide +kernel
theorem dX10_twice_42 : decode cX10_twice 42 = .ok (.imul, 1) := by decide +kernel
theorem dX10_twice_43 : decode cX10_twice 43 = .ok (.iload 5, 2) := by decide +kernel
theorem dX10_twice_45 : decode cX10_twice 45 = .ok (.iadd, 1) := by decide +kernel
theorem dX10_twice_46 : decode cX10_twice 46 = .ok (.lload 6, 2) := by decide +kernel
theorem dX10_twice_48 : decode cX10_twice 48 = .ok (.ldc2_w 81, 3) := by decide +kernel
theorem dX10_twice_51 : decode cX10_twice 51 = .ok (.land, 1) := by decide +kernel
theorem dX10_twice_52 : decode cX10_twice 52 = .ok (.lastore, 1) := by decide +kernel
theorem dX10_twice_53 : decode cX10_twice 53 = .ok (.lload 6, 2) := by decide +kernel
theorem dX10_twice_55 : decode cX10_twice 55 = .ok (.bipush 32, 2) := by decide +kernel
theorem dX10_twice_57 : decode cX10_twice 57 = .ok (.lushr, 1) := by decide +kernel
theorem dX10_twice_58 : decode cX10_twice 58 = .ok (.lstore_n 3, 1) := by decide +kernel
theorem dX10_twice_59 : decode cX10_twice 59 = .ok (.iinc 5 1, 3) := by decide +kernel
theorem dX10_twice_62 : decode cX10_twice 62 = .ok (.goto (-56), 3) := by decide +kernel
theorem dX10_twice_65 : decode cX10_twice 65 = .ok (.lload_n 3, 1) := by decide +kernel
theorem dX10_twice_66 : decode cX10_twice 66 = .ok (.lconst 0, 1) := by decide +kernel
theorem dX10_twice_67 : decode cX10_twice 67 = .ok (.lcmp, 1) := by decide +kernel
theorem dX10_twice_68 : decode cX10_twice 68 = .ok (.ifCond .le 30, 3) := by decide +kernel
theorem dX10_twice_71 : decode cX10_twice 71 = .ok (.aload_n 0, 1) := by decide +kernel
theorem dX10_twice_72 : decode cX10_twice 72 = .ok (.getfield 8, 3) := by decide +kernel
theorem dX10_twice_75 : decode cX10_twice 75 = .ok (.bipush 80, 2) := by decide +kernel
theorem dX10_twice_77 : decode cX10_twice 77 = .ok (.iload_n 1, 1) := by decide +kernel
theorem dX10_twice_78 : decode cX10_twice 78 = .ok (.imul, 1) := by decide +kernel
theorem dX10_twice_79 : decode cX10_twice 79 = .ok (.aload_n 0, 1) := by decide +kernel
theorem dX10_twice_80 : decode cX10_twice 80 = .ok (.getfield 14, 3) := by decide +kernel
theorem dX10_twice_83 : decode cX10_twice 83 = .ok (.iload_n 1, 1) := by decide +kernel
theorem dX10_twice_84 : decode cX10_twice 84 = .ok (.iaload, 1) := by decide +kernel
theorem dX10_twice_85 : decode cX10_twice 85 = .ok (.iadd, 1) := by decide +kernel
theorem dX10_twice_86 : decode cX10_twice 86 = .ok (.lload_n 3, 1) := by decide +kernel
theorem dX10_twice_87 : decode cX10_twice 87 = .ok (.lastore, 1) := by decide +kernel
theorem dX10_twice_88 : decode cX10_twice 88 = .ok (.aload_n 0, 1) := by decide +kernel
theorem dX10_twice_89 : decode cX10_twice 89 = .ok (.getfield 14, 3) := by decide +kernel
theorem dX10_twice_92 : decode cX10_twice 92 = .ok (.iload_n 1, 1) := by decide +kernel
theorem dX10_twice_93 : decode cX10_twice 93 = .ok (.dup2, 1) := by decide +kernel
theorem dX10_twice_94 : decode cX10_twice 94 = .ok (.iaload, 1) := by decide +kernel
theorem dX10_twice_95 : decode cX10_twice 95 = .ok (.iconst 1, 1) := by decide +kernel
theorem dX10_twice_96 : decode cX10_twice 96 = .ok (.iadd, 1) := by decide +kernel
theorem dX10_twice_97 : decode cX10_twice 97 = .ok (.iastore, 1) := by decide +kernel
theorem dX10_twice_98 : decode cX10_twice 98 = .ok (.return_, 1) := by decide +kernel
theorem dX10_setFraction_0 : decode cX10_setFraction 0 = .ok (.aload_n 0, 1) := by decide +kernel
theorem dX10_setFraction_1 : decode cX10_setFraction 1 = .ok (.iconst 2, 1) := by decide +kernel
theorem dX10_setFraction_2 : decode cX10_setFraction 2 = .ok (.iload_n 1, 1) := by decide +kernel
theorem dX10_setFraction_3 : decode cX10_setFraction 3 = .ok (.imul, 1) := by decide +kernel
theorem dX10_setFraction_4 : decode cX10_setFraction 4 = .ok (.lload_n 2, 1) := by decide +kernel
theorem dX10_setFraction_5 : decode cX10_setFraction 5 = .ok (.invokevirtual 74, 3) := by decide +kernel
theorem dX10_setFraction_8 : decode cX10_setFraction 8 = .ok (.aload_n 0, 1) := by decide +kernel
theorem dX10_setFraction_9 : decode cX10_setFraction 9 = .ok (.iconst 2, 1) := by decide +kernel
theorem dX10_setFraction_10 : decode cX10_setFraction 10 = .ok (.iload_n 1, 1) := by decide +kernel
theorem dX10_setFraction_11 : decode cX10_setFraction 11 = .ok (.imul, 1) := by decide +kernel
theorem dX10_setFraction_12 : decode cX10_setFraction 12 = .ok (.iconst 1, 1) := by decide +kernel
theorem dX10_setFraction_13 : decode cX10_setFraction 13 = .ok (.iadd, 1) := by decide +kernel
theorem dX10_setFraction_14 : decode cX10_setFraction 14 = .ok (.lload 4, 2) := by decide +kernel
theorem dX10_setFraction_16 : decode cX10_setFraction 16 = .ok (.invokevirtual 74, 3) := by decide +kernel
theorem dX10_setFraction_19 : decode cX10_setFraction 19 = .ok (.aload_n 0, 1) := by decide +kernel
theorem dX10_setFraction_20 : decode cX10_setFraction 20 = .ok (.iload_n 1, 1) := by decide +kernel
theorem dX10_setFraction_21 : decode cX10_setFraction 21 = .ok (.invokevirtual 121, 3) := by decide +kernel
theorem dX10_setFraction_24 : decode cX10_setFraction 24 = .ok (.return_, 1) := by decide +kernel
theorem dX10_reduce_0 : decode cX10_reduce 0 = .ok (.aload_n 0, 1) := by decide +kernel
theorem dX10_reduce_1 : decode cX10_reduce 1 = .ok (.getfield 14, 3) := by decide +kernel
theorem dX10_reduce_4 : decode cX10_reduce 4 = .ok (.iconst 2, 1) := by decide +kernel
theorem dX10_reduce_5 : decode cX10_reduce 5 = .ok (.iload_n 1, 1) := by decide +kernel
theorem dX10_reduce_6 : decode cX10_reduce 6 = .ok (.imul, 1) := by decide +kernel
theorem dX10_reduce_7 : decode cX10_reduce 7 = .ok (.iaload, 1) := by decide +kernel
theorem dX10_reduce_8 : decode cX10_reduce 8 = .ok (.ifCond .ne 14, 3) := by decide +kernel
theorem dX10_reduce_11 : decode cX10_reduce 11 = .ok (.aload_n 0, 1) := by decide +kernel
theorem dX10_reduce_12 : decode cX10_reduce 12 = .ok (.iconst 2, 1) := by decide +kernel
theorem dX10_reduce_13 : decode cX10_reduce 13 = .ok (.iload_n 1, 1) := by decide +kernel
theorem dX10_reduce_14 : decode cX10_reduce 14 = .ok (.imul, 1) := by decide +kernel
theorem dX10_reduce_15 : decode cX10_reduce 15 = .ok (.iconst 1, 1) := by decide +kernel
theorem dX10_reduce_16 : decode cX10_reduce 16 = .ok (.iadd, 1) := by decide +kernel
theorem dX10_reduce_17 : decode cX10_reduce 17 = .ok (.lconst 1, 1) := by decide +kernel
theorem dX10_reduce_18 : decode cX10_reduce 18 = .ok (.invokevirtual 74, 3) := by decide +kernel
theorem dX10_reduce_21 : decode cX10_reduce 21 = .ok (.return_, 1) := by decide +kernel
theorem dX10_reduce_22 : decode cX10_reduce 22 = .ok (.aload_n 0, 1) := by decide +kernel
theorem dX10_reduce_23 : decode cX10_reduce 23 = .ok (.iconst 2, 1) := by decide +kernel
theorem dX10_reduce_24 : decode cX10_reduce 24 = .ok (.iload_n 1, 1) := by decide +kernel
theorem dX10_reduce_25 : decode cX10_reduce 25 = .ok (.imul, 1) := by decide +kernel
theorem dX10_reduce_26 : decode cX10_reduce 26 = .ok (.iconst 2, 1) := by decide +kernel
theorem dX10_reduce_27 : decode cX10_reduce 27 = .ok (.iload_n 1, 1) := by decide +kernel
theorem dX10_reduce_28 : decode cX10_reduce 28 = .ok (.imul, 1) := by decide +kernel
theorem dX10_reduce_29 : decode cX10_reduce 29 = .ok (.iconst 1, 1) := by decide +kernel
theorem dX10_reduce_30 : decode cX10_reduce 30 = .ok (.iadd, 1) := by decide +kernel
theorem dX10_reduce_31 : decode cX10_reduce 31 = .ok (.invokevirtual 124, 3) := by decide +kernel
theorem dX10_reduce_34 : decode cX10_reduce 34 = .ok (.aload_n 0, 1) := by decide +kernel
theorem dX10_reduce_35 : decode cX10_reduce 35 = .ok (.getfield 14, 3) := by decide +kernel
theorem dX10_reduce_38 : decode cX10_reduce 38 = .ok (.sipush 2060, 3) := by decide +kernel
theorem dX10_reduce_41 : decode cX10_reduce 41 = .ok (.iaload, 1) := by decide +kernel
theorem dX10_reduce_42 : decode cX10_reduce 42 = .ok (.iconst 1, 1) := by decide +kernel
theorem dX10_reduce_43 : decode cX10_reduce 43 = .ok (.if_icmp .gt 16, 3) := by decide +kernel
theorem dX10_reduce_46 : decode cX10_reduce 46 = .ok (.aload_n 0, 1) := by decide +kernel
theorem dX10_reduce_47 : decode cX10_reduce 47 = .ok (.sipush 2060, 3) := by decide +kernel
theorem dX10_reduce_50 : decode cX10_reduce 50 = .ok (.iconst 0, 1) := by decide +kernel
theorem dX10_reduce_51 : decode cX10_reduce 51 = .ok (.invokevirtual 87, 3) := by decide +kernel
theorem dX10_reduce_54 : decode cX10_reduce 54 = .ok (.lconst 1, 1) := by decide +kernel
theorem dX10_reduce_55 : decode cX10_reduce 55 = .ok (.lcmp, 1) := by decide +kernel
theorem dX10_reduce_56 : decode cX10_reduce 56 = .ok (.ifCond .eq 19, 3) := by decide +kernel
theorem dX10_reduce_59 : decode cX10_reduce 59 = .ok (.aload_n 0, 1) := by decide +kernel
theorem dX10_reduce_60 : decode cX10_reduce 60 = .ok (.iconst 2, 1) := by decide +kernel
theorem dX10_reduce_61 : decode cX10_reduce 61 = .ok (.iload_n 1, 1) := by decide +kernel
theorem dX10_reduce_62 : decode cX10_reduce 62 = .ok (.imul, 1) := by decide +kernel
theorem dX10_reduce_63 : decode cX10_reduce 63 = .ok (.invokevirtual 127, 3) := by decide +kernel
theorem dX10_reduce_66 : decode cX10_reduce 66 = .ok (.aload_n 0, 1) := by decide +kernel
theorem dX10_reduce_67 : decode cX10_reduce 67 = .ok (.iconst 2, 1) := by decide +kernel
theorem dX10_reduce_68 : decode cX10_reduce 68 = .ok (.iload_n 1, 1) := by decide +kernel
theorem dX10_reduce_69 : decode cX10_reduce 69 = .ok (.imul, 1) := by decide +kernel
theorem dX10_reduce_70 : decode cX10_reduce 70 = .ok (.iconst 1, 1) := by decide +kernel
theorem dX10_reduce_71 : decode cX10_reduce 71 = .ok (.iadd, 1) := by decide +kernel
theorem dX10_reduce_72 : decode cX10_reduce 72 = .ok (.invokevirtual 127, 3) := by decide +kernel
theorem dX10_reduce_75 : decode cX10_reduce 75 = .ok (.return_, 1) := by decide +kernel
theorem dX10_timesFractions_0 : decode cX10_timesFractions 0 = .ok (.aload_n 0, 1) := by decide +kernel
theorem dX10_timesFractions_1 : decode cX10_timesFractions 1 = .ok (.sipush 2032, 3) := by decide +kernel
theorem dX10_timesFractions_4 : decode cX10_timesFractions 4 = .ok (.iconst 2, 1) := by decide +kernel
theorem dX10_timesFractions_5 : decode cX10_timesFractions 5 = .ok (.iload_n 2, 1) := by decide +kernel
theorem dX10_timesFractions_6 : decode cX10_timesFractions 6 = .ok (.imul, 1) := by decide +kernel
theorem dX10_timesFractions_7 : decode cX10_timesFractions 7 = .ok (.iconst 2, 1) := by decide +kernel
theorem dX10_timesFractions_8 : decode cX10_timesFractions 8 = .ok (.iload_n 3, 1) := by decide +kernel
theorem dX10_timesFractions_9 : decode cX10_timesFractions 9 = .ok (.imul, 1) := by decide +kernel
theorem dX10_timesFractions_10 : decode cX10_timesFractions 10 = .ok (.invokevirtual 130, 3) := by decide +kernel
theorem dX10_timesFractions_13 : decode cX10_timesFractions 13 = .ok (.aload_n 0, 1) := by decide +kernel
theorem dX10_timesFractions_14 : decode cX10_timesFractions 14 = .ok (.sipush 2033, 3) := by decide +kernel
theorem dX10_timesFractions_17 : decode cX10_timesFractions 17 = .ok (.iconst 2, 1) := by decide +kernel
theorem dX10_timesFractions_18 : decode cX10_timesFractions 18 = .ok (.iload_n 2, 1) := by decide +kernel
theorem dX10_timesFractions_19 : decode cX10_timesFractions 19 = .ok (.imul, 1) := by decide +kernel
theorem dX10_timesFractions_20 : decode cX10_timesFractions 20 = .ok (.iconst 1, 1) := by decide +kernel
theorem dX10_timesFractions_21 : decode cX10_timesFractions 21 = .ok (.iadd, 1) := by decide +kernel
theorem dX10_timesFractions_22 : decode cX10_timesFractions 22 = .ok (.iconst 2, 1) := by decide +kernel
theorem dX10_timesFractions_23 : decode cX10_timesFractions 23 = .ok (.iload_n 3, 1) := by decide +kernel
theorem dX10_timesFractions_24 : decode cX10_timesFractions 24 = .ok (.imul, 1) := by decide +kernel
theorem dX10_timesFractions_25 : decode cX10_timesFractions 25 = .ok (.iconst 1, 1) := by decide +kernel
theorem dX10_timesFractions_26 : decode cX10_timesFractions 26 = .ok (.iadd, 1) := by decide +kernel
theorem dX10_timesFractions_27 : decode cX10_timesFractions 27 = .ok (.invokevirtual 130, 3) := by decide +kernel
theorem dX10_timesFractions_30 : decode cX10_timesFractions 30 = .ok (.aload_n 0, 1) := by decide +kernel
theorem dX10_timesFractions_31 : decode cX10_timesFractions 31 = .ok (.sipush 1016, 3) := by decide +kernel
theorem dX10_timesFractions_34 : decode cX10_timesFractions 34 = .ok (.invokevirtual 121, 3) := by decide +kernel
theorem dX10_timesFractions_37 : decode cX10_timesFractions 37 = .ok (.aload_n 0, 1) := by decide +kernel
theorem dX10_timesFractions_38 : decode cX10_timesFractions 38 = .ok (.iload_n 1, 1) := by decide +kernel
theorem dX10_timesFractions_39 : decode cX10_timesFractions 39 = .ok (.sipush 1016, 3) := by decide +kernel
theorem dX10_timesFractions_42 : decode cX10_timesFractions 42 = .ok (.invokevirtual 136, 3) := by decide +kernel
theorem dX10_timesFractions_45 : decode cX10_timesFractions 45 = .ok (.return_, 1) := by decide +kernel
theorem dX10_power_0 : decode cX10_power 0 = .ok (.aload_n 0, 1) := by decide +kernel
theorem dX10_power_1 : decode cX10_power 1 = .ok (.sipush 1014, 3) := by decide +kernel
theorem dX10_power_4 : decode cX10_power 4 = .ok (.lconst 1, 1) := by decide +kernel
theorem dX10_power_5 : decode cX10_power 5 = .ok (.lconst 1, 1) := by decide +kernel
theorem dX10_power_6 : decode cX10_power 6 = .ok (.invokevirtual 139, 3) := by decide +kernel
theorem dX10_power_9 : decode cX10_power 9 = .ok (.iconst 0, 1) := by decide +kernel
theorem dX10_power_10 : decode cX10_power 10 = .ok (.istore 4, 2) := by decide +kernel
theorem dX10_power_12 : decode cX10_power 12 = .ok (.iload 4, 2) := by decide +kernel
theorem dX10_power_14 : decode cX10_power 14 = .ok (.iload_n 3, 1) := by decide +kernel
theorem dX10_power_15 : decode cX10_power 15 = .ok (.if_icmp .ge 20, 3) := by decide +kernel
theorem dX10_power_18 : decode cX10_power 18 = .ok (.aload_n 0, 1) := by decide +kernel
theorem dX10_power_19 : decode cX10_power 19 = .ok (.sipush 1014, 3) := by decide +kernel
theorem dX10_power_22 : decode cX10_power 22 = .ok (.sipush 1014, 3) := by decide +kernel
theorem dX10_power_25 : decode cX10_power 25 = .ok (.iload_n 2, 1) := by decide +kernel
theorem dX10_power_26 : decode cX10_power 26 = .ok (.invokevirtual 143, 3) := by decide +kernel
theorem dX10_power_29 : decode cX10_power 29 = .ok (.iinc 4 1, 3) := by decide +kernel
theorem dX10_power_32 : decode cX10_power 32 = .ok (.goto (-20), 3) := by decide +kernel
theorem dX10_power_35 : decode cX10_power 35 = .ok (.aload_n 0, 1) := by decide +kernel
theorem dX10_power_36 : decode cX10_power 36 = .ok (.iload_n 1, 1) := by decide +kernel
theorem dX10_power_37 : decode cX10_power 37 = .ok (.sipush 1014, 3) := by decide +kernel
theorem dX10_power_40 : decode cX10_power 40 = .ok (.invokevirtual 136, 3) := by decide +kernel
theorem dX10_power_43 : decode cX10_power 43 = .ok (.return_, 1) := by decide +kernel
theorem dX10_is_0 : decode cX10_is 0 = .ok (.aload_n 0, 1) := by decide +kernel
theorem dX10_is_1 : decode cX10_is 1 = .ok (.getfield 14, 3) := by decide +kernel
theorem dX10_is_4 : decode cX10_is 4 = .ok (.iconst 2, 1) := by decide +kernel
theorem dX10_is_5 : decode cX10_is 5 = .ok (.iload_n 1, 1) := by decide +kernel
theorem dX10_is_6 : decode cX10_is 6 = .ok (.imul, 1) := by decide +kernel
theorem dX10_is_7 : decode cX10_is 7 = .ok (.iconst 1, 1) := by decide +kernel
theorem dX10_is_8 : decode cX10_is 8 = .ok (.iadd, 1) := by decide +kernel
theorem dX10_is_9 : decode cX10_is 9 = .ok (.iaload, 1) := by decide +kernel
theorem dX10_is_10 : decode cX10_is 10 = .ok (.iconst 1, 1) := by decide +kernel
theorem dX10_is_11 : decode cX10_is 11 = .ok (.if_icmp .ne 74, 3) := by decide +kernel
theorem dX10_is_14 : decode cX10_is 14 = .ok (.aload_n 0, 1) := by decide +kernel
theorem dX10_is_15 : decode cX10_is 15 = .ok (.iconst 2, 1) := by decide +kernel
theorem dX10_is_16 : decode cX10_is 16 = .ok (.iload_n 1, 1) := by decide +kernel
theorem dX10_is_17 : decode cX10_is 17 = .ok (.imul, 1) := by decide +kernel
theorem dX10_is_18 : decode cX10_is 18 = .ok (.iconst 1, 1) := by decide +kernel
theorem dX10_is_19 : decode cX10_is 19 = .ok (.iadd, 1) := by decide +kernel
theorem dX10_is_20 : decode cX10_is 20 = .ok (.iconst 0, 1) := by decide +kernel
theorem dX10_is_21 : decode cX10_is 21 = .ok (.invokevirtual 87, 3) := by decide +kernel
theorem dX10_is_24 : decode cX10_is 24 = .ok (.lconst 1, 1) := by decide +kernel
theorem dX10_is_25 : decode cX10_is 25 = .ok (.lcmp, 1) := by decide +kernel
theorem dX10_is_26 : decode cX10_is 26 = .ok (.ifCond .ne 59, 3) := by decide +kernel
theorem dX10_is_29 : decode cX10_is 29 = .ok (.aload_n 0, 1) := by decide +kernel
theorem dX10_is_30 : decode cX10_is 30 = .ok (.getfield 14, 3) := by decide +kernel
theorem dX10_is_33 : decode cX10_is 33 = .ok (.iconst 2, 1) := by decide +kernel
theorem dX10_is_34 : decode cX10_is 34 = .ok (.iload_n 1, 1) := by decide +kernel
theorem dX10_is_35 : decode cX10_is 35 = .ok (.imul, 1) := by decide +kernel
theorem dX10_is_36 : decode cX10_is 36 = .ok (.iaload, 1) := by decide +kernel
theorem dX10_is_37 : decode cX10_is 37 = .ok (.lload_n 2, 1) := by decide +kernel
theorem dX10_is_38 : decode cX10_is 38 = .ok (.lconst 0, 1) := by decide +kernel
theorem dX10_is_39 : decode cX10_is 39 = .ok (.lcmp, 1) := by decide +kernel
theorem dX10_is_40 : decode cX10_is 40 = .ok (.ifCond .ne 7, 3) := by decide +kernel
theorem dX10_is_43 : decode cX10_is 43 = .ok (.iconst 0, 1) := by decide +kernel
theorem dX10_is_44 : decode cX10_is 44 = .ok (.goto 4, 3) := by decide +kernel
theorem dX10_is_47 : decode cX10_is 47 = .ok (.iconst 1, 1) := by decide +kernel
theorem dX10_is_48 : decode cX10_is 48 = .ok (.if_icmp .ne 37, 3) := by decide +kernel
theorem dX10_is_51 : decode cX10_is 51 = .ok (.lload_n 2, 1) := by decide +kernel
theorem dX10_is_52 : decode cX10_is 52 = .ok (.lconst 0, 1) := by decide +kernel
theorem dX10_is_53 : decode cX10_is 53 = .ok (.lcmp, 1) := by decide +kernel
theorem dX10_is_54 : decode cX10_is 54 = .ok (.ifCond .eq 27, 3) := by decide +kernel
theorem dX10_is_57 : decode cX10_is 57 = .ok (.aload_n 0, 1) := by decide +kernel
theorem dX10_is_58 : decode cX10_is 58 = .ok (.iconst 2, 1) := by decide +kernel
theorem dX10_is_59 : decode cX10_is 59 = .ok (.iload_n 1, 1) := by decide +kernel
theorem dX10_is_60 : decode cX10_is 60 = .ok (.imul, 1) := by decide +kernel
theorem dX10_is_61 : decode cX10_is 61 = .ok (.iconst 0, 1) := by decide +kernel
theorem dX10_is_62 : decode cX10_is 62 = .ok (.invokevirtual 87, 3) := by decide +kernel
theorem dX10_is_65 : decode cX10_is 65 = .ok (.lload_n 2, 1) := by decide +kernel
theorem dX10_is_66 : decode cX10_is 66 = .ok (.lcmp, 1) := by decide +kernel
theorem dX10_is_67 : decode cX10_is 67 = .ok (.ifCond .ne 18, 3) := by decide +kernel
theorem dX10_is_70 : decode cX10_is 70 = .ok (.aload_n 0, 1) := by decide +kernel
theorem dX10_is_71 : decode cX10_is 71 = .ok (.getfield 18, 3) := by decide +kernel
theorem dX10_is_74 : decode cX10_is 74 = .ok (.iconst 2, 1) := by decide +kernel
theorem dX10_is_75 : decode cX10_is 75 = .ok (.iload_n 1, 1) := by decide +kernel
theorem dX10_is_76 : decode cX10_is 76 = .ok (.imul, 1) := by decide +kernel
theorem dX10_is_77 : decode cX10_is 77 = .ok (.baload, 1) := by decide +kernel
theorem dX10_is_78 : decode cX10_is 78 = .ok (.ifCond .ne 7, 3) := by decide +kernel
theorem dX10_is_81 : decode cX10_is 81 = .ok (.iconst 1, 1) := by decide +kernel
theorem dX10_is_82 : decode cX10_is 82 = .ok (.goto 4, 3) := by decide +kernel
theorem dX10_is_85 : decode cX10_is 85 = .ok (.iconst 0, 1) := by decide +kernel
theorem dX10_is_86 : decode cX10_is 86 = .ok (.ireturn, 1) := by decide +kernel
theorem dX10_keep_0 : decode cX10_keep 0 = .ok (.aload_n 0, 1) := by decide +kernel
theorem dX10_keep_1 : decode cX10_keep 1 = .ok (.getfield 146, 3) := by decide +kernel
theorem dX10_keep_4 : decode cX10_keep 4 = .ok (.ifCond .ge 5, 3) := by decide +kernel
theorem dX10_keep_7 : decode cX10_keep 7 = .ok (.iconst (-1), 1) := by decide +kernel
theorem dX10_keep_8 : decode cX10_keep 8 = .ok (.ireturn, 1) := by decide +kernel
theorem dX10_keep_9 : decode cX10_keep 9 = .ok (.aload_n 0, 1) := by decide +kernel
theorem dX10_keep_10 : decode cX10_keep 10 = .ok (.getfield 149, 3) := by decide +kernel
theorem dX10_keep_13 : decode cX10_keep 13 = .ok (.istore_n 1, 1) := by decide +kernel
theorem dX10_keep_14 : decode cX10_keep 14 = .ok (.aload_n 0, 1) := by decide +kernel
theorem dX10_keep_15 : decode cX10_keep 15 = .ok (.getfield 38, 3) := by decide +kernel
theorem dX10_keep_18 : decode cX10_keep 18 = .ok (.iload_n 1, 1) := by decide +kernel
theorem dX10_keep_19 : decode cX10_keep 19 = .ok (.iaload, 1) := by decide +kernel
theorem dX10_keep_20 : decode cX10_keep 20 = .ok (.bipush 8, 2) := by decide +kernel
theorem dX10_keep_22 : decode cX10_keep 22 = .ok (.if_icmp .gt 27, 3) := by decide +kernel
theorem dX10_keep_25 : decode cX10_keep 25 = .ok (.aload_n 0, 1) := by decide +kernel
theorem dX10_keep_26 : decode cX10_keep 26 = .ok (.getfield 41, 3) := by decide +kernel
theorem dX10_keep_29 : decode cX10_keep 29 = .ok (.iload_n 1, 1) := by decide +kernel
theorem dX10_keep_30 : decode cX10_keep 30 = .ok (.iaload, 1) := by decide +kernel
theorem dX10_keep_31 : decode cX10_keep 31 = .ok (.sipush 400, 3) := by decide +kernel
theorem dX10_keep_34 : decode cX10_keep 34 = .ok (.if_icmp .gt 15, 3) := by decide +kernel
theorem dX10_keep_37 : decode cX10_keep 37 = .ok (.aload_n 0, 1) := by decide +kernel
theorem dX10_keep_38 : decode cX10_keep 38 = .ok (.getfield 44, 3) := by decide +kernel
theorem dX10_keep_41 : decode cX10_keep 41 = .ok (.iload_n 1, 1) := by decide +kernel
theorem dX10_keep_42 : decode cX10_keep 42 = .ok (.iaload, 1) := by decide +kernel
theorem dX10_keep_43 : decode cX10_keep 43 = .ok (.sipush 400, 3) := by decide +kernel
theorem dX10_keep_46 : decode cX10_keep 46 = .ok (.if_icmp .le 11, 3) := by decide +kernel
theorem dX10_keep_49 : decode cX10_keep 49 = .ok (.aload_n 0, 1) := by decide +kernel
theorem dX10_keep_50 : decode cX10_keep 50 = .ok (.bipush (-3), 2) := by decide +kernel
theorem dX10_keep_52 : decode cX10_keep 52 = .ok (.putfield 146, 3) := by decide +kernel
theorem dX10_keep_55 : decode cX10_keep 55 = .ok (.iconst (-1), 1) := by decide +kernel
theorem dX10_keep_56 : decode cX10_keep 56 = .ok (.ireturn, 1) := by decide +kernel
theorem dX10_keep_57 : decode cX10_keep 57 = .ok (.iconst 0, 1) := by decide +kernel
theorem dX10_keep_58 : decode cX10_keep 58 = .ok (.istore_n 2, 1) := by decide +kernel
theorem dX10_keep_59 : decode cX10_keep 59 = .ok (.iload_n 2, 1) := by decide +kernel
theorem dX10_keep_60 : decode cX10_keep 60 = .ok (.aload_n 0, 1) := by decide +kernel
theorem dX10_keep_61 : decode cX10_keep 61 = .ok (.getfield 149, 3) := by decide +kernel
theorem dX10_keep_64 : decode cX10_keep 64 = .ok (.if_icmp .ge 86, 3) := by decide +kernel
theorem dX10_keep_67 : decode cX10_keep 67 = .ok (.aload_n 0, 1) := by decide +kernel
theorem dX10_keep_68 : decode cX10_keep 68 = .ok (.getfield 29, 3) := by decide +kernel
theorem dX10_keep_71 : decode cX10_keep 71 = .ok (.iload_n 2, 1) := by decide +kernel
theorem dX10_keep_72 : decode cX10_keep 72 = .ok (.iaload, 1) := by decide +kernel
theorem dX10_keep_73 : decode cX10_keep 73 = .ok (.aload_n 0, 1) := by decide +kernel
theorem dX10_keep_74 : decode cX10_keep 74 = .ok (.getfield 29, 3) := by decide +kernel
theorem dX10_keep_77 : decode cX10_keep 77 = .ok (.iload_n 1, 1) := by decide +kernel
theorem dX10_keep_78 : decode cX10_keep 78 = .ok (.iaload, 1) := by decide +kernel
theorem dX10_keep_79 : decode cX10_keep 79 = .ok (.if_icmp .ne 37, 3) := by decide +kernel
theorem dX10_keep_82 : decode cX10_keep 82 = .ok (.aload_n 0, 1) := by decide +kernel
theorem dX10_keep_83 : decode cX10_keep 83 = .ok (.getfield 32, 3) := by decide +kernel
theorem dX10_keep_86 : decode cX10_keep 86 = .ok (.iload_n 2, 1) := by decide +kernel
theorem dX10_keep_87 : decode cX10_keep 87 = .ok (.iaload, 1) := by decide +kernel
theorem dX10_keep_88 : decode cX10_keep 88 = .ok (.aload_n 0, 1) := by decide +kernel
theorem dX10_keep_89 : decode cX10_keep 89 = .ok (.getfield 32, 3) := by decide +kernel
theorem dX10_keep_92 : decode cX10_keep 92 = .ok (.iload_n 1, 1) := by decide +kernel
theorem dX10_keep_93 : decode cX10_keep 93 = .ok (.iaload, 1) := by decide +kernel
theorem dX10_keep_94 : decode cX10_keep 94 = .ok (.if_icmp .ne 22, 3) := by decide +kernel
theorem dX10_keep_97 : decode cX10_keep 97 = .ok (.aload_n 0, 1) := by decide +kernel
theorem dX10_keep_98 : decode cX10_keep 98 = .ok (.getfield 35, 3) := by decide +kernel
theorem dX10_keep_101 : decode cX10_keep 101 = .ok (.iload_n 2, 1) := by decide +kernel
theorem dX10_keep_102 : decode cX10_keep 102 = .ok (.iaload, 1) := by decide +kernel
theorem dX10_keep_103 : decode cX10_keep 103 = .ok (.aload_n 0, 1) := by decide +kernel
theorem dX10_keep_104 : decode cX10_keep 104 = .ok (.getfield 35, 3) := by decide +kernel
theorem dX10_keep_107 : decode cX10_keep 107 = .ok (.iload_n 1, 1) := by decide +kernel
theorem dX10_keep_108 : decode cX10_keep 108 = .ok (.iaload, 1) := by decide +kernel
theorem dX10_keep_109 : decode cX10_keep 109 = .ok (.if_icmp .ne 7, 3) := by decide +kernel
theorem dX10_keep_112 : decode cX10_keep 112 = .ok (.iconst 1, 1) := by decide +kernel
theorem dX10_keep_113 : decode cX10_keep 113 = .ok (.goto 4, 3) := by decide +kernel
theorem dX10_keep_116 : decode cX10_keep 116 = .ok (.iconst 0, 1) := by decide +kernel
theorem dX10_keep_117 : decode cX10_keep 117 = .ok (.istore_n 3, 1) := by decide +kernel
theorem dX10_keep_118 : decode cX10_keep 118 = .ok (.iload_n 3, 1) := by decide +kernel
theorem dX10_keep_119 : decode cX10_keep 119 = .ok (.ifCond .eq 25, 3) := by decide +kernel
theorem dX10_keep_122 : decode cX10_keep 122 = .ok (.aload_n 0, 1) := by decide +kernel
theorem dX10_keep_123 : decode cX10_keep 123 = .ok (.getfield 29, 3) := by decide +kernel
theorem dX10_keep_126 : decode cX10_keep 126 = .ok (.iload_n 2, 1) := by decide +kernel
theorem dX10_keep_127 : decode cX10_keep 127 = .ok (.iaload, 1) := by decide +kernel
theorem dX10_keep_128 : decode cX10_keep 128 = .ok (.ifCond .ne 14, 3) := by decide +kernel
theorem dX10_keep_131 : decode cX10_keep 131 = .ok (.aload_n 0, 1) := by decide +kernel
theorem dX10_keep_132 : decode cX10_keep 132 = .ok (.iload_n 2, 1) := by decide +kernel
theorem dX10_keep_133 : decode cX10_keep 133 = .ok (.sipush 1011, 3) := by decide +kernel
theorem dX10_keep_136 : decode cX10_keep 136 = .ok (.invokevirtual 152, 3) := by decide +kernel
theorem dX10_keep_139 : decode cX10_keep 139 = .ok (.ifCond .eq 5, 3) := by decide +kernel
theorem dX10_keep_142 : decode cX10_keep 142 = .ok (.iload_n 2, 1) := by decide +kernel
theorem dX10_keep_143 : decode cX10_keep 143 = .ok (.ireturn, 1) := by decide +kernel
theorem dX10_keep_144 : decode cX10_keep 144 = .ok (.iinc 2 1, 3) := by decide +kernel
theorem dX10_keep_147 : decode cX10_keep 147 = .ok (.goto (-88), 3) := by decide +kernel
theorem dX10_keep_150 : decode cX10_keep 150 = .ok (.aload_n 0, 1) := by decide +kernel
theorem dX10_keep_151 : decode cX10_keep 151 = .ok (.getfield 149, 3) := by decide +kernel
theorem dX10_keep_154 : decode cX10_keep 154 = .ok (.sipush 200, 3) := by decide +kernel
theorem dX10_keep_157 : decode cX10_keep 157 = .ok (.if_icmp .ne 11, 3) := by decide +kernel
theorem dX10_keep_160 : decode cX10_keep 160 = .ok (.aload_n 0, 1) := by decide +kernel
theorem dX10_keep_161 : decode cX10_keep 161 = .ok (.bipush (-4), 2) := by decide +kernel
theorem dX10_keep_163 : decode cX10_keep 163 = .ok (.putfield 146, 3) := by decide +kernel
theorem dX10_keep_166 : decode cX10_keep 166 = .ok (.iconst (-1), 1) := by decide +kernel
theorem dX10_keep_167 : decode cX10_keep 167 = .ok (.ireturn, 1) := by decide +kernel
theorem dX10_keep_168 : decode cX10_keep 168 = .ok (.aload_n 0, 1) := by decide +kernel
theorem dX10_keep_169 : decode cX10_keep 169 = .ok (.getfield 29, 3) := by decide +kernel
theorem dX10_keep_172 : decode cX10_keep 172 = .ok (.iload_n 1, 1) := by decide +kernel
theorem dX10_keep_173 : decode cX10_keep 173 = .ok (.iaload, 1) := by decide +kernel
theorem dX10_keep_174 : decode cX10_keep 174 = .ok (.ifCond .ne 11, 3) := by decide +kernel
theorem dX10_keep_177 : decode cX10_keep 177 = .ok (.aload_n 0, 1) := by decide +kernel
theorem dX10_keep_178 : decode cX10_keep 178 = .ok (.iload_n 1, 1) := by decide +kernel
theorem dX10_keep_179 : decode cX10_keep 179 = .ok (.sipush 1011, 3) := by decide +kernel
theorem dX10_keep_182 : decode cX10_keep 182 = .ok (.invokevirtual 136, 3) := by decide +kernel
theorem dX10_keep_185 : decode cX10_keep 185 = .ok (.aload_n 0, 1) := by decide +kernel
theorem dX10_keep_186 : decode cX10_keep 186 = .ok (.dup, 1) := by decide +kernel
theorem dX10_keep_187 : decode cX10_keep 187 = .ok (.getfield 149, 3) := by decide +kernel
theorem dX10_keep_190 : decode cX10_keep 190 = .ok (.iconst 1, 1) := by decide +kernel
theorem dX10_keep_191 : decode cX10_keep 191 = .ok (.iadd, 1) := by decide +kernel
theorem dX10_keep_192 : decode cX10_keep 192 = .ok (.putfield 149, 3) := by decide +kernel
theorem dX10_keep_195 : decode cX10_keep 195 = .ok (.iload_n 1, 1) := by decide +kernel
theorem dX10_keep_196 : decode cX10_keep 196 = .ok (.ireturn, 1) := by decide +kernel
theorem dX10_makeNumber_0 : decode cX10_makeNumber 0 = .ok (.aload_n 0, 1) := by decide +kernel
theorem dX10_makeNumber_1 : decode cX10_makeNumber 1 = .ok (.sipush 2022, 3) := by decide +kernel
theorem dX10_makeNumber_4 : decode cX10_makeNumber 4 = .ok (.invokevirtual 117, 3) := by decide +kernel
theorem dX10_makeNumber_7 : decode cX10_makeNumber 7 = .ok (.istore_n 1, 1) := by decide +kernel
theorem dX10_makeNumber_8 : decode cX10_makeNumber 8 = .ok (.aload_n 0, 1) := by decide +kernel
theorem dX10_makeNumber_9 : decode cX10_makeNumber 9 = .ok (.sipush 2023, 3) := by decide +kernel
theorem dX10_makeNumber_12 : decode cX10_makeNumber 12 = .ok (.invokevirtual 117, 3) := by decide +kernel
theorem dX10_makeNumber_15 : decode cX10_makeNumber 15 = .ok (.istore_n 2, 1) := by decide +kernel
theorem dX10_makeNumber_16 : decode cX10_makeNumber 16 = .ok (.aload_n 0, 1) := by decide +kernel
theorem dX10_makeNumber_17 : decode cX10_makeNumber 17 = .ok (.iconst 0, 1) := by decide +kernel
theorem dX10_makeNumber_18 : decode cX10_makeNumber 18 = .ok (.iconst (-1), 1) := by decide +kernel
theorem dX10_makeNumber_19 : decode cX10_makeNumber 19 = .ok (.iconst (-1), 1) := by decide +kernel
theorem dX10_makeNumber_20 : decode cX10_makeNumber 20 = .ok (.iconst 0, 1) := by decide +kernel
theorem dX10_makeNumber_21 : decode cX10_makeNumber 21 = .ok (.iload_n 1, 1) := by decide +kernel
theorem dX10_makeNumber_22 : decode cX10_makeNumber 22 = .ok (.ifCond .ne 7, 3) := by decide +kernel
theorem dX10_makeNumber_25 : decode cX10_makeNumber 25 = .ok (.iconst 1, 1) := by decide +kernel
theorem dX10_makeNumber_26 : decode cX10_makeNumber 26 = .ok (.goto 4, 3) := by decide +kernel
theorem dX10_makeNumber_29 : decode cX10_makeNumber 29 = .ok (.iload_n 1, 1) := by decide +kernel
theorem dX10_makeNumber_30 : decode cX10_makeNumber 30 = .ok (.iload_n 2, 1) := by decide +kernel
theorem dX10_makeNumber_31 : decode cX10_makeNumber 31 = .ok (.iconst 1, 1) := by decide +kernel
theorem dX10_makeNumber_32 : decode cX10_makeNumber 32 = .ok (.if_icmp .ne 7, 3) := by decide +kernel
theorem dX10_makeNumber_35 : decode cX10_makeNumber 35 = .ok (.iconst 0, 1) := by decide +kernel
theorem dX10_makeNumber_36 : decode cX10_makeNumber 36 = .ok (.goto 4, 3) := by decide +kernel
theorem dX10_makeNumber_39 : decode cX10_makeNumber 39 = .ok (.iload_n 2, 1) := by decide +kernel
theorem dX10_makeNumber_40 : decode cX10_makeNumber 40 = .ok (.invokevirtual 160, 3) := by decide +kernel
theorem dX10_makeNumber_43 : decode cX10_makeNumber 43 = .ok (.ireturn, 1) := by decide +kernel
theorem dX10_makeFraction_0 : decode cX10_makeFraction 0 = .ok (.aload_n 0, 1) := by decide +kernel
theorem dX10_makeFraction_1 : decode cX10_makeFraction 1 = .ok (.sipush 1011, 3) := by decide +kernel
theorem dX10_makeFraction_4 : decode cX10_makeFraction 4 = .ok (.lload_n 1, 1) := by decide +kernel
theorem dX10_makeFraction_5 : decode cX10_makeFraction 5 = .ok (.lload_n 3, 1) := by decide +kernel
theorem dX10_makeFraction_6 : decode cX10_makeFraction 6 = .ok (.invokevirtual 139, 3) := by decide +kernel
theorem dX10_makeFraction_9 : decode cX10_makeFraction 9 = .ok (.aload_n 0, 1) := by decide +kernel
theorem dX10_makeFraction_10 : decode cX10_makeFraction 10 = .ok (.invokevirtual 164, 3) := by decide +kernel
theorem dX10_makeFraction_13 : decode cX10_makeFraction 13 = .ok (.ireturn, 1) := by decide +kernel
theorem dX10_makeVariable_0 : decode cX10_makeVariable 0 = .ok (.aload_n 0, 1) := by decide +kernel
theorem dX10_makeVariable_1 : decode cX10_makeVariable 1 = .ok (.iconst 1, 1) := by decide +kernel
theorem dX10_makeVariable_2 : decode cX10_makeVariable 2 = .ok (.iload_n 1, 1) := by decide +kernel
theorem dX10_makeVariable_3 : decode cX10_makeVariable 3 = .ok (.iconst (-1), 1) := by decide +kernel
theorem dX10_makeVariable_4 : decode cX10_makeVariable 4 = .ok (.iconst 1, 1) := by decide +kernel
theorem dX10_makeVariable_5 : decode cX10_makeVariable 5 = .ok (.iconst 1, 1) := by decide +kernel
theorem dX10_makeVariable_6 : decode cX10_makeVariable 6 = .ok (.iconst 0, 1) := by decide +kernel
theorem dX10_makeVariable_7 : decode cX10_makeVariable 7 = .ok (.invokevirtual 160, 3) := by decide +kernel
theorem dX10_makeVariable_10 : decode cX10_makeVariable 10 = .ok (.ireturn, 1) := by decide +kernel
theorem dX10_isNumber_0 : decode cX10_isNumber 0 = .ok (.aload_n 0, 1) := by decide +kernel
theorem dX10_isNumber_1 : decode cX10_isNumber 1 = .ok (.getfield 29, 3) := by decide +kernel
theorem dX10_isNumber_4 : decode cX10_isNumber 4 = .ok (.iload_n 1, 1) := by decide +kernel
theorem dX10_isNumber_5 : decode cX10_isNumber 5 = .ok (.iaload, 1) := by decide +kernel
theorem dX10_isNumber_6 : decode cX10_isNumber 6 = .ok (.ifCond .ne 16, 3) := by decide +kernel
theorem dX10_isNumber_9 : decode cX10_isNumber 9 = .ok (.aload_n 0, 1) := by decide +kernel
theorem dX10_isNumber_10 : decode cX10_isNumber 10 = .ok (.iload_n 1, 1) := by decide +kernel
theorem dX10_isNumber_11 : decode cX10_isNumber 11 = .ok (.lload_n 2, 1) := by decide +kernel
theorem dX10_isNumber_12 : decode cX10_isNumber 12 = .ok (.invokevirtual 167, 3) := by decide +kernel
theorem dX10_isNumber_15 : decode cX10_isNumber 15 = .ok (.ifCond .eq 7, 3) := by decide +kernel
theorem dX10_isNumber_18 : decode cX10_isNumber 18 = .ok (.iconst 1, 1) := by decide +kernel
theorem dX10_isNumber_19 : decode cX10_isNumber 19 = .ok (.goto 4, 3) := by decide +kernel
theorem dX10_isNumber_22 : decode cX10_isNumber 22 = .ok (.iconst 0, 1) := by decide +kernel
theorem dX10_isNumber_23 : decode cX10_isNumber 23 = .ok (.ireturn, 1) := by decide +kernel
theorem dX10_makeSum_0 : decode cX10_makeSum 0 = .ok (.aload_n 0, 1) := by decide +kernel
theorem dX10_makeSum_1 : decode cX10_makeSum 1 = .ok (.getfield 146, 3) := by decide +kernel
theorem dX10_makeSum_4 : decode cX10_makeSum 4 = .ok (.ifCond .ge 5, 3) := by decide +kernel
theorem dX10_makeSum_7 : decode cX10_makeSum 7 = .ok (.iconst (-1), 1) := by decide +kernel
theorem dX10_makeSum_8 : decode cX10_makeSum 8 = .ok (.ireturn, 1) := by decide +kernel
theorem dX10_makeSum_9 : decode cX10_makeSum 9 = .ok (.aload_n 0, 1) := by decide +kernel
theorem dX10_makeSum_10 : decode cX10_makeSum 10 = .ok (.getfield 29, 3) := by decide +kernel
theorem dX10_makeSum_13 : decode cX10_makeSum 13 = .ok (.iload_n 1, 1) := by decide +kernel
theorem dX10_makeSum_14 : decode cX10_makeSum 14 = .ok (.iaload, 1) := by decide +kernel
theorem dX10_makeSum_15 : decode cX10_makeSum 15 = .ok (.ifCond .ne 26, 3) := by decide +kernel
theorem dX10_makeSum_18 : decode cX10_makeSum 18 = .ok (.aload_n 0, 1) := by decide +kernel
theorem dX10_makeSum_19 : decode cX10_makeSum 19 = .ok (.getfield 29, 3) := by decide +kernel
theorem dX10_makeSum_22 : decode cX10_makeSum 22 = .ok (.iload_n 2, 1) := by decide +kernel
theorem dX10_makeSum_23 : decode cX10_makeSum 23 = .ok (.iaload, 1) := by decide +kernel
theorem dX10_makeSum_24 : decode cX10_makeSum 24 = .ok (.ifCond .ne 17, 3) := by decide +kernel
theorem dX10_makeSum_27 : decode cX10_makeSum 27 = .ok (.aload_n 0, 1) := by decide +kernel
theorem dX10_makeSum_28 : decode cX10_makeSum 28 = .ok (.sipush 1011, 3) := by decide +kernel
theorem dX10_makeSum_31 : decode cX10_makeSum 31 = .ok (.iload_n 1, 1) := by decide +kernel
theorem dX10_makeSum_32 : decode cX10_makeSum 32 = .ok (.iload_n 2, 1) := by decide +kernel
theorem dX10_makeSum_33 : decode cX10_makeSum 33 = .ok (.invokevirtual 171, 3) := by decide +kernel
theorem dX10_makeSum_36 : decode cX10_makeSum 36 = .ok (.aload_n 0, 1) := by decide +kernel
theorem dX10_makeSum_37 : decode cX10_makeSum 37 = .ok (.invokevirtual 164, 3) := by decide +kernel
theorem dX10_makeSum_40 : decode cX10_makeSum 40 = .ok (.ireturn, 1) := by decide +kernel
theorem dX10_makeSum_41 : decode cX10_makeSum 41 = .ok (.aload_n 0, 1) := by decide +kernel
theorem dX10_makeSum_42 : decode cX10_makeSum 42 = .ok (.iload_n 1, 1) := by decide +kernel
theorem dX10_makeSum_43 : decode cX10_makeSum 43 = .ok (.lconst 0, 1) := by decide +kernel
theorem dX10_makeSum_44 : decode cX10_makeSum 44 = .ok (.invokevirtual 174, 3) := by decide +kernel
theorem dX10_makeSum_47 : decode cX10_makeSum 47 = .ok (.ifCond .ne 12, 3) := by decide +kernel
theorem dX10_makeSum_50 : decode cX10_makeSum 50 = .ok (.aload_n 0, 1) := by decide +kernel
theorem dX10_makeSum_51 : decode cX10_makeSum 51 = .ok (.iload_n 2, 1) := by decide +kernel
theorem dX10_makeSum_52 : decode cX10_makeSum 52 = .ok (.lconst 0, 1) := by decide +kernel
theorem dX10_makeSum_53 : decode cX10_makeSum 53 = .ok (.invokevirtual 174, 3) := by decide +kernel
theorem dX10_makeSum_56 : decode cX10_makeSum 56 = .ok (.ifCond .eq 18, 3) := by decide +kernel
theorem dX10_makeSum_59 : decode cX10_makeSum 59 = .ok (.aload_n 0, 1) := by decide +kernel
theorem dX10_makeSum_60 : decode cX10_makeSum 60 = .ok (.iload_n 1, 1) := by decide +kernel
theorem dX10_makeSum_61 : decode cX10_makeSum 61 = .ok (.lconst 0, 1) := by decide +kernel
theorem dX10_makeSum_62 : decode cX10_makeSum 62 = .ok (.invokevirtual 174, 3) := by decide +kernel
theorem dX10_makeSum_65 : decode cX10_makeSum 65 = .ok (.ifCond .eq 7, 3) := by decide +kernel
theorem dX10_makeSum_68 : decode cX10_makeSum 68 = .ok (.iload_n 2, 1) := by decide +kernel
theorem dX10_makeSum_69 : decode cX10_makeSum 69 = .ok (.goto 4, 3) := by decide +kernel
theorem dX10_makeSum_72 : decode cX10_makeSum 72 = .ok (.iload_n 1, 1) := by decide +kernel
theorem dX10_makeSum_73 : decode cX10_makeSum 73 = .ok (.ireturn, 1) := by decide +kernel
theorem dX10_makeSum_74 : decode cX10_makeSum 74 = .ok (.aload_n 0, 1) := by decide +kernel
theorem dX10_makeSum_75 : decode cX10_makeSum 75 = .ok (.getfield 41, 3) := by decide +kernel
theorem dX10_makeSum_78 : decode cX10_makeSum 78 = .ok (.iload_n 1, 1) := by decide +kernel
theorem dX10_makeSum_79 : decode cX10_makeSum 79 = .ok (.iaload, 1) := by decide +kernel
theorem dX10_makeSum_80 : decode cX10_makeSum 80 = .ok (.aload_n 0, 1) := by decide +kernel
theorem dX10_makeSum_81 : decode cX10_makeSum 81 = .ok (.getfield 44, 3) := by decide +kernel
theorem dX10_makeSum_84 : decode cX10_makeSum 84 = .ok (.iload_n 2, 1) := by decide +kernel
theorem dX10_makeSum_85 : decode cX10_makeSum 85 = .ok (.iaload, 1) := by decide +kernel
theorem dX10_makeSum_86 : decode cX10_makeSum 86 = .ok (.iadd, 1) := by decide +kernel
theorem dX10_makeSum_87 : decode cX10_makeSum 87 = .ok (.istore_n 3, 1) := by decide +kernel
theorem dX10_makeSum_88 : decode cX10_makeSum 88 = .ok (.aload_n 0, 1) := by decide +kernel
theorem dX10_makeSum_89 : decode cX10_makeSum 89 = .ok (.getfield 41, 3) := by decide +kernel
theorem dX10_makeSum_92 : decode cX10_makeSum 92 = .ok (.iload_n 2, 1) := by decide +kernel
theorem dX10_makeSum_93 : decode cX10_makeSum 93 = .ok (.iaload, 1) := by decide +kernel
theorem dX10_makeSum_94 : decode cX10_makeSum 94 = .ok (.aload_n 0, 1) := by decide +kernel
theorem dX10_makeSum_95 : decode cX10_makeSum 95 = .ok (.getfield 44, 3) := by decide +kernel
theorem dX10_makeSum_98 : decode cX10_makeSum 98 = .ok (.iload_n 1, 1) := by decide +kernel
theorem dX10_makeSum_99 : decode cX10_makeSum 99 = .ok (.iaload, 1) := by decide +kernel
theorem dX10_makeSum_100 : decode cX10_makeSum 100 = .ok (.iadd, 1) := by decide +kernel
theorem dX10_makeSum_101 : decode cX10_makeSum 101 = .ok (.istore 4, 2) := by decide +kernel
theorem dX10_makeSum_103 : decode cX10_makeSum 103 = .ok (.aload_n 0, 1) := by decide +kernel
theorem dX10_makeSum_104 : decode cX10_makeSum 104 = .ok (.iconst 2, 1) := by decide +kernel
theorem dX10_makeSum_105 : decode cX10_makeSum 105 = .ok (.iload_n 1, 1) := by decide +kernel
theorem dX10_makeSum_106 : decode cX10_makeSum 106 = .ok (.iload_n 2, 1) := by decide +kernel
theorem dX10_makeSum_107 : decode cX10_makeSum 107 = .ok (.aload_n 0, 1) := by decide +kernel
theorem dX10_makeSum_108 : decode cX10_makeSum 108 = .ok (.getfield 38, 3) := by decide +kernel
theorem dX10_makeSum_111 : decode cX10_makeSum 111 = .ok (.iload_n 1, 1) := by decide +kernel
theorem dX10_makeSum_112 : decode cX10_makeSum 112 = .ok (.iaload, 1) := by decide +kernel
theorem dX10_makeSum_113 : decode cX10_makeSum 113 = .ok (.aload_n 0, 1) := by decide +kernel
theorem dX10_makeSum_114 : decode cX10_makeSum 114 = .ok (.getfield 38, 3) := by decide +kernel
theorem dX10_makeSum_117 : decode cX10_makeSum 117 = .ok (.iload_n 2, 1) := by decide +kernel
theorem dX10_makeSum_118 : decode cX10_makeSum 118 = .ok (.iaload, 1) := by decide +kernel
theorem dX10_makeSum_119 : decode cX10_makeSum 119 = .ok (.if_icmp .le 12, 3) := by decide +kernel
theorem dX10_makeSum_122 : decode cX10_makeSum 122 = .ok (.aload_n 0, 1) := by decide +kernel
theorem dX10_makeSum_123 : decode cX10_makeSum 123 = .ok (.getfield 38, 3) := by decide +kernel
theorem dX10_makeSum_126 : decode cX10_makeSum 126 = .ok (.iload_n 1, 1) := by decide +kernel
theorem dX10_makeSum_127 : decode cX10_makeSum 127 = .ok (.iaload, 1) := by decide +kernel
theorem dX10_makeSum_128 : decode cX10_makeSum 128 = .ok (.goto 9, 3) := by decide +kernel
theorem dX10_makeSum_131 : decode cX10_makeSum 131 = .ok (.aload_n 0, 1) := by decide +kernel
theorem dX10_makeSum_132 : decode cX10_makeSum 132 = .ok (.getfield 38, 3) := by decide +kernel
theorem dX10_makeSum_135 : decode cX10_makeSum 135 = .ok (.iload_n 2, 1) := by decide +kernel
theorem dX10_makeSum_136 : decode cX10_makeSum 136 = .ok (.iaload, 1) := by decide +kernel
theorem dX10_makeSum_137 : decode cX10_makeSum 137 = .ok (.iconst 1, 1) := by decide +kernel
theorem dX10_makeSum_138 : decode cX10_makeSum 138 = .ok (.iload_n 3, 1) := by decide +kernel
theorem dX10_makeSum_139 : decode cX10_makeSum 139 = .ok (.iload 4, 2) := by decide +kernel
theorem dX10_makeSum_141 : decode cX10_makeSum 141 = .ok (.if_icmp .le 7, 3) := by decide +kernel
theorem dX10_makeSum_144 : decode cX10_makeSum 144 = .ok (.iload_n 3, 1) := by decide +kernel
theorem dX10_makeSum_145 : decode cX10_makeSum 145 = .ok (.goto 5, 3) := by decide +kernel
theorem dX10_makeSum_148 : decode cX10_makeSum 148 = .ok (.iload 4, 2) := by decide +kernel
theorem dX10_makeSum_150 : decode cX10_makeSum 150 = .ok (.iadd, 1) := by decide +kernel
theorem dX10_makeSum_151 : decode cX10_makeSum 151 = .ok (.aload_n 0, 1) := by decide +kernel
theorem dX10_makeSum_152 : decode cX10_makeSum 152 = .ok (.getfield 44, 3) := by decide +kernel
theorem dX10_makeSum_155 : decode cX10_makeSum 155 = .ok (.iload_n 1, 1) := by decide +kernel
theorem dX10_makeSum_156 : decode cX10_makeSum 156 = .ok (.iaload, 1) := by decide +kernel
theorem dX10_makeSum_157 : decode cX10_makeSum 157 = .ok (.aload_n 0, 1) := by decide +kernel
theorem dX10_makeSum_158 : decode cX10_makeSum 158 = .ok (.getfield 44, 3) := by decide +kernel
theorem dX10_makeSum_161 : decode cX10_makeSum 161 = .ok (.iload_n 2, 1) := by decide +kernel
theorem dX10_makeSum_162 : decode cX10_makeSum 162 = .ok (.iaload, 1) := by decide +kernel
theorem dX10_makeSum_163 : decode cX10_makeSum 163 = .ok (.iadd, 1) := by decide +kernel
theorem dX10_makeSum_164 : decode cX10_makeSum 164 = .ok (.invokevirtual 160, 3) := by decide +kernel
theorem dX10_makeSum_167 : decode cX10_makeSum 167 = .ok (.ireturn, 1) := by decide +kernel
theorem dX10_makeProduct_0 : decode cX10_makeProduct 0 = .ok (.aload_n 0, 1) := by decide +kernel
theorem dX10_makeProduct_1 : decode cX10_makeProduct 1 = .ok (.getfield 146, 3) := by decide +kernel
theorem dX10_makeProduct_4 : decode cX10_makeProduct 4 = .ok (.ifCond .ge 5, 3) := by decide +kernel
theorem dX10_makeProduct_7 : decode cX10_makeProduct 7 = .ok (.iconst (-1), 1) := by decide +kernel
theorem dX10_makeProduct_8 : decode cX10_makeProduct 8 = .ok (.ireturn, 1) := by decide +kernel
theorem dX10_makeProduct_9 : decode cX10_makeProduct 9 = .ok (.aload_n 0, 1) := by decide +kernel
theorem dX10_makeProduct_10 : decode cX10_makeProduct 10 = .ok (.getfield 29, 3) := by decide +kernel
theorem dX10_makeProduct_13 : decode cX10_makeProduct 13 = .ok (.iload_n 1, 1) := by decide +kernel
theorem dX10_makeProduct_14 : decode cX10_makeProduct 14 = .ok (.iaload, 1) := by decide +kernel
theorem dX10_makeProduct_15 : decode cX10_makeProduct 15 = .ok (.ifCond .ne 26, 3) := by decide +kernel
theorem dX10_makeProduct_18 : decode cX10_makeProduct 18 = .ok (.aload_n 0, 1) := by decide +kernel
theorem dX10_makeProduct_19 : decode cX10_makeProduct 19 = .ok (.getfield 29, 3) := by decide +kernel
theorem dX10_makeProduct_22 : decode cX10_makeProduct 22 = .ok (.iload_n 2, 1) := by decide +kernel
theorem dX10_makeProduct_23 : decode cX10_makeProduct 23 = .ok (.iaload, 1) := by decide +kernel
theorem dX10_makeProduct_24 : decode cX10_makeProduct 24 = .ok (.ifCond .ne 17, 3) := by decide +kernel
theorem dX10_makeProduct_27 : decode cX10_makeProduct 27 = .ok (.aload_n 0, 1) := by decide +kernel
theorem dX10_makeProduct_28 : decode cX10_makeProduct 28 = .ok (.sipush 1011, 3) := by decide +kernel
theorem dX10_makeProduct_31 : decode cX10_makeProduct 31 = .ok (.iload_n 1, 1) := by decide +kernel
theorem dX10_makeProduct_32 : decode cX10_makeProduct 32 = .ok (.iload_n 2, 1) := by decide +kernel
theorem dX10_makeProduct_33 : decode cX10_makeProduct 33 = .ok (.invokevirtual 143, 3) := by decide +kernel
theorem dX10_makeProduct_36 : decode cX10_makeProduct 36 = .ok (.aload_n 0, 1) := by decide +kernel
theorem dX10_makeProduct_37 : decode cX10_makeProduct 37 = .ok (.invokevirtual 164, 3) := by decide +kernel
theorem dX10_makeProduct_40 : decode cX10_makeProduct 40 = .ok (.ireturn, 1) := by decide +kernel
theorem dX10_makeProduct_41 : decode cX10_makeProduct 41 = .ok (.aload_n 0, 1) := by decide +kernel
theorem dX10_makeProduct_42 : decode cX10_makeProduct 42 = .ok (.iload_n 1, 1) := by decide +kernel
theorem dX10_makeProduct_43 : decode cX10_makeProduct 43 = .ok (.lconst 0, 1) := by decide +kernel
theorem dX10_makeProduct_44 : decode cX10_makeProduct 44 = .ok (.invokevirtual 174, 3) := by decide +kernel
theorem dX10_makeProduct_47 : decode cX10_makeProduct 47 = .ok (.ifCond .ne 12, 3) := by decide +kernel
theorem dX10_makeProduct_50 : decode cX10_makeProduct 50 = .ok (.aload_n 0, 1) := by decide +kernel
theorem dX10_makeProduct_51 : decode cX10_makeProduct 51 = .ok (.iload_n 2, 1) := by decide +kernel
theorem dX10_makeProduct_52 : decode cX10_makeProduct 52 = .ok (.lconst 0, 1) := by decide +kernel
theorem dX10_makeProduct_53 : decode cX10_makeProduct 53 = .ok (.invokevirtual 174, 3) := by decide +kernel
theorem dX10_makeProduct_56 : decode cX10_makeProduct 56 = .ok (.ifCond .eq 18, 3) := by decide +kernel
theorem dX10_makeProduct_59 : decode cX10_makeProduct 59 = .ok (.aload_n 0, 1) := by decide +kernel
theorem dX10_makeProduct_60 : decode cX10_makeProduct 60 = .ok (.iload_n 1, 1) := by decide +kernel
theorem dX10_makeProduct_61 : decode cX10_makeProduct 61 = .ok (.lconst 0, 1) := by decide +kernel
theorem dX10_makeProduct_62 : decode cX10_makeProduct 62 = .ok (.invokevirtual 174, 3) := by decide +kernel
theorem dX10_makeProduct_65 : decode cX10_makeProduct 65 = .ok (.ifCond .eq 7, 3) := by decide +kernel
theorem dX10_makeProduct_68 : decode cX10_makeProduct 68 = .ok (.iload_n 1, 1) := by decide +kernel
theorem dX10_makeProduct_69 : decode cX10_makeProduct 69 = .ok (.goto 4, 3) := by decide +kernel
theorem dX10_makeProduct_72 : decode cX10_makeProduct 72 = .ok (.iload_n 2, 1) := by decide +kernel
theorem dX10_makeProduct_73 : decode cX10_makeProduct 73 = .ok (.ireturn, 1) := by decide +kernel
theorem dX10_makeProduct_74 : decode cX10_makeProduct 74 = .ok (.aload_n 0, 1) := by decide +kernel
theorem dX10_makeProduct_75 : decode cX10_makeProduct 75 = .ok (.iload_n 1, 1) := by decide +kernel
theorem dX10_makeProduct_76 : decode cX10_makeProduct 76 = .ok (.lconst 1, 1) := by decide +kernel
theorem dX10_makeProduct_77 : decode cX10_makeProduct 77 = .ok (.invokevirtual 174, 3) := by decide +kernel
theorem dX10_makeProduct_80 : decode cX10_makeProduct 80 = .ok (.ifCond .ne 12, 3) := by decide +kernel
theorem dX10_makeProduct_83 : decode cX10_makeProduct 83 = .ok (.aload_n 0, 1) := by decide +kernel
theorem dX10_makeProduct_84 : decode cX10_makeProduct 84 = .ok (.iload_n 2, 1) := by decide +kernel
theorem dX10_makeProduct_85 : decode cX10_makeProduct 85 = .ok (.lconst 1, 1) := by decide +kernel
theorem dX10_makeProduct_86 : decode cX10_makeProduct 86 = .ok (.invokevirtual 174, 3) := by decide +kernel
theorem dX10_makeProduct_89 : decode cX10_makeProduct 89 = .ok (.ifCond .eq 18, 3) := by decide +kernel
theorem dX10_makeProduct_92 : decode cX10_makeProduct 92 = .ok (.aload_n 0, 1) := by decide +kernel
theorem dX10_makeProduct_93 : decode cX10_makeProduct 93 = .ok (.iload_n 1, 1) := by decide +kernel
theorem dX10_makeProduct_94 : decode cX10_makeProduct 94 = .ok (.lconst 1, 1) := by decide +kernel
theorem dX10_makeProduct_95 : decode cX10_makeProduct 95 = .ok (.invokevirtual 174, 3) := by decide +kernel
theorem dX10_makeProduct_98 : decode cX10_makeProduct 98 = .ok (.ifCond .eq 7, 3) := by decide +kernel
theorem dX10_makeProduct_101 : decode cX10_makeProduct 101 = .ok (.iload_n 2, 1) := by decide +kernel
theorem dX10_makeProduct_102 : decode cX10_makeProduct 102 = .ok (.goto 4, 3) := by decide +kernel
theorem dX10_makeProduct_105 : decode cX10_makeProduct 105 = .ok (.iload_n 1, 1) := by decide +kernel
theorem dX10_makeProduct_106 : decode cX10_makeProduct 106 = .ok (.ireturn, 1) := by decide +kernel
theorem dX10_makeProduct_107 : decode cX10_makeProduct 107 = .ok (.aload_n 0, 1) := by decide +kernel
theorem dX10_makeProduct_108 : decode cX10_makeProduct 108 = .ok (.iconst 3, 1) := by decide +kernel
theorem dX10_makeProduct_109 : decode cX10_makeProduct 109 = .ok (.iload_n 1, 1) := by decide +kernel
theorem dX10_makeProduct_110 : decode cX10_makeProduct 110 = .ok (.iload_n 2, 1) := by decide +kernel
theorem dX10_makeProduct_111 : decode cX10_makeProduct 111 = .ok (.aload_n 0, 1) := by decide +kernel
theorem dX10_makeProduct_112 : decode cX10_makeProduct 112 = .ok (.getfield 38, 3) := by decide +kernel
theorem dX10_makeProduct_115 : decode cX10_makeProduct 115 = .ok (.iload_n 1, 1) := by decide +kernel
theorem dX10_makeProduct_116 : decode cX10_makeProduct 116 = .ok (.iaload, 1) := by decide +kernel
theorem dX10_makeProduct_117 : decode cX10_makeProduct 117 = .ok (.aload_n 0, 1) := by decide +kernel
theorem dX10_makeProduct_118 : decode cX10_makeProduct 118 = .ok (.getfield 38, 3) := by decide +kernel
theorem dX10_makeProduct_121 : decode cX10_makeProduct 121 = .ok (.iload_n 2, 1) := by decide +kernel
theorem dX10_makeProduct_122 : decode cX10_makeProduct 122 = .ok (.iaload, 1) := by decide +kernel
theorem dX10_makeProduct_123 : decode cX10_makeProduct 123 = .ok (.iadd, 1) := by decide +kernel
theorem dX10_makeProduct_124 : decode cX10_makeProduct 124 = .ok (.aload_n 0, 1) := by decide +kernel
theorem dX10_makeProduct_125 : decode cX10_makeProduct 125 = .ok (.getfield 41, 3) := by decide +kernel
theorem dX10_makeProduct_128 : decode cX10_makeProduct 128 = .ok (.iload_n 1, 1) := by decide +kernel
theorem dX10_makeProduct_129 : decode cX10_makeProduct 129 = .ok (.iaload, 1) := by decide +kernel
theorem dX10_makeProduct_130 : decode cX10_makeProduct 130 = .ok (.aload_n 0, 1) := by decide +kernel
theorem dX10_makeProduct_131 : decode cX10_makeProduct 131 = .ok (.getfield 41, 3) := by decide +kernel
theorem dX10_makeProduct_134 : decode cX10_makeProduct 134 = .ok (.iload_n 2, 1) := by decide +kernel
theorem dX10_makeProduct_135 : decode cX10_makeProduct 135 = .ok (.iaload, 1) := by decide +kernel
theorem dX10_makeProduct_136 : decode cX10_makeProduct 136 = .ok (.iadd, 1) := by decide +kernel
theorem dX10_makeProduct_137 : decode cX10_makeProduct 137 = .ok (.bipush 8, 2) := by decide +kernel
theorem dX10_makeProduct_139 : decode cX10_makeProduct 139 = .ok (.iadd, 1) := by decide +kernel
theorem dX10_makeProduct_140 : decode cX10_makeProduct 140 = .ok (.aload_n 0, 1) := by decide +kernel
theorem dX10_makeProduct_141 : decode cX10_makeProduct 141 = .ok (.getfield 44, 3) := by decide +kernel
theorem dX10_makeProduct_144 : decode cX10_makeProduct 144 = .ok (.iload_n 1, 1) := by decide +kernel
theorem dX10_makeProduct_145 : decode cX10_makeProduct 145 = .ok (.iaload, 1) := by decide +kernel
theorem dX10_makeProduct_146 : decode cX10_makeProduct 146 = .ok (.aload_n 0, 1) := by decide +kernel
theorem dX10_makeProduct_147 : decode cX10_makeProduct 147 = .ok (.getfield 44, 3) := by decide +kernel
theorem dX10_makeProduct_150 : decode cX10_makeProduct 150 = .ok (.iload_n 2, 1) := by decide +kernel
theorem dX10_makeProduct_151 : decode cX10_makeProduct 151 = .ok (.iaload, 1) := by decide +kernel
theorem dX10_makeProduct_152 : decode cX10_makeProduct 152 = .ok (.iadd, 1) := by decide +kernel
theorem dX10_makeProduct_153 : decode cX10_makeProduct 153 = .ok (.invokevirtual 160, 3) := by decide +kernel
theorem dX10_makeProduct_156 : decode cX10_makeProduct 156 = .ok (.ireturn, 1) := by decide +kernel
theorem dX10_makePower_0 : decode cX10_makePower 0 = .ok (.aload_n 0, 1) := by decide +kernel
theorem dX10_makePower_1 : decode cX10_makePower 1 = .ok (.getfield 146, 3) := by decide +kernel
theorem dX10_makePower_4 : decode cX10_makePower 4 = .ok (.ifCond .ge 5, 3) := by decide +kernel
theorem dX10_makePower_7 : decode cX10_makePower 7 = .ok (.iconst (-1), 1) := by decide +kernel
theorem dX10_makePower_8 : decode cX10_makePower 8 = .ok (.ireturn, 1) := by decide +kernel
theorem dX10_makePower_9 : decode cX10_makePower 9 = .ok (.iload_n 2, 1) := by decide +kernel
theorem dX10_makePower_10 : decode cX10_makePower 10 = .ok (.ifCond .ne 10, 3) := by decide +kernel
theorem dX10_makePower_13 : decode cX10_makePower 13 = .ok (.aload_n 0, 1) := by decide +kernel
theorem dX10_makePower_14 : decode cX10_makePower 14 = .ok (.lconst 1, 1) := by decide +kernel
theorem dX10_makePower_15 : decode cX10_makePower 15 = .ok (.lconst 1, 1) := by decide +kernel
theorem dX10_makePower_16 : decode cX10_makePower 16 = .ok (.invokevirtual 177, 3) := by decide +kernel
theorem dX10_makePower_19 : decode cX10_makePower 19 = .ok (.ireturn, 1) := by decide +kernel
theorem dX10_makePower_20 : decode cX10_makePower 20 = .ok (.iload_n 2, 1) := by decide +kernel
theorem dX10_makePower_21 : decode cX10_makePower 21 = .ok (.iconst 1, 1) := by decide +kernel
theorem dX10_makePower_22 : decode cX10_makePower 22 = .ok (.if_icmp .ne 5, 3) := by decide +kernel
theorem dX10_makePower_25 : decode cX10_makePower 25 = .ok (.iload_n 1, 1) := by decide +kernel
theorem dX10_makePower_26 : decode cX10_makePower 26 = .ok (.ireturn, 1) := by decide +kernel
theorem dX10_makePower_27 : decode cX10_makePower 27 = .ok (.aload_n 0, 1) := by decide +kernel
theorem dX10_makePower_28 : decode cX10_makePower 28 = .ok (.getfield 29, 3) := by decide +kernel
theorem dX10_makePower_31 : decode cX10_makePower 31 = .ok (.iload_n 1, 1) := by decide +kernel
theorem dX10_makePower_32 : decode cX10_makePower 32 = .ok (.iaload, 1) := by decide +kernel
theorem dX10_makePower_33 : decode cX10_makePower 33 = .ok (.ifCond .eq 38, 3) := by decide +kernel
theorem dX10_makePower_36 : decode cX10_makePower 36 = .ok (.aload_n 0, 1) := by decide +kernel
theorem dX10_makePower_37 : decode cX10_makePower 37 = .ok (.iconst 4, 1) := by decide +kernel
theorem dX10_makePower_38 : decode cX10_makePower 38 = .ok (.iload_n 1, 1) := by decide +kernel
theorem dX10_makePower_39 : decode cX10_makePower 39 = .ok (.iload_n 2, 1) := by decide +kernel
theorem dX10_makePower_40 : decode cX10_makePower 40 = .ok (.iload_n 2, 1) := by decide +kernel
theorem dX10_makePower_41 : decode cX10_makePower 41 = .ok (.aload_n 0, 1) := by decide +kernel
theorem dX10_makePower_42 : decode cX10_makePower 42 = .ok (.getfield 38, 3) := by decide +kernel
theorem dX10_makePower_45 : decode cX10_makePower 45 = .ok (.iload_n 1, 1) := by decide +kernel
theorem dX10_makePower_46 : decode cX10_makePower 46 = .ok (.iaload, 1) := by decide +kernel
theorem dX10_makePower_47 : decode cX10_makePower 47 = .ok (.imul, 1) := by decide +kernel
theorem dX10_makePower_48 : decode cX10_makePower 48 = .ok (.iload_n 2, 1) := by decide +kernel
theorem dX10_makePower_49 : decode cX10_makePower 49 = .ok (.aload_n 0, 1) := by decide +kernel
theorem dX10_makePower_50 : decode cX10_makePower 50 = .ok (.getfield 41, 3) := by decide +kernel
theorem dX10_makePower_53 : decode cX10_makePower 53 = .ok (.iload_n 1, 1) := by decide +kernel
theorem dX10_makePower_54 : decode cX10_makePower 54 = .ok (.iaload, 1) := by decide +kernel
theorem dX10_makePower_55 : decode cX10_makePower 55 = .ok (.bipush 8, 2) := by decide +kernel
theorem dX10_makePower_57 : decode cX10_makePower 57 = .ok (.iadd, 1) := by decide +kernel
theorem dX10_makePower_58 : decode cX10_makePower 58 = .ok (.imul, 1) := by decide +kernel
theorem dX10_makePower_59 : decode cX10_makePower 59 = .ok (.iload_n 2, 1) := by decide +kernel
theorem dX10_makePower_60 : decode cX10_makePower 60 = .ok (.aload_n 0, 1) := by decide +kernel
theorem dX10_makePower_61 : decode cX10_makePower 61 = .ok (.getfield 44, 3) := by decide +kernel
theorem dX10_makePower_64 : decode cX10_makePower 64 = .ok (.iload_n 1, 1) := by decide +kernel
theorem dX10_makePower_65 : decode cX10_makePower 65 = .ok (.iaload, 1) := by decide +kernel
theorem dX10_makePower_66 : decode cX10_makePower 66 = .ok (.imul, 1) := by decide +kernel
theorem dX10_makePower_67 : decode cX10_makePower 67 = .ok (.invokevirtual 160, 3) := by decide +kernel
theorem dX10_makePower_70 : decode cX10_makePower 70 = .ok (.ireturn, 1) := by decide +kernel
theorem dX10_makePower_71 : decode cX10_makePower 71 = .ok (.aload_n 0, 1) := by decide +kernel
theorem dX10_makePower_72 : decode cX10_makePower 72 = .ok (.iconst 2, 1) := by decide +kernel
theorem dX10_makePower_73 : decode cX10_makePower 73 = .ok (.iload_n 1, 1) := by decide +kernel
theorem dX10_makePower_74 : decode cX10_makePower 74 = .ok (.imul, 1) := by decide +kernel
theorem dX10_makePower_75 : decode cX10_makePower 75 = .ok (.invokevirtual 117, 3) := by decide +kernel
theorem dX10_makePower_78 : decode cX10_makePower 78 = .ok (.istore_n 3, 1) := by decide +kernel
theorem dX10_makePower_79 : decode cX10_makePower 79 = .ok (.aload_n 0, 1) := by decide +kernel
theorem dX10_makePower_80 : decode cX10_makePower 80 = .ok (.iconst 2, 1) := by decide +kernel
theorem dX10_makePower_81 : decode cX10_makePower 81 = .ok (.iload_n 1, 1) := by decide +kernel
theorem dX10_makePower_82 : decode cX10_makePower 82 = .ok (.imul, 1) := by decide +kernel
theorem dX10_makePower_83 : decode cX10_makePower 83 = .ok (.iconst 1, 1) := by decide +kernel
theorem dX10_makePower_84 : decode cX10_makePower 84 = .ok (.iadd, 1) := by decide +kernel
theorem dX10_makePower_85 : decode cX10_makePower 85 = .ok (.invokevirtual 117, 3) := by decide +kernel
theorem dX10_makePower_88 : decode cX10_makePower 88 = .ok (.istore 4, 2) := by decide +kernel
theorem dX10_makePower_90 : decode cX10_makePower 90 = .ok (.iload_n 2, 1) := by decide +kernel
theorem dX10_makePower_91 : decode cX10_makePower 91 = .ok (.iload_n 3, 1) := by decide +kernel
theorem dX10_makePower_92 : decode cX10_makePower 92 = .ok (.iconst 1, 1) := by decide +kernel
theorem dX10_makePower_93 : decode cX10_makePower 93 = .ok (.isub, 1) := by decide +kernel
theorem dX10_makePower_94 : decode cX10_makePower 94 = .ok (.imul, 1) := by decide +kernel
theorem dX10_makePower_95 : decode cX10_makePower 95 = .ok (.iconst 1, 1) := by decide +kernel
theorem dX10_makePower_96 : decode cX10_makePower 96 = .ok (.iadd, 1) := by decide +kernel
theorem dX10_makePower_97 : decode cX10_makePower 97 = .ok (.sipush 400, 3) := by decide +kernel
theorem dX10_makePower_100 : decode cX10_makePower 100 = .ok (.if_icmp .gt 17, 3) := by decide +kernel
theorem dX10_makePower_103 : decode cX10_makePower 103 = .ok (.iload_n 2, 1) := by decide +kernel
theorem dX10_makePower_104 : decode cX10_makePower 104 = .ok (.iload 4, 2) := by decide +kernel
theorem dX10_makePower_106 : decode cX10_makePower 106 = .ok (.iconst 1, 1) := by decide +kernel
theorem dX10_makePower_107 : decode cX10_makePower 107 = .ok (.isub, 1) := by decide +kernel
theorem dX10_makePower_108 : decode cX10_makePower 108 = .ok (.imul, 1) := by decide +kernel
theorem dX10_makePower_109 : decode cX10_makePower 109 = .ok (.iconst 1, 1) := by decide +kernel
theorem dX10_makePower_110 : decode cX10_makePower 110 = .ok (.iadd, 1) := by decide +kernel
theorem dX10_makePower_111 : decode cX10_makePower 111 = .ok (.sipush 400, 3) := by decide +kernel
theorem dX10_makePower_114 : decode cX10_makePower 114 = .ok (.if_icmp .le 11, 3) := by decide +kernel
theorem dX10_makePower_117 : decode cX10_makePower 117 = .ok (.aload_n 0, 1) := by decide +kernel
theorem dX10_makePower_118 : decode cX10_makePower 118 = .ok (.bipush (-3), 2) := by decide +kernel
theorem dX10_makePower_120 : decode cX10_makePower 120 = .ok (.putfield 146, 3) := by decide +kernel
theorem dX10_makePower_123 : decode cX10_makePower 123 = .ok (.iconst (-1), 1) := by decide +kernel
theorem dX10_makePower_124 : decode cX10_makePower 124 = .ok (.ireturn, 1) := by decide +kernel
theorem dX10_makePower_125 : decode cX10_makePower 125 = .ok (.aload_n 0, 1) := by decide +kernel
theorem dX10_makePower_126 : decode cX10_makePower 126 = .ok (.sipush 1011, 3) := by decide +kernel
theorem dX10_makePower_129 : decode cX10_makePower 129 = .ok (.iload_n 1, 1) := by decide +kernel
theorem dX10_makePower_130 : decode cX10_makePower 130 = .ok (.iload_n 2, 1) := by decide +kernel
theorem dX10_makePower_131 : decode cX10_makePower 131 = .ok (.invokevirtual 181, 3) := by decide +kernel
theorem dX10_makePower_134 : decode cX10_makePower 134 = .ok (.aload_n 0, 1) := by decide +kernel
theorem dX10_makePower_135 : decode cX10_makePower 135 = .ok (.invokevirtual 164, 3) := by decide +kernel
theorem dX10_makePower_138 : decode cX10_makePower 138 = .ok (.ireturn, 1) := by decide +kernel
theorem dX10_next_0 : decode cX10_next 0 = .ok (.aload_n 0, 1) := by decide +kernel
theorem dX10_next_1 : decode cX10_next 1 = .ok (.getfield 184, 3) := by decide +kernel
theorem dX10_next_4 : decode cX10_next 4 = .ok (.aload_n 0, 1) := by decide +kernel
theorem dX10_next_5 : decode cX10_next 5 = .ok (.getfield 187, 3) := by decide +kernel
theorem dX10_next_8 : decode cX10_next 8 = .ok (.if_icmp .ge 15, 3) := by decide +kernel
theorem dX10_next_11 : decode cX10_next 11 = .ok (.aload_n 0, 1) := by decide +kernel
theorem dX10_next_12 : decode cX10_next 12 = .ok (.getfield 22, 3) := by decide +kernel
theorem dX10_next_15 : decode cX10_next 15 = .ok (.aload_n 0, 1) := by decide +kernel
theorem dX10_next_16 : decode cX10_next 16 = .ok (.getfield 184, 3) := by decide +kernel
theorem dX10_next_19 : decode cX10_next 19 = .ok (.iaload, 1) := by decide +kernel
theorem dX10_next_20 : decode cX10_next 20 = .ok (.goto 4, 3) := by decide +kernel
theorem dX10_next_23 : decode cX10_next 23 = .ok (.iconst 0, 1) := by decide +kernel
theorem dX10_next_24 : decode cX10_next 24 = .ok (.ireturn, 1) := by decide +kernel
theorem dX10_isDigit_0 : decode cX10_isDigit 0 = .ok (.iload_n 0, 1) := by decide +kernel
theorem dX10_isDigit_1 : decode cX10_isDigit 1 = .ok (.bipush 48, 2) := by decide +kernel
theorem dX10_isDigit_3 : decode cX10_isDigit 3 = .ok (.if_icmp .lt 13, 3) := by decide +kernel
theorem dX10_isDigit_6 : decode cX10_isDigit 6 = .ok (.iload_n 0, 1) := by decide +kernel
theorem dX10_isDigit_7 : decode cX10_isDigit 7 = .ok (.bipush 57, 2) := by decide +kernel
theorem dX10_isDigit_9 : decode cX10_isDigit 9 = .ok (.if_icmp .gt 7, 3) := by decide +kernel
theorem dX10_isDigit_12 : decode cX10_isDigit 12 = .ok (.iconst 1, 1) := by decide +kernel
theorem dX10_isDigit_13 : decode cX10_isDigit 13 = .ok (.goto 4, 3) := by decide +kernel
theorem dX10_isDigit_16 : decode cX10_isDigit 16 = .ok (.iconst 0, 1) := by decide +kernel
theorem dX10_isDigit_17 : decode cX10_isDigit 17 = .ok (.ireturn, 1) := by decide +kernel
theorem dX10_passDigits_0 : decode cX10_passDigits 0 = .ok (.iconst 0, 1) := by decide +kernel
theorem dX10_passDigits_1 : decode cX10_passDigits 1 = .ok (.istore_n 2, 1) := by decide +kernel
theorem dX10_passDigits_2 : decode cX10_passDigits 2 = .ok (.iconst 1, 1) := by decide +kernel
theorem dX10_passDigits_3 : decode cX10_passDigits 3 = .ok (.istore_n 3, 1) := by decide +kernel
theorem dX10_passDigits_4 : decode cX10_passDigits 4 = .ok (.iload_n 2, 1) := by decide +kernel
theorem dX10_passDigits_5 : decode cX10_passDigits 5 = .ok (.iconst 4, 1) := by decide +kernel
theorem dX10_passDigits_6 : decode cX10_passDigits 6 = .ok (.if_icmp .ge 70, 3) := by decide +kernel
theorem dX10_passDigits_9 : decode cX10_passDigits 9 = .ok (.aload_n 0, 1) := by decide +kernel
theorem dX10_passDigits_10 : decode cX10_passDigits 10 = .ok (.invokevirtual 190, 3) := by decide +kernel
theorem dX10_passDigits_13 : decode cX10_passDigits 13 = .ok (.invokestatic 193, 3) := by decide +kernel
theorem dX10_passDigits_16 : decode cX10_passDigits 16 = .ok (.ifCond .eq 60, 3) := by decide +kernel
theorem dX10_passDigits_19 : decode cX10_passDigits 19 = .ok (.iload_n 1, 1) := by decide +kernel
theorem dX10_passDigits_20 : decode cX10_passDigits 20 = .ok (.ifCond .eq 21, 3) := by decide +kernel
theorem dX10_passDigits_23 : decode cX10_passDigits 23 = .ok (.iload_n 2, 1) := by decide +kernel
theorem dX10_passDigits_24 : decode cX10_passDigits 24 = .ok (.iconst 3, 1) := by decide +kernel
theorem dX10_passDigits_25 : decode cX10_passDigits 25 = .ok (.if_icmp .ne 16, 3) := by decide +kernel
theorem dX10_passDigits_28 : decode cX10_passDigits 28 = .ok (.iload_n 3, 1) := by decide +kernel
theorem dX10_passDigits_29 : decode cX10_passDigits 29 = .ok (.ifCond .eq 12, 3) := by decide +kernel
theorem dX10_passDigits_32 : decode cX10_passDigits 32 = .ok (.aload_n 0, 1) := by decide +kernel
theorem dX10_passDigits_33 : decode cX10_passDigits 33 = .ok (.invokevirtual 190, 3) := by decide +kernel
theorem dX10_passDigits_36 : decode cX10_passDigits 36 = .ok (.bipush 48, 2) := by decide +kernel
theorem dX10_passDigits_38 : decode cX10_passDigits 38 = .ok (.if_icmp .eq 38, 3) := by decide +kernel
theorem dX10_passDigits_41 : decode cX10_passDigits 41 = .ok (.iload_n 3, 1) := by decide +kernel
theorem dX10_passDigits_42 : decode cX10_passDigits 42 = .ok (.ifCond .eq 16, 3) := by decide +kernel
theorem dX10_passDigits_45 : decode cX10_passDigits 45 = .ok (.aload_n 0, 1) := by decide +kernel
theorem dX10_passDigits_46 : decode cX10_passDigits 46 = .ok (.invokevirtual 190, 3) := by decide +kernel
theorem dX10_passDigits_49 : decode cX10_passDigits 49 = .ok (.bipush 48, 2) := by decide +kernel
theorem dX10_passDigits_51 : decode cX10_passDigits 51 = .ok (.if_icmp .ne 7, 3) := by decide +kernel
theorem dX10_passDigits_54 : decode cX10_passDigits 54 = .ok (.iconst 1, 1) := by decide +kernel
theorem dX10_passDigits_55 : decode cX10_passDigits 55 = .ok (.goto 4, 3) := by decide +kernel
theorem dX10_passDigits_58 : decode cX10_passDigits 58 = .ok (.iconst 0, 1) := by decide +kernel
theorem dX10_passDigits_59 : decode cX10_passDigits 59 = .ok (.istore_n 3, 1) := by decide +kernel
theorem dX10_passDigits_60 : decode cX10_passDigits 60 = .ok (.aload_n 0, 1) := by decide +kernel
theorem dX10_passDigits_61 : decode cX10_passDigits 61 = .ok (.dup, 1) := by decide +kernel
theorem dX10_passDigits_62 : decode cX10_passDigits 62 = .ok (.getfield 184, 3) := by decide +kernel
theorem dX10_passDigits_65 : decode cX10_passDigits 65 = .ok (.iconst 1, 1) := by decide +kernel
theorem dX10_passDigits_66 : decode cX10_passDigits 66 = .ok (.iadd, 1) := by decide +kernel
theorem dX10_passDigits_67 : decode cX10_passDigits 67 = .ok (.putfield 184, 3) := by decide +kernel
theorem dX10_passDigits_70 : decode cX10_passDigits 70 = .ok (.iinc 2 1, 3) := by decide +kernel
theorem dX10_passDigits_73 : decode cX10_passDigits 73 = .ok (.goto (-69), 3) := by decide +kernel
theorem dX10_passDigits_76 : decode cX10_passDigits 76 = .ok (.iload_n 2, 1) := by decide +kernel
theorem dX10_passDigits_77 : decode cX10_passDigits 77 = .ok (.ifCond .le 15, 3) := by decide +kernel
theorem dX10_passDigits_80 : decode cX10_passDigits 80 = .ok (.iload_n 1, 1) := by decide +kernel
theorem dX10_passDigits_81 : decode cX10_passDigits 81 = .ok (.ifCond .eq 7, 3) := by decide +kernel
theorem dX10_passDigits_84 : decode cX10_passDigits 84 = .ok (.iload_n 3, 1) := by decide +kernel
theorem dX10_passDigits_85 : decode cX10_passDigits 85 = .ok (.ifCond .ne 7, 3) := by decide +kernel
theorem dX10_passDigits_88 : decode cX10_passDigits 88 = .ok (.iconst 1, 1) := by decide +kernel
theorem dX10_passDigits_89 : decode cX10_passDigits 89 = .ok (.goto 4, 3) := by decide +kernel
theorem dX10_passDigits_92 : decode cX10_passDigits 92 = .ok (.iconst 0, 1) := by decide +kernel
theorem dX10_passDigits_93 : decode cX10_passDigits 93 = .ok (.ireturn, 1) := by decide +kernel
theorem dX10_passAtom_0 : decode cX10_passAtom 0 = .ok (.aload_n 0, 1) := by decide +kernel
theorem dX10_passAtom_1 : decode cX10_passAtom 1 = .ok (.invokevirtual 190, 3) := by decide +kernel
theorem dX10_passAtom_4 : decode cX10_passAtom 4 = .ok (.istore_n 1, 1) := by decide +kernel
theorem dX10_passAtom_5 : decode cX10_passAtom 5 = .ok (.iload_n 1, 1) := by decide +kernel
theorem dX10_passAtom_6 : decode cX10_passAtom 6 = .ok (.invokestatic 193, 3) := by decide +kernel
theorem dX10_passAtom_9 : decode cX10_passAtom 9 = .ok (.ifCond .eq 40, 3) := by decide +kernel
theorem dX10_passAtom_12 : decode cX10_passAtom 12 = .ok (.aload_n 0, 1) := by decide +kernel
theorem dX10_passAtom_13 : decode cX10_passAtom 13 = .ok (.iconst 0, 1) := by decide +kernel
theorem dX10_passAtom_14 : decode cX10_passAtom 14 = .ok (.invokevirtual 196, 3) := by decide +kernel
theorem dX10_passAtom_17 : decode cX10_passAtom 17 = .ok (.ifCond .ne 5, 3) := by decide +kernel
theorem dX10_passAtom_20 : decode cX10_passAtom 20 = .ok (.iconst 0, 1) := by decide +kernel
theorem dX10_passAtom_21 : decode cX10_passAtom 21 = .ok (.ireturn, 1) := by decide +kernel
theorem dX10_passAtom_22 : decode cX10_passAtom 22 = .ok (.aload_n 0, 1) := by decide +kernel
theorem dX10_passAtom_23 : decode cX10_passAtom 23 = .ok (.invokevirtual 190, 3) := by decide +kernel
theorem dX10_passAtom_26 : decode cX10_passAtom 26 = .ok (.bipush 47, 2) := by decide +kernel
theorem dX10_passAtom_28 : decode cX10_passAtom 28 = .ok (.if_icmp .eq 5, 3) := by decide +kernel
theorem dX10_passAtom_31 : decode cX10_passAtom 31 = .ok (.iconst 1, 1) := by decide +kernel
theorem dX10_passAtom_32 : decode cX10_passAtom 32 = .ok (.ireturn, 1) := by decide +kernel
theorem dX10_passAtom_33 : decode cX10_passAtom 33 = .ok (.aload_n 0, 1) := by decide +kernel
theorem dX10_passAtom_34 : decode cX10_passAtom 34 = .ok (.dup, 1) := by decide +kernel
theorem dX10_passAtom_35 : decode cX10_passAtom 35 = .ok (.getfield 184, 3) := by decide +kernel
theorem dX10_passAtom_38 : decode cX10_passAtom 38 = .ok (.iconst 1, 1) := by decide +kernel
theorem dX10_passAtom_39 : decode cX10_passAtom 39 = .ok (.iadd, 1) := by decide +kernel
theorem dX10_passAtom_40 : decode cX10_passAtom 40 = .ok (.putfield 184, 3) := by decide +kernel
theorem dX10_passAtom_43 : decode cX10_passAtom 43 = .ok (.aload_n 0, 1) := by decide +kernel
theorem dX10_passAtom_44 : decode cX10_passAtom 44 = .ok (.iconst 1, 1) := by decide +kernel
theorem dX10_passAtom_45 : decode cX10_passAtom 45 = .ok (.invokevirtual 196, 3) := by decide +kernel
theorem dX10_passAtom_48 : decode cX10_passAtom 48 = .ok (.ireturn, 1) := by decide +kernel
theorem dX10_passAtom_49 : decode cX10_passAtom 49 = .ok (.iload_n 1, 1) := by decide +kernel
theorem dX10_passAtom_50 : decode cX10_passAtom 50 = .ok (.bipush 97, 2) := by decide +kernel
theorem dX10_passAtom_52 : decode cX10_passAtom 52 = .ok (.if_icmp .lt 9, 3) := by decide +kernel
theorem dX10_passAtom_55 : decode cX10_passAtom 55 = .ok (.iload_n 1, 1) := by decide +kernel
theorem dX10_passAtom_56 : decode cX10_passAtom 56 = .ok (.bipush 99, 2) := by decide +kernel
theorem dX10_passAtom_58 : decode cX10_passAtom 58 = .ok (.if_icmp .le 15, 3) := by decide +kernel
theorem dX10_passAtom_61 : decode cX10_passAtom 61 = .ok (.iload_n 1, 1) := by decide +kernel
theorem dX10_passAtom_62 : decode cX10_passAtom 62 = .ok (.bipush 65, 2) := by decide +kernel
theorem dX10_passAtom_64 : decode cX10_passAtom 64 = .ok (.if_icmp .lt 21, 3) := by decide +kernel
theorem dX10_passAtom_67 : decode cX10_passAtom 67 = .ok (.iload_n 1, 1) := by decide +kernel
theorem dX10_passAtom_68 : decode cX10_passAtom 68 = .ok (.bipush 72, 2) := by decide +kernel
theorem dX10_passAtom_70 : decode cX10_passAtom 70 = .ok (.if_icmp .gt 15, 3) := by decide +kernel
theorem dX10_passAtom_73 : decode cX10_passAtom 73 = .ok (.aload_n 0, 1) := by decide +kernel
theorem dX10_passAtom_74 : decode cX10_passAtom 74 = .ok (.dup, 1) := by decide +kernel
theorem dX10_passAtom_75 : decode cX10_passAtom 75 = .ok (.getfield 184, 3) := by decide +kernel
theorem dX10_passAtom_78 : decode cX10_passAtom 78 = .ok (.iconst 1, 1) := by decide +kernel
theorem dX10_passAtom_79 : decode cX10_passAtom 79 = .ok (.iadd, 1) := by decide +kernel
theorem dX10_passAtom_80 : decode cX10_passAtom 80 = .ok (.putfield 184, 3) := by decide +kernel
theorem dX10_passAtom_83 : decode cX10_passAtom 83 = .ok (.iconst 1, 1) := by decide +kernel
theorem dX10_passAtom_84 : decode cX10_passAtom 84 = .ok (.ireturn, 1) := by decide +kernel
theorem dX10_passAtom_85 : decode cX10_passAtom 85 = .ok (.iconst 0, 1) := by decide +kernel
theorem dX10_passAtom_86 : decode cX10_passAtom 86 = .ok (.ireturn, 1) := by decide +kernel
theorem dX10_isInGrammar_0 : decode cX10_isInGrammar 0 = .ok (.aload_n 0, 1) := by decide +kernel
theorem dX10_isInGrammar_1 : decode cX10_isInGrammar 1 = .ok (.iconst 0, 1) := by decide +kernel
theorem dX10_isInGrammar_2 : decode cX10_isInGrammar 2 = .ok (.putfield 184, 3) := by decide +kernel
theorem dX10_isInGrammar_5 : decode cX10_isInGrammar 5 = .ok (.iconst 0, 1) := by decide +kernel
theorem dX10_isInGrammar_6 : decode cX10_isInGrammar 6 = .ok (.istore_n 1, 1) := by decide +kernel
theorem dX10_isInGrammar_7 : decode cX10_isInGrammar 7 = .ok (.iconst 1, 1) := by decide +kernel
theorem dX10_isInGrammar_8 : decode cX10_isInGrammar 8 = .ok (.istore_n 2, 1) := by decide +kernel
theorem dX10_isInGrammar_9 : decode cX10_isInGrammar 9 = .ok (.iconst 0, 1) := by decide +kernel
theorem dX10_isInGrammar_10 : decode cX10_isInGrammar 10 = .ok (.istore_n 3, 1) := by decide +kernel
theorem dX10_isInGrammar_11 : decode cX10_isInGrammar 11 = .ok (.aload_n 0, 1) := by decide +kernel
theorem dX10_isInGrammar_12 : decode cX10_isInGrammar 12 = .ok (.getfield 184, 3) := by decide +kernel
theorem dX10_isInGrammar_15 : decode cX10_isInGrammar 15 = .ok (.aload_n 0, 1) := by decide +kernel
theorem dX10_isInGrammar_16 : decode cX10_isInGrammar 16 = .ok (.getfield 187, 3) := by decide +kernel
theorem dX10_isInGrammar_19 : decode cX10_isInGrammar 19 = .ok (.if_icmp .ge 198, 3) := by decide +kernel
theorem dX10_isInGrammar_22 : decode cX10_isInGrammar 22 = .ok (.aload_n 0, 1) := by decide +kernel
theorem dX10_isInGrammar_23 : decode cX10_isInGrammar 23 = .ok (.invokevirtual 190, 3) := by decide +kernel
theorem dX10_isInGrammar_26 : decode cX10_isInGrammar 26 = .ok (.istore 4, 2) := by decide +kernel
theorem dX10_isInGrammar_28 : decode cX10_isInGrammar 28 = .ok (.iload_n 2, 1) := by decide +kernel
theorem dX10_isInGrammar_29 : decode cX10_isInGrammar 29 = .ok (.ifCond .eq 23, 3) := by decide +kernel
theorem dX10_isInGrammar_32 : decode cX10_isInGrammar 32 = .ok (.iload 4, 2) := by decide +kernel
theorem dX10_isInGrammar_34 : decode cX10_isInGrammar 34 = .ok (.bipush 45, 2) := by decide +kernel
theorem dX10_isInGrammar_36 : decode cX10_isInGrammar 36 = .ok (.if_icmp .ne 16, 3) := by decide +kernel
theorem dX10_isInGrammar_39 : decode cX10_isInGrammar 39 = .ok (.aload_n 0, 1) := by decide +kernel
theorem dX10_isInGrammar_40 : decode cX10_isInGrammar 40 = .ok (.dup, 1) := by decide +kernel
theorem dX10_isInGrammar_41 : decode cX10_isInGrammar 41 = .ok (.getfield 184, 3) := by decide +kernel
theorem dX10_isInGrammar_44 : decode cX10_isInGrammar 44 = .ok (.iconst 1, 1) := by decide +kernel
theorem dX10_isInGrammar_45 : decode cX10_isInGrammar 45 = .ok (.iadd, 1) := by decide +kernel
theorem dX10_isInGrammar_46 : decode cX10_isInGrammar 46 = .ok (.putfield 184, 3) := by decide +kernel
theorem dX10_isInGrammar_49 : decode cX10_isInGrammar 49 = .ok (.goto 165, 3) := by decide +kernel
theorem dX10_isInGrammar_52 : decode cX10_isInGrammar 52 = .ok (.iload_n 2, 1) := by decide +kernel
theorem dX10_isInGrammar_53 : decode cX10_isInGrammar 53 = .ok (.ifCond .eq 26, 3) := by decide +kernel
theorem dX10_isInGrammar_56 : decode cX10_isInGrammar 56 = .ok (.iload 4, 2) := by decide +kernel
theorem dX10_isInGrammar_58 : decode cX10_isInGrammar 58 = .ok (.bipush 40, 2) := by decide +kernel
theorem dX10_isInGrammar_60 : decode cX10_isInGrammar 60 = .ok (.if_icmp .ne 19, 3) := by decide +kernel
theorem dX10_isInGrammar_63 : decode cX10_isInGrammar 63 = .ok (.iinc 1 1, 3) := by decide +kernel
theorem dX10_isInGrammar_66 : decode cX10_isInGrammar 66 = .ok (.aload_n 0, 1) := by decide +kernel
theorem dX10_isInGrammar_67 : decode cX10_isInGrammar 67 = .ok (.dup, 1) := by decide +kernel
theorem dX10_isInGrammar_68 : decode cX10_isInGrammar 68 = .ok (.getfield 184, 3) := by decide +kernel
theorem dX10_isInGrammar_71 : decode cX10_isInGrammar 71 = .ok (.iconst 1, 1) := by decide +kernel
theorem dX10_isInGrammar_72 : decode cX10_isInGrammar 72 = .ok (.iadd, 1) := by decide +kernel
theorem dX10_isInGrammar_73 : decode cX10_isInGrammar 73 = .ok (.putfield 184, 3) := by decide +kernel
theorem dX10_isInGrammar_76 : decode cX10_isInGrammar 76 = .ok (.goto 138, 3) := by decide +kernel
theorem dX10_isInGrammar_79 : decode cX10_isInGrammar 79 = .ok (.iload_n 2, 1) := by decide +kernel
theorem dX10_isInGrammar_80 : decode cX10_isInGrammar 80 = .ok (.ifCond .eq 19, 3) := by decide +kernel
theorem dX10_isInGrammar_83 : decode cX10_isInGrammar 83 = .ok (.aload_n 0, 1) := by decide +kernel
theorem dX10_isInGrammar_84 : decode cX10_isInGrammar 84 = .ok (.invokevirtual 200, 3) := by decide +kernel
theorem dX10_isInGrammar_87 : decode cX10_isInGrammar 87 = .ok (.ifCond .ne 5, 3) := by decide +kernel
theorem dX10_isInGrammar_90 : decode cX10_isInGrammar 90 = .ok (.iconst 0, 1) := by decide +kernel
theorem dX10_isInGrammar_91 : decode cX10_isInGrammar 91 = .ok (.ireturn, 1) := by decide +kernel
theorem dX10_isInGrammar_92 : decode cX10_isInGrammar 92 = .ok (.iconst 0, 1) := by decide +kernel
theorem dX10_isInGrammar_93 : decode cX10_isInGrammar 93 = .ok (.istore_n 2, 1) := by decide +kernel
theorem dX10_isInGrammar_94 : decode cX10_isInGrammar 94 = .ok (.iconst 1, 1) := by decide +kernel
theorem dX10_isInGrammar_95 : decode cX10_isInGrammar 95 = .ok (.istore_n 3, 1) := by decide +kernel
theorem dX10_isInGrammar_96 : decode cX10_isInGrammar 96 = .ok (.goto 118, 3) := by decide +kernel
theorem dX10_isInGrammar_99 : decode cX10_isInGrammar 99 = .ok (.iload 4, 2) := by decide +kernel
theorem dX10_isInGrammar_101 : decode cX10_isInGrammar 101 = .ok (.bipush 94, 2) := by decide +kernel
theorem dX10_isInGrammar_103 : decode cX10_isInGrammar 103 = .ok (.if_icmp .ne 44, 3) := by decide +kernel
theorem dX10_isInGrammar_106 : decode cX10_isInGrammar 106 = .ok (.iload_n 3, 1) := by decide +kernel
theorem dX10_isInGrammar_107 : decode cX10_isInGrammar 107 = .ok (.ifCond .eq 40, 3) := by decide +kernel
theorem dX10_isInGrammar_110 : decode cX10_isInGrammar 110 = .ok (.aload_n 0, 1) := by decide +kernel
theorem dX10_isInGrammar_111 : decode cX10_isInGrammar 111 = .ok (.dup, 1) := by decide +kernel
theorem dX10_isInGrammar_112 : decode cX10_isInGrammar 112 = .ok (.getfield 184, 3) := by decide +kernel
theorem dX10_isInGrammar_115 : decode cX10_isInGrammar 115 = .ok (.iconst 1, 1) := by decide +kernel
theorem dX10_isInGrammar_116 : decode cX10_isInGrammar 116 = .ok (.iadd, 1) := by decide +kernel
theorem dX10_isInGrammar_117 : decode cX10_isInGrammar 117 = .ok (.putfield 184, 3) := by decide +kernel
theorem dX10_isInGrammar_120 : decode cX10_isInGrammar 120 = .ok (.aload_n 0, 1) := by decide +kernel
theorem dX10_isInGrammar_121 : decode cX10_isInGrammar 121 = .ok (.invokevirtual 190, 3) := by decide +kernel
theorem dX10_isInGrammar_124 : decode cX10_isInGrammar 124 = .ok (.invokestatic 193, 3) := by decide +kernel
theorem dX10_isInGrammar_127 : decode cX10_isInGrammar 127 = .ok (.ifCond .ne 5, 3) := by decide +kernel
theorem dX10_isInGrammar_130 : decode cX10_isInGrammar 130 = .ok (.iconst 0, 1) := by decide +kernel
theorem dX10_isInGrammar_131 : decode cX10_isInGrammar 131 = .ok (.ireturn, 1) := by decide +kernel
theorem dX10_isInGrammar_132 : decode cX10_isInGrammar 132 = .ok (.aload_n 0, 1) := by decide +kernel
theorem dX10_isInGrammar_133 : decode cX10_isInGrammar 133 = .ok (.dup, 1) := by decide +kernel
theorem dX10_isInGrammar_134 : decode cX10_isInGrammar 134 = .ok (.getfield 184, 3) := by decide +kernel
theorem dX10_isInGrammar_137 : decode cX10_isInGrammar 137 = .ok (.iconst 1, 1) := by decide +kernel
theorem dX10_isInGrammar_138 : decode cX10_isInGrammar 138 = .ok (.iadd, 1) := by decide +kernel
theorem dX10_isInGrammar_139 : decode cX10_isInGrammar 139 = .ok (.putfield 184, 3) := by decide +kernel
theorem dX10_isInGrammar_142 : decode cX10_isInGrammar 142 = .ok (.iconst 0, 1) := by decide +kernel
theorem dX10_isInGrammar_143 : decode cX10_isInGrammar 143 = .ok (.istore_n 3, 1) := by decide +kernel
theorem dX10_isInGrammar_144 : decode cX10_isInGrammar 144 = .ok (.goto 70, 3) := by decide +kernel
theorem dX10_isInGrammar_147 : decode cX10_isInGrammar 147 = .ok (.iload 4, 2) := by decide +kernel
theorem dX10_isInGrammar_149 : decode cX10_isInGrammar 149 = .ok (.bipush 41, 2) := by decide +kernel
theorem dX10_isInGrammar_151 : decode cX10_isInGrammar 151 = .ok (.if_icmp .ne 25, 3) := by decide +kernel
theorem dX10_isInGrammar_154 : decode cX10_isInGrammar 154 = .ok (.iload_n 1, 1) := by decide +kernel
theorem dX10_isInGrammar_155 : decode cX10_isInGrammar 155 = .ok (.ifCond .le 21, 3) := by decide +kernel
theorem dX10_isInGrammar_158 : decode cX10_isInGrammar 158 = .ok (.iinc 1 (-1), 3) := by decide +kernel
theorem dX10_isInGrammar_161 : decode cX10_isInGrammar 161 = .ok (.aload_n 0, 1) := by decide +kernel
theorem dX10_isInGrammar_162 : decode cX10_isInGrammar 162 = .ok (.dup, 1) := by decide +kernel
theorem dX10_isInGrammar_163 : decode cX10_isInGrammar 163 = .ok (.getfield 184, 3) := by decide +kernel
theorem dX10_isInGrammar_166 : decode cX10_isInGrammar 166 = .ok (.iconst 1, 1) := by decide +kernel
theorem dX10_isInGrammar_167 : decode cX10_isInGrammar 167 = .ok (.iadd, 1) := by decide +kernel
theorem dX10_isInGrammar_168 : decode cX10_isInGrammar 168 = .ok (.putfield 184, 3) := by decide +kernel
theorem dX10_isInGrammar_171 : decode cX10_isInGrammar 171 = .ok (.iconst 1, 1) := by decide +kernel
theorem dX10_isInGrammar_172 : decode cX10_isInGrammar 172 = .ok (.istore_n 3, 1) := by decide +kernel
theorem dX10_isInGrammar_173 : decode cX10_isInGrammar 173 = .ok (.goto 41, 3) := by decide +kernel
theorem dX10_isInGrammar_176 : decode cX10_isInGrammar 176 = .ok (.iload 4, 2) := by decide +kernel
theorem dX10_isInGrammar_178 : decode cX10_isInGrammar 178 = .ok (.bipush 42, 2) := by decide +kernel
theorem dX10_isInGrammar_180 : decode cX10_isInGrammar 180 = .ok (.if_icmp .eq 17, 3) := by decide +kernel
theorem dX10_isInGrammar_183 : decode cX10_isInGrammar 183 = .ok (.iload 4, 2) := by decide +kernel
theorem dX10_isInGrammar_185 : decode cX10_isInGrammar 185 = .ok (.bipush 43, 2) := by decide +kernel
theorem dX10_isInGrammar_187 : decode cX10_isInGrammar 187 = .ok (.if_icmp .eq 10, 3) := by decide +kernel
theorem dX10_isInGrammar_190 : decode cX10_isInGrammar 190 = .ok (.iload 4, 2) := by decide +kernel
theorem dX10_isInGrammar_192 : decode cX10_isInGrammar 192 = .ok (.bipush 45, 2) := by decide +kernel
theorem dX10_isInGrammar_194 : decode cX10_isInGrammar 194 = .ok (.if_icmp .ne 18, 3) := by decide +kernel
theorem dX10_isInGrammar_197 : decode cX10_isInGrammar 197 = .ok (.iconst 1, 1) := by decide +kernel
theorem dX10_isInGrammar_198 : decode cX10_isInGrammar 198 = .ok (.istore_n 2, 1) := by decide +kernel
theorem dX10_isInGrammar_199 : decode cX10_isInGrammar 199 = .ok (.aload_n 0, 1) := by decide +kernel
theorem dX10_isInGrammar_200 : decode cX10_isInGrammar 200 = .ok (.dup, 1) := by decide +kernel
theorem dX10_isInGrammar_201 : decode cX10_isInGrammar 201 = .ok (.getfield 184, 3) := by decide +kernel
theorem dX10_isInGrammar_204 : decode cX10_isInGrammar 204 = .ok (.iconst 1, 1) := by decide +kernel
theorem dX10_isInGrammar_205 : decode cX10_isInGrammar 205 = .ok (.iadd, 1) := by decide +kernel
theorem dX10_isInGrammar_206 : decode cX10_isInGrammar 206 = .ok (.putfield 184, 3) := by decide +kernel
theorem dX10_isInGrammar_209 : decode cX10_isInGrammar 209 = .ok (.goto 5, 3) := by decide +kernel
theorem dX10_isInGrammar_212 : decode cX10_isInGrammar 212 = .ok (.iconst 0, 1) := by decide +kernel
theorem dX10_isInGrammar_213 : decode cX10_isInGrammar 213 = .ok (.ireturn, 1) := by decide +kernel
theorem dX10_isInGrammar_214 : decode cX10_isInGrammar 214 = .ok (.goto (-203), 3) := by decide +kernel
theorem dX10_isInGrammar_217 : decode cX10_isInGrammar 217 = .ok (.iload_n 2, 1) := by decide +kernel
theorem dX10_isInGrammar_218 : decode cX10_isInGrammar 218 = .ok (.ifCond .ne 11, 3) := by decide +kernel
theorem dX10_isInGrammar_221 : decode cX10_isInGrammar 221 = .ok (.iload_n 1, 1) := by decide +kernel
theorem dX10_isInGrammar_222 : decode cX10_isInGrammar 222 = .ok (.ifCond .ne 7, 3) := by decide +kernel
theorem dX10_isInGrammar_225 : decode cX10_isInGrammar 225 = .ok (.iconst 1, 1) := by decide +kernel
theorem dX10_isInGrammar_226 : decode cX10_isInGrammar 226 = .ok (.goto 4, 3) := by decide +kernel
theorem dX10_isInGrammar_229 : decode cX10_isInGrammar 229 = .ok (.iconst 0, 1) := by decide +kernel
theorem dX10_isInGrammar_230 : decode cX10_isInGrammar 230 = .ok (.ireturn, 1) := by decide +kernel
theorem dX10_passNumber_0 : decode cX10_passNumber 0 = .ok (.iconst 0, 1) := by decide +kernel
theorem dX10_passNumber_1 : decode cX10_passNumber 1 = .ok (.istore_n 1, 1) := by decide +kernel
theorem dX10_passNumber_2 : decode cX10_passNumber 2 = .ok (.aload_n 0, 1) := by decide +kernel
theorem dX10_passNumber_3 : decode cX10_passNumber 3 = .ok (.invokevirtual 190, 3) := by decide +kernel
theorem dX10_passNumber_6 : decode cX10_passNumber 6 = .ok (.invokestatic 193, 3) := by decide +kernel
theorem dX10_passNumber_9 : decode cX10_passNumber 9 = .ok (.ifCond .eq 29, 3) := by decide +kernel
theorem dX10_passNumber_12 : decode cX10_passNumber 12 = .ok (.bipush 10, 2) := by decide +kernel
theorem dX10_passNumber_14 : decode cX10_passNumber 14 = .ok (.iload_n 1, 1) := by decide +kernel
theorem dX10_passNumber_15 : decode cX10_passNumber 15 = .ok (.imul, 1) := by decide +kernel
theorem dX10_passNumber_16 : decode cX10_passNumber 16 = .ok (.aload_n 0, 1) := by decide +kernel
theorem dX10_passNumber_17 : decode cX10_passNumber 17 = .ok (.invokevirtual 190, 3) := by decide +kernel
theorem dX10_passNumber_20 : decode cX10_passNumber 20 = .ok (.iadd, 1) := by decide +kernel
theorem dX10_passNumber_21 : decode cX10_passNumber 21 = .ok (.bipush 48, 2) := by decide +kernel
theorem dX10_passNumber_23 : decode cX10_passNumber 23 = .ok (.isub, 1) := by decide +kernel
theorem dX10_passNumber_24 : decode cX10_passNumber 24 = .ok (.istore_n 1, 1) := by decide +kernel
theorem dX10_passNumber_25 : decode cX10_passNumber 25 = .ok (.aload_n 0, 1) := by decide +kernel
theorem dX10_passNumber_26 : decode cX10_passNumber 26 = .ok (.dup, 1) := by decide +kernel
theorem dX10_passNumber_27 : decode cX10_passNumber 27 = .ok (.getfield 184, 3) := by decide +kernel
theorem dX10_passNumber_30 : decode cX10_passNumber 30 = .ok (.iconst 1, 1) := by decide +kernel
theorem dX10_passNumber_31 : decode cX10_passNumber 31 = .ok (.iadd, 1) := by decide +kernel
theorem dX10_passNumber_32 : decode cX10_passNumber 32 = .ok (.putfield 184, 3) := by decide +kernel
theorem dX10_passNumber_35 : decode cX10_passNumber 35 = .ok (.goto (-33), 3) := by decide +kernel
theorem dX10_passNumber_38 : decode cX10_passNumber 38 = .ok (.iload_n 1, 1) := by decide +kernel
theorem dX10_passNumber_39 : decode cX10_passNumber 39 = .ok (.ireturn, 1) := by decide +kernel
theorem dX10_makeAtom_0 : decode cX10_makeAtom 0 = .ok (.aload_n 0, 1) := by decide +kernel
theorem dX10_makeAtom_1 : decode cX10_makeAtom 1 = .ok (.invokevirtual 190, 3) := by decide +kernel
theorem dX10_makeAtom_4 : decode cX10_makeAtom 4 = .ok (.istore_n 1, 1) := by decide +kernel
theorem dX10_makeAtom_5 : decode cX10_makeAtom 5 = .ok (.iload_n 1, 1) := by decide +kernel
theorem dX10_makeAtom_6 : decode cX10_makeAtom 6 = .ok (.invokestatic 193, 3) := by decide +kernel
theorem dX10_makeAtom_9 : decode cX10_makeAtom 9 = .ok (.ifCond .eq 43, 3) := by decide +kernel
theorem dX10_makeAtom_12 : decode cX10_makeAtom 12 = .ok (.aload_n 0, 1) := by decide +kernel
theorem dX10_makeAtom_13 : decode cX10_makeAtom 13 = .ok (.invokevirtual 204, 3) := by decide +kernel
theorem dX10_makeAtom_16 : decode cX10_makeAtom 16 = .ok (.istore_n 2, 1) := by decide +kernel
theorem dX10_makeAtom_17 : decode cX10_makeAtom 17 = .ok (.iconst 1, 1) := by decide +kernel
theorem dX10_makeAtom_18 : decode cX10_makeAtom 18 = .ok (.istore_n 3, 1) := by decide +kernel
theorem dX10_makeAtom_19 : decode cX10_makeAtom 19 = .ok (.aload_n 0, 1) := by decide +kernel
theorem dX10_makeAtom_20 : decode cX10_makeAtom 20 = .ok (.invokevirtual 190, 3) := by decide +kernel
theorem dX10_makeAtom_23 : decode cX10_makeAtom 23 = .ok (.bipush 47, 2) := by decide +kernel
theorem dX10_makeAtom_25 : decode cX10_makeAtom 25 = .ok (.if_icmp .ne 18, 3) := by decide +kernel
theorem dX10_makeAtom_28 : decode cX10_makeAtom 28 = .ok (.aload_n 0, 1) := by decide +kernel
theorem dX10_makeAtom_29 : decode cX10_makeAtom 29 = .ok (.dup, 1) := by decide +kernel
theorem dX10_makeAtom_30 : decode cX10_makeAtom 30 = .ok (.getfield 184, 3) := by decide +kernel
theorem dX10_makeAtom_33 : decode cX10_makeAtom 33 = .ok (.iconst 1, 1) := by decide +kernel
theorem dX10_makeAtom_34 : decode cX10_makeAtom 34 = .ok (.iadd, 1) := by decide +kernel
theorem dX10_makeAtom_35 : decode cX10_makeAtom 35 = .ok (.putfield 184, 3) := by decide +kernel
theorem dX10_makeAtom_38 : decode cX10_makeAtom 38 = .ok (.aload_n 0, 1) := by decide +kernel
theorem dX10_makeAtom_39 : decode cX10_makeAtom 39 = .ok (.invokevirtual 204, 3) := by decide +kernel
theorem dX10_makeAtom_42 : decode cX10_makeAtom 42 = .ok (.istore_n 3, 1) := by decide +kernel
theorem dX10_makeAtom_43 : decode cX10_makeAtom 43 = .ok (.aload_n 0, 1) := by decide +kernel
theorem dX10_makeAtom_44 : decode cX10_makeAtom 44 = .ok (.iload_n 2, 1) := by decide +kernel
theorem dX10_makeAtom_45 : decode cX10_makeAtom 45 = .ok (.i2l, 1) := by decide +kernel
theorem dX10_makeAtom_46 : decode cX10_makeAtom 46 = .ok (.iload_n 3, 1) := by decide +kernel
theorem dX10_makeAtom_47 : decode cX10_makeAtom 47 = .ok (.i2l, 1) := by decide +kernel
theorem dX10_makeAtom_48 : decode cX10_makeAtom 48 = .ok (.invokevirtual 177, 3) := by decide +kernel
theorem dX10_makeAtom_51 : decode cX10_makeAtom 51 = .ok (.ireturn, 1) := by decide +kernel
theorem dX10_makeAtom_52 : decode cX10_makeAtom 52 = .ok (.aload_n 0, 1) := by decide +kernel
theorem dX10_makeAtom_53 : decode cX10_makeAtom 53 = .ok (.dup, 1) := by decide +kernel
theorem dX10_makeAtom_54 : decode cX10_makeAtom 54 = .ok (.getfield 184, 3) := by decide +kernel
theorem dX10_makeAtom_57 : decode cX10_makeAtom 57 = .ok (.iconst 1, 1) := by decide +kernel
theorem dX10_makeAtom_58 : decode cX10_makeAtom 58 = .ok (.iadd, 1) := by decide +kernel
theorem dX10_makeAtom_59 : decode cX10_makeAtom 59 = .ok (.putfield 184, 3) := by decide +kernel
theorem dX10_makeAtom_62 : decode cX10_makeAtom 62 = .ok (.iload_n 1, 1) := by decide +kernel
theorem dX10_makeAtom_63 : decode cX10_makeAtom 63 = .ok (.bipush 97, 2) := by decide +kernel
theorem dX10_makeAtom_65 : decode cX10_makeAtom 65 = .ok (.if_icmp .lt 14, 3) := by decide +kernel
theorem dX10_makeAtom_68 : decode cX10_makeAtom 68 = .ok (.aload_n 0, 1) := by decide +kernel
theorem dX10_makeAtom_69 : decode cX10_makeAtom 69 = .ok (.iload_n 1, 1) := by decide +kernel
theorem dX10_makeAtom_70 : decode cX10_makeAtom 70 = .ok (.bipush 97, 2) := by decide +kernel
theorem dX10_makeAtom_72 : decode cX10_makeAtom 72 = .ok (.isub, 1) := by decide +kernel
theorem dX10_makeAtom_73 : decode cX10_makeAtom 73 = .ok (.invokevirtual 207, 3) := by decide +kernel
theorem dX10_makeAtom_76 : decode cX10_makeAtom 76 = .ok (.goto 12, 3) := by decide +kernel
theorem dX10_makeAtom_79 : decode cX10_makeAtom 79 = .ok (.aload_n 0, 1) := by decide +kernel
theorem dX10_makeAtom_80 : decode cX10_makeAtom 80 = .ok (.getfield 47, 3) := by decide +kernel
theorem dX10_makeAtom_83 : decode cX10_makeAtom 83 = .ok (.iload_n 1, 1) := by decide +kernel
theorem dX10_makeAtom_84 : decode cX10_makeAtom 84 = .ok (.bipush 65, 2) := by decide +kernel
theorem dX10_makeAtom_86 : decode cX10_makeAtom 86 = .ok (.isub, 1) := by decide +kernel
theorem dX10_makeAtom_87 : decode cX10_makeAtom 87 = .ok (.iaload, 1) := by decide +kernel
theorem dX10_makeAtom_88 : decode cX10_makeAtom 88 = .ok (.ireturn, 1) := by decide +kernel
theorem dX10_top_0 : decode cX10_top 0 = .ok (.aload_n 0, 1) := by decide +kernel
theorem dX10_top_1 : decode cX10_top 1 = .ok (.getfield 210, 3) := by decide +kernel
theorem dX10_top_4 : decode cX10_top 4 = .ok (.ifCond .le 17, 3) := by decide +kernel
theorem dX10_top_7 : decode cX10_top 7 = .ok (.aload_n 0, 1) := by decide +kernel
theorem dX10_top_8 : decode cX10_top 8 = .ok (.getfield 59, 3) := by decide +kernel
theorem dX10_top_11 : decode cX10_top 11 = .ok (.aload_n 0, 1) := by decide +kernel
theorem dX10_top_12 : decode cX10_top 12 = .ok (.getfield 210, 3) := by decide +kernel
theorem dX10_top_15 : decode cX10_top 15 = .ok (.iconst 1, 1) := by decide +kernel
theorem dX10_top_16 : decode cX10_top 16 = .ok (.isub, 1) := by decide +kernel
theorem dX10_top_17 : decode cX10_top 17 = .ok (.iaload, 1) := by decide +kernel
theorem dX10_top_18 : decode cX10_top 18 = .ok (.goto 4, 3) := by decide +kernel
theorem dX10_top_21 : decode cX10_top 21 = .ok (.iconst 0, 1) := by decide +kernel
theorem dX10_top_22 : decode cX10_top 22 = .ok (.ireturn, 1) := by decide +kernel
theorem dX10_negative_0 : decode cX10_negative 0 = .ok (.aload_n 0, 1) := by decide +kernel
theorem dX10_negative_1 : decode cX10_negative 1 = .ok (.ldc2_w 213, 3) := by decide +kernel
theorem dX10_negative_4 : decode cX10_negative 4 = .ok (.lconst 1, 1) := by decide +kernel
theorem dX10_negative_5 : decode cX10_negative 5 = .ok (.invokevirtual 177, 3) := by decide +kernel
theorem dX10_negative_8 : decode cX10_negative 8 = .ok (.istore_n 2, 1) := by decide +kernel
theorem dX10_negative_9 : decode cX10_negative 9 = .ok (.aload_n 0, 1) := by decide +kernel
theorem dX10_negative_10 : decode cX10_negative 10 = .ok (.iload_n 2, 1) := by decide +kernel
theorem dX10_negative_11 : decode cX10_negative 11 = .ok (.iload_n 1, 1) := by decide +kernel
theorem dX10_negative_12 : decode cX10_negative 12 = .ok (.invokevirtual 215, 3) := by decide +kernel
theorem dX10_negative_15 : decode cX10_negative 15 = .ok (.ireturn, 1) := by decide +kernel
theorem dX10_make_0 : decode cX10_make 0 = .ok (.aload_n 0, 1) := by decide +kernel
theorem dX10_make_1 : decode cX10_make 1 = .ok (.iconst 0, 1) := by decide +kernel
theorem dX10_make_2 : decode cX10_make 2 = .ok (.putfield 184, 3) := by decide +kernel
theorem dX10_make_5 : decode cX10_make 5 = .ok (.aload_n 0, 1) := by decide +kernel
theorem dX10_make_6 : decode cX10_make 6 = .ok (.iconst 0, 1) := by decide +kernel
theorem dX10_make_7 : decode cX10_make 7 = .ok (.putfield 227, 3) := by decide +kernel
theorem dX10_make_10 : decode cX10_make 10 = .ok (.aload_n 0, 1) := by decide +kernel
theorem dX10_make_11 : decode cX10_make 11 = .ok (.iconst 0, 1) := by decide +kernel
theorem dX10_make_12 : decode cX10_make 12 = .ok (.putfield 210, 3) := by decide +kernel
theorem dX10_make_15 : decode cX10_make 15 = .ok (.iconst 1, 1) := by decide +kernel
theorem dX10_make_16 : decode cX10_make 16 = .ok (.istore_n 1, 1) := by decide +kernel
theorem dX10_make_17 : decode cX10_make 17 = .ok (.aload_n 0, 1) := by decide +kernel
theorem dX10_make_18 : decode cX10_make 18 = .ok (.getfield 184, 3) := by decide +kernel
theorem dX10_make_21 : decode cX10_make 21 = .ok (.aload_n 0, 1) := by decide +kernel
theorem dX10_make_22 : decode cX10_make 22 = .ok (.getfield 187, 3) := by decide +kernel
theorem dX10_make_25 : decode cX10_make 25 = .ok (.if_icmp .ge 232, 3) := by decide +kernel
theorem dX10_make_28 : decode cX10_make 28 = .ok (.aload_n 0, 1) := by decide +kernel
theorem dX10_make_29 : decode cX10_make 29 = .ok (.getfield 146, 3) := by decide +kernel
theorem dX10_make_32 : decode cX10_make 32 = .ok (.ifCond .ne 225, 3) := by decide +kernel
theorem dX10_make_35 : decode cX10_make 35 = .ok (.aload_n 0, 1) := by decide +kernel
theorem dX10_make_36 : decode cX10_make 36 = .ok (.invokevirtual 190, 3) := by decide +kernel
theorem dX10_make_39 : decode cX10_make 39 = .ok (.istore_n 2, 1) := by decide +kernel
theorem dX10_make_40 : decode cX10_make 40 = .ok (.iload_n 1, 1) := by decide +kernel
theorem dX10_make_41 : decode cX10_make 41 = .ok (.ifCond .eq 60, 3) := by decide +kernel
theorem dX10_make_44 : decode cX10_make 44 = .ok (.iload_n 2, 1) := by decide +kernel
theorem dX10_make_45 : decode cX10_make 45 = .ok (.bipush 45, 2) := by decide +kernel
theorem dX10_make_47 : decode cX10_make 47 = .ok (.if_icmp .eq 9, 3) := by decide +kernel
theorem dX10_make_50 : decode cX10_make 50 = .ok (.iload_n 2, 1) := by decide +kernel
theorem dX10_make_51 : decode cX10_make 51 = .ok (.bipush 40, 2) := by decide +kernel
theorem dX10_make_53 : decode cX10_make 53 = .ok (.if_icmp .ne 48, 3) := by decide +kernel
theorem dX10_make_56 : decode cX10_make 56 = .ok (.aload_n 0, 1) := by decide +kernel
theorem dX10_make_57 : decode cX10_make 57 = .ok (.getfield 59, 3) := by decide +kernel
theorem dX10_make_60 : decode cX10_make 60 = .ok (.aload_n 0, 1) := by decide +kernel
theorem dX10_make_61 : decode cX10_make 61 = .ok (.getfield 210, 3) := by decide +kernel
theorem dX10_make_64 : decode cX10_make 64 = .ok (.iload_n 2, 1) := by decide +kernel
theorem dX10_make_65 : decode cX10_make 65 = .ok (.bipush 45, 2) := by decide +kernel
theorem dX10_make_67 : decode cX10_make 67 = .ok (.if_icmp .ne 8, 3) := by decide +kernel
theorem dX10_make_70 : decode cX10_make 70 = .ok (.bipush 110, 2) := by decide +kernel
theorem dX10_make_72 : decode cX10_make 72 = .ok (.goto 5, 3) := by decide +kernel
theorem dX10_make_75 : decode cX10_make 75 = .ok (.bipush 40, 2) := by decide +kernel
theorem dX10_make_77 : decode cX10_make 77 = .ok (.iastore, 1) := by decide +kernel
theorem dX10_make_78 : decode cX10_make 78 = .ok (.aload_n 0, 1) := by decide +kernel
theorem dX10_make_79 : decode cX10_make 79 = .ok (.dup, 1) := by decide +kernel
theorem dX10_make_80 : decode cX10_make 80 = .ok (.getfield 210, 3) := by decide +kernel
theorem dX10_make_83 : decode cX10_make 83 = .ok (.iconst 1, 1) := by decide +kernel
theorem dX10_make_84 : decode cX10_make 84 = .ok (.iadd, 1) := by decide +kernel
theorem dX10_make_85 : decode cX10_make 85 = .ok (.putfield 210, 3) := by decide +kernel
theorem dX10_make_88 : decode cX10_make 88 = .ok (.aload_n 0, 1) := by decide +kernel
theorem dX10_make_89 : decode cX10_make 89 = .ok (.dup, 1) := by decide +kernel
theorem dX10_make_90 : decode cX10_make 90 = .ok (.getfield 184, 3) := by decide +kernel
theorem dX10_make_93 : decode cX10_make 93 = .ok (.iconst 1, 1) := by decide +kernel
theorem dX10_make_94 : decode cX10_make 94 = .ok (.iadd, 1) := by decide +kernel
theorem dX10_make_95 : decode cX10_make 95 = .ok (.putfield 184, 3) := by decide +kernel
theorem dX10_make_98 : decode cX10_make 98 = .ok (.goto 156, 3) := by decide +kernel
theorem dX10_make_101 : decode cX10_make 101 = .ok (.iload_n 1, 1) := by decide +kernel
theorem dX10_make_102 : decode cX10_make 102 = .ok (.ifCond .eq 25, 3) := by decide +kernel
theorem dX10_make_105 : decode cX10_make 105 = .ok (.aload_n 0, 1) := by decide +kernel
theorem dX10_make_106 : decode cX10_make 106 = .ok (.invokevirtual 233, 3) := by decide +kernel
theorem dX10_make_109 : decode cX10_make 109 = .ok (.istore_n 3, 1) := by decide +kernel
theorem dX10_make_110 : decode cX10_make 110 = .ok (.aload_n 0, 1) := by decide +kernel
theorem dX10_make_111 : decode cX10_make 111 = .ok (.getfield 146, 3) := by decide +kernel
theorem dX10_make_114 : decode cX10_make 114 = .ok (.ifCond .ne 8, 3) := by decide +kernel
theorem dX10_make_117 : decode cX10_make 117 = .ok (.aload_n 0, 1) := by decide +kernel
theorem dX10_make_118 : decode cX10_make 118 = .ok (.iload_n 3, 1) := by decide +kernel
theorem dX10_make_119 : decode cX10_make 119 = .ok (.invokevirtual 236, 3) := by decide +kernel
theorem dX10_make_122 : decode cX10_make 122 = .ok (.iconst 0, 1) := by decide +kernel
theorem dX10_make_123 : decode cX10_make 123 = .ok (.istore_n 1, 1) := by decide +kernel
theorem dX10_make_124 : decode cX10_make 124 = .ok (.goto 130, 3) := by decide +kernel
theorem dX10_make_127 : decode cX10_make 127 = .ok (.iload_n 2, 1) := by decide +kernel
theorem dX10_make_128 : decode cX10_make 128 = .ok (.bipush 42, 2) := by decide +kernel
theorem dX10_make_130 : decode cX10_make 130 = .ok (.if_icmp .ne 39, 3) := by decide +kernel
theorem dX10_make_133 : decode cX10_make 133 = .ok (.aload_n 0, 1) := by decide +kernel
theorem dX10_make_134 : decode cX10_make 134 = .ok (.getfield 59, 3) := by decide +kernel
theorem dX10_make_137 : decode cX10_make 137 = .ok (.aload_n 0, 1) := by decide +kernel
theorem dX10_make_138 : decode cX10_make 138 = .ok (.getfield 210, 3) := by decide +kernel
theorem dX10_make_141 : decode cX10_make 141 = .ok (.bipush 42, 2) := by decide +kernel
theorem dX10_make_143 : decode cX10_make 143 = .ok (.iastore, 1) := by decide +kernel
theorem dX10_make_144 : decode cX10_make 144 = .ok (.aload_n 0, 1) := by decide +kernel
theorem dX10_make_145 : decode cX10_make 145 = .ok (.dup, 1) := by decide +kernel
theorem dX10_make_146 : decode cX10_make 146 = .ok (.getfield 210, 3) := by decide +kernel
theorem dX10_make_149 : decode cX10_make 149 = .ok (.iconst 1, 1) := by decide +kernel
theorem dX10_make_150 : decode cX10_make 150 = .ok (.iadd, 1) := by decide +kernel
theorem dX10_make_151 : decode cX10_make 151 = .ok (.putfield 210, 3) := by decide +kernel
theorem dX10_make_154 : decode cX10_make 154 = .ok (.aload_n 0, 1) := by decide +kernel
theorem dX10_make_155 : decode cX10_make 155 = .ok (.dup, 1) := by decide +kernel
theorem dX10_make_156 : decode cX10_make 156 = .ok (.getfield 184, 3) := by decide +kernel
theorem dX10_make_159 : decode cX10_make 159 = .ok (.iconst 1, 1) := by decide +kernel
theorem dX10_make_160 : decode cX10_make 160 = .ok (.iadd, 1) := by decide +kernel
theorem dX10_make_161 : decode cX10_make 161 = .ok (.putfield 184, 3) := by decide +kernel
theorem dX10_make_164 : decode cX10_make 164 = .ok (.iconst 1, 1) := by decide +kernel
theorem dX10_make_165 : decode cX10_make 165 = .ok (.istore_n 1, 1) := by decide +kernel
theorem dX10_make_166 : decode cX10_make 166 = .ok (.goto 88, 3) := by decide +kernel
theorem dX10_make_169 : decode cX10_make 169 = .ok (.aload_n 0, 1) := by decide +kernel
theorem dX10_make_170 : decode cX10_make 170 = .ok (.invokevirtual 239, 3) := by decide +kernel
theorem dX10_make_173 : decode cX10_make 173 = .ok (.aload_n 0, 1) := by decide +kernel
theorem dX10_make_174 : decode cX10_make 174 = .ok (.dup, 1) := by decide +kernel
theorem dX10_make_175 : decode cX10_make 175 = .ok (.getfield 184, 3) := by decide +kernel
theorem dX10_make_178 : decode cX10_make 178 = .ok (.iconst 1, 1) := by decide +kernel
theorem dX10_make_179 : decode cX10_make 179 = .ok (.iadd, 1) := by decide +kernel
theorem dX10_make_180 : decode cX10_make 180 = .ok (.putfield 184, 3) := by decide +kernel
theorem dX10_make_183 : decode cX10_make 183 = .ok (.iload_n 2, 1) := by decide +kernel
theorem dX10_make_184 : decode cX10_make 184 = .ok (.bipush 41, 2) := by decide +kernel
theorem dX10_make_186 : decode cX10_make 186 = .ok (.if_icmp .ne 46, 3) := by decide +kernel
theorem dX10_make_189 : decode cX10_make 189 = .ok (.aload_n 0, 1) := by decide +kernel
theorem dX10_make_190 : decode cX10_make 190 = .ok (.dup, 1) := by decide +kernel
theorem dX10_make_191 : decode cX10_make 191 = .ok (.getfield 210, 3) := by decide +kernel
theorem dX10_make_194 : decode cX10_make 194 = .ok (.iconst 1, 1) := by decide +kernel
theorem dX10_make_195 : decode cX10_make 195 = .ok (.isub, 1) := by decide +kernel
theorem dX10_make_196 : decode cX10_make 196 = .ok (.putfield 210, 3) := by decide +kernel
theorem dX10_make_199 : decode cX10_make 199 = .ok (.aload_n 0, 1) := by decide +kernel
theorem dX10_make_200 : decode cX10_make 200 = .ok (.dup, 1) := by decide +kernel
theorem dX10_make_201 : decode cX10_make 201 = .ok (.getfield 227, 3) := by decide +kernel
theorem dX10_make_204 : decode cX10_make 204 = .ok (.iconst 1, 1) := by decide +kernel
theorem dX10_make_205 : decode cX10_make 205 = .ok (.isub, 1) := by decide +kernel
theorem dX10_make_206 : decode cX10_make 206 = .ok (.putfield 227, 3) := by decide +kernel
theorem dX10_make_209 : decode cX10_make 209 = .ok (.aload_n 0, 1) := by decide +kernel
theorem dX10_make_210 : decode cX10_make 210 = .ok (.getfield 146, 3) := by decide +kernel
theorem dX10_make_213 : decode cX10_make 213 = .ok (.ifCond .ne 41, 3) := by decide +kernel
theorem dX10_make_216 : decode cX10_make 216 = .ok (.aload_n 0, 1) := by decide +kernel
theorem dX10_make_217 : decode cX10_make 217 = .ok (.aload_n 0, 1) := by decide +kernel
theorem dX10_make_218 : decode cX10_make 218 = .ok (.getfield 56, 3) := by decide +kernel
theorem dX10_make_221 : decode cX10_make 221 = .ok (.aload_n 0, 1) := by decide +kernel
theorem dX10_make_222 : decode cX10_make 222 = .ok (.getfield 227, 3) := by decide +kernel
theorem dX10_make_225 : decode cX10_make 225 = .ok (.iaload, 1) := by decide +kernel
theorem dX10_make_226 : decode cX10_make 226 = .ok (.invokevirtual 236, 3) := by decide +kernel
theorem dX10_make_229 : decode cX10_make 229 = .ok (.goto 25, 3) := by decide +kernel
theorem dX10_make_232 : decode cX10_make 232 = .ok (.aload_n 0, 1) := by decide +kernel
theorem dX10_make_233 : decode cX10_make 233 = .ok (.getfield 59, 3) := by decide +kernel
theorem dX10_make_236 : decode cX10_make 236 = .ok (.aload_n 0, 1) := by decide +kernel
theorem dX10_make_237 : decode cX10_make 237 = .ok (.getfield 210, 3) := by decide +kernel
theorem dX10_make_240 : decode cX10_make 240 = .ok (.iload_n 2, 1) := by decide +kernel
theorem dX10_make_241 : decode cX10_make 241 = .ok (.iastore, 1) := by decide +kernel
theorem dX10_make_242 : decode cX10_make 242 = .ok (.aload_n 0, 1) := by decide +kernel
theorem dX10_make_243 : decode cX10_make 243 = .ok (.dup, 1) := by decide +kernel
theorem dX10_make_244 : decode cX10_make 244 = .ok (.getfield 210, 3) := by decide +kernel
theorem dX10_make_247 : decode cX10_make 247 = .ok (.iconst 1, 1) := by decide +kernel
theorem dX10_make_248 : decode cX10_make 248 = .ok (.iadd, 1) := by decide +kernel
theorem dX10_make_249 : decode cX10_make 249 = .ok (.putfield 210, 3) := by decide +kernel
theorem dX10_make_252 : decode cX10_make 252 = .ok (.iconst 1, 1) := by decide +kernel
theorem dX10_make_253 : decode cX10_make 253 = .ok (.istore_n 1, 1) := by decide +kernel
theorem dX10_make_254 : decode cX10_make 254 = .ok (.goto (-237), 3) := by decide +kernel
theorem dX10_make_257 : decode cX10_make 257 = .ok (.aload_n 0, 1) := by decide +kernel
theorem dX10_make_258 : decode cX10_make 258 = .ok (.getfield 146, 3) := by decide +kernel
theorem dX10_make_261 : decode cX10_make 261 = .ok (.ifCond .ne 7, 3) := by decide +kernel
theorem dX10_make_264 : decode cX10_make 264 = .ok (.aload_n 0, 1) := by decide +kernel
theorem dX10_make_265 : decode cX10_make 265 = .ok (.invokevirtual 239, 3) := by decide +kernel
theorem dX10_make_268 : decode cX10_make 268 = .ok (.aload_n 0, 1) := by decide +kernel
theorem dX10_make_269 : decode cX10_make 269 = .ok (.getfield 146, 3) := by decide +kernel
theorem dX10_make_272 : decode cX10_make 272 = .ok (.ifCond .ge 10, 3) := by decide +kernel
theorem dX10_make_275 : decode cX10_make 275 = .ok (.aload_n 0, 1) := by decide +kernel
theorem dX10_make_276 : decode cX10_make 276 = .ok (.getfield 146, 3) := by decide +kernel
theorem dX10_make_279 : decode cX10_make 279 = .ok (.goto 9, 3) := by decide +kernel
theorem dX10_make_282 : decode cX10_make 282 = .ok (.aload_n 0, 1) := by decide +kernel
theorem dX10_make_283 : decode cX10_make 283 = .ok (.getfield 56, 3) := by decide +kernel
theorem dX10_make_286 : decode cX10_make 286 = .ok (.iconst 0, 1) := by decide +kernel
theorem dX10_make_287 : decode cX10_make 287 = .ok (.iaload, 1) := by decide +kernel
theorem dX10_make_288 : decode cX10_make 288 = .ok (.ireturn, 1) := by decide +kernel
theorem dX10_type_0 : decode cX10_type 0 = .ok (.iload_n 3, 1) := by decide +kernel
theorem dX10_type_1 : decode cX10_type 1 = .ok (.iconst 1, 1) := by decide +kernel
theorem dX10_type_2 : decode cX10_type 2 = .ok (.if_icmp .lt 13, 3) := by decide +kernel
theorem dX10_type_5 : decode cX10_type 5 = .ok (.iload_n 3, 1) := by decide +kernel
theorem dX10_type_6 : decode cX10_type 6 = .ok (.bipush 8, 2) := by decide +kernel
theorem dX10_type_8 : decode cX10_type 8 = .ok (.if_icmp .gt 7, 3) := by decide +kernel
theorem dX10_type_11 : decode cX10_type 11 = .ok (.iconst 1, 1) := by decide +kernel
theorem dX10_type_12 : decode cX10_type 12 = .ok (.goto 4, 3) := by decide +kernel
theorem dX10_type_15 : decode cX10_type 15 = .ok (.iconst 0, 1) := by decide +kernel
theorem dX10_type_16 : decode cX10_type 16 = .ok (.istore 4, 2) := by decide +kernel
theorem dX10_type_18 : decode cX10_type 18 = .ok (.iconst 0, 1) := by decide +kernel
theorem dX10_type_19 : decode cX10_type 19 = .ok (.istore 5, 2) := by decide +kernel
theorem dX10_type_21 : decode cX10_type 21 = .ok (.iload 5, 2) := by decide +kernel
theorem dX10_type_23 : decode cX10_type 23 = .ok (.iload_n 3, 1) := by decide +kernel
theorem dX10_type_24 : decode cX10_type 24 = .ok (.if_icmp .ge 52, 3) := by decide +kernel
theorem dX10_type_27 : decode cX10_type 27 = .ok (.iload 4, 2) := by decide +kernel
theorem dX10_type_29 : decode cX10_type 29 = .ok (.ifCond .eq 47, 3) := by decide +kernel
theorem dX10_type_32 : decode cX10_type 32 = .ok (.lload_n 1, 1) := by decide +kernel
theorem dX10_type_33 : decode cX10_type 33 = .ok (.bipush 8, 2) := by decide +kernel
theorem dX10_type_35 : decode cX10_type 35 = .ok (.iload 5, 2) := by decide +kernel
theorem dX10_type_37 : decode cX10_type 37 = .ok (.imul, 1) := by decide +kernel
theorem dX10_type_38 : decode cX10_type 38 = .ok (.lshr, 1) := by decide +kernel
theorem dX10_type_39 : decode cX10_type 39 = .ok (.ldc2_w 242, 3) := by decide +kernel
theorem dX10_type_42 : decode cX10_type 42 = .ok (.land, 1) := by decide +kernel
theorem dX10_type_43 : decode cX10_type 43 = .ok (.lstore 6, 2) := by decide +kernel
theorem dX10_type_45 : decode cX10_type 45 = .ok (.lload 6, 2) := by decide +kernel
theorem dX10_type_47 : decode cX10_type 47 = .ok (.ldc2_w 244, 3) := by decide +kernel
theorem dX10_type_50 : decode cX10_type 50 = .ok (.lcmp, 1) := by decide +kernel
theorem dX10_type_51 : decode cX10_type 51 = .ok (.ifCond .lt 16, 3) := by decide +kernel
theorem dX10_type_54 : decode cX10_type 54 = .ok (.lload 6, 2) := by decide +kernel
theorem dX10_type_56 : decode cX10_type 56 = .ok (.ldc2_w 246, 3) := by decide +kernel
theorem dX10_type_59 : decode cX10_type 59 = .ok (.lcmp, 1) := by decide +kernel
theorem dX10_type_60 : decode cX10_type 60 = .ok (.ifCond .gt 7, 3) := by decide +kernel
theorem dX10_type_63 : decode cX10_type 63 = .ok (.iconst 1, 1) := by decide +kernel
theorem dX10_type_64 : decode cX10_type 64 = .ok (.goto 4, 3) := by decide +kernel
theorem dX10_type_67 : decode cX10_type 67 = .ok (.iconst 0, 1) := by decide +kernel
theorem dX10_type_68 : decode cX10_type 68 = .ok (.istore 4, 2) := by decide +kernel
theorem dX10_type_70 : decode cX10_type 70 = .ok (.iinc 5 1, 3) := by decide +kernel
theorem dX10_type_73 : decode cX10_type 73 = .ok (.goto (-52), 3) := by decide +kernel
theorem dX10_type_76 : decode cX10_type 76 = .ok (.aload_n 0, 1) := by decide +kernel
theorem dX10_type_77 : decode cX10_type 77 = .ok (.iload 4, 2) := by decide +kernel
theorem dX10_type_79 : decode cX10_type 79 = .ok (.ifCond .ne 7, 3) := by decide +kernel
theorem dX10_type_82 : decode cX10_type 82 = .ok (.iconst 1, 1) := by decide +kernel
theorem dX10_type_83 : decode cX10_type 83 = .ok (.goto 19, 3) := by decide +kernel
theorem dX10_type_86 : decode cX10_type 86 = .ok (.aload_n 0, 1) := by decide +kernel
theorem dX10_type_87 : decode cX10_type 87 = .ok (.getfield 187, 3) := by decide +kernel
theorem dX10_type_90 : decode cX10_type 90 = .ok (.iload_n 3, 1) := by decide +kernel
theorem dX10_type_91 : decode cX10_type 91 = .ok (.iadd, 1) := by decide +kernel
theorem dX10_type_92 : decode cX10_type 92 = .ok (.bipush 64, 2) := by decide +kernel
theorem dX10_type_94 : decode cX10_type 94 = .ok (.if_icmp .le 7, 3) := by decide +kernel
theorem dX10_type_97 : decode cX10_type 97 = .ok (.iconst 2, 1) := by decide +kernel
theorem dX10_type_98 : decode cX10_type 98 = .ok (.goto 4, 3) := by decide +kernel
theorem dX10_type_101 : decode cX10_type 101 = .ok (.iconst 0, 1) := by decide +kernel
theorem dX10_type_102 : decode cX10_type 102 = .ok (.putfield 78, 3) := by decide +kernel
theorem dX10_type_105 : decode cX10_type 105 = .ok (.aload_n 0, 1) := by decide +kernel
theorem dX10_type_106 : decode cX10_type 106 = .ok (.getfield 78, 3) := by decide +kernel
theorem dX10_type_109 : decode cX10_type 109 = .ok (.ifCond .le 5, 3) := by decide +kernel
theorem dX10_type_112 : decode cX10_type 112 = .ok (.iconst 0, 1) := by decide +kernel
theorem dX10_type_113 : decode cX10_type 113 = .ok (.ireturn, 1) := by decide +kernel
theorem dX10_type_114 : decode cX10_type 114 = .ok (.iconst 0, 1) := by decide +kernel
theorem dX10_type_115 : decode cX10_type 115 = .ok (.istore 5, 2) := by decide +kernel
theorem dX10_type_117 : decode cX10_type 117 = .ok (.iload 5, 2) := by decide +kernel
theorem dX10_type_119 : decode cX10_type 119 = .ok (.iload_n 3, 1) := by decide +kernel
theorem dX10_type_120 : decode cX10_type 120 = .ok (.if_icmp .ge 40, 3) := by decide +kernel
theorem dX10_type_123 : decode cX10_type 123 = .ok (.aload_n 0, 1) := by decide +kernel
theorem dX10_type_124 : decode cX10_type 124 = .ok (.getfield 22, 3) := by decide +kernel
theorem dX10_type_127 : decode cX10_type 127 = .ok (.aload_n 0, 1) := by decide +kernel
theorem dX10_type_128 : decode cX10_type 128 = .ok (.getfield 187, 3) := by decide +kernel
theorem dX10_type_131 : decode cX10_type 131 = .ok (.lload_n 1, 1) := by decide +kernel
theorem dX10_type_132 : decode cX10_type 132 = .ok (.bipush 8, 2) := by decide +kernel
theorem dX10_type_134 : decode cX10_type 134 = .ok (.iload 5, 2) := by decide +kernel
theorem dX10_type_136 : decode cX10_type 136 = .ok (.imul, 1) := by decide +kernel
theorem dX10_type_137 : decode cX10_type 137 = .ok (.lshr, 1) := by decide +kernel
theorem dX10_type_138 : decode cX10_type 138 = .ok (.ldc2_w 242, 3) := by decide +kernel
theorem dX10_type_141 : decode cX10_type 141 = .ok (.land, 1) := by decide +kernel
theorem dX10_type_142 : decode cX10_type 142 = .ok (.l2i, 1) := by decide +kernel
theorem dX10_type_143 : decode cX10_type 143 = .ok (.iastore, 1) := by decide +kernel
theorem dX10_type_144 : decode cX10_type 144 = .ok (.aload_n 0, 1) := by decide +kernel
theorem dX10_type_145 : decode cX10_type 145 = .ok (.dup, 1) := by decide +kernel
theorem dX10_type_146 : decode cX10_type 146 = .ok (.getfield 187, 3) := by decide +kernel
theorem dX10_type_149 : decode cX10_type 149 = .ok (.iconst 1, 1) := by decide +kernel
theorem dX10_type_150 : decode cX10_type 150 = .ok (.iadd, 1) := by decide +kernel
theorem dX10_type_151 : decode cX10_type 151 = .ok (.putfield 187, 3) := by decide +kernel
theorem dX10_type_154 : decode cX10_type 154 = .ok (.iinc 5 1, 3) := by decide +kernel
theorem dX10_type_157 : decode cX10_type 157 = .ok (.goto (-40), 3) := by decide +kernel
theorem dX10_type_160 : decode cX10_type 160 = .ok (.aload_n 0, 1) := by decide +kernel
theorem dX10_type_161 : decode cX10_type 161 = .ok (.getfield 187, 3) := by decide +kernel
theorem dX10_type_164 : decode cX10_type 164 = .ok (.ireturn, 1) := by decide +kernel
theorem dX10_place_0 : decode cX10_place 0 = .ok (.aload_n 0, 1) := by decide +kernel
theorem dX10_place_1 : decode cX10_place 1 = .ok (.iconst 0, 1) := by decide +kernel
theorem dX10_place_2 : decode cX10_place 2 = .ok (.putfield 78, 3) := by decide +kernel
theorem dX10_place_5 : decode cX10_place 5 = .ok (.aload_n 0, 1) := by decide +kernel
theorem dX10_place_6 : decode cX10_place 6 = .ok (.getfield 25, 3) := by decide +kernel
theorem dX10_place_9 : decode cX10_place 9 = .ok (.ireturn, 1) := by decide +kernel
theorem dX10_noName_0 : decode cX10_noName 0 = .ok (.aload_n 0, 1) := by decide +kernel
theorem dX10_noName_1 : decode cX10_noName 1 = .ok (.iload_n 1, 1) := by decide +kernel
theorem dX10_noName_2 : decode cX10_noName 2 = .ok (.ifCond .lt 9, 3) := by decide +kernel
theorem dX10_noName_5 : decode cX10_noName 5 = .ok (.iload_n 1, 1) := by decide +kernel
theorem dX10_noName_6 : decode cX10_noName 6 = .ok (.bipush 7, 2) := by decide +kernel
theorem dX10_noName_8 : decode cX10_noName 8 = .ok (.if_icmp .le 7, 3) := by decide +kernel
theorem dX10_noName_11 : decode cX10_noName 11 = .ok (.iconst 1, 1) := by decide +kernel
theorem dX10_noName_12 : decode cX10_noName 12 = .ok (.goto 17, 3) := by decide +kernel
theorem dX10_noName_15 : decode cX10_noName 15 = .ok (.aload_n 0, 1) := by decide +kernel
theorem dX10_noName_16 : decode cX10_noName 16 = .ok (.getfield 47, 3) := by decide +kernel
theorem dX10_noName_19 : decode cX10_noName 19 = .ok (.iload_n 1, 1) := by decide +kernel
theorem dX10_noName_20 : decode cX10_noName 20 = .ok (.iaload, 1) := by decide +kernel
theorem dX10_noName_21 : decode cX10_noName 21 = .ok (.ifCond .ge 7, 3) := by decide +kernel
theorem dX10_noName_24 : decode cX10_noName 24 = .ok (.iconst 2, 1) := by decide +kernel
theorem dX10_noName_25 : decode cX10_noName 25 = .ok (.goto 4, 3) := by decide +kernel
theorem dX10_noName_28 : decode cX10_noName 28 = .ok (.iconst 0, 1) := by decide +kernel
theorem dX10_noName_29 : decode cX10_noName 29 = .ok (.putfield 78, 3) := by decide +kernel
theorem dX10_noName_32 : decode cX10_noName 32 = .ok (.aload_n 0, 1) := by decide +kernel
theorem dX10_noName_33 : decode cX10_noName 33 = .ok (.getfield 78, 3) := by decide +kernel
theorem dX10_noName_36 : decode cX10_noName 36 = .ok (.ifCond .le 7, 3) := by decide +kernel
theorem dX10_noName_39 : decode cX10_noName 39 = .ok (.iconst 1, 1) := by decide +kernel
theorem dX10_noName_40 : decode cX10_noName 40 = .ok (.goto 4, 3) := by decide +kernel
theorem dX10_noName_43 : decode cX10_noName 43 = .ok (.iconst 0, 1) := by decide +kernel
theorem dX10_noName_44 : decode cX10_noName 44 = .ok (.ireturn, 1) := by decide +kernel
theorem dX10_reach_0 : decode cX10_reach 0 = .ok (.iconst 0, 1) := by decide +kernel
theorem dX10_reach_1 : decode cX10_reach 1 = .ok (.istore_n 2, 1) := by decide +kernel
theorem dX10_reach_2 : decode cX10_reach 2 = .ok (.iload_n 2, 1) := by decide +kernel
theorem dX10_reach_3 : decode cX10_reach 3 = .ok (.sipush 200, 3) := by decide +kernel
theorem dX10_reach_6 : decode cX10_reach 6 = .ok (.if_icmp .ge 25, 3) := by decide +kernel
theorem dX10_reach_9 : decode cX10_reach 9 = .ok (.aload_n 0, 1) := by decide +kernel
theorem dX10_reach_10 : decode cX10_reach 10 = .ok (.getfield 50, 3) := by decide +kernel
theorem dX10_reach_13 : decode cX10_reach 13 = .ok (.iload_n 2, 1) := by decide +kernel
theorem dX10_reach_14 : decode cX10_reach 14 = .ok (.iload_n 2, 1) := by decide +kernel
theorem dX10_reach_15 : decode cX10_reach 15 = .ok (.iload_n 1, 1) := by decide +kernel
theorem dX10_reach_16 : decode cX10_reach 16 = .ok (.if_icmp .ne 7, 3) := by decide +kernel
theorem dX10_reach_19 : decode cX10_reach 19 = .ok (.iconst 1, 1) := by decide +kernel
theorem dX10_reach_20 : decode cX10_reach 20 = .ok (.goto 4, 3) := by decide +kernel
theorem dX10_reach_23 : decode cX10_reach 23 = .ok (.iconst 0, 1) := by decide +kernel
theorem dX10_reach_24 : decode cX10_reach 24 = .ok (.bastore, 1) := by decide +kernel
theorem dX10_reach_25 : decode cX10_reach 25 = .ok (.iinc 2 1, 3) := by decide +kernel
theorem dX10_reach_28 : decode cX10_reach 28 = .ok (.goto (-26), 3) := by decide +kernel
theorem dX10_reach_31 : decode cX10_reach 31 = .ok (.iload_n 1, 1) := by decide +kernel
theorem dX10_reach_32 : decode cX10_reach 32 = .ok (.istore_n 2, 1) := by decide +kernel
theorem dX10_reach_33 : decode cX10_reach 33 = .ok (.iload_n 2, 1) := by decide +kernel
theorem dX10_reach_34 : decode cX10_reach 34 = .ok (.ifCond .lt 62, 3) := by decide +kernel
theorem dX10_reach_37 : decode cX10_reach 37 = .ok (.aload_n 0, 1) := by decide +kernel
theorem dX10_reach_38 : decode cX10_reach 38 = .ok (.getfield 50, 3) := by decide +kernel
theorem dX10_reach_41 : decode cX10_reach 41 = .ok (.iload_n 2, 1) := by decide +kernel
theorem dX10_reach_42 : decode cX10_reach 42 = .ok (.baload, 1) := by decide +kernel
theorem dX10_reach_43 : decode cX10_reach 43 = .ok (.ifCond .eq 47, 3) := by decide +kernel
theorem dX10_reach_46 : decode cX10_reach 46 = .ok (.aload_n 0, 1) := by decide +kernel
theorem dX10_reach_47 : decode cX10_reach 47 = .ok (.getfield 29, 3) := by decide +kernel
theorem dX10_reach_50 : decode cX10_reach 50 = .ok (.iload_n 2, 1) := by decide +kernel
theorem dX10_reach_51 : decode cX10_reach 51 = .ok (.iaload, 1) := by decide +kernel
theorem dX10_reach_52 : decode cX10_reach 52 = .ok (.iconst 1, 1) := by decide +kernel
theorem dX10_reach_53 : decode cX10_reach 53 = .ok (.if_icmp .le 37, 3) := by decide +kernel
theorem dX10_reach_56 : decode cX10_reach 56 = .ok (.aload_n 0, 1) := by decide +kernel
theorem dX10_reach_57 : decode cX10_reach 57 = .ok (.getfield 50, 3) := by decide +kernel
theorem dX10_reach_60 : decode cX10_reach 60 = .ok (.aload_n 0, 1) := by decide +kernel
theorem dX10_reach_61 : decode cX10_reach 61 = .ok (.getfield 32, 3) := by decide +kernel
theorem dX10_reach_64 : decode cX10_reach 64 = .ok (.iload_n 2, 1) := by decide +kernel
theorem dX10_reach_65 : decode cX10_reach 65 = .ok (.iaload, 1) := by decide +kernel
theorem dX10_reach_66 : decode cX10_reach 66 = .ok (.iconst 1, 1) := by decide +kernel
theorem dX10_reach_67 : decode cX10_reach 67 = .ok (.bastore, 1) := by decide +kernel
theorem dX10_reach_68 : decode cX10_reach 68 = .ok (.aload_n 0, 1) := by decide +kernel
theorem dX10_reach_69 : decode cX10_reach 69 = .ok (.getfield 29, 3) := by decide +kernel
theorem dX10_reach_72 : decode cX10_reach 72 = .ok (.iload_n 2, 1) := by decide +kernel
theorem dX10_reach_73 : decode cX10_reach 73 = .ok (.iaload, 1) := by decide +kernel
theorem dX10_reach_74 : decode cX10_reach 74 = .ok (.iconst 4, 1) := by decide +kernel
theorem dX10_reach_75 : decode cX10_reach 75 = .ok (.if_icmp .eq 15, 3) := by decide +kernel
theorem dX10_reach_78 : decode cX10_reach 78 = .ok (.aload_n 0, 1) := by decide +kernel
theorem dX10_reach_79 : decode cX10_reach 79 = .ok (.getfield 50, 3) := by decide +kernel
theorem dX10_reach_82 : decode cX10_reach 82 = .ok (.aload_n 0, 1) := by decide +kernel
theorem dX10_reach_83 : decode cX10_reach 83 = .ok (.getfield 35, 3) := by decide +kernel
theorem dX10_reach_86 : decode cX10_reach 86 = .ok (.iload_n 2, 1) := by decide +kernel
theorem dX10_reach_87 : decode cX10_reach 87 = .ok (.iaload, 1) := by decide +kernel
theorem dX10_reach_88 : decode cX10_reach 88 = .ok (.iconst 1, 1) := by decide +kernel
theorem dX10_reach_89 : decode cX10_reach 89 = .ok (.bastore, 1) := by decide +kernel
theorem dX10_reach_90 : decode cX10_reach 90 = .ok (.iinc 2 (-1), 3) := by decide +kernel
theorem dX10_reach_93 : decode cX10_reach 93 = .ok (.goto (-60), 3) := by decide +kernel
theorem dX10_reach_96 : decode cX10_reach 96 = .ok (.return_, 1) := by decide +kernel
theorem dX10_made_0 : decode cX10_made 0 = .ok (.aload_n 0, 1) := by decide +kernel
theorem dX10_made_1 : decode cX10_made 1 = .ok (.iconst 0, 1) := by decide +kernel
theorem dX10_made_2 : decode cX10_made 2 = .ok (.putfield 78, 3) := by decide +kernel
theorem dX10_made_5 : decode cX10_made 5 = .ok (.aload_n 0, 1) := by decide +kernel
theorem dX10_made_6 : decode cX10_made 6 = .ok (.getfield 149, 3) := by decide +kernel
theorem dX10_made_9 : decode cX10_made 9 = .ok (.ireturn, 1) := by decide +kernel
theorem dX10_parts_0 : decode cX10_parts 0 = .ok (.aload_n 0, 1) := by decide +kernel
theorem dX10_parts_1 : decode cX10_parts 1 = .ok (.iload_n 1, 1) := by decide +kernel
theorem dX10_parts_2 : decode cX10_parts 2 = .ok (.invokevirtual 263, 3) := by decide +kernel
theorem dX10_parts_5 : decode cX10_parts 5 = .ok (.ifCond .eq 5, 3) := by decide +kernel
theorem dX10_parts_8 : decode cX10_parts 8 = .ok (.iconst 0, 1) := by decide +kernel
theorem dX10_parts_9 : decode cX10_parts 9 = .ok (.ireturn, 1) := by decide +kernel
theorem dX10_parts_10 : decode cX10_parts 10 = .ok (.aload_n 0, 1) := by decide +kernel
theorem dX10_parts_11 : decode cX10_parts 11 = .ok (.aload_n 0, 1) := by decide +kernel
theorem dX10_parts_12 : decode cX10_parts 12 = .ok (.getfield 47, 3) := by decide +kernel
theorem dX10_parts_15 : decode cX10_parts 15 = .ok (.iload_n 1, 1) := by decide +kernel
theorem dX10_parts_16 : decode cX10_parts 16 = .ok (.iaload, 1) := by decide +kernel
theorem dX10_parts_17 : decode cX10_parts 17 = .ok (.invokevirtual 257, 3) := by decide +kernel
theorem dX10_parts_20 : decode cX10_parts 20 = .ok (.iconst 0, 1) := by decide +kernel
theorem dX10_parts_21 : decode cX10_parts 21 = .ok (.istore_n 2, 1) := by decide +kernel
theorem dX10_parts_22 : decode cX10_parts 22 = .ok (.iconst 0, 1) := by decide +kernel
theorem dX10_parts_23 : decode cX10_parts 23 = .ok (.istore_n 3, 1) := by decide +kernel
theorem dX10_parts_24 : decode cX10_parts 24 = .ok (.iload_n 3, 1) := by decide +kernel
theorem dX10_parts_25 : decode cX10_parts 25 = .ok (.sipush 200, 3) := by decide +kernel
theorem dX10_parts_28 : decode cX10_parts 28 = .ok (.if_icmp .ge 26, 3) := by decide +kernel
theorem dX10_parts_31 : decode cX10_parts 31 = .ok (.aload_n 0, 1) := by decide +kernel
theorem dX10_parts_32 : decode cX10_parts 32 = .ok (.getfield 50, 3) := by decide +kernel
theorem dX10_parts_35 : decode cX10_parts 35 = .ok (.iload_n 3, 1) := by decide +kernel
theorem dX10_parts_36 : decode cX10_parts 36 = .ok (.baload, 1) := by decide +kernel
theorem dX10_parts_37 : decode cX10_parts 37 = .ok (.ifCond .eq 9, 3) := by decide +kernel
theorem dX10_parts_40 : decode cX10_parts 40 = .ok (.iload_n 2, 1) := by decide +kernel
theorem dX10_parts_41 : decode cX10_parts 41 = .ok (.iconst 1, 1) := by decide +kernel
theorem dX10_parts_42 : decode cX10_parts 42 = .ok (.iadd, 1) := by decide +kernel
theorem dX10_parts_43 : decode cX10_parts 43 = .ok (.goto 4, 3) := by decide +kernel
theorem dX10_parts_46 : decode cX10_parts 46 = .ok (.iload_n 2, 1) := by decide +kernel
theorem dX10_parts_47 : decode cX10_parts 47 = .ok (.istore_n 2, 1) := by decide +kernel
theorem dX10_parts_48 : decode cX10_parts 48 = .ok (.iinc 3 1, 3) := by decide +kernel
theorem dX10_parts_51 : decode cX10_parts 51 = .ok (.goto (-27), 3) := by decide +kernel
theorem dX10_parts_54 : decode cX10_parts 54 = .ok (.iload_n 2, 1) := by decide +kernel
theorem dX10_parts_55 : decode cX10_parts 55 = .ok (.ireturn, 1) := by decide +kernel
theorem dX10_part_0 : decode cX10_part 0 = .ok (.aload_n 0, 1) := by decide +kernel
theorem dX10_part_1 : decode cX10_part 1 = .ok (.iload_n 1, 1) := by decide +kernel
theorem dX10_part_2 : decode cX10_part 2 = .ok (.ifCond .lt 11, 3) := by decide +kernel
theorem dX10_part_5 : decode cX10_part 5 = .ok (.iload_n 1, 1) := by decide +kernel
theorem dX10_part_6 : decode cX10_part 6 = .ok (.aload_n 0, 1) := by decide +kernel
theorem dX10_part_7 : decode cX10_part 7 = .ok (.getfield 149, 3) := by decide +kernel
theorem dX10_part_10 : decode cX10_part 10 = .ok (.if_icmp .lt 7, 3) := by decide +kernel
theorem dX10_part_13 : decode cX10_part 13 = .ok (.iconst 1, 1) := by decide +kernel
theorem dX10_part_14 : decode cX10_part 14 = .ok (.goto 17, 3) := by decide +kernel
theorem dX10_part_17 : decode cX10_part 17 = .ok (.iload_n 2, 1) := by decide +kernel
theorem dX10_part_18 : decode cX10_part 18 = .ok (.ifCond .lt 8, 3) := by decide +kernel
theorem dX10_part_21 : decode cX10_part 21 = .ok (.iload_n 2, 1) := by decide +kernel
theorem dX10_part_22 : decode cX10_part 22 = .ok (.iconst 5, 1) := by decide +kernel
theorem dX10_part_23 : decode cX10_part 23 = .ok (.if_icmp .le 7, 3) := by decide +kernel
theorem dX10_part_26 : decode cX10_part 26 = .ok (.iconst 2, 1) := by decide +kernel
theorem dX10_part_27 : decode cX10_part 27 = .ok (.goto 4, 3) := by decide +kernel
theorem dX10_part_30 : decode cX10_part 30 = .ok (.iconst 0, 1) := by decide +kernel
theorem dX10_part_31 : decode cX10_part 31 = .ok (.putfield 78, 3) := by decide +kernel
theorem dX10_part_34 : decode cX10_part 34 = .ok (.aload_n 0, 1) := by decide +kernel
theorem dX10_part_35 : decode cX10_part 35 = .ok (.getfield 78, 3) := by decide +kernel
theorem dX10_part_38 : decode cX10_part 38 = .ok (.ifCond .le 5, 3) := by decide +kernel
theorem dX10_part_41 : decode cX10_part 41 = .ok (.iconst 0, 1) := by decide +kernel
theorem dX10_part_42 : decode cX10_part 42 = .ok (.ireturn, 1) := by decide +kernel
theorem dX10_part_43 : decode cX10_part 43 = .ok (.iload_n 2, 1) := by decide +kernel
theorem dX10_part_44 : decode cX10_part 44 = .ok (.ifCond .ne 12, 3) := by decide +kernel
theorem dX10_part_47 : decode cX10_part 47 = .ok (.aload_n 0, 1) := by decide +kernel
theorem dX10_part_48 : decode cX10_part 48 = .ok (.getfield 29, 3) := by decide +kernel
theorem dX10_part_51 : decode cX10_part 51 = .ok (.iload_n 1, 1) := by decide +kernel
theorem dX10_part_52 : decode cX10_part 52 = .ok (.iaload, 1) := by decide +kernel
theorem dX10_part_53 : decode cX10_part 53 = .ok (.goto 65, 3) := by decide +kernel
theorem dX10_part_56 : decode cX10_part 56 = .ok (.iload_n 2, 1) := by decide +kernel
theorem dX10_part_57 : decode cX10_part 57 = .ok (.iconst 1, 1) := by decide +kernel
theorem dX10_part_58 : decode cX10_part 58 = .ok (.if_icmp .ne 12, 3) := by decide +kernel
theorem dX10_part_61 : decode cX10_part 61 = .ok (.aload_n 0, 1) := by decide +kernel
theorem dX10_part_62 : decode cX10_part 62 = .ok (.getfield 32, 3) := by decide +kernel
theorem dX10_part_65 : decode cX10_part 65 = .ok (.iload_n 1, 1) := by decide +kernel
theorem dX10_part_66 : decode cX10_part 66 = .ok (.iaload, 1) := by decide +kernel
theorem dX10_part_67 : decode cX10_part 67 = .ok (.goto 51, 3) := by decide +kernel
theorem dX10_part_70 : decode cX10_part 70 = .ok (.iload_n 2, 1) := by decide +kernel
theorem dX10_part_71 : decode cX10_part 71 = .ok (.iconst 2, 1) := by decide +kernel
theorem dX10_part_72 : decode cX10_part 72 = .ok (.if_icmp .ne 12, 3) := by decide +kernel
theorem dX10_part_75 : decode cX10_part 75 = .ok (.aload_n 0, 1) := by decide +kernel
theorem dX10_part_76 : decode cX10_part 76 = .ok (.getfield 35, 3) := by decide +kernel
theorem dX10_part_79 : decode cX10_part 79 = .ok (.iload_n 1, 1) := by decide +kernel
theorem dX10_part_80 : decode cX10_part 80 = .ok (.iaload, 1) := by decide +kernel
theorem dX10_part_81 : decode cX10_part 81 = .ok (.goto 37, 3) := by decide +kernel
theorem dX10_part_84 : decode cX10_part 84 = .ok (.iload_n 2, 1) := by decide +kernel
theorem dX10_part_85 : decode cX10_part 85 = .ok (.iconst 3, 1) := by decide +kernel
theorem dX10_part_86 : decode cX10_part 86 = .ok (.if_icmp .ne 12, 3) := by decide +kernel
theorem dX10_part_89 : decode cX10_part 89 = .ok (.aload_n 0, 1) := by decide +kernel
theorem dX10_part_90 : decode cX10_part 90 = .ok (.getfield 38, 3) := by decide +kernel
theorem dX10_part_93 : decode cX10_part 93 = .ok (.iload_n 1, 1) := by decide +kernel
theorem dX10_part_94 : decode cX10_part 94 = .ok (.iaload, 1) := by decide +kernel
theorem dX10_part_95 : decode cX10_part 95 = .ok (.goto 23, 3) := by decide +kernel
theorem dX10_part_98 : decode cX10_part 98 = .ok (.iload_n 2, 1) := by decide +kernel
theorem dX10_part_99 : decode cX10_part 99 = .ok (.iconst 4, 1) := by decide +kernel
theorem dX10_part_100 : decode cX10_part 100 = .ok (.if_icmp .ne 12, 3) := by decide +kernel
theorem dX10_part_103 : decode cX10_part 103 = .ok (.aload_n 0, 1) := by decide +kernel
theorem dX10_part_104 : decode cX10_part 104 = .ok (.getfield 41, 3) := by decide +kernel
theorem dX10_part_107 : decode cX10_part 107 = .ok (.iload_n 1, 1) := by decide +kernel
theorem dX10_part_108 : decode cX10_part 108 = .ok (.iaload, 1) := by decide +kernel
theorem dX10_part_109 : decode cX10_part 109 = .ok (.goto 9, 3) := by decide +kernel
theorem dX10_part_112 : decode cX10_part 112 = .ok (.aload_n 0, 1) := by decide +kernel
theorem dX10_part_113 : decode cX10_part 113 = .ok (.getfield 44, 3) := by decide +kernel
theorem dX10_part_116 : decode cX10_part 116 = .ok (.iload_n 1, 1) := by decide +kernel
theorem dX10_part_117 : decode cX10_part 117 = .ok (.iaload, 1) := by decide +kernel
theorem dX10_part_118 : decode cX10_part 118 = .ok (.ireturn, 1) := by decide +kernel
theorem dX10_noResult_0 : decode cX10_noResult 0 = .ok (.iload_n 1, 1) := by decide +kernel
theorem dX10_noResult_1 : decode cX10_noResult 1 = .ok (.ifCond .lt 9, 3) := by decide +kernel
theorem dX10_noResult_4 : decode cX10_noResult 4 = .ok (.iload_n 1, 1) := by decide +kernel
theorem dX10_noResult_5 : decode cX10_noResult 5 = .ok (.bipush 7, 2) := by decide +kernel
theorem dX10_noResult_7 : decode cX10_noResult 7 = .ok (.if_icmp .le 7, 3) := by decide +kernel
theorem dX10_noResult_10 : decode cX10_noResult 10 = .ok (.iconst 1, 1) := by decide +kernel
theorem dX10_noResult_11 : decode cX10_noResult 11 = .ok (.goto 4, 3) := by decide +kernel
theorem dX10_noResult_14 : decode cX10_noResult 14 = .ok (.iconst 0, 1) := by decide +kernel
theorem dX10_noResult_15 : decode cX10_noResult 15 = .ok (.ireturn, 1) := by decide +kernel
theorem dX10_number_0 : decode cX10_number 0 = .ok (.aload_n 0, 1) := by decide +kernel
theorem dX10_number_1 : decode cX10_number 1 = .ok (.iload_n 1, 1) := by decide +kernel
theorem dX10_number_2 : decode cX10_number 2 = .ok (.ifCond .lt 19, 3) := by decide +kernel
theorem dX10_number_5 : decode cX10_number 5 = .ok (.iload_n 1, 1) := by decide +kernel
theorem dX10_number_6 : decode cX10_number 6 = .ok (.aload_n 0, 1) := by decide +kernel
theorem dX10_number_7 : decode cX10_number 7 = .ok (.getfield 149, 3) := by decide +kernel
theorem dX10_number_10 : decode cX10_number 10 = .ok (.if_icmp .ge 11, 3) := by decide +kernel
theorem dX10_number_13 : decode cX10_number 13 = .ok (.aload_n 0, 1) := by decide +kernel
theorem dX10_number_14 : decode cX10_number 14 = .ok (.iload_n 2, 1) := by decide +kernel
theorem dX10_number_15 : decode cX10_number 15 = .ok (.invokevirtual 266, 3) := by decide +kernel
theorem dX10_number_18 : decode cX10_number 18 = .ok (.ifCond .eq 7, 3) := by decide +kernel
theorem dX10_number_21 : decode cX10_number 21 = .ok (.iconst 1, 1) := by decide +kernel
theorem dX10_number_22 : decode cX10_number 22 = .ok (.goto 4, 3) := by decide +kernel
theorem dX10_number_25 : decode cX10_number 25 = .ok (.iconst 0, 1) := by decide +kernel
theorem dX10_number_26 : decode cX10_number 26 = .ok (.putfield 78, 3) := by decide +kernel
theorem dX10_number_29 : decode cX10_number 29 = .ok (.aload_n 0, 1) := by decide +kernel
theorem dX10_number_30 : decode cX10_number 30 = .ok (.getfield 78, 3) := by decide +kernel
theorem dX10_number_33 : decode cX10_number 33 = .ok (.ifCond .le 5, 3) := by decide +kernel
theorem dX10_number_36 : decode cX10_number 36 = .ok (.iconst 0, 1) := by decide +kernel
theorem dX10_number_37 : decode cX10_number 37 = .ok (.ireturn, 1) := by decide +kernel
theorem dX10_number_38 : decode cX10_number 38 = .ok (.aload_n 0, 1) := by decide +kernel
theorem dX10_number_39 : decode cX10_number 39 = .ok (.getfield 29, 3) := by decide +kernel
theorem dX10_number_42 : decode cX10_number 42 = .ok (.iload_n 1, 1) := by decide +kernel
theorem dX10_number_43 : decode cX10_number 43 = .ok (.iaload, 1) := by decide +kernel
theorem dX10_number_44 : decode cX10_number 44 = .ok (.ifCond .ne 7, 3) := by decide +kernel
theorem dX10_number_47 : decode cX10_number 47 = .ok (.iconst 1, 1) := by decide +kernel
theorem dX10_number_48 : decode cX10_number 48 = .ok (.goto 4, 3) := by decide +kernel
theorem dX10_number_51 : decode cX10_number 51 = .ok (.iconst 0, 1) := by decide +kernel
theorem dX10_number_52 : decode cX10_number 52 = .ok (.istore_n 3, 1) := by decide +kernel
theorem dX10_number_53 : decode cX10_number 53 = .ok (.iload_n 3, 1) := by decide +kernel
theorem dX10_number_54 : decode cX10_number 54 = .ok (.ifCond .eq 16, 3) := by decide +kernel
theorem dX10_number_57 : decode cX10_number 57 = .ok (.aload_n 0, 1) := by decide +kernel
theorem dX10_number_58 : decode cX10_number 58 = .ok (.sipush 1000, 3) := by decide +kernel
theorem dX10_number_61 : decode cX10_number 61 = .ok (.iload_n 2, 1) := by decide +kernel
theorem dX10_number_62 : decode cX10_number 62 = .ok (.iadd, 1) := by decide +kernel
theorem dX10_number_63 : decode cX10_number 63 = .ok (.iload_n 1, 1) := by decide +kernel
theorem dX10_number_64 : decode cX10_number 64 = .ok (.invokevirtual 136, 3) := by decide +kernel
theorem dX10_number_67 : decode cX10_number 67 = .ok (.goto 14, 3) := by decide +kernel
theorem dX10_number_70 : decode cX10_number 70 = .ok (.aload_n 0, 1) := by decide +kernel
theorem dX10_number_71 : decode cX10_number 71 = .ok (.sipush 1000, 3) := by decide +kernel
theorem dX10_number_74 : decode cX10_number 74 = .ok (.iload_n 2, 1) := by decide +kernel
theorem dX10_number_75 : decode cX10_number 75 = .ok (.iadd, 1) := by decide +kernel
theorem dX10_number_76 : decode cX10_number 76 = .ok (.lconst 0, 1) := by decide +kernel
theorem dX10_number_77 : decode cX10_number 77 = .ok (.lconst 1, 1) := by decide +kernel
theorem dX10_number_78 : decode cX10_number 78 = .ok (.invokevirtual 139, 3) := by decide +kernel
theorem dX10_number_81 : decode cX10_number 81 = .ok (.iload_n 3, 1) := by decide +kernel
theorem dX10_number_82 : decode cX10_number 82 = .ok (.ireturn, 1) := by decide +kernel
theorem dX10_set_0 : decode cX10_set 0 = .ok (.aload_n 0, 1) := by decide +kernel
theorem dX10_set_1 : decode cX10_set 1 = .ok (.iload_n 1, 1) := by decide +kernel
theorem dX10_set_2 : decode cX10_set 2 = .ok (.ifCond .lt 34, 3) := by decide +kernel
theorem dX10_set_5 : decode cX10_set 5 = .ok (.iload_n 1, 1) := by decide +kernel
theorem dX10_set_6 : decode cX10_set 6 = .ok (.iconst 2, 1) := by decide +kernel
theorem dX10_set_7 : decode cX10_set 7 = .ok (.if_icmp .gt 29, 3) := by decide +kernel
theorem dX10_set_10 : decode cX10_set 10 = .ok (.iload_n 2, 1) := by decide +kernel
theorem dX10_set_11 : decode cX10_set 11 = .ok (.sipush (-9999), 3) := by decide +kernel
theorem dX10_set_14 : decode cX10_set 14 = .ok (.if_icmp .lt 22, 3) := by decide +kernel
theorem dX10_set_17 : decode cX10_set 17 = .ok (.iload_n 2, 1) := by decide +kernel
theorem dX10_set_18 : decode cX10_set 18 = .ok (.sipush 9999, 3) := by decide +kernel
theorem dX10_set_21 : decode cX10_set 21 = .ok (.if_icmp .gt 15, 3) := by decide +kernel
theorem dX10_set_24 : decode cX10_set 24 = .ok (.iload_n 3, 1) := by decide +kernel
theorem dX10_set_25 : decode cX10_set 25 = .ok (.iconst 1, 1) := by decide +kernel
theorem dX10_set_26 : decode cX10_set 26 = .ok (.if_icmp .lt 10, 3) := by decide +kernel
theorem dX10_set_29 : decode cX10_set 29 = .ok (.iload_n 3, 1) := by decide +kernel
theorem dX10_set_30 : decode cX10_set 30 = .ok (.sipush 9999, 3) := by decide +kernel
theorem dX10_set_33 : decode cX10_set 33 = .ok (.if_icmp .le 7, 3) := by decide +kernel
theorem dX10_set_36 : decode cX10_set 36 = .ok (.iconst 1, 1) := by decide +kernel
theorem dX10_set_37 : decode cX10_set 37 = .ok (.goto 4, 3) := by decide +kernel
theorem dX10_set_40 : decode cX10_set 40 = .ok (.iconst 0, 1) := by decide +kernel
theorem dX10_set_41 : decode cX10_set 41 = .ok (.putfield 78, 3) := by decide +kernel
theorem dX10_set_44 : decode cX10_set 44 = .ok (.aload_n 0, 1) := by decide +kernel
theorem dX10_set_45 : decode cX10_set 45 = .ok (.getfield 78, 3) := by decide +kernel
theorem dX10_set_48 : decode cX10_set 48 = .ok (.ifCond .ne 16, 3) := by decide +kernel
theorem dX10_set_51 : decode cX10_set 51 = .ok (.aload_n 0, 1) := by decide +kernel
theorem dX10_set_52 : decode cX10_set 52 = .ok (.sipush 1008, 3) := by decide +kernel
theorem dX10_set_55 : decode cX10_set 55 = .ok (.iload_n 1, 1) := by decide +kernel
theorem dX10_set_56 : decode cX10_set 56 = .ok (.iadd, 1) := by decide +kernel
theorem dX10_set_57 : decode cX10_set 57 = .ok (.iload_n 2, 1) := by decide +kernel
theorem dX10_set_58 : decode cX10_set 58 = .ok (.i2l, 1) := by decide +kernel
theorem dX10_set_59 : decode cX10_set 59 = .ok (.iload_n 3, 1) := by decide +kernel
theorem dX10_set_60 : decode cX10_set 60 = .ok (.i2l, 1) := by decide +kernel
theorem dX10_set_61 : decode cX10_set 61 = .ok (.invokevirtual 139, 3) := by decide +kernel
theorem dX10_set_64 : decode cX10_set 64 = .ok (.return_, 1) := by decide +kernel
theorem dX10_reckonPart_0 : decode cX10_reckonPart 0 = .ok (.aload_n 0, 1) := by decide +kernel
theorem dX10_reckonPart_1 : decode cX10_reckonPart 1 = .ok (.getfield 32, 3) := by decide +kernel
theorem dX10_reckonPart_4 : decode cX10_reckonPart 4 = .ok (.iload_n 1, 1) := by decide +kernel
theorem dX10_reckonPart_5 : decode cX10_reckonPart 5 = .ok (.iaload, 1) := by decide +kernel
theorem dX10_reckonPart_6 : decode cX10_reckonPart 6 = .ok (.istore_n 2, 1) := by decide +kernel
theorem dX10_reckonPart_7 : decode cX10_reckonPart 7 = .ok (.aload_n 0, 1) := by decide +kernel
theorem dX10_reckonPart_8 : decode cX10_reckonPart 8 = .ok (.getfield 35, 3) := by decide +kernel
theorem dX10_reckonPart_11 : decode cX10_reckonPart 11 = .ok (.iload_n 1, 1) := by decide +kernel
theorem dX10_reckonPart_12 : decode cX10_reckonPart 12 = .ok (.iaload, 1) := by decide +kernel
theorem dX10_reckonPart_13 : decode cX10_reckonPart 13 = .ok (.istore_n 3, 1) := by decide +kernel
theorem dX10_reckonPart_14 : decode cX10_reckonPart 14 = .ok (.aload_n 0, 1) := by decide +kernel
theorem dX10_reckonPart_15 : decode cX10_reckonPart 15 = .ok (.getfield 29, 3) := by decide +kernel
theorem dX10_reckonPart_18 : decode cX10_reckonPart 18 = .ok (.iload_n 1, 1) := by decide +kernel
theorem dX10_reckonPart_19 : decode cX10_reckonPart 19 = .ok (.iaload, 1) := by decide +kernel
theorem dX10_reckonPart_20 : decode cX10_reckonPart 20 = .ok (.ifCond .ne 16, 3) := by decide +kernel
theorem dX10_reckonPart_23 : decode cX10_reckonPart 23 = .ok (.aload_n 0, 1) := by decide +kernel
theorem dX10_reckonPart_24 : decode cX10_reckonPart 24 = .ok (.sipush 200, 3) := by decide +kernel
theorem dX10_reckonPart_27 : decode cX10_reckonPart 27 = .ok (.iload_n 1, 1) := by decide +kernel
theorem dX10_reckonPart_28 : decode cX10_reckonPart 28 = .ok (.iadd, 1) := by decide +kernel
theorem dX10_reckonPart_29 : decode cX10_reckonPart 29 = .ok (.iload_n 1, 1) := by decide +kernel
theorem dX10_reckonPart_30 : decode cX10_reckonPart 30 = .ok (.invokevirtual 136, 3) := by decide +kernel
theorem dX10_reckonPart_33 : decode cX10_reckonPart 33 = .ok (.goto 109, 3) := by decide +kernel
theorem dX10_reckonPart_36 : decode cX10_reckonPart 36 = .ok (.aload_n 0, 1) := by decide +kernel
theorem dX10_reckonPart_37 : decode cX10_reckonPart 37 = .ok (.getfield 29, 3) := by decide +kernel
theorem dX10_reckonPart_40 : decode cX10_reckonPart 40 = .ok (.iload_n 1, 1) := by decide +kernel
theorem dX10_reckonPart_41 : decode cX10_reckonPart 41 = .ok (.iaload, 1) := by decide +kernel
theorem dX10_reckonPart_42 : decode cX10_reckonPart 42 = .ok (.iconst 1, 1) := by decide +kernel
theorem dX10_reckonPart_43 : decode cX10_reckonPart 43 = .ok (.if_icmp .ne 20, 3) := by decide +kernel
theorem dX10_reckonPart_46 : decode cX10_reckonPart 46 = .ok (.aload_n 0, 1) := by decide +kernel
theorem dX10_reckonPart_47 : decode cX10_reckonPart 47 = .ok (.sipush 200, 3) := by decide +kernel
theorem dX10_reckonPart_50 : decode cX10_reckonPart 50 = .ok (.iload_n 1, 1) := by decide +kernel
theorem dX10_reckonPart_51 : decode cX10_reckonPart 51 = .ok (.iadd, 1) := by decide +kernel
theorem dX10_reckonPart_52 : decode cX10_reckonPart 52 = .ok (.sipush 1008, 3) := by decide +kernel
theorem dX10_reckonPart_55 : decode cX10_reckonPart 55 = .ok (.iload_n 2, 1) := by decide +kernel
theorem dX10_reckonPart_56 : decode cX10_reckonPart 56 = .ok (.iadd, 1) := by decide +kernel
theorem dX10_reckonPart_57 : decode cX10_reckonPart 57 = .ok (.invokevirtual 136, 3) := by decide +kernel
theorem dX10_reckonPart_60 : decode cX10_reckonPart 60 = .ok (.goto 82, 3) := by decide +kernel
theorem dX10_reckonPart_63 : decode cX10_reckonPart 63 = .ok (.aload_n 0, 1) := by decide +kernel
theorem dX10_reckonPart_64 : decode cX10_reckonPart 64 = .ok (.getfield 29, 3) := by decide +kernel
theorem dX10_reckonPart_67 : decode cX10_reckonPart 67 = .ok (.iload_n 1, 1) := by decide +kernel
theorem dX10_reckonPart_68 : decode cX10_reckonPart 68 = .ok (.iaload, 1) := by decide +kernel
theorem dX10_reckonPart_69 : decode cX10_reckonPart 69 = .ok (.iconst 2, 1) := by decide +kernel
theorem dX10_reckonPart_70 : decode cX10_reckonPart 70 = .ok (.if_icmp .ne 25, 3) := by decide +kernel
theorem dX10_reckonPart_73 : decode cX10_reckonPart 73 = .ok (.aload_n 0, 1) := by decide +kernel
theorem dX10_reckonPart_74 : decode cX10_reckonPart 74 = .ok (.sipush 200, 3) := by decide +kernel
theorem dX10_reckonPart_77 : decode cX10_reckonPart 77 = .ok (.iload_n 1, 1) := by decide +kernel
theorem dX10_reckonPart_78 : decode cX10_reckonPart 78 = .ok (.iadd, 1) := by decide +kernel
theorem dX10_reckonPart_79 : decode cX10_reckonPart 79 = .ok (.sipush 200, 3) := by decide +kernel
theorem dX10_reckonPart_82 : decode cX10_reckonPart 82 = .ok (.iload_n 2, 1) := by decide +kernel
theorem dX10_reckonPart_83 : decode cX10_reckonPart 83 = .ok (.iadd, 1) := by decide +kernel
theorem dX10_reckonPart_84 : decode cX10_reckonPart 84 = .ok (.sipush 200, 3) := by decide +kernel
theorem dX10_reckonPart_87 : decode cX10_reckonPart 87 = .ok (.iload_n 3, 1) := by decide +kernel
theorem dX10_reckonPart_88 : decode cX10_reckonPart 88 = .ok (.iadd, 1) := by decide +kernel
theorem dX10_reckonPart_89 : decode cX10_reckonPart 89 = .ok (.invokevirtual 171, 3) := by decide +kernel
theorem dX10_reckonPart_92 : decode cX10_reckonPart 92 = .ok (.goto 50, 3) := by decide +kernel
theorem dX10_reckonPart_95 : decode cX10_reckonPart 95 = .ok (.aload_n 0, 1) := by decide +kernel
theorem dX10_reckonPart_96 : decode cX10_reckonPart 96 = .ok (.getfield 29, 3) := by decide +kernel
theorem dX10_reckonPart_99 : decode cX10_reckonPart 99 = .ok (.iload_n 1, 1) := by decide +kernel
theorem dX10_reckonPart_100 : decode cX10_reckonPart 100 = .ok (.iaload, 1) := by decide +kernel
theorem dX10_reckonPart_101 : decode cX10_reckonPart 101 = .ok (.iconst 3, 1) := by decide +kernel
theorem dX10_reckonPart_102 : decode cX10_reckonPart 102 = .ok (.if_icmp .ne 25, 3) := by decide +kernel
theorem dX10_reckonPart_105 : decode cX10_reckonPart 105 = .ok (.aload_n 0, 1) := by decide +kernel
theorem dX10_reckonPart_106 : decode cX10_reckonPart 106 = .ok (.sipush 200, 3) := by decide +kernel
theorem dX10_reckonPart_109 : decode cX10_reckonPart 109 = .ok (.iload_n 1, 1) := by decide +kernel
theorem dX10_reckonPart_110 : decode cX10_reckonPart 110 = .ok (.iadd, 1) := by decide +kernel
theorem dX10_reckonPart_111 : decode cX10_reckonPart 111 = .ok (.sipush 200, 3) := by decide +kernel
theorem dX10_reckonPart_114 : decode cX10_reckonPart 114 = .ok (.iload_n 2, 1) := by decide +kernel
theorem dX10_reckonPart_115 : decode cX10_reckonPart 115 = .ok (.iadd, 1) := by decide +kernel
theorem dX10_reckonPart_116 : decode cX10_reckonPart 116 = .ok (.sipush 200, 3) := by decide +kernel
theorem dX10_reckonPart_119 : decode cX10_reckonPart 119 = .ok (.iload_n 3, 1) := by decide +kernel
theorem dX10_reckonPart_120 : decode cX10_reckonPart 120 = .ok (.iadd, 1) := by decide +kernel
theorem dX10_reckonPart_121 : decode cX10_reckonPart 121 = .ok (.invokevirtual 143, 3) := by decide +kernel
theorem dX10_reckonPart_124 : decode cX10_reckonPart 124 = .ok (.goto 18, 3) := by decide +kernel
theorem dX10_reckonPart_127 : decode cX10_reckonPart 127 = .ok (.aload_n 0, 1) := by decide +kernel
theorem dX10_reckonPart_128 : decode cX10_reckonPart 128 = .ok (.sipush 200, 3) := by decide +kernel
theorem dX10_reckonPart_131 : decode cX10_reckonPart 131 = .ok (.iload_n 1, 1) := by decide +kernel
theorem dX10_reckonPart_132 : decode cX10_reckonPart 132 = .ok (.iadd, 1) := by decide +kernel
theorem dX10_reckonPart_133 : decode cX10_reckonPart 133 = .ok (.sipush 200, 3) := by decide +kernel
theorem dX10_reckonPart_136 : decode cX10_reckonPart 136 = .ok (.iload_n 2, 1) := by decide +kernel
theorem dX10_reckonPart_137 : decode cX10_reckonPart 137 = .ok (.iadd, 1) := by decide +kernel
theorem dX10_reckonPart_138 : decode cX10_reckonPart 138 = .ok (.iload_n 3, 1) := by decide +kernel
theorem dX10_reckonPart_139 : decode cX10_reckonPart 139 = .ok (.invokevirtual 181, 3) := by decide +kernel
theorem dX10_reckonPart_142 : decode cX10_reckonPart 142 = .ok (.iconst 0, 1) := by decide +kernel
theorem dX10_reckonPart_143 : decode cX10_reckonPart 143 = .ok (.istore 4, 2) := by decide +kernel
theorem dX10_reckonPart_145 : decode cX10_reckonPart 145 = .ok (.iload 4, 2) := by decide +kernel
theorem dX10_reckonPart_147 : decode cX10_reckonPart 147 = .ok (.iconst 3, 1) := by decide +kernel
theorem dX10_reckonPart_148 : decode cX10_reckonPart 148 = .ok (.if_icmp .ge 203, 3) := by decide +kernel
theorem dX10_reckonPart_151 : decode cX10_reckonPart 151 = .ok (.iload_n 1, 1) := by decide +kernel
theorem dX10_reckonPart_152 : decode cX10_reckonPart 152 = .ok (.iload 4, 2) := by decide +kernel
theorem dX10_reckonPart_154 : decode cX10_reckonPart 154 = .ok (.invokestatic 269, 3) := by decide +kernel
theorem dX10_reckonPart_157 : decode cX10_reckonPart 157 = .ok (.istore 5, 2) := by decide +kernel
theorem dX10_reckonPart_159 : decode cX10_reckonPart 159 = .ok (.aload_n 0, 1) := by decide +kernel
theorem dX10_reckonPart_160 : decode cX10_reckonPart 160 = .ok (.getfield 29, 3) := by decide +kernel
theorem dX10_reckonPart_163 : decode cX10_reckonPart 163 = .ok (.iload_n 1, 1) := by decide +kernel
theorem dX10_reckonPart_164 : decode cX10_reckonPart 164 = .ok (.iaload, 1) := by decide +kernel
theorem dX10_reckonPart_165 : decode cX10_reckonPart 165 = .ok (.iconst 2, 1) := by decide +kernel
theorem dX10_reckonPart_166 : decode cX10_reckonPart 166 = .ok (.if_icmp .ge 34, 3) := by decide +kernel
theorem dX10_reckonPart_169 : decode cX10_reckonPart 169 = .ok (.aload_n 0, 1) := by decide +kernel
theorem dX10_reckonPart_170 : decode cX10_reckonPart 170 = .ok (.iload 5, 2) := by decide +kernel
theorem dX10_reckonPart_172 : decode cX10_reckonPart 172 = .ok (.aload_n 0, 1) := by decide +kernel
theorem dX10_reckonPart_173 : decode cX10_reckonPart 173 = .ok (.getfield 29, 3) := by decide +kernel
theorem dX10_reckonPart_176 : decode cX10_reckonPart 176 = .ok (.iload_n 1, 1) := by decide +kernel
theorem dX10_reckonPart_177 : decode cX10_reckonPart 177 = .ok (.iaload, 1) := by decide +kernel
theorem dX10_reckonPart_178 : decode cX10_reckonPart 178 = .ok (.iconst 1, 1) := by decide +kernel
theorem dX10_reckonPart_179 : decode cX10_reckonPart 179 = .ok (.if_icmp .ne 13, 3) := by decide +kernel
theorem dX10_reckonPart_182 : decode cX10_reckonPart 182 = .ok (.iload_n 2, 1) := by decide +kernel
theorem dX10_reckonPart_183 : decode cX10_reckonPart 183 = .ok (.iload 4, 2) := by decide +kernel
theorem dX10_reckonPart_185 : decode cX10_reckonPart 185 = .ok (.if_icmp .ne 7, 3) := by decide +kernel
theorem dX10_reckonPart_188 : decode cX10_reckonPart 188 = .ok (.lconst 1, 1) := by decide +kernel
theorem dX10_reckonPart_189 : decode cX10_reckonPart 189 = .ok (.goto 4, 3) := by decide +kernel
theorem dX10_reckonPart_192 : decode cX10_reckonPart 192 = .ok (.lconst 0, 1) := by decide +kernel
theorem dX10_reckonPart_193 : decode cX10_reckonPart 193 = .ok (.lconst 1, 1) := by decide +kernel
theorem dX10_reckonPart_194 : decode cX10_reckonPart 194 = .ok (.invokevirtual 139, 3) := by decide +kernel
theorem dX10_reckonPart_197 : decode cX10_reckonPart 197 = .ok (.goto 148, 3) := by decide +kernel
theorem dX10_reckonPart_200 : decode cX10_reckonPart 200 = .ok (.aload_n 0, 1) := by decide +kernel
theorem dX10_reckonPart_201 : decode cX10_reckonPart 201 = .ok (.getfield 29, 3) := by decide +kernel
theorem dX10_reckonPart_204 : decode cX10_reckonPart 204 = .ok (.iload_n 1, 1) := by decide +kernel
theorem dX10_reckonPart_205 : decode cX10_reckonPart 205 = .ok (.iaload, 1) := by decide +kernel
theorem dX10_reckonPart_206 : decode cX10_reckonPart 206 = .ok (.iconst 2, 1) := by decide +kernel
theorem dX10_reckonPart_207 : decode cX10_reckonPart 207 = .ok (.if_icmp .ne 24, 3) := by decide +kernel
theorem dX10_reckonPart_210 : decode cX10_reckonPart 210 = .ok (.aload_n 0, 1) := by decide +kernel
theorem dX10_reckonPart_211 : decode cX10_reckonPart 211 = .ok (.iload 5, 2) := by decide +kernel
theorem dX10_reckonPart_213 : decode cX10_reckonPart 213 = .ok (.iload_n 2, 1) := by decide +kernel
theorem dX10_reckonPart_214 : decode cX10_reckonPart 214 = .ok (.iload 4, 2) := by decide +kernel
theorem dX10_reckonPart_216 : decode cX10_reckonPart 216 = .ok (.invokestatic 269, 3) := by decide +kernel
theorem dX10_reckonPart_219 : decode cX10_reckonPart 219 = .ok (.iload_n 3, 1) := by decide +kernel
theorem dX10_reckonPart_220 : decode cX10_reckonPart 220 = .ok (.iload 4, 2) := by decide +kernel
theorem dX10_reckonPart_222 : decode cX10_reckonPart 222 = .ok (.invokestatic 269, 3) := by decide +kernel
theorem dX10_reckonPart_225 : decode cX10_reckonPart 225 = .ok (.invokevirtual 171, 3) := by decide +kernel
theorem dX10_reckonPart_228 : decode cX10_reckonPart 228 = .ok (.goto 117, 3) := by decide +kernel
theorem dX10_reckonPart_231 : decode cX10_reckonPart 231 = .ok (.aload_n 0, 1) := by decide +kernel
theorem dX10_reckonPart_232 : decode cX10_reckonPart 232 = .ok (.getfield 29, 3) := by decide +kernel
theorem dX10_reckonPart_235 : decode cX10_reckonPart 235 = .ok (.iload_n 1, 1) := by decide +kernel
theorem dX10_reckonPart_236 : decode cX10_reckonPart 236 = .ok (.iaload, 1) := by decide +kernel
theorem dX10_reckonPart_237 : decode cX10_reckonPart 237 = .ok (.iconst 3, 1) := by decide +kernel
theorem dX10_reckonPart_238 : decode cX10_reckonPart 238 = .ok (.if_icmp .ne 54, 3) := by decide +kernel
theorem dX10_reckonPart_241 : decode cX10_reckonPart 241 = .ok (.aload_n 0, 1) := by decide +kernel
theorem dX10_reckonPart_242 : decode cX10_reckonPart 242 = .ok (.sipush 1012, 3) := by decide +kernel
theorem dX10_reckonPart_245 : decode cX10_reckonPart 245 = .ok (.iload_n 2, 1) := by decide +kernel
theorem dX10_reckonPart_246 : decode cX10_reckonPart 246 = .ok (.iload 4, 2) := by decide +kernel
theorem dX10_reckonPart_248 : decode cX10_reckonPart 248 = .ok (.invokestatic 269, 3) := by decide +kernel
theorem dX10_reckonPart_251 : decode cX10_reckonPart 251 = .ok (.sipush 200, 3) := by decide +kernel
theorem dX10_reckonPart_254 : decode cX10_reckonPart 254 = .ok (.iload_n 3, 1) := by decide +kernel
theorem dX10_reckonPart_255 : decode cX10_reckonPart 255 = .ok (.iadd, 1) := by decide +kernel
theorem dX10_reckonPart_256 : decode cX10_reckonPart 256 = .ok (.invokevirtual 143, 3) := by decide +kernel
theorem dX10_reckonPart_259 : decode cX10_reckonPart 259 = .ok (.aload_n 0, 1) := by decide +kernel
theorem dX10_reckonPart_260 : decode cX10_reckonPart 260 = .ok (.sipush 1013, 3) := by decide +kernel
theorem dX10_reckonPart_263 : decode cX10_reckonPart 263 = .ok (.sipush 200, 3) := by decide +kernel
theorem dX10_reckonPart_266 : decode cX10_reckonPart 266 = .ok (.iload_n 2, 1) := by decide +kernel
theorem dX10_reckonPart_267 : decode cX10_reckonPart 267 = .ok (.iadd, 1) := by decide +kernel
theorem dX10_reckonPart_268 : decode cX10_reckonPart 268 = .ok (.iload_n 3, 1) := by decide +kernel
theorem dX10_reckonPart_269 : decode cX10_reckonPart 269 = .ok (.iload 4, 2) := by decide +kernel
theorem dX10_reckonPart_271 : decode cX10_reckonPart 271 = .ok (.invokestatic 269, 3) := by decide +kernel
theorem dX10_reckonPart_274 : decode cX10_reckonPart 274 = .ok (.invokevirtual 143, 3) := by decide +kernel
theorem dX10_reckonPart_277 : decode cX10_reckonPart 277 = .ok (.aload_n 0, 1) := by decide +kernel
theorem dX10_reckonPart_278 : decode cX10_reckonPart 278 = .ok (.iload 5, 2) := by decide +kernel
theorem dX10_reckonPart_280 : decode cX10_reckonPart 280 = .ok (.sipush 1012, 3) := by decide +kernel
theorem dX10_reckonPart_283 : decode cX10_reckonPart 283 = .ok (.sipush 1013, 3) := by decide +kernel
theorem dX10_reckonPart_286 : decode cX10_reckonPart 286 = .ok (.invokevirtual 171, 3) := by decide +kernel
theorem dX10_reckonPart_289 : decode cX10_reckonPart 289 = .ok (.goto 56, 3) := by decide +kernel
theorem dX10_reckonPart_292 : decode cX10_reckonPart 292 = .ok (.aload_n 0, 1) := by decide +kernel
theorem dX10_reckonPart_293 : decode cX10_reckonPart 293 = .ok (.sipush 1012, 3) := by decide +kernel
theorem dX10_reckonPart_296 : decode cX10_reckonPart 296 = .ok (.sipush 200, 3) := by decide +kernel
theorem dX10_reckonPart_299 : decode cX10_reckonPart 299 = .ok (.iload_n 2, 1) := by decide +kernel
theorem dX10_reckonPart_300 : decode cX10_reckonPart 300 = .ok (.iadd, 1) := by decide +kernel
theorem dX10_reckonPart_301 : decode cX10_reckonPart 301 = .ok (.iload_n 3, 1) := by decide +kernel
theorem dX10_reckonPart_302 : decode cX10_reckonPart 302 = .ok (.iconst 1, 1) := by decide +kernel
theorem dX10_reckonPart_303 : decode cX10_reckonPart 303 = .ok (.isub, 1) := by decide +kernel
theorem dX10_reckonPart_304 : decode cX10_reckonPart 304 = .ok (.invokevirtual 181, 3) := by decide +kernel
theorem dX10_reckonPart_307 : decode cX10_reckonPart 307 = .ok (.aload_n 0, 1) := by decide +kernel
theorem dX10_reckonPart_308 : decode cX10_reckonPart 308 = .ok (.sipush 1013, 3) := by decide +kernel
theorem dX10_reckonPart_311 : decode cX10_reckonPart 311 = .ok (.iload_n 3, 1) := by decide +kernel
theorem dX10_reckonPart_312 : decode cX10_reckonPart 312 = .ok (.i2l, 1) := by decide +kernel
theorem dX10_reckonPart_313 : decode cX10_reckonPart 313 = .ok (.lconst 1, 1) := by decide +kernel
theorem dX10_reckonPart_314 : decode cX10_reckonPart 314 = .ok (.invokevirtual 139, 3) := by decide +kernel
theorem dX10_reckonPart_317 : decode cX10_reckonPart 317 = .ok (.aload_n 0, 1) := by decide +kernel
theorem dX10_reckonPart_318 : decode cX10_reckonPart 318 = .ok (.sipush 1012, 3) := by decide +kernel
theorem dX10_reckonPart_321 : decode cX10_reckonPart 321 = .ok (.sipush 1012, 3) := by decide +kernel
theorem dX10_reckonPart_324 : decode cX10_reckonPart 324 = .ok (.sipush 1013, 3) := by decide +kernel
theorem dX10_reckonPart_327 : decode cX10_reckonPart 327 = .ok (.invokevirtual 143, 3) := by decide +kernel
theorem dX10_reckonPart_330 : decode cX10_reckonPart 330 = .ok (.aload_n 0, 1) := by decide +kernel
theorem dX10_reckonPart_331 : decode cX10_reckonPart 331 = .ok (.iload 5, 2) := by decide +kernel
theorem dX10_reckonPart_333 : decode cX10_reckonPart 333 = .ok (.sipush 1012, 3) := by decide +kernel
theorem dX10_reckonPart_336 : decode cX10_reckonPart 336 = .ok (.iload_n 2, 1) := by decide +kernel
theorem dX10_reckonPart_337 : decode cX10_reckonPart 337 = .ok (.iload 4, 2) := by decide +kernel
theorem dX10_reckonPart_339 : decode cX10_reckonPart 339 = .ok (.invokestatic 269, 3) := by decide +kernel
theorem dX10_reckonPart_342 : decode cX10_reckonPart 342 = .ok (.invokevirtual 143, 3) := by decide +kernel
theorem dX10_reckonPart_345 : decode cX10_reckonPart 345 = .ok (.iinc 4 1, 3) := by decide +kernel
theorem dX10_reckonPart_348 : decode cX10_reckonPart 348 = .ok (.goto (-203), 3) := by decide +kernel
theorem dX10_reckonPart_351 : decode cX10_reckonPart 351 = .ok (.return_, 1) := by decide +kernel
theorem dX10_reckonAll_0 : decode cX10_reckonAll 0 = .ok (.aload_n 0, 1) := by decide +kernel
theorem dX10_reckonAll_1 : decode cX10_reckonAll 1 = .ok (.iload_n 1, 1) := by decide +kernel
theorem dX10_reckonAll_2 : decode cX10_reckonAll 2 = .ok (.invokevirtual 257, 3) := by decide +kernel
theorem dX10_reckonAll_5 : decode cX10_reckonAll 5 = .ok (.iconst 0, 1) := by decide +kernel
theorem dX10_reckonAll_6 : decode cX10_reckonAll 6 = .ok (.istore_n 2, 1) := by decide +kernel
theorem dX10_reckonAll_7 : decode cX10_reckonAll 7 = .ok (.iload_n 2, 1) := by decide +kernel
theorem dX10_reckonAll_8 : decode cX10_reckonAll 8 = .ok (.iload_n 1, 1) := by decide +kernel
theorem dX10_reckonAll_9 : decode cX10_reckonAll 9 = .ok (.if_icmp .gt 23, 3) := by decide +kernel
theorem dX10_reckonAll_12 : decode cX10_reckonAll 12 = .ok (.aload_n 0, 1) := by decide +kernel
theorem dX10_reckonAll_13 : decode cX10_reckonAll 13 = .ok (.getfield 50, 3) := by decide +kernel
theorem dX10_reckonAll_16 : decode cX10_reckonAll 16 = .ok (.iload_n 2, 1) := by decide +kernel
theorem dX10_reckonAll_17 : decode cX10_reckonAll 17 = .ok (.baload, 1) := by decide +kernel
theorem dX10_reckonAll_18 : decode cX10_reckonAll 18 = .ok (.ifCond .eq 8, 3) := by decide +kernel
theorem dX10_reckonAll_21 : decode cX10_reckonAll 21 = .ok (.aload_n 0, 1) := by decide +kernel
theorem dX10_reckonAll_22 : decode cX10_reckonAll 22 = .ok (.iload_n 2, 1) := by decide +kernel
theorem dX10_reckonAll_23 : decode cX10_reckonAll 23 = .ok (.invokevirtual 272, 3) := by decide +kernel
theorem dX10_reckonAll_26 : decode cX10_reckonAll 26 = .ok (.iinc 2 1, 3) := by decide +kernel
theorem dX10_reckonAll_29 : decode cX10_reckonAll 29 = .ok (.goto (-22), 3) := by decide +kernel
theorem dX10_reckonAll_32 : decode cX10_reckonAll 32 = .ok (.return_, 1) := by decide +kernel
theorem dX10_gradient_0 : decode cX10_gradient 0 = .ok (.aload_n 0, 1) := by decide +kernel
theorem dX10_gradient_1 : decode cX10_gradient 1 = .ok (.iload_n 1, 1) := by decide +kernel
theorem dX10_gradient_2 : decode cX10_gradient 2 = .ok (.invokevirtual 263, 3) := by decide +kernel
theorem dX10_gradient_5 : decode cX10_gradient 5 = .ok (.ifCond .eq 4, 3) := by decide +kernel
theorem dX10_gradient_8 : decode cX10_gradient 8 = .ok (.return_, 1) := by decide +kernel
theorem dX10_gradient_9 : decode cX10_gradient 9 = .ok (.aload_n 0, 1) := by decide +kernel
theorem dX10_gradient_10 : decode cX10_gradient 10 = .ok (.getfield 47, 3) := by decide +kernel
theorem dX10_gradient_13 : decode cX10_gradient 13 = .ok (.iload_n 1, 1) := by decide +kernel
theorem dX10_gradient_14 : decode cX10_gradient 14 = .ok (.iaload, 1) := by decide +kernel
theorem dX10_gradient_15 : decode cX10_gradient 15 = .ok (.istore_n 2, 1) := by decide +kernel
theorem dX10_gradient_16 : decode cX10_gradient 16 = .ok (.aload_n 0, 1) := by decide +kernel
theorem dX10_gradient_17 : decode cX10_gradient 17 = .ok (.iload_n 2, 1) := by decide +kernel
theorem dX10_gradient_18 : decode cX10_gradient 18 = .ok (.invokevirtual 275, 3) := by decide +kernel
theorem dX10_gradient_21 : decode cX10_gradient 21 = .ok (.aload_n 0, 1) := by decide +kernel
theorem dX10_gradient_22 : decode cX10_gradient 22 = .ok (.sipush 1000, 3) := by decide +kernel
theorem dX10_gradient_25 : decode cX10_gradient 25 = .ok (.sipush 200, 3) := by decide +kernel
theorem dX10_gradient_28 : decode cX10_gradient 28 = .ok (.iload_n 2, 1) := by decide +kernel
theorem dX10_gradient_29 : decode cX10_gradient 29 = .ok (.iadd, 1) := by decide +kernel
theorem dX10_gradient_30 : decode cX10_gradient 30 = .ok (.invokevirtual 136, 3) := by decide +kernel
theorem dX10_gradient_33 : decode cX10_gradient 33 = .ok (.iconst 0, 1) := by decide +kernel
theorem dX10_gradient_34 : decode cX10_gradient 34 = .ok (.istore_n 3, 1) := by decide +kernel
theorem dX10_gradient_35 : decode cX10_gradient 35 = .ok (.iload_n 3, 1) := by decide +kernel
theorem dX10_gradient_36 : decode cX10_gradient 36 = .ok (.iconst 3, 1) := by decide +kernel
theorem dX10_gradient_37 : decode cX10_gradient 37 = .ok (.if_icmp .ge 23, 3) := by decide +kernel
theorem dX10_gradient_40 : decode cX10_gradient 40 = .ok (.aload_n 0, 1) := by decide +kernel
theorem dX10_gradient_41 : decode cX10_gradient 41 = .ok (.sipush 1001, 3) := by decide +kernel
theorem dX10_gradient_44 : decode cX10_gradient 44 = .ok (.iload_n 3, 1) := by decide +kernel
theorem dX10_gradient_45 : decode cX10_gradient 45 = .ok (.iadd, 1) := by decide +kernel
theorem dX10_gradient_46 : decode cX10_gradient 46 = .ok (.iload_n 2, 1) := by decide +kernel
theorem dX10_gradient_47 : decode cX10_gradient 47 = .ok (.iload_n 3, 1) := by decide +kernel
theorem dX10_gradient_48 : decode cX10_gradient 48 = .ok (.invokestatic 269, 3) := by decide +kernel
theorem dX10_gradient_51 : decode cX10_gradient 51 = .ok (.invokevirtual 136, 3) := by decide +kernel
theorem dX10_gradient_54 : decode cX10_gradient 54 = .ok (.iinc 3 1, 3) := by decide +kernel
theorem dX10_gradient_57 : decode cX10_gradient 57 = .ok (.goto (-22), 3) := by decide +kernel
theorem dX10_gradient_60 : decode cX10_gradient 60 = .ok (.return_, 1) := by decide +kernel
theorem dX10_reckon_0 : decode cX10_reckon 0 = .ok (.aload_n 0, 1) := by decide +kernel
theorem dX10_reckon_1 : decode cX10_reckon 1 = .ok (.aload_n 0, 1) := by decide +kernel
theorem dX10_reckon_2 : decode cX10_reckon 2 = .ok (.iload_n 2, 1) := by decide +kernel
theorem dX10_reckon_3 : decode cX10_reckon 3 = .ok (.invokevirtual 266, 3) := by decide +kernel
theorem dX10_reckon_6 : decode cX10_reckon 6 = .ok (.ifCond .ne 20, 3) := by decide +kernel
theorem dX10_reckon_9 : decode cX10_reckon 9 = .ok (.aload_n 0, 1) := by decide +kernel
theorem dX10_reckon_10 : decode cX10_reckon 10 = .ok (.iload_n 3, 1) := by decide +kernel
theorem dX10_reckon_11 : decode cX10_reckon 11 = .ok (.invokevirtual 266, 3) := by decide +kernel
theorem dX10_reckon_14 : decode cX10_reckon 14 = .ok (.ifCond .ne 12, 3) := by decide +kernel
theorem dX10_reckon_17 : decode cX10_reckon 17 = .ok (.aload_n 0, 1) := by decide +kernel
theorem dX10_reckon_18 : decode cX10_reckon 18 = .ok (.iload 4, 2) := by decide +kernel
theorem dX10_reckon_20 : decode cX10_reckon 20 = .ok (.invokevirtual 266, 3) := by decide +kernel
theorem dX10_reckon_23 : decode cX10_reckon 23 = .ok (.ifCond .eq 7, 3) := by decide +kernel
theorem dX10_reckon_26 : decode cX10_reckon 26 = .ok (.iconst 1, 1) := by decide +kernel
theorem dX10_reckon_27 : decode cX10_reckon 27 = .ok (.goto 17, 3) := by decide +kernel
theorem dX10_reckon_30 : decode cX10_reckon 30 = .ok (.iload_n 1, 1) := by decide +kernel
theorem dX10_reckon_31 : decode cX10_reckon 31 = .ok (.ifCond .lt 8, 3) := by decide +kernel
theorem dX10_reckon_34 : decode cX10_reckon 34 = .ok (.iload_n 1, 1) := by decide +kernel
theorem dX10_reckon_35 : decode cX10_reckon 35 = .ok (.iconst 2, 1) := by decide +kernel
theorem dX10_reckon_36 : decode cX10_reckon 36 = .ok (.if_icmp .le 7, 3) := by decide +kernel
theorem dX10_reckon_39 : decode cX10_reckon 39 = .ok (.iconst 2, 1) := by decide +kernel
theorem dX10_reckon_40 : decode cX10_reckon 40 = .ok (.goto 4, 3) := by decide +kernel
theorem dX10_reckon_43 : decode cX10_reckon 43 = .ok (.iconst 0, 1) := by decide +kernel
theorem dX10_reckon_44 : decode cX10_reckon 44 = .ok (.putfield 78, 3) := by decide +kernel
theorem dX10_reckon_47 : decode cX10_reckon 47 = .ok (.aload_n 0, 1) := by decide +kernel
theorem dX10_reckon_48 : decode cX10_reckon 48 = .ok (.getfield 78, 3) := by decide +kernel
theorem dX10_reckon_51 : decode cX10_reckon 51 = .ok (.ifCond .le 5, 3) := by decide +kernel
theorem dX10_reckon_54 : decode cX10_reckon 54 = .ok (.iconst 0, 1) := by decide +kernel
theorem dX10_reckon_55 : decode cX10_reckon 55 = .ok (.ireturn, 1) := by decide +kernel
theorem dX10_reckon_56 : decode cX10_reckon 56 = .ok (.aload_n 0, 1) := by decide +kernel
theorem dX10_reckon_57 : decode cX10_reckon 57 = .ok (.sipush 1012, 3) := by decide +kernel
theorem dX10_reckon_60 : decode cX10_reckon 60 = .ok (.sipush 1000, 3) := by decide +kernel
theorem dX10_reckon_63 : decode cX10_reckon 63 = .ok (.iload_n 3, 1) := by decide +kernel
theorem dX10_reckon_64 : decode cX10_reckon 64 = .ok (.iadd, 1) := by decide +kernel
theorem dX10_reckon_65 : decode cX10_reckon 65 = .ok (.invokevirtual 136, 3) := by decide +kernel
theorem dX10_reckon_68 : decode cX10_reckon 68 = .ok (.aload_n 0, 1) := by decide +kernel
theorem dX10_reckon_69 : decode cX10_reckon 69 = .ok (.sipush 1013, 3) := by decide +kernel
theorem dX10_reckon_72 : decode cX10_reckon 72 = .ok (.sipush 1000, 3) := by decide +kernel
theorem dX10_reckon_75 : decode cX10_reckon 75 = .ok (.iload 4, 2) := by decide +kernel
theorem dX10_reckon_77 : decode cX10_reckon 77 = .ok (.iadd, 1) := by decide +kernel
theorem dX10_reckon_78 : decode cX10_reckon 78 = .ok (.invokevirtual 136, 3) := by decide +kernel
theorem dX10_reckon_81 : decode cX10_reckon 81 = .ok (.iload_n 1, 1) := by decide +kernel
theorem dX10_reckon_82 : decode cX10_reckon 82 = .ok (.iconst 1, 1) := by decide +kernel
theorem dX10_reckon_83 : decode cX10_reckon 83 = .ok (.if_icmp .ne 38, 3) := by decide +kernel
theorem dX10_reckon_86 : decode cX10_reckon 86 = .ok (.aload_n 0, 1) := by decide +kernel
theorem dX10_reckon_87 : decode cX10_reckon 87 = .ok (.getfield 18, 3) := by decide +kernel
theorem dX10_reckon_90 : decode cX10_reckon 90 = .ok (.sipush 2026, 3) := by decide +kernel
theorem dX10_reckon_93 : decode cX10_reckon 93 = .ok (.aload_n 0, 1) := by decide +kernel
theorem dX10_reckon_94 : decode cX10_reckon 94 = .ok (.getfield 14, 3) := by decide +kernel
theorem dX10_reckon_97 : decode cX10_reckon 97 = .ok (.sipush 2026, 3) := by decide +kernel
theorem dX10_reckon_100 : decode cX10_reckon 100 = .ok (.iaload, 1) := by decide +kernel
theorem dX10_reckon_101 : decode cX10_reckon 101 = .ok (.ifCond .le 18, 3) := by decide +kernel
theorem dX10_reckon_104 : decode cX10_reckon 104 = .ok (.aload_n 0, 1) := by decide +kernel
theorem dX10_reckon_105 : decode cX10_reckon 105 = .ok (.getfield 18, 3) := by decide +kernel
theorem dX10_reckon_108 : decode cX10_reckon 108 = .ok (.sipush 2026, 3) := by decide +kernel
theorem dX10_reckon_111 : decode cX10_reckon 111 = .ok (.baload, 1) := by decide +kernel
theorem dX10_reckon_112 : decode cX10_reckon 112 = .ok (.ifCond .ne 7, 3) := by decide +kernel
theorem dX10_reckon_115 : decode cX10_reckon 115 = .ok (.iconst 1, 1) := by decide +kernel
theorem dX10_reckon_116 : decode cX10_reckon 116 = .ok (.goto 4, 3) := by decide +kernel
theorem dX10_reckon_119 : decode cX10_reckon 119 = .ok (.iconst 0, 1) := by decide +kernel
theorem dX10_reckon_120 : decode cX10_reckon 120 = .ok (.bastore, 1) := by decide +kernel
theorem dX10_reckon_121 : decode cX10_reckon 121 = .ok (.iload_n 1, 1) := by decide +kernel
theorem dX10_reckon_122 : decode cX10_reckon 122 = .ok (.iconst 2, 1) := by decide +kernel
theorem dX10_reckon_123 : decode cX10_reckon 123 = .ok (.if_icmp .ge 19, 3) := by decide +kernel
theorem dX10_reckon_126 : decode cX10_reckon 126 = .ok (.aload_n 0, 1) := by decide +kernel
theorem dX10_reckon_127 : decode cX10_reckon 127 = .ok (.sipush 1015, 3) := by decide +kernel
theorem dX10_reckon_130 : decode cX10_reckon 130 = .ok (.sipush 1012, 3) := by decide +kernel
theorem dX10_reckon_133 : decode cX10_reckon 133 = .ok (.sipush 1013, 3) := by decide +kernel
theorem dX10_reckon_136 : decode cX10_reckon 136 = .ok (.invokevirtual 171, 3) := by decide +kernel
theorem dX10_reckon_139 : decode cX10_reckon 139 = .ok (.goto 16, 3) := by decide +kernel
theorem dX10_reckon_142 : decode cX10_reckon 142 = .ok (.aload_n 0, 1) := by decide +kernel
theorem dX10_reckon_143 : decode cX10_reckon 143 = .ok (.sipush 1015, 3) := by decide +kernel
theorem dX10_reckon_146 : decode cX10_reckon 146 = .ok (.sipush 1012, 3) := by decide +kernel
theorem dX10_reckon_149 : decode cX10_reckon 149 = .ok (.sipush 1013, 3) := by decide +kernel
theorem dX10_reckon_152 : decode cX10_reckon 152 = .ok (.invokevirtual 143, 3) := by decide +kernel
theorem dX10_reckon_155 : decode cX10_reckon 155 = .ok (.aload_n 0, 1) := by decide +kernel
theorem dX10_reckon_156 : decode cX10_reckon 156 = .ok (.sipush 2030, 3) := by decide +kernel
theorem dX10_reckon_159 : decode cX10_reckon 159 = .ok (.invokevirtual 117, 3) := by decide +kernel
theorem dX10_reckon_162 : decode cX10_reckon 162 = .ok (.sipush 1000, 3) := by decide +kernel
theorem dX10_reckon_165 : decode cX10_reckon 165 = .ok (.if_icmp .gt 20, 3) := by decide +kernel
theorem dX10_reckon_168 : decode cX10_reckon 168 = .ok (.aload_n 0, 1) := by decide +kernel
theorem dX10_reckon_169 : decode cX10_reckon 169 = .ok (.sipush 2031, 3) := by decide +kernel
theorem dX10_reckon_172 : decode cX10_reckon 172 = .ok (.invokevirtual 117, 3) := by decide +kernel
theorem dX10_reckon_175 : decode cX10_reckon 175 = .ok (.sipush 1000, 3) := by decide +kernel
theorem dX10_reckon_178 : decode cX10_reckon 178 = .ok (.if_icmp .gt 7, 3) := by decide +kernel
theorem dX10_reckon_181 : decode cX10_reckon 181 = .ok (.iconst 1, 1) := by decide +kernel
theorem dX10_reckon_182 : decode cX10_reckon 182 = .ok (.goto 4, 3) := by decide +kernel
theorem dX10_reckon_185 : decode cX10_reckon 185 = .ok (.iconst 0, 1) := by decide +kernel
theorem dX10_reckon_186 : decode cX10_reckon 186 = .ok (.istore 5, 2) := by decide +kernel
theorem dX10_reckon_188 : decode cX10_reckon 188 = .ok (.iload 5, 2) := by decide +kernel
theorem dX10_reckon_190 : decode cX10_reckon 190 = .ok (.ifCond .eq 15, 3) := by decide +kernel
theorem dX10_reckon_193 : decode cX10_reckon 193 = .ok (.aload_n 0, 1) := by decide +kernel
theorem dX10_reckon_194 : decode cX10_reckon 194 = .ok (.sipush 1000, 3) := by decide +kernel
theorem dX10_reckon_197 : decode cX10_reckon 197 = .ok (.iload_n 2, 1) := by decide +kernel
theorem dX10_reckon_198 : decode cX10_reckon 198 = .ok (.iadd, 1) := by decide +kernel
theorem dX10_reckon_199 : decode cX10_reckon 199 = .ok (.sipush 1015, 3) := by decide +kernel
theorem dX10_reckon_202 : decode cX10_reckon 202 = .ok (.invokevirtual 136, 3) := by decide +kernel
theorem dX10_reckon_205 : decode cX10_reckon 205 = .ok (.iload 5, 2) := by decide +kernel
theorem dX10_reckon_207 : decode cX10_reckon 207 = .ok (.ireturn, 1) := by decide +kernel
theorem dX10_sign_0 : decode cX10_sign 0 = .ok (.aload_n 0, 1) := by decide +kernel
theorem dX10_sign_1 : decode cX10_sign 1 = .ok (.aload_n 0, 1) := by decide +kernel
theorem dX10_sign_2 : decode cX10_sign 2 = .ok (.iload_n 1, 1) := by decide +kernel
theorem dX10_sign_3 : decode cX10_sign 3 = .ok (.invokevirtual 266, 3) := by decide +kernel
theorem dX10_sign_6 : decode cX10_sign 6 = .ok (.ifCond .eq 7, 3) := by decide +kernel
theorem dX10_sign_9 : decode cX10_sign 9 = .ok (.iconst 1, 1) := by decide +kernel
theorem dX10_sign_10 : decode cX10_sign 10 = .ok (.goto 4, 3) := by decide +kernel
theorem dX10_sign_13 : decode cX10_sign 13 = .ok (.iconst 0, 1) := by decide +kernel
theorem dX10_sign_14 : decode cX10_sign 14 = .ok (.putfield 78, 3) := by decide +kernel
theorem dX10_sign_17 : decode cX10_sign 17 = .ok (.aload_n 0, 1) := by decide +kernel
theorem dX10_sign_18 : decode cX10_sign 18 = .ok (.getfield 78, 3) := by decide +kernel
theorem dX10_sign_21 : decode cX10_sign 21 = .ok (.ifCond .gt 18, 3) := by decide +kernel
theorem dX10_sign_24 : decode cX10_sign 24 = .ok (.aload_n 0, 1) := by decide +kernel
theorem dX10_sign_25 : decode cX10_sign 25 = .ok (.getfield 14, 3) := by decide +kernel
theorem dX10_sign_28 : decode cX10_sign 28 = .ok (.iconst 2, 1) := by decide +kernel
theorem dX10_sign_29 : decode cX10_sign 29 = .ok (.sipush 1000, 3) := by decide +kernel
theorem dX10_sign_32 : decode cX10_sign 32 = .ok (.iload_n 1, 1) := by decide +kernel
theorem dX10_sign_33 : decode cX10_sign 33 = .ok (.iadd, 1) := by decide +kernel
theorem dX10_sign_34 : decode cX10_sign 34 = .ok (.imul, 1) := by decide +kernel
theorem dX10_sign_35 : decode cX10_sign 35 = .ok (.iaload, 1) := by decide +kernel
theorem dX10_sign_36 : decode cX10_sign 36 = .ok (.ifCond .ne 7, 3) := by decide +kernel
theorem dX10_sign_39 : decode cX10_sign 39 = .ok (.iconst 0, 1) := by decide +kernel
theorem dX10_sign_40 : decode cX10_sign 40 = .ok (.goto 23, 3) := by decide +kernel
theorem dX10_sign_43 : decode cX10_sign 43 = .ok (.aload_n 0, 1) := by decide +kernel
theorem dX10_sign_44 : decode cX10_sign 44 = .ok (.getfield 18, 3) := by decide +kernel
theorem dX10_sign_47 : decode cX10_sign 47 = .ok (.iconst 2, 1) := by decide +kernel
theorem dX10_sign_48 : decode cX10_sign 48 = .ok (.sipush 1000, 3) := by decide +kernel
theorem dX10_sign_51 : decode cX10_sign 51 = .ok (.iload_n 1, 1) := by decide +kernel
theorem dX10_sign_52 : decode cX10_sign 52 = .ok (.iadd, 1) := by decide +kernel
theorem dX10_sign_53 : decode cX10_sign 53 = .ok (.imul, 1) := by decide +kernel
theorem dX10_sign_54 : decode cX10_sign 54 = .ok (.baload, 1) := by decide +kernel
theorem dX10_sign_55 : decode cX10_sign 55 = .ok (.ifCond .eq 7, 3) := by decide +kernel
theorem dX10_sign_58 : decode cX10_sign 58 = .ok (.iconst (-1), 1) := by decide +kernel
theorem dX10_sign_59 : decode cX10_sign 59 = .ok (.goto 4, 3) := by decide +kernel
theorem dX10_sign_62 : decode cX10_sign 62 = .ok (.iconst 1, 1) := by decide +kernel
theorem dX10_sign_63 : decode cX10_sign 63 = .ok (.ireturn, 1) := by decide +kernel
theorem dX10_word_0 : decode cX10_word 0 = .ok (.aload_n 0, 1) := by decide +kernel
theorem dX10_word_1 : decode cX10_word 1 = .ok (.aload_n 0, 1) := by decide +kernel
theorem dX10_word_2 : decode cX10_word 2 = .ok (.iload_n 1, 1) := by decide +kernel
theorem dX10_word_3 : decode cX10_word 3 = .ok (.invokevirtual 266, 3) := by decide +kernel
theorem dX10_word_6 : decode cX10_word 6 = .ok (.ifCond .ne 13, 3) := by decide +kernel
theorem dX10_word_9 : decode cX10_word 9 = .ok (.iload_n 3, 1) := by decide +kernel
theorem dX10_word_10 : decode cX10_word 10 = .ok (.ifCond .lt 9, 3) := by decide +kernel
theorem dX10_word_13 : decode cX10_word 13 = .ok (.iload_n 3, 1) := by decide +kernel
theorem dX10_word_14 : decode cX10_word 14 = .ok (.bipush 63, 2) := by decide +kernel
theorem dX10_word_16 : decode cX10_word 16 = .ok (.if_icmp .le 7, 3) := by decide +kernel
theorem dX10_word_19 : decode cX10_word 19 = .ok (.iconst 1, 1) := by decide +kernel
theorem dX10_word_20 : decode cX10_word 20 = .ok (.goto 17, 3) := by decide +kernel
theorem dX10_word_23 : decode cX10_word 23 = .ok (.iload_n 2, 1) := by decide +kernel
theorem dX10_word_24 : decode cX10_word 24 = .ok (.ifCond .eq 12, 3) := by decide +kernel
theorem dX10_word_27 : decode cX10_word 27 = .ok (.iload_n 2, 1) := by decide +kernel
theorem dX10_word_28 : decode cX10_word 28 = .ok (.iconst 1, 1) := by decide +kernel
theorem dX10_word_29 : decode cX10_word 29 = .ok (.if_icmp .eq 7, 3) := by decide +kernel
theorem dX10_word_32 : decode cX10_word 32 = .ok (.iconst 2, 1) := by decide +kernel
theorem dX10_word_33 : decode cX10_word 33 = .ok (.goto 4, 3) := by decide +kernel
theorem dX10_word_36 : decode cX10_word 36 = .ok (.iconst 0, 1) := by decide +kernel
theorem dX10_word_37 : decode cX10_word 37 = .ok (.putfield 78, 3) := by decide +kernel
theorem dX10_word_40 : decode cX10_word 40 = .ok (.aload_n 0, 1) := by decide +kernel
theorem dX10_word_41 : decode cX10_word 41 = .ok (.getfield 78, 3) := by decide +kernel
theorem dX10_word_44 : decode cX10_word 44 = .ok (.ifCond .le 7, 3) := by decide +kernel
theorem dX10_word_47 : decode cX10_word 47 = .ok (.iconst 0, 1) := by decide +kernel
theorem dX10_word_48 : decode cX10_word 48 = .ok (.goto 18, 3) := by decide +kernel
theorem dX10_word_51 : decode cX10_word 51 = .ok (.aload_n 0, 1) := by decide +kernel
theorem dX10_word_52 : decode cX10_word 52 = .ok (.iconst 2, 1) := by decide +kernel
theorem dX10_word_53 : decode cX10_word 53 = .ok (.sipush 1000, 3) := by decide +kernel
theorem dX10_word_56 : decode cX10_word 56 = .ok (.iload_n 1, 1) := by decide +kernel
theorem dX10_word_57 : decode cX10_word 57 = .ok (.iadd, 1) := by decide +kernel
theorem dX10_word_58 : decode cX10_word 58 = .ok (.imul, 1) := by decide +kernel
theorem dX10_word_59 : decode cX10_word 59 = .ok (.iload_n 2, 1) := by decide +kernel
theorem dX10_word_60 : decode cX10_word 60 = .ok (.iadd, 1) := by decide +kernel
theorem dX10_word_61 : decode cX10_word 61 = .ok (.iload_n 3, 1) := by decide +kernel
theorem dX10_word_62 : decode cX10_word 62 = .ok (.invokevirtual 87, 3) := by decide +kernel
theorem dX10_word_65 : decode cX10_word 65 = .ok (.l2i, 1) := by decide +kernel
theorem dX10_word_66 : decode cX10_word 66 = .ok (.ireturn, 1) := by decide +kernel
theorem dX10_put_0 : decode cX10_put 0 = .ok (.aload_n 0, 1) := by decide +kernel
theorem dX10_put_1 : decode cX10_put 1 = .ok (.getfield 278, 3) := by decide +kernel
theorem dX10_put_4 : decode cX10_put 4 = .ok (.sipush 250, 3) := by decide +kernel
theorem dX10_put_7 : decode cX10_put 7 = .ok (.if_icmp .ge 13, 3) := by decide +kernel
theorem dX10_put_10 : decode cX10_put 10 = .ok (.aload_n 0, 1) := by decide +kernel
theorem dX10_put_11 : decode cX10_put 11 = .ok (.getfield 65, 3) := by decide +kernel
theorem dX10_put_14 : decode cX10_put 14 = .ok (.aload_n 0, 1) := by decide +kernel
theorem dX10_put_15 : decode cX10_put 15 = .ok (.getfield 278, 3) := by decide +kernel
theorem dX10_put_18 : decode cX10_put 18 = .ok (.iload_n 1, 1) := by decide +kernel
theorem dX10_put_19 : decode cX10_put 19 = .ok (.iastore, 1) := by decide +kernel
theorem dX10_put_20 : decode cX10_put 20 = .ok (.aload_n 0, 1) := by decide +kernel
theorem dX10_put_21 : decode cX10_put 21 = .ok (.dup, 1) := by decide +kernel
theorem dX10_put_22 : decode cX10_put 22 = .ok (.getfield 278, 3) := by decide +kernel
theorem dX10_put_25 : decode cX10_put 25 = .ok (.iconst 1, 1) := by decide +kernel
theorem dX10_put_26 : decode cX10_put 26 = .ok (.iadd, 1) := by decide +kernel
theorem dX10_put_27 : decode cX10_put 27 = .ok (.putfield 278, 3) := by decide +kernel
theorem dX10_put_30 : decode cX10_put 30 = .ok (.return_, 1) := by decide +kernel
theorem dX10_putSize_0 : decode cX10_putSize 0 = .ok (.aload_n 0, 1) := by decide +kernel
theorem dX10_putSize_1 : decode cX10_putSize 1 = .ok (.sipush 2062, 3) := by decide +kernel
theorem dX10_putSize_4 : decode cX10_putSize 4 = .ok (.iload_n 1, 1) := by decide +kernel
theorem dX10_putSize_5 : decode cX10_putSize 5 = .ok (.invokevirtual 92, 3) := by decide +kernel
theorem dX10_putSize_8 : decode cX10_putSize 8 = .ok (.iconst 0, 1) := by decide +kernel
theorem dX10_putSize_9 : decode cX10_putSize 9 = .ok (.istore_n 2, 1) := by decide +kernel
theorem dX10_putSize_10 : decode cX10_putSize 10 = .ok (.aload_n 0, 1) := by decide +kernel
theorem dX10_putSize_11 : decode cX10_putSize 11 = .ok (.getfield 14, 3) := by decide +kernel
theorem dX10_putSize_14 : decode cX10_putSize 14 = .ok (.sipush 2062, 3) := by decide +kernel
theorem dX10_putSize_17 : decode cX10_putSize 17 = .ok (.iaload, 1) := by decide +kernel
theorem dX10_putSize_18 : decode cX10_putSize 18 = .ok (.ifCond .gt 7, 3) := by decide +kernel
theorem dX10_putSize_21 : decode cX10_putSize 21 = .ok (.iload_n 2, 1) := by decide +kernel
theorem dX10_putSize_22 : decode cX10_putSize 22 = .ok (.ifCond .ne 100, 3) := by decide +kernel
theorem dX10_putSize_25 : decode cX10_putSize 25 = .ok (.lconst 0, 1) := by decide +kernel
theorem dX10_putSize_26 : decode cX10_putSize 26 = .ok (.lstore_n 3, 1) := by decide +kernel
theorem dX10_putSize_27 : decode cX10_putSize 27 = .ok (.aload_n 0, 1) := by decide +kernel
theorem dX10_putSize_28 : decode cX10_putSize 28 = .ok (.getfield 14, 3) := by decide +kernel
theorem dX10_putSize_31 : decode cX10_putSize 31 = .ok (.sipush 2062, 3) := by decide +kernel
theorem dX10_putSize_34 : decode cX10_putSize 34 = .ok (.iaload, 1) := by decide +kernel
theorem dX10_putSize_35 : decode cX10_putSize 35 = .ok (.iconst 1, 1) := by decide +kernel
theorem dX10_putSize_36 : decode cX10_putSize 36 = .ok (.isub, 1) := by decide +kernel
theorem dX10_putSize_37 : decode cX10_putSize 37 = .ok (.istore 5, 2) := by decide +kernel
theorem dX10_putSize_39 : decode cX10_putSize 39 = .ok (.iload 5, 2) := by decide +kernel
theorem dX10_putSize_41 : decode cX10_putSize 41 = .ok (.ifCond .lt 51, 3) := by decide +kernel
theorem dX10_putSize_44 : decode cX10_putSize 44 = .ok (.lload_n 3, 1) := by decide +kernel
theorem dX10_putSize_45 : decode cX10_putSize 45 = .ok (.bipush 32, 2) := by decide +kernel
theorem dX10_putSize_47 : decode cX10_putSize 47 = .ok (.lshl, 1) := by decide +kernel
theorem dX10_putSize_48 : decode cX10_putSize 48 = .ok (.aload_n 0, 1) := by decide +kernel
theorem dX10_putSize_49 : decode cX10_putSize 49 = .ok (.getfield 8, 3) := by decide +kernel
theorem dX10_putSize_52 : decode cX10_putSize 52 = .ok (.ldc_w 281, 3) := by decide +kernel
theorem dX10_putSize_55 : decode cX10_putSize 55 = .ok (.iload 5, 2) := by decide +kernel
theorem dX10_putSize_57 : decode cX10_putSize 57 = .ok (.iadd, 1) := by decide +kernel
theorem dX10_putSize_58 : decode cX10_putSize 58 = .ok (.laload, 1) := by decide +kernel
theorem dX10_putSize_59 : decode cX10_putSize 59 = .ok (.lor, 1) := by decide +kernel
theorem dX10_putSize_60 : decode cX10_putSize 60 = .ok (.lstore 6, 2) := by decide +kernel
theorem dX10_putSize_62 : decode cX10_putSize 62 = .ok (.aload_n 0, 1) := by decide +kernel
theorem dX10_putSize_63 : decode cX10_putSize 63 = .ok (.getfield 8, 3) := by decide +kernel
theorem dX10_putSize_66 : decode cX10_putSize 66 = .ok (.ldc_w 281, 3) := by decide +kernel
theorem dX10_putSize_69 : decode cX10_putSize 69 = .ok (.iload 5, 2) := by decide +kernel
theorem dX10_putSize_71 : decode cX10_putSize 71 = .ok (.iadd, 1) := by decide +kernel
theorem dX10_putSize_72 : decode cX10_putSize 72 = .ok (.lload 6, 2) := by decide +kernel
theorem dX10_putSize_74 : decode cX10_putSize 74 = .ok (.ldc2_w 282, 3) := by decide +kernel
theorem dX10_putSize_77 : decode cX10_putSize 77 = .ok (.ldiv, 1) := by decide +kernel
theorem dX10_putSize_78 : decode cX10_putSize 78 = .ok (.lastore, 1) := by decide +kernel
theorem dX10_putSize_79 : decode cX10_putSize 79 = .ok (.lload 6, 2) := by decide +kernel
theorem dX10_putSize_81 : decode cX10_putSize 81 = .ok (.ldc2_w 282, 3) := by decide +kernel
theorem dX10_putSize_84 : decode cX10_putSize 84 = .ok (.lrem, 1) := by decide +kernel
theorem dX10_putSize_85 : decode cX10_putSize 85 = .ok (.lstore_n 3, 1) := by decide +kernel
theorem dX10_putSize_86 : decode cX10_putSize 86 = .ok (.iinc 5 (-1), 3) := by decide +kernel
theorem dX10_putSize_89 : decode cX10_putSize 89 = .ok (.goto (-50), 3) := by decide +kernel
theorem dX10_putSize_92 : decode cX10_putSize 92 = .ok (.aload_n 0, 1) := by decide +kernel
theorem dX10_putSize_93 : decode cX10_putSize 93 = .ok (.getfield 18, 3) := by decide +kernel
theorem dX10_putSize_96 : decode cX10_putSize 96 = .ok (.sipush 2062, 3) := by decide +kernel
theorem dX10_putSize_99 : decode cX10_putSize 99 = .ok (.iconst 0, 1) := by decide +kernel
theorem dX10_putSize_100 : decode cX10_putSize 100 = .ok (.bastore, 1) := by decide +kernel
theorem dX10_putSize_101 : decode cX10_putSize 101 = .ok (.aload_n 0, 1) := by decide +kernel
theorem dX10_putSize_102 : decode cX10_putSize 102 = .ok (.sipush 2062, 3) := by decide +kernel
theorem dX10_putSize_105 : decode cX10_putSize 105 = .ok (.invokevirtual 83, 3) := by decide +kernel
theorem dX10_putSize_108 : decode cX10_putSize 108 = .ok (.aload_n 0, 1) := by decide +kernel
theorem dX10_putSize_109 : decode cX10_putSize 109 = .ok (.getfield 68, 3) := by decide +kernel
theorem dX10_putSize_112 : decode cX10_putSize 112 = .ok (.iload_n 2, 1) := by decide +kernel
theorem dX10_putSize_113 : decode cX10_putSize 113 = .ok (.lload_n 3, 1) := by decide +kernel
theorem dX10_putSize_114 : decode cX10_putSize 114 = .ok (.l2i, 1) := by decide +kernel
theorem dX10_putSize_115 : decode cX10_putSize 115 = .ok (.iastore, 1) := by decide +kernel
theorem dX10_putSize_116 : decode cX10_putSize 116 = .ok (.iinc 2 1, 3) := by decide +kernel
theorem dX10_putSize_119 : decode cX10_putSize 119 = .ok (.goto (-109), 3) := by decide +kernel
theorem dX10_putSize_122 : decode cX10_putSize 122 = .ok (.iload_n 2, 1) := by decide +kernel
theorem dX10_putSize_123 : decode cX10_putSize 123 = .ok (.iconst 1, 1) := by decide +kernel
theorem dX10_putSize_124 : decode cX10_putSize 124 = .ok (.isub, 1) := by decide +kernel
theorem dX10_putSize_125 : decode cX10_putSize 125 = .ok (.istore_n 3, 1) := by decide +kernel
theorem dX10_putSize_126 : decode cX10_putSize 126 = .ok (.iload_n 3, 1) := by decide +kernel
theorem dX10_putSize_127 : decode cX10_putSize 127 = .ok (.ifCond .lt 22, 3) := by decide +kernel
theorem dX10_putSize_130 : decode cX10_putSize 130 = .ok (.aload_n 0, 1) := by decide +kernel
theorem dX10_putSize_131 : decode cX10_putSize 131 = .ok (.bipush 48, 2) := by decide +kernel
theorem dX10_putSize_133 : decode cX10_putSize 133 = .ok (.aload_n 0, 1) := by decide +kernel
theorem dX10_putSize_134 : decode cX10_putSize 134 = .ok (.getfield 68, 3) := by decide +kernel
theorem dX10_putSize_137 : decode cX10_putSize 137 = .ok (.iload_n 3, 1) := by decide +kernel
theorem dX10_putSize_138 : decode cX10_putSize 138 = .ok (.iaload, 1) := by decide +kernel
theorem dX10_putSize_139 : decode cX10_putSize 139 = .ok (.iadd, 1) := by decide +kernel
theorem dX10_putSize_140 : decode cX10_putSize 140 = .ok (.invokevirtual 284, 3) := by decide +kernel
theorem dX10_putSize_143 : decode cX10_putSize 143 = .ok (.iinc 3 (-1), 3) := by decide +kernel
theorem dX10_putSize_146 : decode cX10_putSize 146 = .ok (.goto (-20), 3) := by decide +kernel
theorem dX10_putSize_149 : decode cX10_putSize 149 = .ok (.return_, 1) := by decide +kernel
theorem dX10_putPart_0 : decode cX10_putPart 0 = .ok (.aload_n 0, 1) := by decide +kernel
theorem dX10_putPart_1 : decode cX10_putPart 1 = .ok (.getfield 29, 3) := by decide +kernel
theorem dX10_putPart_4 : decode cX10_putPart 4 = .ok (.iload_n 1, 1) := by decide +kernel
theorem dX10_putPart_5 : decode cX10_putPart 5 = .ok (.iaload, 1) := by decide +kernel
theorem dX10_putPart_6 : decode cX10_putPart 6 = .ok (.ifCond .ne 58, 3) := by decide +kernel
theorem dX10_putPart_9 : decode cX10_putPart 9 = .ok (.aload_n 0, 1) := by decide +kernel
theorem dX10_putPart_10 : decode cX10_putPart 10 = .ok (.getfield 18, 3) := by decide +kernel
theorem dX10_putPart_13 : decode cX10_putPart 13 = .ok (.iconst 2, 1) := by decide +kernel
theorem dX10_putPart_14 : decode cX10_putPart 14 = .ok (.iload_n 1, 1) := by decide +kernel
theorem dX10_putPart_15 : decode cX10_putPart 15 = .ok (.imul, 1) := by decide +kernel
theorem dX10_putPart_16 : decode cX10_putPart 16 = .ok (.baload, 1) := by decide +kernel
theorem dX10_putPart_17 : decode cX10_putPart 17 = .ok (.ifCond .eq 9, 3) := by decide +kernel
theorem dX10_putPart_20 : decode cX10_putPart 20 = .ok (.aload_n 0, 1) := by decide +kernel
theorem dX10_putPart_21 : decode cX10_putPart 21 = .ok (.bipush 45, 2) := by decide +kernel
theorem dX10_putPart_23 : decode cX10_putPart 23 = .ok (.invokevirtual 284, 3) := by decide +kernel
theorem dX10_putPart_26 : decode cX10_putPart 26 = .ok (.aload_n 0, 1) := by decide +kernel
theorem dX10_putPart_27 : decode cX10_putPart 27 = .ok (.iconst 2, 1) := by decide +kernel
theorem dX10_putPart_28 : decode cX10_putPart 28 = .ok (.iload_n 1, 1) := by decide +kernel
theorem dX10_putPart_29 : decode cX10_putPart 29 = .ok (.imul, 1) := by decide +kernel
theorem dX10_putPart_30 : decode cX10_putPart 30 = .ok (.invokevirtual 287, 3) := by decide +kernel
theorem dX10_putPart_33 : decode cX10_putPart 33 = .ok (.aload_n 0, 1) := by decide +kernel
theorem dX10_putPart_34 : decode cX10_putPart 34 = .ok (.iconst 2, 1) := by decide +kernel
theorem dX10_putPart_35 : decode cX10_putPart 35 = .ok (.iload_n 1, 1) := by decide +kernel
theorem dX10_putPart_36 : decode cX10_putPart 36 = .ok (.imul, 1) := by decide +kernel
theorem dX10_putPart_37 : decode cX10_putPart 37 = .ok (.iconst 1, 1) := by decide +kernel
theorem dX10_putPart_38 : decode cX10_putPart 38 = .ok (.iadd, 1) := by decide +kernel
theorem dX10_putPart_39 : decode cX10_putPart 39 = .ok (.invokevirtual 117, 3) := by decide +kernel
theorem dX10_putPart_42 : decode cX10_putPart 42 = .ok (.iconst 1, 1) := by decide +kernel
theorem dX10_putPart_43 : decode cX10_putPart 43 = .ok (.if_icmp .le 34, 3) := by decide +kernel
theorem dX10_putPart_46 : decode cX10_putPart 46 = .ok (.aload_n 0, 1) := by decide +kernel
theorem dX10_putPart_47 : decode cX10_putPart 47 = .ok (.bipush 47, 2) := by decide +kernel
theorem dX10_putPart_49 : decode cX10_putPart 49 = .ok (.invokevirtual 284, 3) := by decide +kernel
theorem dX10_putPart_52 : decode cX10_putPart 52 = .ok (.aload_n 0, 1) := by decide +kernel
theorem dX10_putPart_53 : decode cX10_putPart 53 = .ok (.iconst 2, 1) := by decide +kernel
theorem dX10_putPart_54 : decode cX10_putPart 54 = .ok (.iload_n 1, 1) := by decide +kernel
theorem dX10_putPart_55 : decode cX10_putPart 55 = .ok (.imul, 1) := by decide +kernel
theorem dX10_putPart_56 : decode cX10_putPart 56 = .ok (.iconst 1, 1) := by decide +kernel
theorem dX10_putPart_57 : decode cX10_putPart 57 = .ok (.iadd, 1) := by decide +kernel
theorem dX10_putPart_58 : decode cX10_putPart 58 = .ok (.invokevirtual 287, 3) := by decide +kernel
theorem dX10_putPart_61 : decode cX10_putPart 61 = .ok (.goto 16, 3) := by decide +kernel
theorem dX10_putPart_64 : decode cX10_putPart 64 = .ok (.aload_n 0, 1) := by decide +kernel
theorem dX10_putPart_65 : decode cX10_putPart 65 = .ok (.bipush 97, 2) := by decide +kernel
theorem dX10_putPart_67 : decode cX10_putPart 67 = .ok (.aload_n 0, 1) := by decide +kernel
theorem dX10_putPart_68 : decode cX10_putPart 68 = .ok (.getfield 32, 3) := by decide +kernel
theorem dX10_putPart_71 : decode cX10_putPart 71 = .ok (.iload_n 1, 1) := by decide +kernel
theorem dX10_putPart_72 : decode cX10_putPart 72 = .ok (.iaload, 1) := by decide +kernel
theorem dX10_putPart_73 : decode cX10_putPart 73 = .ok (.iadd, 1) := by decide +kernel
theorem dX10_putPart_74 : decode cX10_putPart 74 = .ok (.invokevirtual 284, 3) := by decide +kernel
theorem dX10_putPart_77 : decode cX10_putPart 77 = .ok (.return_, 1) := by decide +kernel
theorem dX10_write_0 : decode cX10_write 0 = .ok (.aload_n 0, 1) := by decide +kernel
theorem dX10_write_1 : decode cX10_write 1 = .ok (.iload_n 1, 1) := by decide +kernel
theorem dX10_write_2 : decode cX10_write 2 = .ok (.invokevirtual 263, 3) := by decide +kernel
theorem dX10_write_5 : decode cX10_write 5 = .ok (.ifCond .eq 5, 3) := by decide +kernel
theorem dX10_write_8 : decode cX10_write 8 = .ok (.iconst 0, 1) := by decide +kernel
theorem dX10_write_9 : decode cX10_write 9 = .ok (.ireturn, 1) := by decide +kernel
theorem dX10_write_10 : decode cX10_write 10 = .ok (.iconst 1, 1) := by decide +kernel
theorem dX10_write_11 : decode cX10_write 11 = .ok (.istore_n 2, 1) := by decide +kernel
theorem dX10_write_12 : decode cX10_write 12 = .ok (.aload_n 0, 1) := by decide +kernel
theorem dX10_write_13 : decode cX10_write 13 = .ok (.getfield 71, 3) := by decide +kernel
theorem dX10_write_16 : decode cX10_write 16 = .ok (.iconst 0, 1) := by decide +kernel
theorem dX10_write_17 : decode cX10_write 17 = .ok (.aload_n 0, 1) := by decide +kernel
theorem dX10_write_18 : decode cX10_write 18 = .ok (.getfield 47, 3) := by decide +kernel
theorem dX10_write_21 : decode cX10_write 21 = .ok (.iload_n 1, 1) := by decide +kernel
theorem dX10_write_22 : decode cX10_write 22 = .ok (.iaload, 1) := by decide +kernel
theorem dX10_write_23 : decode cX10_write 23 = .ok (.iastore, 1) := by decide +kernel
theorem dX10_write_24 : decode cX10_write 24 = .ok (.aload_n 0, 1) := by decide +kernel
theorem dX10_write_25 : decode cX10_write 25 = .ok (.iconst 0, 1) := by decide +kernel
theorem dX10_write_26 : decode cX10_write 26 = .ok (.putfield 278, 3) := by decide +kernel
theorem dX10_write_29 : decode cX10_write 29 = .ok (.iload_n 2, 1) := by decide +kernel
theorem dX10_write_30 : decode cX10_write 30 = .ok (.ifCond .le 187, 3) := by decide +kernel
theorem dX10_write_33 : decode cX10_write 33 = .ok (.aload_n 0, 1) := by decide +kernel
theorem dX10_write_34 : decode cX10_write 34 = .ok (.getfield 278, 3) := by decide +kernel
theorem dX10_write_37 : decode cX10_write 37 = .ok (.sipush 250, 3) := by decide +kernel
theorem dX10_write_40 : decode cX10_write 40 = .ok (.if_icmp .gt 177, 3) := by decide +kernel
theorem dX10_write_43 : decode cX10_write 43 = .ok (.iinc 2 (-1), 3) := by decide +kernel
theorem dX10_write_46 : decode cX10_write 46 = .ok (.aload_n 0, 1) := by decide +kernel
theorem dX10_write_47 : decode cX10_write 47 = .ok (.getfield 71, 3) := by decide +kernel
theorem dX10_write_50 : decode cX10_write 50 = .ok (.iload_n 2, 1) := by decide +kernel
theorem dX10_write_51 : decode cX10_write 51 = .ok (.iaload, 1) := by decide +kernel
theorem dX10_write_52 : decode cX10_write 52 = .ok (.istore_n 3, 1) := by decide +kernel
theorem dX10_write_53 : decode cX10_write 53 = .ok (.iload_n 3, 1) := by decide +kernel
theorem dX10_write_54 : decode cX10_write 54 = .ok (.ifCond .ge 13, 3) := by decide +kernel
theorem dX10_write_57 : decode cX10_write 57 = .ok (.aload_n 0, 1) := by decide +kernel
theorem dX10_write_58 : decode cX10_write 58 = .ok (.iconst (-1), 1) := by decide +kernel
theorem dX10_write_59 : decode cX10_write 59 = .ok (.iload_n 3, 1) := by decide +kernel
theorem dX10_write_60 : decode cX10_write 60 = .ok (.isub, 1) := by decide +kernel
theorem dX10_write_61 : decode cX10_write 61 = .ok (.invokevirtual 284, 3) := by decide +kernel
theorem dX10_write_64 : decode cX10_write 64 = .ok (.goto 150, 3) := by decide +kernel
theorem dX10_write_67 : decode cX10_write 67 = .ok (.aload_n 0, 1) := by decide +kernel
theorem dX10_write_68 : decode cX10_write 68 = .ok (.getfield 29, 3) := by decide +kernel
theorem dX10_write_71 : decode cX10_write 71 = .ok (.iload_n 3, 1) := by decide +kernel
theorem dX10_write_72 : decode cX10_write 72 = .ok (.iaload, 1) := by decide +kernel
theorem dX10_write_73 : decode cX10_write 73 = .ok (.iconst 2, 1) := by decide +kernel
theorem dX10_write_74 : decode cX10_write 74 = .ok (.if_icmp .ge 11, 3) := by decide +kernel
theorem dX10_write_77 : decode cX10_write 77 = .ok (.aload_n 0, 1) := by decide +kernel
theorem dX10_write_78 : decode cX10_write 78 = .ok (.iload_n 3, 1) := by decide +kernel
theorem dX10_write_79 : decode cX10_write 79 = .ok (.invokevirtual 290, 3) := by decide +kernel
theorem dX10_write_82 : decode cX10_write 82 = .ok (.goto 132, 3) := by decide +kernel
theorem dX10_write_85 : decode cX10_write 85 = .ok (.aload_n 0, 1) := by decide +kernel
theorem dX10_write_86 : decode cX10_write 86 = .ok (.getfield 29, 3) := by decide +kernel
theorem dX10_write_89 : decode cX10_write 89 = .ok (.iload_n 3, 1) := by decide +kernel
theorem dX10_write_90 : decode cX10_write 90 = .ok (.iaload, 1) := by decide +kernel
theorem dX10_write_91 : decode cX10_write 91 = .ok (.iconst 4, 1) := by decide +kernel
theorem dX10_write_92 : decode cX10_write 92 = .ok (.if_icmp .ne 48, 3) := by decide +kernel
theorem dX10_write_95 : decode cX10_write 95 = .ok (.aload_n 0, 1) := by decide +kernel
theorem dX10_write_96 : decode cX10_write 96 = .ok (.getfield 71, 3) := by decide +kernel
theorem dX10_write_99 : decode cX10_write 99 = .ok (.iload_n 2, 1) := by decide +kernel
theorem dX10_write_100 : decode cX10_write 100 = .ok (.bipush (-49), 2) := by decide +kernel
theorem dX10_write_102 : decode cX10_write 102 = .ok (.aload_n 0, 1) := by decide +kernel
theorem dX10_write_103 : decode cX10_write 103 = .ok (.getfield 35, 3) := by decide +kernel
theorem dX10_write_106 : decode cX10_write 106 = .ok (.iload_n 3, 1) := by decide +kernel
theorem dX10_write_107 : decode cX10_write 107 = .ok (.iaload, 1) := by decide +kernel
theorem dX10_write_108 : decode cX10_write 108 = .ok (.isub, 1) := by decide +kernel
theorem dX10_write_109 : decode cX10_write 109 = .ok (.iastore, 1) := by decide +kernel
theorem dX10_write_110 : decode cX10_write 110 = .ok (.aload_n 0, 1) := by decide +kernel
theorem dX10_write_111 : decode cX10_write 111 = .ok (.getfield 71, 3) := by decide +kernel
theorem dX10_write_114 : decode cX10_write 114 = .ok (.iload_n 2, 1) := by decide +kernel
theorem dX10_write_115 : decode cX10_write 115 = .ok (.iconst 1, 1) := by decide +kernel
theorem dX10_write_116 : decode cX10_write 116 = .ok (.iadd, 1) := by decide +kernel
theorem dX10_write_117 : decode cX10_write 117 = .ok (.bipush (-95), 2) := by decide +kernel
theorem dX10_write_119 : decode cX10_write 119 = .ok (.iastore, 1) := by decide +kernel
theorem dX10_write_120 : decode cX10_write 120 = .ok (.aload_n 0, 1) := by decide +kernel
theorem dX10_write_121 : decode cX10_write 121 = .ok (.getfield 71, 3) := by decide +kernel
theorem dX10_write_124 : decode cX10_write 124 = .ok (.iload_n 2, 1) := by decide +kernel
theorem dX10_write_125 : decode cX10_write 125 = .ok (.iconst 2, 1) := by decide +kernel
theorem dX10_write_126 : decode cX10_write 126 = .ok (.iadd, 1) := by decide +kernel
theorem dX10_write_127 : decode cX10_write 127 = .ok (.aload_n 0, 1) := by decide +kernel
theorem dX10_write_128 : decode cX10_write 128 = .ok (.getfield 32, 3) := by decide +kernel
theorem dX10_write_131 : decode cX10_write 131 = .ok (.iload_n 3, 1) := by decide +kernel
theorem dX10_write_132 : decode cX10_write 132 = .ok (.iaload, 1) := by decide +kernel
theorem dX10_write_133 : decode cX10_write 133 = .ok (.iastore, 1) := by decide +kernel
theorem dX10_write_134 : decode cX10_write 134 = .ok (.iinc 2 3, 3) := by decide +kernel
theorem dX10_write_137 : decode cX10_write 137 = .ok (.goto 77, 3) := by decide +kernel
theorem dX10_write_140 : decode cX10_write 140 = .ok (.aload_n 0, 1) := by decide +kernel
theorem dX10_write_141 : decode cX10_write 141 = .ok (.getfield 71, 3) := by decide +kernel
theorem dX10_write_144 : decode cX10_write 144 = .ok (.iload_n 2, 1) := by decide +kernel
theorem dX10_write_145 : decode cX10_write 145 = .ok (.bipush (-42), 2) := by decide +kernel
theorem dX10_write_147 : decode cX10_write 147 = .ok (.iastore, 1) := by decide +kernel
theorem dX10_write_148 : decode cX10_write 148 = .ok (.aload_n 0, 1) := by decide +kernel
theorem dX10_write_149 : decode cX10_write 149 = .ok (.getfield 71, 3) := by decide +kernel
theorem dX10_write_152 : decode cX10_write 152 = .ok (.iload_n 2, 1) := by decide +kernel
theorem dX10_write_153 : decode cX10_write 153 = .ok (.iconst 1, 1) := by decide +kernel
theorem dX10_write_154 : decode cX10_write 154 = .ok (.iadd, 1) := by decide +kernel
theorem dX10_write_155 : decode cX10_write 155 = .ok (.aload_n 0, 1) := by decide +kernel
theorem dX10_write_156 : decode cX10_write 156 = .ok (.getfield 35, 3) := by decide +kernel
theorem dX10_write_159 : decode cX10_write 159 = .ok (.iload_n 3, 1) := by decide +kernel
theorem dX10_write_160 : decode cX10_write 160 = .ok (.iaload, 1) := by decide +kernel
theorem dX10_write_161 : decode cX10_write 161 = .ok (.iastore, 1) := by decide +kernel
theorem dX10_write_162 : decode cX10_write 162 = .ok (.aload_n 0, 1) := by decide +kernel
theorem dX10_write_163 : decode cX10_write 163 = .ok (.getfield 71, 3) := by decide +kernel
theorem dX10_write_166 : decode cX10_write 166 = .ok (.iload_n 2, 1) := by decide +kernel
theorem dX10_write_167 : decode cX10_write 167 = .ok (.iconst 2, 1) := by decide +kernel
theorem dX10_write_168 : decode cX10_write 168 = .ok (.iadd, 1) := by decide +kernel
theorem dX10_write_169 : decode cX10_write 169 = .ok (.aload_n 0, 1) := by decide +kernel
theorem dX10_write_170 : decode cX10_write 170 = .ok (.getfield 29, 3) := by decide +kernel
theorem dX10_write_173 : decode cX10_write 173 = .ok (.iload_n 3, 1) := by decide +kernel
theorem dX10_write_174 : decode cX10_write 174 = .ok (.iaload, 1) := by decide +kernel
theorem dX10_write_175 : decode cX10_write 175 = .ok (.iconst 2, 1) := by decide +kernel
theorem dX10_write_176 : decode cX10_write 176 = .ok (.if_icmp .ne 8, 3) := by decide +kernel
theorem dX10_write_179 : decode cX10_write 179 = .ok (.bipush (-44), 2) := by decide +kernel
theorem dX10_write_181 : decode cX10_write 181 = .ok (.goto 5, 3) := by decide +kernel
theorem dX10_write_184 : decode cX10_write 184 = .ok (.bipush (-43), 2) := by decide +kernel
theorem dX10_write_186 : decode cX10_write 186 = .ok (.iastore, 1) := by decide +kernel
theorem dX10_write_187 : decode cX10_write 187 = .ok (.aload_n 0, 1) := by decide +kernel
theorem dX10_write_188 : decode cX10_write 188 = .ok (.getfield 71, 3) := by decide +kernel
theorem dX10_write_191 : decode cX10_write 191 = .ok (.iload_n 2, 1) := by decide +kernel
theorem dX10_write_192 : decode cX10_write 192 = .ok (.iconst 3, 1) := by decide +kernel
theorem dX10_write_193 : decode cX10_write 193 = .ok (.iadd, 1) := by decide +kernel
theorem dX10_write_194 : decode cX10_write 194 = .ok (.aload_n 0, 1) := by decide +kernel
theorem dX10_write_195 : decode cX10_write 195 = .ok (.getfield 32, 3) := by decide +kernel
theorem dX10_write_198 : decode cX10_write 198 = .ok (.iload_n 3, 1) := by decide +kernel
theorem dX10_write_199 : decode cX10_write 199 = .ok (.iaload, 1) := by decide +kernel
theorem dX10_write_200 : decode cX10_write 200 = .ok (.iastore, 1) := by decide +kernel
theorem dX10_write_201 : decode cX10_write 201 = .ok (.aload_n 0, 1) := by decide +kernel
theorem dX10_write_202 : decode cX10_write 202 = .ok (.getfield 71, 3) := by decide +kernel
theorem dX10_write_205 : decode cX10_write 205 = .ok (.iload_n 2, 1) := by decide +kernel
theorem dX10_write_206 : decode cX10_write 206 = .ok (.iconst 4, 1) := by decide +kernel
theorem dX10_write_207 : decode cX10_write 207 = .ok (.iadd, 1) := by decide +kernel
theorem dX10_write_208 : decode cX10_write 208 = .ok (.bipush (-41), 2) := by decide +kernel
theorem dX10_write_210 : decode cX10_write 210 = .ok (.iastore, 1) := by decide +kernel
theorem dX10_write_211 : decode cX10_write 211 = .ok (.iinc 2 5, 3) := by decide +kernel
theorem dX10_write_214 : decode cX10_write 214 = .ok (.goto (-185), 3) := by decide +kernel
theorem dX10_write_217 : decode cX10_write 217 = .ok (.aload_n 0, 1) := by decide +kernel
theorem dX10_write_218 : decode cX10_write 218 = .ok (.getfield 278, 3) := by decide +kernel
theorem dX10_write_221 : decode cX10_write 221 = .ok (.sipush 250, 3) := by decide +kernel
theorem dX10_write_224 : decode cX10_write 224 = .ok (.if_icmp .le 6, 3) := by decide +kernel
theorem dX10_write_227 : decode cX10_write 227 = .ok (.bipush (-3), 2) := by decide +kernel
theorem dX10_write_229 : decode cX10_write 229 = .ok (.ireturn, 1) := by decide +kernel
theorem dX10_write_230 : decode cX10_write 230 = .ok (.iconst 0, 1) := by decide +kernel
theorem dX10_write_231 : decode cX10_write 231 = .ok (.istore_n 3, 1) := by decide +kernel
theorem dX10_write_232 : decode cX10_write 232 = .ok (.iload_n 3, 1) := by decide +kernel
theorem dX10_write_233 : decode cX10_write 233 = .ok (.aload_n 0, 1) := by decide +kernel
theorem dX10_write_234 : decode cX10_write 234 = .ok (.getfield 278, 3) := by decide +kernel
theorem dX10_write_237 : decode cX10_write 237 = .ok (.if_icmp .ge 21, 3) := by decide +kernel
theorem dX10_write_240 : decode cX10_write 240 = .ok (.aload_n 0, 1) := by decide +kernel
theorem dX10_write_241 : decode cX10_write 241 = .ok (.getfield 62, 3) := by decide +kernel
theorem dX10_write_244 : decode cX10_write 244 = .ok (.iload_n 3, 1) := by decide +kernel
theorem dX10_write_245 : decode cX10_write 245 = .ok (.aload_n 0, 1) := by decide +kernel
theorem dX10_write_246 : decode cX10_write 246 = .ok (.getfield 65, 3) := by decide +kernel
theorem dX10_write_249 : decode cX10_write 249 = .ok (.iload_n 3, 1) := by decide +kernel
theorem dX10_write_250 : decode cX10_write 250 = .ok (.iaload, 1) := by decide +kernel
theorem dX10_write_251 : decode cX10_write 251 = .ok (.iastore, 1) := by decide +kernel
theorem dX10_write_252 : decode cX10_write 252 = .ok (.iinc 3 1, 3) := by decide +kernel
theorem dX10_write_255 : decode cX10_write 255 = .ok (.goto (-23), 3) := by decide +kernel
theorem dX10_write_258 : decode cX10_write 258 = .ok (.aload_n 0, 1) := by decide +kernel
theorem dX10_write_259 : decode cX10_write 259 = .ok (.aload_n 0, 1) := by decide +kernel
theorem dX10_write_260 : decode cX10_write 260 = .ok (.getfield 278, 3) := by decide +kernel
theorem dX10_write_263 : decode cX10_write 263 = .ok (.putfield 293, 3) := by decide +kernel
theorem dX10_write_266 : decode cX10_write 266 = .ok (.aload_n 0, 1) := by decide +kernel
theorem dX10_write_267 : decode cX10_write 267 = .ok (.getfield 293, 3) := by decide +kernel
theorem dX10_write_270 : decode cX10_write 270 = .ok (.ireturn, 1) := by decide +kernel
theorem dX10_written_0 : decode cX10_written 0 = .ok (.aload_n 0, 1) := by decide +kernel
theorem dX10_written_1 : decode cX10_written 1 = .ok (.iload_n 1, 1) := by decide +kernel
theorem dX10_written_2 : decode cX10_written 2 = .ok (.ifCond .lt 11, 3) := by decide +kernel
theorem dX10_written_5 : decode cX10_written 5 = .ok (.iload_n 1, 1) := by decide +kernel
theorem dX10_written_6 : decode cX10_written 6 = .ok (.aload_n 0, 1) := by decide +kernel
theorem dX10_written_7 : decode cX10_written 7 = .ok (.getfield 293, 3) := by decide +kernel
theorem dX10_written_10 : decode cX10_written 10 = .ok (.if_icmp .lt 7, 3) := by decide +kernel
theorem dX10_written_13 : decode cX10_written 13 = .ok (.iconst 1, 1) := by decide +kernel
theorem dX10_written_14 : decode cX10_written 14 = .ok (.goto 4, 3) := by decide +kernel
theorem dX10_written_17 : decode cX10_written 17 = .ok (.iconst 0, 1) := by decide +kernel
theorem dX10_written_18 : decode cX10_written 18 = .ok (.putfield 78, 3) := by decide +kernel
theorem dX10_written_21 : decode cX10_written 21 = .ok (.aload_n 0, 1) := by decide +kernel
theorem dX10_written_22 : decode cX10_written 22 = .ok (.getfield 78, 3) := by decide +kernel
theorem dX10_written_25 : decode cX10_written 25 = .ok (.ifCond .le 7, 3) := by decide +kernel
theorem dX10_written_28 : decode cX10_written 28 = .ok (.iconst 0, 1) := by decide +kernel
theorem dX10_written_29 : decode cX10_written 29 = .ok (.goto 9, 3) := by decide +kernel
theorem dX10_written_32 : decode cX10_written 32 = .ok (.aload_n 0, 1) := by decide +kernel
theorem dX10_written_33 : decode cX10_written 33 = .ok (.getfield 62, 3) := by decide +kernel
theorem dX10_written_36 : decode cX10_written 36 = .ok (.iload_n 1, 1) := by decide +kernel
theorem dX10_written_37 : decode cX10_written 37 = .ok (.iaload, 1) := by decide +kernel
theorem dX10_written_38 : decode cX10_written 38 = .ok (.ireturn, 1) := by decide +kernel
