theorem dX10_init_0 : decode cX10_init 0 = .ok (.aload_n 0, 1) := by decide +kernel
theorem dX10_init_1 : decode cX10_init 1 = .ok (.invokespecial 1, 3) := by decide +kernel
theorem dX10_init_4 : decode cX10_init 4 = .ok (.aload_n 0, 1) := by decide +kernel
theorem dX10_init_5 : decode cX10_init 5 = .ok (.ldc 7, 2) := by decide +kernel
theorem dX10_init_7 : decode cX10_init 7 = .ok (.newarray .long, 2) := by decide +kernel
theorem dX10_init_9 : decode cX10_init 9 = .ok (.putfield 8, 3) := by decide +kernel
theorem dX10_init_12 : decode cX10_init 12 = .ok (.aload_n 0, 1) := by decide +kernel
theorem dX10_init_13 : decode cX10_init 13 = .ok (.sipush 2068, 3) := by decide +kernel
theorem dX10_init_16 : decode cX10_init 16 = .ok (.newarray .int, 2) := by decide +kernel
theorem dX10_init_18 : decode cX10_init 18 = .ok (.putfield 14, 3) := by decide +kernel
theorem dX10_init_21 : decode cX10_init 21 = .ok (.aload_n 0, 1) := by decide +kernel
theorem dX10_init_22 : decode cX10_init 22 = .ok (.sipush 2068, 3) := by decide +kernel
theorem dX10_init_25 : decode cX10_init 25 = .ok (.newarray .boolean, 2) := by decide +kernel
theorem dX10_init_27 : decode cX10_init 27 = .ok (.putfield 18, 3) := by decide +kernel
theorem dX10_init_30 : decode cX10_init 30 = .ok (.aload_n 0, 1) := by decide +kernel
theorem dX10_init_31 : decode cX10_init 31 = .ok (.bipush 64, 2) := by decide +kernel
theorem dX10_init_33 : decode cX10_init 33 = .ok (.newarray .int, 2) := by decide +kernel
theorem dX10_init_35 : decode cX10_init 35 = .ok (.putfield 22, 3) := by decide +kernel
theorem dX10_init_38 : decode cX10_init 38 = .ok (.aload_n 0, 1) := by decide +kernel
theorem dX10_init_39 : decode cX10_init 39 = .ok (.iconst (-1), 1) := by decide +kernel
theorem dX10_init_40 : decode cX10_init 40 = .ok (.putfield 25, 3) := by decide +kernel
theorem dX10_init_43 : decode cX10_init 43 = .ok (.aload_n 0, 1) := by decide +kernel
theorem dX10_init_44 : decode cX10_init 44 = .ok (.sipush 201, 3) := by decide +kernel
theorem dX10_init_47 : decode cX10_init 47 = .ok (.newarray .int, 2) := by decide +kernel
theorem dX10_init_49 : decode cX10_init 49 = .ok (.putfield 29, 3) := by decide +kernel
theorem dX10_init_52 : decode cX10_init 52 = .ok (.aload_n 0, 1) := by decide +kernel
theorem dX10_init_53 : decode cX10_init 53 = .ok (.sipush 201, 3) := by decide +kernel
theorem dX10_init_56 : decode cX10_init 56 = .ok (.newarray .int, 2) := by decide +kernel
theorem dX10_init_58 : decode cX10_init 58 = .ok (.putfield 32, 3) := by decide +kernel
theorem dX10_init_61 : decode cX10_init 61 = .ok (.aload_n 0, 1) := by decide +kernel
theorem dX10_init_62 : decode cX10_init 62 = .ok (.sipush 201, 3) := by decide +kernel
theorem dX10_init_65 : decode cX10_init 65 = .ok (.newarray .int, 2) := by decide +kernel
theorem dX10_init_67 : decode cX10_init 67 = .ok (.putfield 35, 3) := by decide +kernel
theorem dX10_init_70 : decode cX10_init 70 = .ok (.aload_n 0, 1) := by decide +kernel
theorem dX10_init_71 : decode cX10_init 71 = .ok (.sipush 201, 3) := by decide +kernel
theorem dX10_init_74 : decode cX10_init 74 = .ok (.newarray .int, 2) := by decide +kernel
theorem dX10_init_76 : decode cX10_init 76 = .ok (.putfield 38, 3) := by decide +kernel
theorem dX10_init_79 : decode cX10_init 79 = .ok (.aload_n 0, 1) := by decide +kernel
theorem dX10_init_80 : decode cX10_init 80 = .ok (.sipush 201, 3) := by decide +kernel
theorem dX10_init_83 : decode cX10_init 83 = .ok (.newarray .int, 2) := by decide +kernel
theorem dX10_init_85 : decode cX10_init 85 = .ok (.putfield 41, 3) := by decide +kernel
theorem dX10_init_88 : decode cX10_init 88 = .ok (.aload_n 0, 1) := by decide +kernel
theorem dX10_init_89 : decode cX10_init 89 = .ok (.sipush 201, 3) := by decide +kernel
theorem dX10_init_92 : decode cX10_init 92 = .ok (.newarray .int, 2) := by decide +kernel
theorem dX10_init_94 : decode cX10_init 94 = .ok (.putfield 44, 3) := by decide +kernel
theorem dX10_init_97 : decode cX10_init 97 = .ok (.aload_n 0, 1) := by decide +kernel
theorem dX10_init_98 : decode cX10_init 98 = .ok (.bipush 8, 2) := by decide +kernel
theorem dX10_init_100 : decode cX10_init 100 = .ok (.newarray .int, 2) := by decide +kernel
theorem dX10_init_102 : decode cX10_init 102 = .ok (.putfield 47, 3) := by decide +kernel
theorem dX10_init_105 : decode cX10_init 105 = .ok (.aload_n 0, 1) := by decide +kernel
theorem dX10_init_106 : decode cX10_init 106 = .ok (.sipush 200, 3) := by decide +kernel
theorem dX10_init_109 : decode cX10_init 109 = .ok (.newarray .boolean, 2) := by decide +kernel
theorem dX10_init_111 : decode cX10_init 111 = .ok (.putfield 50, 3) := by decide +kernel
theorem dX10_init_114 : decode cX10_init 114 = .ok (.aload_n 0, 1) := by decide +kernel
theorem dX10_init_115 : decode cX10_init 115 = .ok (.sipush 200, 3) := by decide +kernel
theorem dX10_init_118 : decode cX10_init 118 = .ok (.newarray .int, 2) := by decide +kernel
theorem dX10_init_120 : decode cX10_init 120 = .ok (.putfield 53, 3) := by decide +kernel
theorem dX10_init_123 : decode cX10_init 123 = .ok (.aload_n 0, 1) := by decide +kernel
theorem dX10_init_124 : decode cX10_init 124 = .ok (.bipush 80, 2) := by decide +kernel
theorem dX10_init_126 : decode cX10_init 126 = .ok (.newarray .int, 2) := by decide +kernel
theorem dX10_init_128 : decode cX10_init 128 = .ok (.putfield 56, 3) := by decide +kernel
theorem dX10_init_131 : decode cX10_init 131 = .ok (.aload_n 0, 1) := by decide +kernel
theorem dX10_init_132 : decode cX10_init 132 = .ok (.sipush 160, 3) := by decide +kernel
theorem dX10_init_135 : decode cX10_init 135 = .ok (.newarray .int, 2) := by decide +kernel
theorem dX10_init_137 : decode cX10_init 137 = .ok (.putfield 59, 3) := by decide +kernel
theorem dX10_init_140 : decode cX10_init 140 = .ok (.aload_n 0, 1) := by decide +kernel
theorem dX10_init_141 : decode cX10_init 141 = .ok (.sipush 256, 3) := by decide +kernel
theorem dX10_init_144 : decode cX10_init 144 = .ok (.newarray .int, 2) := by decide +kernel
theorem dX10_init_146 : decode cX10_init 146 = .ok (.putfield 62, 3) := by decide +kernel
theorem dX10_init_149 : decode cX10_init 149 = .ok (.aload_n 0, 1) := by decide +kernel
theorem dX10_init_150 : decode cX10_init 150 = .ok (.sipush 256, 3) := by decide +kernel
theorem dX10_init_153 : decode cX10_init 153 = .ok (.newarray .int, 2) := by decide +kernel
theorem dX10_init_155 : decode cX10_init 155 = .ok (.putfield 65, 3) := by decide +kernel
theorem dX10_init_158 : decode cX10_init 158 = .ok (.aload_n 0, 1) := by decide +kernel
theorem dX10_init_159 : decode cX10_init 159 = .ok (.sipush 200, 3) := by decide +kernel
theorem dX10_init_162 : decode cX10_init 162 = .ok (.newarray .int, 2) := by decide +kernel
theorem dX10_init_164 : decode cX10_init 164 = .ok (.putfield 68, 3) := by decide +kernel
theorem dX10_init_167 : decode cX10_init 167 = .ok (.aload_n 0, 1) := by decide +kernel
theorem dX10_init_168 : decode cX10_init 168 = .ok (.sipush 1200, 3) := by decide +kernel
theorem dX10_init_171 : decode cX10_init 171 = .ok (.newarray .int, 2) := by decide +kernel
theorem dX10_init_173 : decode cX10_init 173 = .ok (.putfield 71, 3) := by decide +kernel
theorem dX10_init_176 : decode cX10_init 176 = .ok (.iconst 0, 1) := by decide +kernel
theorem dX10_init_177 : decode cX10_init 177 = .ok (.istore_n 1, 1) := by decide +kernel
theorem dX10_init_178 : decode cX10_init 178 = .ok (.iload_n 1, 1) := by decide +kernel
theorem dX10_init_179 : decode cX10_init 179 = .ok (.sipush 1034, 3) := by decide +kernel
theorem dX10_init_182 : decode cX10_init 182 = .ok (.if_icmp .ge 19, 3) := by decide +kernel
theorem dX10_init_185 : decode cX10_init 185 = .ok (.aload_n 0, 1) := by decide +kernel
theorem dX10_init_186 : decode cX10_init 186 = .ok (.iconst 2, 1) := by decide +kernel
theorem dX10_init_187 : decode cX10_init 187 = .ok (.iload_n 1, 1) := by decide +kernel
theorem dX10_init_188 : decode cX10_init 188 = .ok (.imul, 1) := by decide +kernel
theorem dX10_init_189 : decode cX10_init 189 = .ok (.iconst 1, 1) := by decide +kernel
theorem dX10_init_190 : decode cX10_init 190 = .ok (.iadd, 1) := by decide +kernel
theorem dX10_init_191 : decode cX10_init 191 = .ok (.lconst 1, 1) := by decide +kernel
theorem dX10_init_192 : decode cX10_init 192 = .ok (.invokevirtual 74, 3) := by decide +kernel
theorem dX10_init_195 : decode cX10_init 195 = .ok (.iinc 1 1, 3) := by decide +kernel
theorem dX10_init_198 : decode cX10_init 198 = .ok (.goto (-20), 3) := by decide +kernel
theorem dX10_init_201 : decode cX10_init 201 = .ok (.iconst 0, 1) := by decide +kernel
theorem dX10_init_202 : decode cX10_init 202 = .ok (.istore_n 1, 1) := by decide +kernel
theorem dX10_init_203 : decode cX10_init 203 = .ok (.iload_n 1, 1) := by decide +kernel
theorem dX10_init_204 : decode cX10_init 204 = .ok (.bipush 8, 2) := by decide +kernel
theorem dX10_init_206 : decode cX10_init 206 = .ok (.if_icmp .ge 16, 3) := by decide +kernel
theorem dX10_init_209 : decode cX10_init 209 = .ok (.aload_n 0, 1) := by decide +kernel
theorem dX10_init_210 : decode cX10_init 210 = .ok (.getfield 47, 3) := by decide +kernel
theorem dX10_init_213 : decode cX10_init 213 = .ok (.iload_n 1, 1) := by decide +kernel
theorem dX10_init_214 : decode cX10_init 214 = .ok (.iconst (-1), 1) := by decide +kernel
theorem dX10_init_215 : decode cX10_init 215 = .ok (.iastore, 1) := by decide +kernel
theorem dX10_init_216 : decode cX10_init 216 = .ok (.iinc 1 1, 3) := by decide +kernel
theorem dX10_init_219 : decode cX10_init 219 = .ok (.goto (-16), 3) := by decide +kernel
theorem dX10_init_222 : decode cX10_init 222 = .ok (.return_, 1) := by decide +kernel
theorem dX10_thrown_0 : decode cX10_thrown 0 = .ok (.aload_n 0, 1) := by decide +kernel
theorem dX10_thrown_1 : decode cX10_thrown 1 = .ok (.getfield 78, 3) := by decide +kernel
theorem dX10_thrown_4 : decode cX10_thrown 4 = .ok (.ireturn, 1) := by decide +kernel
theorem dX10_trim_0 : decode cX10_trim 0 = .ok (.aload_n 0, 1) := by decide +kernel
theorem dX10_trim_1 : decode cX10_trim 1 = .ok (.getfield 14, 3) := by decide +kernel
theorem dX10_trim_4 : decode cX10_trim 4 = .ok (.iload_n 1, 1) := by decide +kernel
theorem dX10_trim_5 : decode cX10_trim 5 = .ok (.iaload, 1) := by decide +kernel
theorem dX10_trim_6 : decode cX10_trim 6 = .ok (.ifCond .le 39, 3) := by decide +kernel
theorem dX10_trim_9 : decode cX10_trim 9 = .ok (.aload_n 0, 1) := by decide +kernel
theorem dX10_trim_10 : decode cX10_trim 10 = .ok (.getfield 8, 3) := by decide +kernel
theorem dX10_trim_13 : decode cX10_trim 13 = .ok (.bipush 80, 2) := by decide +kernel
theorem dX10_trim_15 : decode cX10_trim 15 = .ok (.iload_n 1, 1) := by decide +kernel
theorem dX10_trim_16 : decode cX10_trim 16 = .ok (.imul, 1) := by decide +kernel
theorem dX10_trim_17 : decode cX10_trim 17 = .ok (.aload_n 0, 1) := by decide +kernel
theorem dX10_trim_18 : decode cX10_trim 18 = .ok (.getfield 14, 3) := by decide +kernel
theorem dX10_trim_21 : decode cX10_trim 21 = .ok (.iload_n 1, 1) := by decide +kernel
theorem dX10_trim_22 : decode cX10_trim 22 = .ok (.iaload, 1) := by decide +kernel
theorem dX10_trim_23 : decode cX10_trim 23 = .ok (.iadd, 1) := by decide +kernel
theorem dX10_trim_24 : decode cX10_trim 24 = .ok (.iconst 1, 1) := by decide +kernel
theorem dX10_trim_25 : decode cX10_trim 25 = .ok (.isub, 1) := by decide +kernel
theorem dX10_trim_26 : decode cX10_trim 26 = .ok (.laload, 1) := by decide +kernel
theorem dX10_trim_27 : decode cX10_trim 27 = .ok (.lconst 0, 1) := by decide +kernel
theorem dX10_trim_28 : decode cX10_trim 28 = .ok (.lcmp, 1) := by decide +kernel
theorem dX10_trim_29 : decode cX10_trim 29 = .ok (.ifCond .ne 16, 3) := by decide +kernel
theorem dX10_trim_32 : decode cX10_trim 32 = .ok (.aload_n 0, 1) := by decide +kernel
theorem dX10_trim_33 : decode cX10_trim 33 = .ok (.getfield 14, 3) := by decide +kernel
theorem dX10_trim_36 : decode cX10_trim 36 = .ok (.iload_n 1, 1) := by decide +kernel
theorem dX10_trim_37 : decode cX10_trim 37 = .ok (.dup2, 1) := by decide +kernel
theorem dX10_trim_38 : decode cX10_trim 38 = .ok (.iaload, 1) := by decide +kernel
theorem dX10_trim_39 : decode cX10_trim 39 = .ok (.iconst 1, 1) := by decide +kernel
theorem dX10_trim_40 : decode cX10_trim 40 = .ok (.isub, 1) := by decide +kernel
theorem dX10_trim_41 : decode cX10_trim 41 = .ok (.iastore, 1) := by decide +kernel
theorem dX10_trim_42 : decode cX10_trim 42 = .ok (.goto (-42), 3) := by decide +kernel
theorem dX10_trim_45 : decode cX10_trim 45 = .ok (.aload_n 0, 1) := by decide +kernel
theorem dX10_trim_46 : decode cX10_trim 46 = .ok (.getfield 18, 3) := by decide +kernel
theorem dX10_trim_49 : decode cX10_trim 49 = .ok (.iload_n 1, 1) := by decide +kernel
theorem dX10_trim_50 : decode cX10_trim 50 = .ok (.aload_n 0, 1) := by decide +kernel
theorem dX10_trim_51 : decode cX10_trim 51 = .ok (.getfield 18, 3) := by decide +kernel
theorem dX10_trim_54 : decode cX10_trim 54 = .ok (.iload_n 1, 1) := by decide +kernel
theorem dX10_trim_55 : decode cX10_trim 55 = .ok (.baload, 1) := by decide +kernel
theorem dX10_trim_56 : decode cX10_trim 56 = .ok (.ifCond .eq 16, 3) := by decide +kernel
theorem dX10_trim_59 : decode cX10_trim 59 = .ok (.aload_n 0, 1) := by decide +kernel
theorem dX10_trim_60 : decode cX10_trim 60 = .ok (.getfield 14, 3) := by decide +kernel
theorem dX10_trim_63 : decode cX10_trim 63 = .ok (.iload_n 1, 1) := by decide +kernel
theorem dX10_trim_64 : decode cX10_trim 64 = .ok (.iaload, 1) := by decide +kernel
theorem dX10_trim_65 : decode cX10_trim 65 = .ok (.ifCond .le 7, 3) := by decide +kernel
theorem dX10_trim_68 : decode cX10_trim 68 = .ok (.iconst 1, 1) := by decide +kernel
theorem dX10_trim_69 : decode cX10_trim 69 = .ok (.goto 4, 3) := by decide +kernel
theorem dX10_trim_72 : decode cX10_trim 72 = .ok (.iconst 0, 1) := by decide +kernel
theorem dX10_trim_73 : decode cX10_trim 73 = .ok (.bastore, 1) := by decide +kernel
theorem dX10_trim_74 : decode cX10_trim 74 = .ok (.return_, 1) := by decide +kernel
theorem dX10_assign_0 : decode cX10_assign 0 = .ok (.lload_n 2, 1) := by decide +kernel
theorem dX10_assign_1 : decode cX10_assign 1 = .ok (.lconst 0, 1) := by decide +kernel
theorem dX10_assign_2 : decode cX10_assign 2 = .ok (.lcmp, 1) := by decide +kernel
theorem dX10_assign_3 : decode cX10_assign 3 = .ok (.ifCond .ge 8, 3) := by decide +kernel
theorem dX10_assign_6 : decode cX10_assign 6 = .ok (.lload_n 2, 1) := by decide +kernel
theorem dX10_assign_7 : decode cX10_assign 7 = .ok (.lneg, 1) := by decide +kernel
theorem dX10_assign_8 : decode cX10_assign 8 = .ok (.goto 4, 3) := by decide +kernel
theorem dX10_assign_11 : decode cX10_assign 11 = .ok (.lload_n 2, 1) := by decide +kernel
theorem dX10_assign_12 : decode cX10_assign 12 = .ok (.lstore 4, 2) := by decide +kernel
theorem dX10_assign_14 : decode cX10_assign 14 = .ok (.aload_n 0, 1) := by decide +kernel
theorem dX10_assign_15 : decode cX10_assign 15 = .ok (.getfield 8, 3) := by decide +kernel
theorem dX10_assign_18 : decode cX10_assign 18 = .ok (.bipush 80, 2) := by decide +kernel
theorem dX10_assign_20 : decode cX10_assign 20 = .ok (.iload_n 1, 1) := by decide +kernel
theorem dX10_assign_21 : decode cX10_assign 21 = .ok (.imul, 1) := by decide +kernel
theorem dX10_assign_22 : decode cX10_assign 22 = .ok (.lload 4, 2) := by decide +kernel
theorem dX10_assign_24 : decode cX10_assign 24 = .ok (.ldc2_w 81, 3) := by decide +kernel
theorem dX10_assign_27 : decode cX10_assign 27 = .ok (.land, 1) := by decide +kernel
theorem dX10_assign_28 : decode cX10_assign 28 = .ok (.lastore, 1) := by decide +kernel
theorem dX10_assign_29 : decode cX10_assign 29 = .ok (.aload_n 0, 1) := by decide +kernel
theorem dX10_assign_30 : decode cX10_assign 30 = .ok (.getfield 8, 3) := by decide +kernel
theorem dX10_assign_33 : decode cX10_assign 33 = .ok (.bipush 80, 2) := by decide +kernel
theorem dX10_assign_35 : decode cX10_assign 35 = .ok (.iload_n 1, 1) := by decide +kernel
theorem dX10_assign_36 : decode cX10_assign 36 = .ok (.imul, 1) := by decide +kernel
theorem dX10_assign_37 : decode cX10_assign 37 = .ok (.iconst 1, 1) := by decide +kernel
theorem dX10_assign_38 : decode cX10_assign 38 = .ok (.iadd, 1) := by decide +kernel
theorem dX10_assign_39 : decode cX10_assign 39 = .ok (.lload 4, 2) := by decide +kernel
theorem dX10_assign_41 : decode cX10_assign 41 = .ok (.bipush 32, 2) := by decide +kernel
theorem dX10_assign_43 : decode cX10_assign 43 = .ok (.lushr, 1) := by decide +kernel
theorem dX10_assign_44 : decode cX10_assign 44 = .ok (.lastore, 1) := by decide +kernel
theorem dX10_assign_45 : decode cX10_assign 45 = .ok (.aload_n 0, 1) := by decide +kernel
theorem dX10_assign_46 : decode cX10_assign 46 = .ok (.getfield 14, 3) := by decide +kernel
theorem dX10_assign_49 : decode cX10_assign 49 = .ok (.iload_n 1, 1) := by decide +kernel
theorem dX10_assign_50 : decode cX10_assign 50 = .ok (.iconst 2, 1) := by decide +kernel
theorem dX10_assign_51 : decode cX10_assign 51 = .ok (.iastore, 1) := by decide +kernel
theorem dX10_assign_52 : decode cX10_assign 52 = .ok (.aload_n 0, 1) := by decide +kernel
theorem dX10_assign_53 : decode cX10_assign 53 = .ok (.getfield 18, 3) := by decide +kernel
theorem dX10_assign_56 : decode cX10_assign 56 = .ok (.iload_n 1, 1) := by decide +kernel
theorem dX10_assign_57 : decode cX10_assign 57 = .ok (.lload_n 2, 1) := by decide +kernel
theorem dX10_assign_58 : decode cX10_assign 58 = .ok (.lconst 0, 1) := by decide +kernel
theorem dX10_assign_59 : decode cX10_assign 59 = .ok (.lcmp, 1) := by decide +kernel
theorem dX10_assign_60 : decode cX10_assign 60 = .ok (.ifCond .ge 7, 3) := by decide +kernel
theorem dX10_assign_63 : decode cX10_assign 63 = .ok (.iconst 1, 1) := by decide +kernel
theorem dX10_assign_64 : decode cX10_assign 64 = .ok (.goto 4, 3) := by decide +kernel
theorem dX10_assign_67 : decode cX10_assign 67 = .ok (.iconst 0, 1) := by decide +kernel
theorem dX10_assign_68 : decode cX10_assign 68 = .ok (.bastore, 1) := by decide +kernel
theorem dX10_assign_69 : decode cX10_assign 69 = .ok (.aload_n 0, 1) := by decide +kernel
theorem dX10_assign_70 : decode cX10_assign 70 = .ok (.iload_n 1, 1) := by decide +kernel
theorem dX10_assign_71 : decode cX10_assign 71 = .ok (.invokevirtual 83, 3) := by decide +kernel
theorem dX10_assign_74 : decode cX10_assign 74 = .ok (.return_, 1) := by decide +kernel
theorem dX10_copy_0 : decode cX10_copy 0 = .ok (.iconst 0, 1) := by decide +kernel
theorem dX10_copy_1 : decode cX10_copy 1 = .ok (.istore_n 3, 1) := by decide +kernel
theorem dX10_copy_2 : decode cX10_copy 2 = .ok (.iload_n 3, 1) := by decide +kernel
theorem dX10_copy_3 : decode cX10_copy 3 = .ok (.aload_n 0, 1) := by decide +kernel
theorem dX10_copy_4 : decode cX10_copy 4 = .ok (.getfield 14, 3) := by decide +kernel
theorem dX10_copy_7 : decode cX10_copy 7 = .ok (.iload_n 2, 1) := by decide +kernel
theorem dX10_copy_8 : decode cX10_copy 8 = .ok (.iaload, 1) := by decide +kernel
theorem dX10_copy_9 : decode cX10_copy 9 = .ok (.if_icmp .ge 31, 3) := by decide +kernel
theorem dX10_copy_12 : decode cX10_copy 12 = .ok (.aload_n 0, 1) := by decide +kernel
theorem dX10_copy_13 : decode cX10_copy 13 = .ok (.getfield 8, 3) := by decide +kernel
theorem dX10_copy_16 : decode cX10_copy 16 = .ok (.bipush 80, 2) := by decide +kernel
theorem dX10_copy_18 : decode cX10_copy 18 = .ok (.iload_n 1, 1) := by decide +kernel
theorem dX10_copy_19 : decode cX10_copy 19 = .ok (.imul, 1) := by decide +kernel
theorem dX10_copy_20 : decode cX10_copy 20 = .ok (.iload_n 3, 1) := by decide +kernel
theorem dX10_copy_21 : decode cX10_copy 21 = .ok (.iadd, 1) := by decide +kernel
theorem dX10_copy_22 : decode cX10_copy 22 = .ok (.aload_n 0, 1) := by decide +kernel
theorem dX10_copy_23 : decode cX10_copy 23 = .ok (.getfield 8, 3) := by decide +kernel
theorem dX10_copy_26 : decode cX10_copy 26 = .ok (.bipush 80, 2) := by decide +kernel
theorem dX10_copy_28 : decode cX10_copy 28 = .ok (.iload_n 2, 1) := by decide +kernel
theorem dX10_copy_29 : decode cX10_copy 29 = .ok (.imul, 1) := by decide +kernel
theorem dX10_copy_30 : decode cX10_copy 30 = .ok (.iload_n 3, 1) := by decide +kernel
theorem dX10_copy_31 : decode cX10_copy 31 = .ok (.iadd, 1) := by decide +kernel
theorem dX10_copy_32 : decode cX10_copy 32 = .ok (.laload, 1) := by decide +kernel
theorem dX10_copy_33 : decode cX10_copy 33 = .ok (.lastore, 1) := by decide +kernel
theorem dX10_copy_34 : decode cX10_copy 34 = .ok (.iinc 3 1, 3) := by decide +kernel
theorem dX10_copy_37 : decode cX10_copy 37 = .ok (.goto (-35), 3) := by decide +kernel
theorem dX10_copy_40 : decode cX10_copy 40 = .ok (.aload_n 0, 1) := by decide +kernel
theorem dX10_copy_41 : decode cX10_copy 41 = .ok (.getfield 14, 3) := by decide +kernel
theorem dX10_copy_44 : decode cX10_copy 44 = .ok (.iload_n 1, 1) := by decide +kernel
theorem dX10_copy_45 : decode cX10_copy 45 = .ok (.aload_n 0, 1) := by decide +kernel
theorem dX10_copy_46 : decode cX10_copy 46 = .ok (.getfield 14, 3) := by decide +kernel
theorem dX10_copy_49 : decode cX10_copy 49 = .ok (.iload_n 2, 1) := by decide +kernel
theorem dX10_copy_50 : decode cX10_copy 50 = .ok (.iaload, 1) := by decide +kernel
theorem dX10_copy_51 : decode cX10_copy 51 = .ok (.iastore, 1) := by decide +kernel
theorem dX10_copy_52 : decode cX10_copy 52 = .ok (.aload_n 0, 1) := by decide +kernel
theorem dX10_copy_53 : decode cX10_copy 53 = .ok (.getfield 18, 3) := by decide +kernel
theorem dX10_copy_56 : decode cX10_copy 56 = .ok (.iload_n 1, 1) := by decide +kernel
theorem dX10_copy_57 : decode cX10_copy 57 = .ok (.aload_n 0, 1) := by decide +kernel
theorem dX10_copy_58 : decode cX10_copy 58 = .ok (.getfield 18, 3) := by decide +kernel
theorem dX10_copy_61 : decode cX10_copy 61 = .ok (.iload_n 2, 1) := by decide +kernel
theorem dX10_copy_62 : decode cX10_copy 62 = .ok (.baload, 1) := by decide +kernel
theorem dX10_copy_63 : decode cX10_copy 63 = .ok (.bastore, 1) := by decide +kernel
theorem dX10_copy_64 : decode cX10_copy 64 = .ok (.return_, 1) := by decide +kernel
theorem dX10_piece_0 : decode cX10_piece 0 = .ok (.iload_n 2, 1) := by decide +kernel
theorem dX10_piece_1 : decode cX10_piece 1 = .ok (.aload_n 0, 1) := by decide +kernel
theorem dX10_piece_2 : decode cX10_piece 2 = .ok (.getfield 14, 3) := by decide +kernel
theorem dX10_piece_5 : decode cX10_piece 5 = .ok (.iload_n 1, 1) := by decide +kernel
theorem dX10_piece_6 : decode cX10_piece 6 = .ok (.iaload, 1) := by decide +kernel
theorem dX10_piece_7 : decode cX10_piece 7 = .ok (.if_icmp .ge 17, 3) := by decide +kernel
theorem dX10_piece_10 : decode cX10_piece 10 = .ok (.aload_n 0, 1) := by decide +kernel
theorem dX10_piece_11 : decode cX10_piece 11 = .ok (.getfield 8, 3) := by decide +kernel
theorem dX10_piece_14 : decode cX10_piece 14 = .ok (.bipush 80, 2) := by decide +kernel
theorem dX10_piece_16 : decode cX10_piece 16 = .ok (.iload_n 1, 1) := by decide +kernel
theorem dX10_piece_17 : decode cX10_piece 17 = .ok (.imul, 1) := by decide +kernel
theorem dX10_piece_18 : decode cX10_piece 18 = .ok (.iload_n 2, 1) := by decide +kernel
theorem dX10_piece_19 : decode cX10_piece 19 = .ok (.iadd, 1) := by decide +kernel
theorem dX10_piece_20 : decode cX10_piece 20 = .ok (.laload, 1) := by decide +kernel
theorem dX10_piece_21 : decode cX10_piece 21 = .ok (.goto 4, 3) := by decide +kernel
theorem dX10_piece_24 : decode cX10_piece 24 = .ok (.lconst 0, 1) := by decide +kernel
theorem dX10_piece_25 : decode cX10_piece 25 = .ok (.lreturn, 1) := by decide +kernel
theorem dX10_compareSizes_0 : decode cX10_compareSizes 0 = .ok (.aload_n 0, 1) := by decide +kernel
theorem dX10_compareSizes_1 : decode cX10_compareSizes 1 = .ok (.getfield 14, 3) := by decide +kernel
theorem dX10_compareSizes_4 : decode cX10_compareSizes 4 = .ok (.iload_n 1, 1) := by decide +kernel
theorem dX10_compareSizes_5 : decode cX10_compareSizes 5 = .ok (.iaload, 1) := by decide +kernel
theorem dX10_compareSizes_6 : decode cX10_compareSizes 6 = .ok (.aload_n 0, 1) := by decide +kernel
theorem dX10_compareSizes_7 : decode cX10_compareSizes 7 = .ok (.getfield 14, 3) := by decide +kernel
theorem dX10_compareSizes_10 : decode cX10_compareSizes 10 = .ok (.iload_n 2, 1) := by decide +kernel
theorem dX10_compareSizes_11 : decode cX10_compareSizes 11 = .ok (.iaload, 1) := by decide +kernel
theorem dX10_compareSizes_12 : decode cX10_compareSizes 12 = .ok (.if_icmp .le 12, 3) := by decide +kernel
theorem dX10_compareSizes_15 : decode cX10_compareSizes 15 = .ok (.aload_n 0, 1) := by decide +kernel
theorem dX10_compareSizes_16 : decode cX10_compareSizes 16 = .ok (.getfield 14, 3) := by decide +kernel
theorem dX10_compareSizes_19 : decode cX10_compareSizes 19 = .ok (.iload_n 1, 1) := by decide +kernel
theorem dX10_compareSizes_20 : decode cX10_compareSizes 20 = .ok (.iaload, 1) := by decide +kernel
theorem dX10_compareSizes_21 : decode cX10_compareSizes 21 = .ok (.goto 9, 3) := by decide +kernel
theorem dX10_compareSizes_24 : decode cX10_compareSizes 24 = .ok (.aload_n 0, 1) := by decide +kernel
theorem dX10_compareSizes_25 : decode cX10_compareSizes 25 = .ok (.getfield 14, 3) := by decide +kernel
theorem dX10_compareSizes_28 : decode cX10_compareSizes 28 = .ok (.iload_n 2, 1) := by decide +kernel
theorem dX10_compareSizes_29 : decode cX10_compareSizes 29 = .ok (.iaload, 1) := by decide +kernel
theorem dX10_compareSizes_30 : decode cX10_compareSizes 30 = .ok (.istore_n 3, 1) := by decide +kernel
theorem dX10_compareSizes_31 : decode cX10_compareSizes 31 = .ok (.iload_n 3, 1) := by decide +kernel
theorem dX10_compareSizes_32 : decode cX10_compareSizes 32 = .ok (.iconst 1, 1) := by decide +kernel
theorem dX10_compareSizes_33 : decode cX10_compareSizes 33 = .ok (.isub, 1) := by decide +kernel
theorem dX10_compareSizes_34 : decode cX10_compareSizes 34 = .ok (.istore 4, 2) := by decide +kernel
theorem dX10_compareSizes_36 : decode cX10_compareSizes 36 = .ok (.iload 4, 2) := by decide +kernel
theorem dX10_compareSizes_38 : decode cX10_compareSizes 38 = .ok (.ifCond .lt 51, 3) := by decide +kernel
theorem dX10_compareSizes_41 : decode cX10_compareSizes 41 = .ok (.aload_n 0, 1) := by decide +kernel
theorem dX10_compareSizes_42 : decode cX10_compareSizes 42 = .ok (.iload_n 1, 1) := by decide +kernel
theorem dX10_compareSizes_43 : decode cX10_compareSizes 43 = .ok (.iload 4, 2) := by decide +kernel
theorem dX10_compareSizes_45 : decode cX10_compareSizes 45 = .ok (.invokevirtual 87, 3) := by decide +kernel
theorem dX10_compareSizes_48 : decode cX10_compareSizes 48 = .ok (.aload_n 0, 1) := by decide +kernel
theorem dX10_compareSizes_49 : decode cX10_compareSizes 49 = .ok (.iload_n 2, 1) := by decide +kernel
theorem dX10_compareSizes_50 : decode cX10_compareSizes 50 = .ok (.iload 4, 2) := by decide +kernel
theorem dX10_compareSizes_52 : decode cX10_compareSizes 52 = .ok (.invokevirtual 87, 3) := by decide +kernel
theorem dX10_compareSizes_55 : decode cX10_compareSizes 55 = .ok (.lcmp, 1) := by decide +kernel
theorem dX10_compareSizes_56 : decode cX10_compareSizes 56 = .ok (.ifCond .eq 27, 3) := by decide +kernel
theorem dX10_compareSizes_59 : decode cX10_compareSizes 59 = .ok (.aload_n 0, 1) := by decide +kernel
theorem dX10_compareSizes_60 : decode cX10_compareSizes 60 = .ok (.iload_n 1, 1) := by decide +kernel
theorem dX10_compareSizes_61 : decode cX10_compareSizes 61 = .ok (.iload 4, 2) := by decide +kernel
theorem dX10_compareSizes_63 : decode cX10_compareSizes 63 = .ok (.invokevirtual 87, 3) := by decide +kernel
theorem dX10_compareSizes_66 : decode cX10_compareSizes 66 = .ok (.aload_n 0, 1) := by decide +kernel
theorem dX10_compareSizes_67 : decode cX10_compareSizes 67 = .ok (.iload_n 2, 1) := by decide +kernel
theorem dX10_compareSizes_68 : decode cX10_compareSizes 68 = .ok (.iload 4, 2) := by decide +kernel
theorem dX10_compareSizes_70 : decode cX10_compareSizes 70 = .ok (.invokevirtual 87, 3) := by decide +kernel
theorem dX10_compareSizes_73 : decode cX10_compareSizes 73 = .ok (.lcmp, 1) := by decide +kernel
theorem dX10_compareSizes_74 : decode cX10_compareSizes 74 = .ok (.ifCond .ge 7, 3) := by decide +kernel
theorem dX10_compareSizes_77 : decode cX10_compareSizes 77 = .ok (.iconst (-1), 1) := by decide +kernel
theorem dX10_compareSizes_78 : decode cX10_compareSizes 78 = .ok (.goto 4, 3) := by decide +kernel
theorem dX10_compareSizes_81 : decode cX10_compareSizes 81 = .ok (.iconst 1, 1) := by decide +kernel
theorem dX10_compareSizes_82 : decode cX10_compareSizes 82 = .ok (.ireturn, 1) := by decide +kernel
theorem dX10_compareSizes_83 : decode cX10_compareSizes 83 = .ok (.iinc 4 (-1), 3) := by decide +kernel
theorem dX10_compareSizes_86 : decode cX10_compareSizes 86 = .ok (.goto (-50), 3) := by decide +kernel
theorem dX10_compareSizes_89 : decode cX10_compareSizes 89 = .ok (.iconst 0, 1) := by decide +kernel
theorem dX10_compareSizes_90 : decode cX10_compareSizes 90 = .ok (.ireturn, 1) := by decide +kernel
theorem dX10_addSizes_0 : decode cX10_addSizes 0 = .ok (.aload_n 0, 1) := by decide +kernel
theorem dX10_addSizes_1 : decode cX10_addSizes 1 = .ok (.getfield 14, 3) := by decide +kernel
theorem dX10_addSizes_4 : decode cX10_addSizes 4 = .ok (.iload_n 2, 1) := by decide +kernel
theorem dX10_addSizes_5 : decode cX10_addSizes 5 = .ok (.iaload, 1) := by decide +kernel
theorem dX10_addSizes_6 : decode cX10_addSizes 6 = .ok (.aload_n 0, 1) := by decide +kernel
theorem dX10_addSizes_7 : decode cX10_addSizes 7 = .ok (.getfield 14, 3) := by decide +kernel
theorem dX10_addSizes_10 : decode cX10_addSizes 10 = .ok (.iload_n 3, 1) := by decide +kernel
theorem dX10_addSizes_11 : decode cX10_addSizes 11 = .ok (.iaload, 1) := by decide +kernel
theorem dX10_addSizes_12 : decode cX10_addSizes 12 = .ok (.if_icmp .le 12, 3) := by decide +kernel
theorem dX10_addSizes_15 : decode cX10_addSizes 15 = .ok (.aload_n 0, 1) := by decide +kernel
theorem dX10_addSizes_16 : decode cX10_addSizes 16 = .ok (.getfield 14, 3) := by decide +kernel
theorem dX10_addSizes_19 : decode cX10_addSizes 19 = .ok (.iload_n 2, 1) := by decide +kernel
theorem dX10_addSizes_20 : decode cX10_addSizes 20 = .ok (.iaload, 1) := by decide +kernel
theorem dX10_addSizes_21 : decode cX10_addSizes 21 = .ok (.goto 9, 3) := by decide +kernel
theorem dX10_addSizes_24 : decode cX10_addSizes 24 = .ok (.aload_n 0, 1) := by decide +kernel
theorem dX10_addSizes_25 : decode cX10_addSizes 25 = .ok (.getfield 14, 3) := by decide +kernel
theorem dX10_addSizes_28 : decode cX10_addSizes 28 = .ok (.iload_n 3, 1) := by decide +kernel
theorem dX10_addSizes_29 : decode cX10_addSizes 29 = .ok (.iaload, 1) := by decide +kernel
theorem dX10_addSizes_30 : decode cX10_addSizes 30 = .ok (.istore 4, 2) := by decide +kernel
theorem dX10_addSizes_32 : decode cX10_addSizes 32 = .ok (.lconst 0, 1) := by decide +kernel
theorem dX10_addSizes_33 : decode cX10_addSizes 33 = .ok (.lstore 5, 2) := by decide +kernel
theorem dX10_addSizes_35 : decode cX10_addSizes 35 = .ok (.iconst 0, 1) := by decide +kernel
theorem dX10_addSizes_36 : decode cX10_addSizes 36 = .ok (.istore 7, 2) := by decide +kernel
theorem dX10_addSizes_38 : decode cX10_addSizes 38 = .ok (.iload 7, 2) := by decide +kernel
theorem dX10_addSizes_40 : decode cX10_addSizes 40 = .ok (.iload 4, 2) := by decide +kernel
theorem dX10_addSizes_42 : decode cX10_addSizes 42 = .ok (.if_icmp .gt 52, 3) := by decide +kernel
theorem dX10_addSizes_45 : decode cX10_addSizes 45 = .ok (.aload_n 0, 1) := by decide +kernel
theorem dX10_addSizes_46 : decode cX10_addSizes 46 = .ok (.iload_n 2, 1) := by decide +kernel
theorem dX10_addSizes_47 : decode cX10_addSizes 47 = .ok (.iload 7, 2) := by decide +kernel
theorem dX10_addSizes_49 : decode cX10_addSizes 49 = .ok (.invokevirtual 87, 3) := by decide +kernel
theorem dX10_addSizes_52 : decode cX10_addSizes 52 = .ok (.aload_n 0, 1) := by decide +kernel
theorem dX10_addSizes_53 : decode cX10_addSizes 53 = .ok (.iload_n 3, 1) := by decide +kernel
theorem dX10_addSizes_54 : decode cX10_addSizes 54 = .ok (.iload 7, 2) := by decide +kernel
theorem dX10_addSizes_56 : decode cX10_addSizes 56 = .ok (.invokevirtual 87, 3) := by decide +kernel
theorem dX10_addSizes_59 : decode cX10_addSizes 59 = .ok (.ladd, 1) := by decide +kernel
theorem dX10_addSizes_60 : decode cX10_addSizes 60 = .ok (.lload 5, 2) := by decide +kernel
theorem dX10_addSizes_62 : decode cX10_addSizes 62 = .ok (.ladd, 1) := by decide +kernel
theorem dX10_addSizes_63 : decode cX10_addSizes 63 = .ok (.lstore 8, 2) := by decide +kernel
theorem dX10_addSizes_65 : decode cX10_addSizes 65 = .ok (.aload_n 0, 1) := by decide +kernel
theorem dX10_addSizes_66 : decode cX10_addSizes 66 = .ok (.getfield 8, 3) := by decide +kernel
theorem dX10_addSizes_69 : decode cX10_addSizes 69 = .ok (.ldc 91, 2) := by decide +kernel
theorem dX10_addSizes_71 : decode cX10_addSizes 71 = .ok (.iload 7, 2) := by decide +kernel
theorem dX10_addSizes_73 : decode cX10_addSizes 73 = .ok (.iadd, 1) := by decide +kernel
theorem dX10_addSizes_74 : decode cX10_addSizes 74 = .ok (.lload 8, 2) := by decide +kernel
theorem dX10_addSizes_76 : decode cX10_addSizes 76 = .ok (.ldc2_w 81, 3) := by decide +kernel
theorem dX10_addSizes_79 : decode cX10_addSizes 79 = .ok (.land, 1) := by decide +kernel
theorem dX10_addSizes_80 : decode cX10_addSizes 80 = .ok (.lastore, 1) := by decide +kernel
theorem dX10_addSizes_81 : decode cX10_addSizes 81 = .ok (.lload 8, 2) := by decide +kernel
theorem dX10_addSizes_83 : decode cX10_addSizes 83 = .ok (.bipush 32, 2) := by decide +kernel
theorem dX10_addSizes_85 : decode cX10_addSizes 85 = .ok (.lushr, 1) := by decide +kernel
theorem dX10_addSizes_86 : decode cX10_addSizes 86 = .ok (.lstore 5, 2) := by decide +kernel
theorem dX10_addSizes_88 : decode cX10_addSizes 88 = .ok (.iinc 7 1, 3) := by decide +kernel
theorem dX10_addSizes_91 : decode cX10_addSizes 91 = .ok (.goto (-53), 3) := by decide +kernel
theorem dX10_addSizes_94 : decode cX10_addSizes 94 = .ok (.aload_n 0, 1) := by decide +kernel
theorem dX10_addSizes_95 : decode cX10_addSizes 95 = .ok (.getfield 14, 3) := by decide +kernel
theorem dX10_addSizes_98 : decode cX10_addSizes 98 = .ok (.sipush 2066, 3) := by decide +kernel
theorem dX10_addSizes_101 : decode cX10_addSizes 101 = .ok (.iload 4, 2) := by decide +kernel
theorem dX10_addSizes_103 : decode cX10_addSizes 103 = .ok (.iconst 1, 1) := by decide +kernel
theorem dX10_addSizes_104 : decode cX10_addSizes 104 = .ok (.iadd, 1) := by decide +kernel
theorem dX10_addSizes_105 : decode cX10_addSizes 105 = .ok (.iastore, 1) := by decide +kernel
theorem dX10_addSizes_106 : decode cX10_addSizes 106 = .ok (.aload_n 0, 1) := by decide +kernel
theorem dX10_addSizes_107 : decode cX10_addSizes 107 = .ok (.getfield 18, 3) := by decide +kernel
theorem dX10_addSizes_110 : decode cX10_addSizes 110 = .ok (.sipush 2066, 3) := by decide +kernel
theorem dX10_addSizes_113 : decode cX10_addSizes 113 = .ok (.iconst 0, 1) := by decide +kernel
theorem dX10_addSizes_114 : decode cX10_addSizes 114 = .ok (.bastore, 1) := by decide +kernel
theorem dX10_addSizes_115 : decode cX10_addSizes 115 = .ok (.aload_n 0, 1) := by decide +kernel
theorem dX10_addSizes_116 : decode cX10_addSizes 116 = .ok (.sipush 2066, 3) := by decide +kernel
theorem dX10_addSizes_119 : decode cX10_addSizes 119 = .ok (.invokevirtual 83, 3) := by decide +kernel
theorem dX10_addSizes_122 : decode cX10_addSizes 122 = .ok (.aload_n 0, 1) := by decide +kernel
theorem dX10_addSizes_123 : decode cX10_addSizes 123 = .ok (.iload_n 1, 1) := by decide +kernel
theorem dX10_addSizes_124 : decode cX10_addSizes 124 = .ok (.sipush 2066, 3) := by decide +kernel
theorem dX10_addSizes_127 : decode cX10_addSizes 127 = .ok (.invokevirtual 92, 3) := by decide +kernel
theorem dX10_addSizes_130 : decode cX10_addSizes 130 = .ok (.return_, 1) := by decide +kernel
theorem dX10_takeSizes_0 : decode cX10_takeSizes 0 = .ok (.aload_n 0, 1) := by decide +kernel
theorem dX10_takeSizes_1 : decode cX10_takeSizes 1 = .ok (.getfield 14, 3) := by decide +kernel
theorem dX10_takeSizes_4 : decode cX10_takeSizes 4 = .ok (.iload_n 2, 1) := by decide +kernel
theorem dX10_takeSizes_5 : decode cX10_takeSizes 5 = .ok (.iaload, 1) := by decide +kernel
theorem dX10_takeSizes_6 : decode cX10_takeSizes 6 = .ok (.istore 4, 2) := by decide +kernel
theorem dX10_takeSizes_8 : decode cX10_takeSizes 8 = .ok (.lconst 0, 1) := by decide +kernel
theorem dX10_takeSizes_9 : decode cX10_takeSizes 9 = .ok (.lstore 5, 2) := by decide +kernel
theorem dX10_takeSizes_11 : decode cX10_takeSizes 11 = .ok (.iconst 0, 1) := by decide +kernel
theorem dX10_takeSizes_12 : decode cX10_takeSizes 12 = .ok (.istore 7, 2) := by decide +kernel
theorem dX10_takeSizes_14 : decode cX10_takeSizes 14 = .ok (.iload 7, 2) := by decide +kernel
theorem dX10_takeSizes_16 : decode cX10_takeSizes 16 = .ok (.iload 4, 2) := by decide +kernel
theorem dX10_takeSizes_18 : decode cX10_takeSizes 18 = .ok (.if_icmp .ge 59, 3) := by decide +kernel
theorem dX10_takeSizes_21 : decode cX10_takeSizes 21 = .ok (.aload_n 0, 1) := by decide +kernel
theorem dX10_takeSizes_22 : decode cX10_takeSizes 22 = .ok (.iload_n 2, 1) := by decide +kernel
theorem dX10_takeSizes_23 : decode cX10_takeSizes 23 = .ok (.iload 7, 2) := by decide +kernel
theorem dX10_takeSizes_25 : decode cX10_takeSizes 25 = .ok (.invokevirtual 87, 3) := by decide +kernel
theorem dX10_takeSizes_28 : decode cX10_takeSizes 28 = .ok (.aload_n 0, 1) := by decide +kernel
theorem dX10_takeSizes_29 : decode cX10_takeSizes 29 = .ok (.iload_n 3, 1) := by decide +kernel
theorem dX10_takeSizes_30 : decode cX10_takeSizes 30 = .ok (.iload 7, 2) := by decide +kernel
theorem dX10_takeSizes_32 : decode cX10_takeSizes 32 = .ok (.invokevirtual 87, 3) := by decide +kernel
theorem dX10_takeSizes_35 : decode cX10_takeSizes 35 = .ok (.lsub, 1) := by decide +kernel
theorem dX10_takeSizes_36 : decode cX10_takeSizes 36 = .ok (.lload 5, 2) := by decide +kernel
theorem dX10_takeSizes_38 : decode cX10_takeSizes 38 = .ok (.lsub, 1) := by decide +kernel
theorem dX10_takeSizes_39 : decode cX10_takeSizes 39 = .ok (.lstore 8, 2) := by decide +kernel
theorem dX10_takeSizes_41 : decode cX10_takeSizes 41 = .ok (.aload_n 0, 1) := by decide +kernel
theorem dX10_takeSizes_42 : decode cX10_takeSizes 42 = .ok (.getfield 8, 3) := by decide +kernel
theorem dX10_takeSizes_45 : decode cX10_takeSizes 45 = .ok (.ldc 91, 2) := by decide +kernel
theorem dX10_takeSizes_47 : decode cX10_takeSizes 47 = .ok (.iload 7, 2) := by decide +kernel
theorem dX10_takeSizes_49 : decode cX10_takeSizes 49 = .ok (.iadd, 1) := by decide +kernel
theorem dX10_takeSizes_50 : decode cX10_takeSizes 50 = .ok (.lload 8, 2) := by decide +kernel
theorem dX10_takeSizes_52 : decode cX10_takeSizes 52 = .ok (.ldc2_w 81, 3) := by decide +kernel
theorem dX10_takeSizes_55 : decode cX10_takeSizes 55 = .ok (.land, 1) := by decide +kernel
theorem dX10_takeSizes_56 : decode cX10_takeSizes 56 = .ok (.lastore, 1) := by decide +kernel
theorem dX10_takeSizes_57 : decode cX10_takeSizes 57 = .ok (.lload 8, 2) := by decide +kernel
theorem dX10_takeSizes_59 : decode cX10_takeSizes 59 = .ok (.lconst 0, 1) := by decide +kernel
theorem dX10_takeSizes_60 : decode cX10_takeSizes 60 = .ok (.lcmp, 1) := by decide +kernel
theorem dX10_takeSizes_61 : decode cX10_takeSizes 61 = .ok (.ifCond .ge 7, 3) := by decide +kernel
theorem dX10_takeSizes_64 : decode cX10_takeSizes 64 = .ok (.lconst 1, 1) := by decide +kernel
theorem dX10_takeSizes_65 : decode cX10_takeSizes 65 = .ok (.goto 4, 3) := by decide +kernel
theorem dX10_takeSizes_68 : decode cX10_takeSizes 68 = .ok (.lconst 0, 1) := by decide +kernel
theorem dX10_takeSizes_69 : decode cX10_takeSizes 69 = .ok (.lstore 5, 2) := by decide +kernel
theorem dX10_takeSizes_71 : decode cX10_takeSizes 71 = .ok (.iinc 7 1, 3) := by decide +kernel
theorem dX10_takeSizes_74 : decode cX10_takeSizes 74 = .ok (.goto (-60), 3) := by decide +kernel
theorem dX10_takeSizes_77 : decode cX10_takeSizes 77 = .ok (.aload_n 0, 1) := by decide +kernel
theorem dX10_takeSizes_78 : decode cX10_takeSizes 78 = .ok (.getfield 14, 3) := by decide +kernel
theorem dX10_takeSizes_81 : decode cX10_takeSizes 81 = .ok (.sipush 2066, 3) := by decide +kernel
theorem dX10_takeSizes_84 : decode cX10_takeSizes 84 = .ok (.iload 4, 2) := by decide +kernel
theorem dX10_takeSizes_86 : decode cX10_takeSizes 86 = .ok (.iastore, 1) := by decide +kernel
theorem dX10_takeSizes_87 : decode cX10_takeSizes 87 = .ok (.aload_n 0, 1) := by decide +kernel
theorem dX10_takeSizes_88 : decode cX10_takeSizes 88 = .ok (.getfield 18, 3) := by decide +kernel
theorem dX10_takeSizes_91 : decode cX10_takeSizes 91 = .ok (.sipush 2066, 3) := by decide +kernel
theorem dX10_takeSizes_94 : decode cX10_takeSizes 94 = .ok (.iconst 0, 1) := by decide +kernel
theorem dX10_takeSizes_95 : decode cX10_takeSizes 95 = .ok (.bastore, 1) := by decide +kernel
theorem dX10_takeSizes_96 : decode cX10_takeSizes 96 = .ok (.aload_n 0, 1) := by decide +kernel
theorem dX10_takeSizes_97 : decode cX10_takeSizes 97 = .ok (.sipush 2066, 3) := by decide +kernel
theorem dX10_takeSizes_100 : decode cX10_takeSizes 100 = .ok (.invokevirtual 83, 3) := by decide +kernel
theorem dX10_takeSizes_103 : decode cX10_takeSizes 103 = .ok (.aload_n 0, 1) := by decide +kernel
theorem dX10_takeSizes_104 : decode cX10_takeSizes 104 = .ok (.iload_n 1, 1) := by decide +kernel
theorem dX10_takeSizes_105 : decode cX10_takeSizes 105 = .ok (.sipush 2066, 3) := by decide +kernel
theorem dX10_takeSizes_108 : decode cX10_takeSizes 108 = .ok (.invokevirtual 92, 3) := by decide +kernel
theorem dX10_takeSizes_111 : decode cX10_takeSizes 111 = .ok (.return_, 1) := by decide +kernel
theorem dX10_add_0 : decode cX10_add 0 = .ok (.aload_n 0, 1) := by decide +kernel
theorem dX10_add_1 : decode cX10_add 1 = .ok (.getfield 18, 3) := by decide +kernel
theorem dX10_add_4 : decode cX10_add 4 = .ok (.iload_n 2, 1) := by decide +kernel
theorem dX10_add_5 : decode cX10_add 5 = .ok (.baload, 1) := by decide +kernel
theorem dX10_add_6 : decode cX10_add 6 = .ok (.istore 4, 2) := by decide +kernel
theorem dX10_add_8 : decode cX10_add 8 = .ok (.aload_n 0, 1) := by decide +kernel
theorem dX10_add_9 : decode cX10_add 9 = .ok (.getfield 18, 3) := by decide +kernel
theorem dX10_add_12 : decode cX10_add 12 = .ok (.iload_n 3, 1) := by decide +kernel
theorem dX10_add_13 : decode cX10_add 13 = .ok (.baload, 1) := by decide +kernel
theorem dX10_add_14 : decode cX10_add 14 = .ok (.istore 5, 2) := by decide +kernel
theorem dX10_add_16 : decode cX10_add 16 = .ok (.iload 4, 2) := by decide +kernel
theorem dX10_add_18 : decode cX10_add 18 = .ok (.iload 5, 2) := by decide +kernel
theorem dX10_add_20 : decode cX10_add 20 = .ok (.if_icmp .ne 21, 3) := by decide +kernel
theorem dX10_add_23 : decode cX10_add 23 = .ok (.aload_n 0, 1) := by decide +kernel
theorem dX10_add_24 : decode cX10_add 24 = .ok (.iload_n 1, 1) := by decide +kernel
theorem dX10_add_25 : decode cX10_add 25 = .ok (.iload_n 2, 1) := by decide +kernel
theorem dX10_add_26 : decode cX10_add 26 = .ok (.iload_n 3, 1) := by decide +kernel
theorem dX10_add_27 : decode cX10_add 27 = .ok (.invokevirtual 96, 3) := by decide +kernel
theorem dX10_add_30 : decode cX10_add 30 = .ok (.aload_n 0, 1) := by decide +kernel
theorem dX10_add_31 : decode cX10_add 31 = .ok (.getfield 18, 3) := by decide +kernel
theorem dX10_add_34 : decode cX10_add 34 = .ok (.iload_n 1, 1) := by decide +kernel
theorem dX10_add_35 : decode cX10_add 35 = .ok (.iload 4, 2) := by decide +kernel
theorem dX10_add_37 : decode cX10_add 37 = .ok (.bastore, 1) := by decide +kernel
theorem dX10_add_38 : decode cX10_add 38 = .ok (.goto 45, 3) := by decide +kernel
theorem dX10_add_41 : decode cX10_add 41 = .ok (.aload_n 0, 1) := by decide +kernel
theorem dX10_add_42 : decode cX10_add 42 = .ok (.iload_n 2, 1) := by decide +kernel
theorem dX10_add_43 : decode cX10_add 43 = .ok (.iload_n 3, 1) := by decide +kernel
theorem dX10_add_44 : decode cX10_add 44 = .ok (.invokevirtual 100, 3) := by decide +kernel
theorem dX10_add_47 : decode cX10_add 47 = .ok (.ifCond .lt 21, 3) := by decide +kernel
theorem dX10_add_50 : decode cX10_add 50 = .ok (.aload_n 0, 1) := by decide +kernel
theorem dX10_add_51 : decode cX10_add 51 = .ok (.iload_n 1, 1) := by decide +kernel
theorem dX10_add_52 : decode cX10_add 52 = .ok (.iload_n 2, 1) := by decide +kernel
theorem dX10_add_53 : decode cX10_add 53 = .ok (.iload_n 3, 1) := by decide +kernel
theorem dX10_add_54 : decode cX10_add 54 = .ok (.invokevirtual 104, 3) := by decide +kernel
theorem dX10_add_57 : decode cX10_add 57 = .ok (.aload_n 0, 1) := by decide +kernel
theorem dX10_add_58 : decode cX10_add 58 = .ok (.getfield 18, 3) := by decide +kernel
theorem dX10_add_61 : decode cX10_add 61 = .ok (.iload_n 1, 1) := by decide +kernel
theorem dX10_add_62 : decode cX10_add 62 = .ok (.iload 4, 2) := by decide +kernel
theorem dX10_add_64 : decode cX10_add 64 = .ok (.bastore, 1) := by decide +kernel
theorem dX10_add_65 : decode cX10_add 65 = .ok (.goto 18, 3) := by decide +kernel
theorem dX10_add_68 : decode cX10_add 68 = .ok (.aload_n 0, 1) := by decide +kernel
theorem dX10_add_69 : decode cX10_add 69 = .ok (.iload_n 1, 1) := by decide +kernel
theorem dX10_add_70 : decode cX10_add 70 = .ok (.iload_n 3, 1) := by decide +kernel
theorem dX10_add_71 : decode cX10_add 71 = .ok (.iload_n 2, 1) := by decide +kernel
theorem dX10_add_72 : decode cX10_add 72 = .ok (.invokevirtual 104, 3) := by decide +kernel
theorem dX10_add_75 : decode cX10_add 75 = .ok (.aload_n 0, 1) := by decide +kernel
theorem dX10_add_76 : decode cX10_add 76 = .ok (.getfield 18, 3) := by decide +kernel
theorem dX10_add_79 : decode cX10_add 79 = .ok (.iload_n 1, 1) := by decide +kernel
theorem dX10_add_80 : decode cX10_add 80 = .ok (.iload 5, 2) := by decide +kernel
theorem dX10_add_82 : decode cX10_add 82 = .ok (.bastore, 1) := by decide +kernel
theorem dX10_add_83 : decode cX10_add 83 = .ok (.aload_n 0, 1) := by decide +kernel
theorem dX10_add_84 : decode cX10_add 84 = .ok (.iload_n 1, 1) := by decide +kernel
theorem dX10_add_85 : decode cX10_add 85 = .ok (.invokevirtual 83, 3) := by decide +kernel
theorem dX10_add_88 : decode cX10_add 88 = .ok (.return_, 1) := by decide +kernel
theorem dX10_times_0 : decode cX10_times 0 = .ok (.aload_n 0, 1) := by decide +kernel
theorem dX10_times_1 : decode cX10_times 1 = .ok (.getfield 18, 3) := by decide +kernel
theorem dX10_times_4 : decode cX10_times 4 = .ok (.iload_n 2, 1) := by decide +kernel
theorem dX10_times_5 : decode cX10_times 5 = .ok (.baload, 1) := by decide +kernel
theorem dX10_times_6 : decode cX10_times 6 = .ok (.aload_n 0, 1) := by decide +kernel
theorem dX10_times_7 : decode cX10_times 7 = .ok (.getfield 18, 3) := by decide +kernel
theorem dX10_times_10 : decode cX10_times 10 = .ok (.iload_n 3, 1) := by decide +kernel
theorem dX10_times_11 : decode cX10_times 11 = .ok (.baload, 1) := by decide +kernel
theorem dX10_times_12 : decode cX10_times 12 = .ok (.if_icmp .eq 7, 3) := by decide +kernel
theorem dX10_times_15 : decode cX10_times 15 = .ok (.iconst 1, 1) := by decide +kernel
theorem dX10_times_16 : decode cX10_times 16 = .ok (.goto 4, 3) := by decide +kernel
theorem dX10_times_19 : decode cX10_times 19 = .ok (.iconst 0, 1) := by decide +kernel
theorem dX10_times_20 : decode cX10_times 20 = .ok (.istore 4, 2) := by decide +kernel
theorem dX10_times_22 : decode cX10_times 22 = .ok (.aload_n 0, 1) := by decide +kernel
theorem dX10_times_23 : decode cX10_times 23 = .ok (.getfield 14, 3) := by decide +kernel
theorem dX10_times_26 : decode cX10_times 26 = .ok (.iload_n 2, 1) := by decide +kernel
theorem dX10_times_27 : decode cX10_times 27 = .ok (.iaload, 1) := by decide +kernel
theorem dX10_times_28 : decode cX10_times 28 = .ok (.aload_n 0, 1) := by decide +kernel
theorem dX10_times_29 : decode cX10_times 29 = .ok (.getfield 14, 3) := by decide +kernel
theorem dX10_times_32 : decode cX10_times 32 = .ok (.iload_n 3, 1) := by decide +kernel
theorem dX10_times_33 : decode cX10_times 33 = .ok (.iaload, 1) := by decide +kernel
theorem dX10_times_34 : decode cX10_times 34 = .ok (.iadd, 1) := by decide +kernel
theorem dX10_times_35 : decode cX10_times 35 = .ok (.istore 5, 2) := by decide +kernel
theorem dX10_times_37 : decode cX10_times 37 = .ok (.iconst 0, 1) := by decide +kernel
theorem dX10_times_38 : decode cX10_times 38 = .ok (.istore 6, 2) := by decide +kernel
theorem dX10_times_40 : decode cX10_times 40 = .ok (.iload 6, 2) := by decide +kernel
theorem dX10_times_42 : decode cX10_times 42 = .ok (.iload 5, 2) := by decide +kernel
theorem dX10_times_44 : decode cX10_times 44 = .ok (.if_icmp .ge 20, 3) := by decide +kernel
theorem dX10_times_47 : decode cX10_times 47 = .ok (.aload_n 0, 1) := by decide +kernel
theorem dX10_times_48 : decode cX10_times 48 = .ok (.getfield 8, 3) := by decide +kernel
theorem dX10_times_51 : decode cX10_times 51 = .ok (.ldc 91, 2) := by decide +kernel
theorem dX10_times_53 : decode cX10_times 53 = .ok (.iload 6, 2) := by decide +kernel
theorem dX10_times_55 : decode cX10_times 55 = .ok (.iadd, 1) := by decide +kernel
theorem dX10_times_56 : decode cX10_times 56 = .ok (.lconst 0, 1) := by decide +kernel
theorem dX10_times_57 : decode cX10_times 57 = .ok (.lastore, 1) := by decide +kernel
theorem dX10_times_58 : decode cX10_times 58 = .ok (.iinc 6 1, 3) := by decide +kernel
theorem dX10_times_61 : decode cX10_times 61 = .ok (.goto (-21), 3) := by decide +kernel
theorem dX10_times_64 : decode cX10_times 64 = .ok (.iconst 0, 1) := by decide +kernel
theorem dX10_times_65 : decode cX10_times 65 = .ok (.istore 6, 2) := by decide +kernel
theorem dX10_times_67 : decode cX10_times 67 = .ok (.iload 6, 2) := by decide +kernel
theorem dX10_times_69 : decode cX10_times 69 = .ok (.aload_n 0, 1) := by decide +kernel
theorem dX10_times_70 : decode cX10_times 70 = .ok (.getfield 14, 3) := by decide +kernel
theorem dX10_times_73 : decode cX10_times 73 = .ok (.iload_n 2, 1) := by decide +kernel
theorem dX10_times_74 : decode cX10_times 74 = .ok (.iaload, 1) := by decide +kernel
theorem dX10_times_75 : decode cX10_times 75 = .ok (.if_icmp .ge 121, 3) := by decide +kernel
theorem dX10_times_78 : decode cX10_times 78 = .ok (.lconst 0, 1) := by decide +kernel
theorem dX10_times_79 : decode cX10_times 79 = .ok (.lstore 7, 2) := by decide +kernel
theorem dX10_times_81 : decode cX10_times 81 = .ok (.iconst 0, 1) := by decide +kernel
theorem dX10_times_82 : decode cX10_times 82 = .ok (.istore 9, 2) := by decide +kernel
theorem dX10_times_84 : decode cX10_times 84 = .ok (.iload 9, 2) := by decide +kernel
theorem dX10_times_86 : decode cX10_times 86 = .ok (.aload_n 0, 1) := by decide +kernel
theorem dX10_times_87 : decode cX10_times 87 = .ok (.getfield 14, 3) := by decide +kernel
theorem dX10_times_90 : decode cX10_times 90 = .ok (.iload_n 3, 1) := by decide +kernel
theorem dX10_times_91 : decode cX10_times 91 = .ok (.iaload, 1) := by decide +kernel
theorem dX10_times_92 : decode cX10_times 92 = .ok (.if_icmp .ge 79, 3) := by decide +kernel
theorem dX10_times_95 : decode cX10_times 95 = .ok (.aload_n 0, 1) := by decide +kernel
theorem dX10_times_96 : decode cX10_times 96 = .ok (.getfield 8, 3) := by decide +kernel
theorem dX10_times_99 : decode cX10_times 99 = .ok (.bipush 80, 2) := by decide +kernel
theorem dX10_times_101 : decode cX10_times 101 = .ok (.iload_n 2, 1) := by decide +kernel
theorem dX10_times_102 : decode cX10_times 102 = .ok (.imul, 1) := by decide +kernel
theorem dX10_times_103 : decode cX10_times 103 = .ok (.iload 6, 2) := by decide +kernel
theorem dX10_times_105 : decode cX10_times 105 = .ok (.iadd, 1) := by decide +kernel
theorem dX10_times_106 : decode cX10_times 106 = .ok (.laload, 1) := by decide +kernel
theorem dX10_times_107 : decode cX10_times 107 = .ok (.aload_n 0, 1) := by decide +kernel
theorem dX10_times_108 : decode cX10_times 108 = .ok (.getfield 8, 3) := by decide +kernel
theorem dX10_times_111 : decode cX10_times 111 = .ok (.bipush 80, 2) := by decide +kernel
theorem dX10_times_113 : decode cX10_times 113 = .ok (.iload_n 3, 1) := by decide +kernel
theorem dX10_times_114 : decode cX10_times 114 = .ok (.imul, 1) := by decide +kernel
theorem dX10_times_115 : decode cX10_times 115 = .ok (.iload 9, 2) := by decide +kernel
theorem dX10_times_117 : decode cX10_times 117 = .ok (.iadd, 1) := by decide +kernel
theorem dX10_times_118 : decode cX10_times 118 = .ok (.laload, 1) := by decide +kernel
theorem dX10_times_119 : decode cX10_times 119 = .ok (.lmul, 1) := by decide +kernel
theorem dX10_times_120 : decode cX10_times 120 = .ok (.aload_n 0, 1) := by decide +kernel
theorem dX10_times_121 : decode cX10_times 121 = .ok (.getfield 8, 3) := by decide +kernel
theorem dX10_times_124 : decode cX10_times 124 = .ok (.ldc 91, 2) := by decide +kernel
theorem dX10_times_126 : decode cX10_times 126 = .ok (.iload 6, 2) := by decide +kernel
theorem dX10_times_128 : decode cX10_times 128 = .ok (.iadd, 1) := by decide +kernel
theorem dX10_times_129 : decode cX10_times 129 = .ok (.iload 9, 2) := by decide +kernel
theorem dX10_times_131 : decode cX10_times 131 = .ok (.iadd, 1) := by decide +kernel
theorem dX10_times_132 : decode cX10_times 132 = .ok (.laload, 1) := by decide +kernel
theorem dX10_times_133 : decode cX10_times 133 = .ok (.ladd, 1) := by decide +kernel
theorem dX10_times_134 : decode cX10_times 134 = .ok (.lload 7, 2) := by decide +kernel
theorem dX10_times_136 : decode cX10_times 136 = .ok (.ladd, 1) := by decide +kernel
theorem dX10_times_137 : decode cX10_times 137 = .ok (.lstore 10, 2) := by decide +kernel
theorem dX10_times_139 : decode cX10_times 139 = .ok (.aload_n 0, 1) := by decide +kernel
theorem dX10_times_140 : decode cX10_times 140 = .ok (.getfield 8, 3) := by decide +kernel
theorem dX10_times_143 : decode cX10_times 143 = .ok (.ldc 91, 2) := by decide +kernel
theorem dX10_times_145 : decode cX10_times 145 = .ok (.iload 6, 2) := by decide +kernel
theorem dX10_times_147 : decode cX10_times 147 = .ok (.iadd, 1) := by decide +kernel
theorem dX10_times_148 : decode cX10_times 148 = .ok (.iload 9, 2) := by decide +kernel
theorem dX10_times_150 : decode cX10_times 150 = .ok (.iadd, 1) := by decide +kernel
theorem dX10_times_151 : decode cX10_times 151 = .ok (.lload 10, 2) := by decide +kernel
theorem dX10_times_153 : decode cX10_times 153 = .ok (.ldc2_w 81, 3) := by decide +kernel
theorem dX10_times_156 : decode cX10_times 156 = .ok (.land, 1) := by decide +kernel
theorem dX10_times_157 : decode cX10_times 157 = .ok (.lastore, 1) := by decide +kernel
theorem dX10_times_158 : decode cX10_times 158 = .ok (.lload 10, 2) := by decide +kernel
theorem dX10_times_160 : decode cX10_times 160 = .ok (.bipush 32, 2) := by decide +kernel
theorem dX10_times_162 : decode cX10_times 162 = .ok (.lushr, 1) := by decide +kernel
theorem dX10_times_163 : decode cX10_times 163 = .ok (.lstore 7, 2) := by decide +kernel
theorem dX10_times_165 : decode cX10_times 165 = .ok (.iinc 9 1, 3) := by decide +kernel
theorem dX10_times_168 : decode cX10_times 168 = .ok (.goto (-84), 3) := by decide +kernel
theorem dX10_times_171 : decode cX10_times 171 = .ok (.aload_n 0, 1) := by decide +kernel
theorem dX10_times_172 : decode cX10_times 172 = .ok (.getfield 8, 3) := by decide +kernel
theorem dX10_times_175 : decode cX10_times 175 = .ok (.ldc 91, 2) := by decide +kernel
theorem dX10_times_177 : decode cX10_times 177 = .ok (.iload 6, 2) := by decide +kernel
theorem dX10_times_179 : decode cX10_times 179 = .ok (.iadd, 1) := by decide +kernel
theorem dX10_times_180 : decode cX10_times 180 = .ok (.aload_n 0, 1) := by decide +kernel
theorem dX10_times_181 : decode cX10_times 181 = .ok (.getfield 14, 3) := by decide +kernel
theorem dX10_times_184 : decode cX10_times 184 = .ok (.iload_n 3, 1) := by decide +kernel
theorem dX10_times_185 : decode cX10_times 185 = .ok (.iaload, 1) := by decide +kernel
theorem dX10_times_186 : decode cX10_times 186 = .ok (.iadd, 1) := by decide +kernel
theorem dX10_times_187 : decode cX10_times 187 = .ok (.lload 7, 2) := by decide +kernel
theorem dX10_times_189 : decode cX10_times 189 = .ok (.lastore, 1) := by decide +kernel
theorem dX10_times_190 : decode cX10_times 190 = .ok (.iinc 6 1, 3) := by decide +kernel
theorem dX10_times_193 : decode cX10_times 193 = .ok (.goto (-126), 3) := by decide +kernel
theorem dX10_times_196 : decode cX10_times 196 = .ok (.aload_n 0, 1) := by decide +kernel
theorem dX10_times_197 : decode cX10_times 197 = .ok (.getfield 14, 3) := by decide +kernel
theorem dX10_times_200 : decode cX10_times 200 = .ok (.sipush 2066, 3) := by decide +kernel
theorem dX10_times_203 : decode cX10_times 203 = .ok (.iload 5, 2) := by decide +kernel
theorem dX10_times_205 : decode cX10_times 205 = .ok (.iastore, 1) := by decide +kernel
theorem dX10_times_206 : decode cX10_times 206 = .ok (.aload_n 0, 1) := by decide +kernel
theorem dX10_times_207 : decode cX10_times 207 = .ok (.getfield 18, 3) := by decide +kernel
theorem dX10_times_210 : decode cX10_times 210 = .ok (.sipush 2066, 3) := by decide +kernel
theorem dX10_times_213 : decode cX10_times 213 = .ok (.iload 4, 2) := by decide +kernel
theorem dX10_times_215 : decode cX10_times 215 = .ok (.bastore, 1) := by decide +kernel
theorem dX10_times_216 : decode cX10_times 216 = .ok (.aload_n 0, 1) := by decide +kernel
theorem dX10_times_217 : decode cX10_times 217 = .ok (.sipush 2066, 3) := by decide +kernel
theorem dX10_times_220 : decode cX10_times 220 = .ok (.invokevirtual 83, 3) := by decide +kernel
theorem dX10_times_223 : decode cX10_times 223 = .ok (.aload_n 0, 1) := by decide +kernel
theorem dX10_times_224 : decode cX10_times 224 = .ok (.iload_n 1, 1) := by decide +kernel
theorem dX10_times_225 : decode cX10_times 225 = .ok (.sipush 2066, 3) := by decide +kernel
theorem dX10_times_228 : decode cX10_times 228 = .ok (.invokevirtual 92, 3) := by decide +kernel
theorem dX10_times_231 : decode cX10_times 231 = .ok (.return_, 1) := by decide +kernel
theorem dX10_bitsOf_0 : decode cX10_bitsOf 0 = .ok (.iconst 0, 1) := by decide +kernel
theorem dX10_bitsOf_1 : decode cX10_bitsOf 1 = .ok (.istore_n 2, 1) := by decide +kernel
theorem dX10_bitsOf_2 : decode cX10_bitsOf 2 = .ok (.aload_n 0, 1) := by decide +kernel
theorem dX10_bitsOf_3 : decode cX10_bitsOf 3 = .ok (.getfield 14, 3) := by decide +kernel
theorem dX10_bitsOf_6 : decode cX10_bitsOf 6 = .ok (.iload_n 1, 1) := by decide +kernel
theorem dX10_bitsOf_7 : decode cX10_bitsOf 7 = .ok (.iaload, 1) := by decide +kernel
theorem dX10_bitsOf_8 : decode cX10_bitsOf 8 = .ok (.ifCond .ne 7, 3) := by decide +kernel
theorem dX10_bitsOf_11 : decode cX10_bitsOf 11 = .ok (.lconst 0, 1) := by decide +kernel
theorem dX10_bitsOf_12 : decode cX10_bitsOf 12 = .ok (.goto 21, 3) := by decide +kernel
theorem dX10_bitsOf_15 : decode cX10_bitsOf 15 = .ok (.aload_n 0, 1) := by decide +kernel
theorem dX10_bitsOf_16 : decode cX10_bitsOf 16 = .ok (.getfield 8, 3) := by decide +kernel
theorem dX10_bitsOf_19 : decode cX10_bitsOf 19 = .ok (.bipush 80, 2) := by decide +kernel
theorem dX10_bitsOf_21 : decode cX10_bitsOf 21 = .ok (.iload_n 1, 1) := by decide +kernel
theorem dX10_bitsOf_22 : decode cX10_bitsOf 22 = .ok (.imul, 1) := by decide +kernel
theorem dX10_bitsOf_23 : decode cX10_bitsOf 23 = .ok (.aload_n 0, 1) := by decide +kernel
theorem dX10_bitsOf_24 : decode cX10_bitsOf 24 = .ok (.getfield 14, 3) := by decide +kernel
theorem dX10_bitsOf_27 : decode cX10_bitsOf 27 = .ok (.iload_n 1, 1) := by decide +kernel
theorem dX10_bitsOf_28 : decode cX10_bitsOf 28 = .ok (.iaload, 1) := by decide +kernel
theorem dX10_bitsOf_29 : decode cX10_bitsOf 29 = .ok (.iadd, 1) := by decide +kernel
theorem dX10_bitsOf_30 : decode cX10_bitsOf 30 = .ok (.iconst 1, 1) := by decide +kernel
theorem dX10_bitsOf_31 : decode cX10_bitsOf 31 = .ok (.isub, 1) := by decide +kernel
theorem dX10_bitsOf_32 : decode cX10_bitsOf 32 = .ok (.laload, 1) := by decide +kernel
theorem dX10_bitsOf_33 : decode cX10_bitsOf 33 = .ok (.lstore_n 3, 1) := by decide +kernel
theorem dX10_bitsOf_34 : decode cX10_bitsOf 34 = .ok (.lload_n 3, 1) := by decide +kernel
theorem dX10_bitsOf_35 : decode cX10_bitsOf 35 = .ok (.iload_n 2, 1) := by decide +kernel
theorem dX10_bitsOf_36 : decode cX10_bitsOf 36 = .ok (.lshr, 1) := by decide +kernel
theorem dX10_bitsOf_37 : decode cX10_bitsOf 37 = .ok (.lconst 0, 1) := by decide +kernel
theorem dX10_bitsOf_38 : decode cX10_bitsOf 38 = .ok (.lcmp, 1) := by decide +kernel
theorem dX10_bitsOf_39 : decode cX10_bitsOf 39 = .ok (.ifCond .le 9, 3) := by decide +kernel
theorem dX10_bitsOf_42 : decode cX10_bitsOf 42 = .ok (.iinc 2 1, 3) := by decide +kernel
theorem dX10_bitsOf_45 : decode cX10_bitsOf 45 = .ok (.goto (-11), 3) := by decide +kernel
theorem dX10_bitsOf_48 : decode cX10_bitsOf 48 = .ok (.aload_n 0, 1) := by decide +kernel
theorem dX10_bitsOf_49 : decode cX10_bitsOf 49 = .ok (.getfield 14, 3) := by decide +kernel
theorem dX10_bitsOf_52 : decode cX10_bitsOf 52 = .ok (.iload_n 1, 1) := by decide +kernel
theorem dX10_bitsOf_53 : decode cX10_bitsOf 53 = .ok (.iaload, 1) := by decide +kernel
theorem dX10_bitsOf_54 : decode cX10_bitsOf 54 = .ok (.ifCond .ne 7, 3) := by decide +kernel
theorem dX10_bitsOf_57 : decode cX10_bitsOf 57 = .ok (.iconst 0, 1) := by decide +kernel
theorem dX10_bitsOf_58 : decode cX10_bitsOf 58 = .ok (.goto 16, 3) := by decide +kernel
theorem dX10_bitsOf_61 : decode cX10_bitsOf 61 = .ok (.bipush 32, 2) := by decide +kernel
theorem dX10_bitsOf_63 : decode cX10_bitsOf 63 = .ok (.aload_n 0, 1) := by decide +kernel
theorem dX10_bitsOf_64 : decode cX10_bitsOf 64 = .ok (.getfield 14, 3) := by decide +kernel
theorem dX10_bitsOf_67 : decode cX10_bitsOf 67 = .ok (.iload_n 1, 1) := by decide +kernel
theorem dX10_bitsOf_68 : decode cX10_bitsOf 68 = .ok (.iaload, 1) := by decide +kernel
theorem dX10_bitsOf_69 : decode cX10_bitsOf 69 = .ok (.iconst 1, 1) := by decide +kernel
theorem dX10_bitsOf_70 : decode cX10_bitsOf 70 = .ok (.isub, 1) := by decide +kernel
theorem dX10_bitsOf_71 : decode cX10_bitsOf 71 = .ok (.imul, 1) := by decide +kernel
theorem dX10_bitsOf_72 : decode cX10_bitsOf 72 = .ok (.iload_n 2, 1) := by decide +kernel
theorem dX10_bitsOf_73 : decode cX10_bitsOf 73 = .ok (.iadd, 1) := by decide +kernel
theorem dX10_bitsOf_74 : decode cX10_bitsOf 74 = .ok (.ireturn, 1) := by decide +kernel
theorem dX10_isEven_0 : decode cX10_isEven 0 = .ok (.aload_n 0, 1) := by decide +kernel
theorem dX10_isEven_1 : decode cX10_isEven 1 = .ok (.iload_n 1, 1) := by decide +kernel
theorem dX10_isEven_2 : decode cX10_isEven 2 = .ok (.iconst 0, 1) := by decide +kernel
theorem dX10_isEven_3 : decode cX10_isEven 3 = .ok (.invokevirtual 87, 3) := by decide +kernel
theorem dX10_isEven_6 : decode cX10_isEven 6 = .ok (.lconst 1, 1) := by decide +kernel
theorem dX10_isEven_7 : decode cX10_isEven 7 = .ok (.land, 1) := by decide +kernel
theorem dX10_isEven_8 : decode cX10_isEven 8 = .ok (.lconst 0, 1) := by decide +kernel
theorem dX10_isEven_9 : decode cX10_isEven 9 = .ok (.lcmp, 1) := by decide +kernel
theorem dX10_isEven_10 : decode cX10_isEven 10 = .ok (.ifCond .ne 7, 3) := by decide +kernel
theorem dX10_isEven_13 : decode cX10_isEven 13 = .ok (.iconst 1, 1) := by decide +kernel
theorem dX10_isEven_14 : decode cX10_isEven 14 = .ok (.goto 4, 3) := by decide +kernel
theorem dX10_isEven_17 : decode cX10_isEven 17 = .ok (.iconst 0, 1) := by decide +kernel
theorem dX10_isEven_18 : decode cX10_isEven 18 = .ok (.ireturn, 1) := by decide +kernel
theorem dX10_halve_0 : decode cX10_halve 0 = .ok (.iconst 0, 1) := by decide +kernel
theorem dX10_halve_1 : decode cX10_halve 1 = .ok (.istore_n 2, 1) := by decide +kernel
theorem dX10_halve_2 : decode cX10_halve 2 = .ok (.iload_n 2, 1) := by decide +kernel
theorem dX10_halve_3 : decode cX10_halve 3 = .ok (.aload_n 0, 1) := by decide +kernel
theorem dX10_halve_4 : decode cX10_halve 4 = .ok (.getfield 14, 3) := by decide +kernel
theorem dX10_halve_7 : decode cX10_halve 7 = .ok (.iload_n 1, 1) := by decide +kernel
theorem dX10_halve_8 : decode cX10_halve 8 = .ok (.iaload, 1) := by decide +kernel
theorem dX10_halve_9 : decode cX10_halve 9 = .ok (.if_icmp .ge 47, 3) := by decide +kernel
theorem dX10_halve_12 : decode cX10_halve 12 = .ok (.aload_n 0, 1) := by decide +kernel
theorem dX10_halve_13 : decode cX10_halve 13 = .ok (.getfield 8, 3) := by decide +kernel
theorem dX10_halve_16 : decode cX10_halve 16 = .ok (.bipush 80, 2) := by decide +kernel
theorem dX10_halve_18 : decode cX10_halve 18 = .ok (.iload_n 1, 1) := by decide +kernel
theorem dX10_halve_19 : decode cX10_halve 19 = .ok (.imul, 1) := by decide +kernel
theorem dX10_halve_20 : decode cX10_halve 20 = .ok (.iload_n 2, 1) := by decide +kernel
theorem dX10_halve_21 : decode cX10_halve 21 = .ok (.iadd, 1) := by decide +kernel
theorem dX10_halve_22 : decode cX10_halve 22 = .ok (.aload_n 0, 1) := by decide +kernel
theorem dX10_halve_23 : decode cX10_halve 23 = .ok (.getfield 8, 3) := by decide +kernel
theorem dX10_halve_26 : decode cX10_halve 26 = .ok (.bipush 80, 2) := by decide +kernel
theorem dX10_halve_28 : decode cX10_halve 28 = .ok (.iload_n 1, 1) := by decide +kernel
theorem dX10_halve_29 : decode cX10_halve 29 = .ok (.imul, 1) := by decide +kernel
theorem dX10_halve_30 : decode cX10_halve 30 = .ok (.iload_n 2, 1) := by decide +kernel
theorem dX10_halve_31 : decode cX10_halve 31 = .ok (.iadd, 1) := by decide +kernel
theorem dX10_halve_32 : decode cX10_halve 32 = .ok (.laload, 1) := by decide +kernel
theorem dX10_halve_33 : decode cX10_halve 33 = .ok (.iconst 1, 1) := by decide +kernel
theorem dX10_halve_34 : decode cX10_halve 34 = .ok (.lushr, 1) := by decide +kernel
theorem dX10_halve_35 : decode cX10_halve 35 = .ok (.aload_n 0, 1) := by decide +kernel
theorem dX10_halve_36 : decode cX10_halve 36 = .ok (.iload_n 1, 1) := by decide +kernel
theorem dX10_halve_37 : decode cX10_halve 37 = .ok (.iload_n 2, 1) := by decide +kernel
theorem dX10_halve_38 : decode cX10_halve 38 = .ok (.iconst 1, 1) := by decide +kernel
theorem dX10_halve_39 : decode cX10_halve 39 = .ok (.iadd, 1) := by decide +kernel
theorem dX10_halve_40 : decode cX10_halve 40 = .ok (.invokevirtual 87, 3) := by decide +kernel
theorem dX10_halve_43 : decode cX10_halve 43 = .ok (.lconst 1, 1) := by decide +kernel
theorem dX10_halve_44 : decode cX10_halve 44 = .ok (.land, 1) := by decide +kernel
theorem dX10_halve_45 : decode cX10_halve 45 = .ok (.bipush 31, 2) := by decide +kernel
theorem dX10_halve_47 : decode cX10_halve 47 = .ok (.lshl, 1) := by decide +kernel
theorem dX10_halve_48 : decode cX10_halve 48 = .ok (.lor, 1) := by decide +kernel
theorem dX10_halve_49 : decode cX10_halve 49 = .ok (.lastore, 1) := by decide +kernel
theorem dX10_halve_50 : decode cX10_halve 50 = .ok (.iinc 2 1, 3) := by decide +kernel
theorem dX10_halve_53 : decode cX10_halve 53 = .ok (.goto (-51), 3) := by decide +kernel
theorem dX10_halve_56 : decode cX10_halve 56 = .ok (.aload_n 0, 1) := by decide +kernel
theorem dX10_halve_57 : decode cX10_halve 57 = .ok (.iload_n 1, 1) := by decide +kernel
theorem dX10_halve_58 : decode cX10_halve 58 = .ok (.invokevirtual 83, 3) := by decide +kernel
theorem dX10_halve_61 : decode cX10_halve 61 = .ok (.return_, 1) := by decide +kernel
theorem dX10_twice_0 : decode cX10_twice 0 = .ok (.iload_n 2, 1) := by decide +kernel
theorem dX10_twice_1 : decode cX10_twice 1 = .ok (.i2l, 1) := by decide +kernel
theorem dX10_twice_2 : decode cX10_twice 2 = .ok (.lstore_n 3, 1) := by decide +kernel
theorem dX10_twice_3 : decode cX10_twice 3 = .ok (.iconst 0, 1) := by decide +kernel
theorem dX10_twice_4 : decode cX10_twice 4 = .ok (.istore 5, 2) := by decide +kernel
theorem dX10_twice_6 : decode cX10_twice 6 = .ok (.iload 5, 2) := by decide +kernel
theorem dX10_twice_8 : decode cX10_twice 8 = .ok (.aload_n 0, 1) := by decide +kernel
theorem dX10_twice_9 : decode cX10_twice 9 = .ok (.getfield 14, 3) := by decide +kernel
theorem dX10_twice_12 : decode cX10_twice 12 = .ok (.iload_n 1, 1) := by decide +kernel
theorem dX10_twice_13 : decode cX10_twice 13 = .ok (.iaload, 1) := by decide +kernel
theorem dX10_twice_14 : decode cX10_twice 14 = .ok (.if_icmp .ge 51, 3) := by decide +kernel
theorem dX10_twice_17 : decode cX10_twice 17 = .ok (.aload_n 0, 1) := by decide +kernel
theorem dX10_twice_18 : decode cX10_twice 18 = .ok (.getfield 8, 3) := by decide +kernel
theorem dX10_twice_21 : decode cX10_twice 21 = .ok (.bipush 80, 2) := by decide +kernel
theorem dX10_twice_23 : decode cX10_twice 23 = .ok (.iload_n 1, 1) := by decide +kernel
theorem dX10_twice_24 : decode cX10_twice 24 = .ok (.imul, 1) := by decide +kernel
theorem dX10_twice_25 : decode cX10_twice 25 = .ok (.iload 5, 2) := by decide +kernel
theorem dX10_twice_27 : decode cX10_twice 27 = .ok (.iadd, 1) := by decide +kernel
theorem dX10_twice_28 : decode cX10_twice 28 = .ok (.laload, 1) := by decide +kernel
theorem dX10_twice_29 : decode cX10_twice 29 = .ok (.iconst 1, 1) := by decide +kernel
theorem dX10_twice_30 : decode cX10_twice 30 = .ok (.lshl, 1) := by decide +kernel
theorem dX10_twice_31 : decode cX10_twice 31 = .ok (.lload_n 3, 1) := by decide +kernel
theorem dX10_twice_32 : decode cX10_twice 32 = .ok (.lor, 1) := by decide +kernel
theorem dX10_twice_33 : decode cX10_twice 33 = .ok (.lstore 6, 2) := by decide +kernel
theorem dX10_twice_35 : decode cX10_twice 35 = .ok (.aload_n 0, 1) := by decide +kernel
theorem dX10_twice_36 : decode cX10_twice 36 = .ok (.getfield 8, 3) := by decide +kernel
theorem dX10_twice_39 : decode cX10_twice 39 = .ok (.bipush 80, 2) := by decide +kernel
theorem dX10_twice_41 : decode cX10_twice 41 = .ok (.iload_n 1, 1) := by decide +kernel
theorem dX10_twice_42 : decode cX10_twice 42 = .ok (.imul, 1) := by decide +kernel
theorem dX10_twice_43 : decode cX10_twice 43 = .ok (.iload 5, 2) := by decide +kernel
theorem dX10_twice_45 : decode cX10_twice 45 = .ok (.iadd, 1) := by decide +kernel
theorem dX10_twice_46 : decode cX10_twice 46 = .ok (.lload 6, 2) := by decide +kernel
theorem dX10_twice_48 : decode cX10_twice 48 = .ok (.ldc2_w 81, 3) := by decide +kernel
theorem dX10_twice_51 : decode cX10_twice 51 = .ok (.land, 1) := by decide +kernel
theorem dX10_twice_52 : decode cX10_twice 52 = .ok (.lastore, 1) := by decide +kernel
theorem dX10_twice_53 : decode cX10_twice 53 = .ok (.lload 6, 2) := by decide +kernel
theorem dX10_twice_55 : decode cX10_twice 55 = .ok (.bipush 32, 2) := by decide +kernel
theorem dX10_twice_57 : decode cX10_twice 57 = .ok (.lushr, 1) := by decide +kernel
theorem dX10_twice_58 : decode cX10_twice 58 = .ok (.lstore_n 3, 1) := by decide +kernel
theorem dX10_twice_59 : decode cX10_twice 59 = .ok (.iinc 5 1, 3) := by decide +kernel
theorem dX10_twice_62 : decode cX10_twice 62 = .ok (.goto (-56), 3) := by decide +kernel
theorem dX10_twice_65 : decode cX10_twice 65 = .ok (.lload_n 3, 1) := by decide +kernel
theorem dX10_twice_66 : decode cX10_twice 66 = .ok (.lconst 0, 1) := by decide +kernel
theorem dX10_twice_67 : decode cX10_twice 67 = .ok (.lcmp, 1) := by decide +kernel
theorem dX10_twice_68 : decode cX10_twice 68 = .ok (.ifCond .le 30, 3) := by decide +kernel
theorem dX10_twice_71 : decode cX10_twice 71 = .ok (.aload_n 0, 1) := by decide +kernel
theorem dX10_twice_72 : decode cX10_twice 72 = .ok (.getfield 8, 3) := by decide +kernel
theorem dX10_twice_75 : decode cX10_twice 75 = .ok (.bipush 80, 2) := by decide +kernel
theorem dX10_twice_77 : decode cX10_twice 77 = .ok (.iload_n 1, 1) := by decide +kernel
theorem dX10_twice_78 : decode cX10_twice 78 = .ok (.imul, 1) := by decide +kernel
theorem dX10_twice_79 : decode cX10_twice 79 = .ok (.aload_n 0, 1) := by decide +kernel
theorem dX10_twice_80 : decode cX10_twice 80 = .ok (.getfield 14, 3) := by decide +kernel
theorem dX10_twice_83 : decode cX10_twice 83 = .ok (.iload_n 1, 1) := by decide +kernel
theorem dX10_twice_84 : decode cX10_twice 84 = .ok (.iaload, 1) := by decide +kernel
theorem dX10_twice_85 : decode cX10_twice 85 = .ok (.iadd, 1) := by decide +kernel
theorem dX10_twice_86 : decode cX10_twice 86 = .ok (.lload_n 3, 1) := by decide +kernel
theorem dX10_twice_87 : decode cX10_twice 87 = .ok (.lastore, 1) := by decide +kernel
theorem dX10_twice_88 : decode cX10_twice 88 = .ok (.aload_n 0, 1) := by decide +kernel
theorem dX10_twice_89 : decode cX10_twice 89 = .ok (.getfield 14, 3) := by decide +kernel
theorem dX10_twice_92 : decode cX10_twice 92 = .ok (.iload_n 1, 1) := by decide +kernel
theorem dX10_twice_93 : decode cX10_twice 93 = .ok (.dup2, 1) := by decide +kernel
theorem dX10_twice_94 : decode cX10_twice 94 = .ok (.iaload, 1) := by decide +kernel
theorem dX10_twice_95 : decode cX10_twice 95 = .ok (.iconst 1, 1) := by decide +kernel
theorem dX10_twice_96 : decode cX10_twice 96 = .ok (.iadd, 1) := by decide +kernel
theorem dX10_twice_97 : decode cX10_twice 97 = .ok (.iastore, 1) := by decide +kernel
theorem dX10_twice_98 : decode cX10_twice 98 = .ok (.return_, 1) := by decide +kernel
theorem dX10_divisor_0 : decode cX10_divisor 0 = .ok (.aload_n 0, 1) := by decide +kernel
theorem dX10_divisor_1 : decode cX10_divisor 1 = .ok (.sipush 2060, 3) := by decide +kernel
theorem dX10_divisor_4 : decode cX10_divisor 4 = .ok (.iload_n 1, 1) := by decide +kernel
theorem dX10_divisor_5 : decode cX10_divisor 5 = .ok (.invokevirtual 92, 3) := by decide +kernel
theorem dX10_divisor_8 : decode cX10_divisor 8 = .ok (.aload_n 0, 1) := by decide +kernel
theorem dX10_divisor_9 : decode cX10_divisor 9 = .ok (.sipush 2061, 3) := by decide +kernel
theorem dX10_divisor_12 : decode cX10_divisor 12 = .ok (.iload_n 2, 1) := by decide +kernel
theorem dX10_divisor_13 : decode cX10_divisor 13 = .ok (.invokevirtual 92, 3) := by decide +kernel
theorem dX10_divisor_16 : decode cX10_divisor 16 = .ok (.aload_n 0, 1) := by decide +kernel
theorem dX10_divisor_17 : decode cX10_divisor 17 = .ok (.getfield 18, 3) := by decide +kernel
theorem dX10_divisor_20 : decode cX10_divisor 20 = .ok (.sipush 2060, 3) := by decide +kernel
theorem dX10_divisor_23 : decode cX10_divisor 23 = .ok (.iconst 0, 1) := by decide +kernel
theorem dX10_divisor_24 : decode cX10_divisor 24 = .ok (.bastore, 1) := by decide +kernel
theorem dX10_divisor_25 : decode cX10_divisor 25 = .ok (.aload_n 0, 1) := by decide +kernel
theorem dX10_divisor_26 : decode cX10_divisor 26 = .ok (.getfield 18, 3) := by decide +kernel
theorem dX10_divisor_29 : decode cX10_divisor 29 = .ok (.sipush 2061, 3) := by decide +kernel
theorem dX10_divisor_32 : decode cX10_divisor 32 = .ok (.iconst 0, 1) := by decide +kernel
theorem dX10_divisor_33 : decode cX10_divisor 33 = .ok (.bastore, 1) := by decide +kernel
theorem dX10_divisor_34 : decode cX10_divisor 34 = .ok (.iconst 0, 1) := by decide +kernel
theorem dX10_divisor_35 : decode cX10_divisor 35 = .ok (.istore_n 3, 1) := by decide +kernel
theorem dX10_divisor_36 : decode cX10_divisor 36 = .ok (.aload_n 0, 1) := by decide +kernel
theorem dX10_divisor_37 : decode cX10_divisor 37 = .ok (.sipush 2060, 3) := by decide +kernel
theorem dX10_divisor_40 : decode cX10_divisor 40 = .ok (.invokevirtual 107, 3) := by decide +kernel
theorem dX10_divisor_43 : decode cX10_divisor 43 = .ok (.ifCond .eq 33, 3) := by decide +kernel
theorem dX10_divisor_46 : decode cX10_divisor 46 = .ok (.aload_n 0, 1) := by decide +kernel
theorem dX10_divisor_47 : decode cX10_divisor 47 = .ok (.sipush 2061, 3) := by decide +kernel
theorem dX10_divisor_50 : decode cX10_divisor 50 = .ok (.invokevirtual 107, 3) := by decide +kernel
theorem dX10_divisor_53 : decode cX10_divisor 53 = .ok (.ifCond .eq 23, 3) := by decide +kernel
theorem dX10_divisor_56 : decode cX10_divisor 56 = .ok (.aload_n 0, 1) := by decide +kernel
theorem dX10_divisor_57 : decode cX10_divisor 57 = .ok (.sipush 2060, 3) := by decide +kernel
theorem dX10_divisor_60 : decode cX10_divisor 60 = .ok (.invokevirtual 111, 3) := by decide +kernel
theorem dX10_divisor_63 : decode cX10_divisor 63 = .ok (.aload_n 0, 1) := by decide +kernel
theorem dX10_divisor_64 : decode cX10_divisor 64 = .ok (.sipush 2061, 3) := by decide +kernel
theorem dX10_divisor_67 : decode cX10_divisor 67 = .ok (.invokevirtual 111, 3) := by decide +kernel
theorem dX10_divisor_70 : decode cX10_divisor 70 = .ok (.iinc 3 1, 3) := by decide +kernel
theorem dX10_divisor_73 : decode cX10_divisor 73 = .ok (.goto (-37), 3) := by decide +kernel
theorem dX10_divisor_76 : decode cX10_divisor 76 = .ok (.aload_n 0, 1) := by decide +kernel
theorem dX10_divisor_77 : decode cX10_divisor 77 = .ok (.getfield 14, 3) := by decide +kernel
theorem dX10_divisor_80 : decode cX10_divisor 80 = .ok (.sipush 2061, 3) := by decide +kernel
theorem dX10_divisor_83 : decode cX10_divisor 83 = .ok (.iaload, 1) := by decide +kernel
theorem dX10_divisor_84 : decode cX10_divisor 84 = .ok (.ifCond .le 118, 3) := by decide +kernel
theorem dX10_divisor_87 : decode cX10_divisor 87 = .ok (.aload_n 0, 1) := by decide +kernel
theorem dX10_divisor_88 : decode cX10_divisor 88 = .ok (.sipush 2060, 3) := by decide +kernel
theorem dX10_divisor_91 : decode cX10_divisor 91 = .ok (.invokevirtual 107, 3) := by decide +kernel
theorem dX10_divisor_94 : decode cX10_divisor 94 = .ok (.ifCond .eq 13, 3) := by decide +kernel
theorem dX10_divisor_97 : decode cX10_divisor 97 = .ok (.aload_n 0, 1) := by decide +kernel
theorem dX10_divisor_98 : decode cX10_divisor 98 = .ok (.sipush 2060, 3) := by decide +kernel
theorem dX10_divisor_101 : decode cX10_divisor 101 = .ok (.invokevirtual 111, 3) := by decide +kernel
theorem dX10_divisor_104 : decode cX10_divisor 104 = .ok (.goto (-17), 3) := by decide +kernel
theorem dX10_divisor_107 : decode cX10_divisor 107 = .ok (.aload_n 0, 1) := by decide +kernel
theorem dX10_divisor_108 : decode cX10_divisor 108 = .ok (.sipush 2061, 3) := by decide +kernel
theorem dX10_divisor_111 : decode cX10_divisor 111 = .ok (.invokevirtual 107, 3) := by decide +kernel
theorem dX10_divisor_114 : decode cX10_divisor 114 = .ok (.ifCond .eq 13, 3) := by decide +kernel
theorem dX10_divisor_117 : decode cX10_divisor 117 = .ok (.aload_n 0, 1) := by decide +kernel
theorem dX10_divisor_118 : decode cX10_divisor 118 = .ok (.sipush 2061, 3) := by decide +kernel
theorem dX10_divisor_121 : decode cX10_divisor 121 = .ok (.invokevirtual 111, 3) := by decide +kernel
theorem dX10_divisor_124 : decode cX10_divisor 124 = .ok (.goto (-17), 3) := by decide +kernel
theorem dX10_divisor_127 : decode cX10_divisor 127 = .ok (.aload_n 0, 1) := by decide +kernel
theorem dX10_divisor_128 : decode cX10_divisor 128 = .ok (.sipush 2060, 3) := by decide +kernel
theorem dX10_divisor_131 : decode cX10_divisor 131 = .ok (.sipush 2061, 3) := by decide +kernel
theorem dX10_divisor_134 : decode cX10_divisor 134 = .ok (.invokevirtual 100, 3) := by decide +kernel
theorem dX10_divisor_137 : decode cX10_divisor 137 = .ok (.ifCond .le 19, 3) := by decide +kernel
theorem dX10_divisor_140 : decode cX10_divisor 140 = .ok (.aload_n 0, 1) := by decide +kernel
theorem dX10_divisor_141 : decode cX10_divisor 141 = .ok (.sipush 2060, 3) := by decide +kernel
theorem dX10_divisor_144 : decode cX10_divisor 144 = .ok (.sipush 2060, 3) := by decide +kernel
theorem dX10_divisor_147 : decode cX10_divisor 147 = .ok (.sipush 2061, 3) := by decide +kernel
theorem dX10_divisor_150 : decode cX10_divisor 150 = .ok (.invokevirtual 104, 3) := by decide +kernel
theorem dX10_divisor_153 : decode cX10_divisor 153 = .ok (.goto 16, 3) := by decide +kernel
theorem dX10_divisor_156 : decode cX10_divisor 156 = .ok (.aload_n 0, 1) := by decide +kernel
theorem dX10_divisor_157 : decode cX10_divisor 157 = .ok (.sipush 2061, 3) := by decide +kernel
theorem dX10_divisor_160 : decode cX10_divisor 160 = .ok (.sipush 2061, 3) := by decide +kernel
theorem dX10_divisor_163 : decode cX10_divisor 163 = .ok (.sipush 2060, 3) := by decide +kernel
theorem dX10_divisor_166 : decode cX10_divisor 166 = .ok (.invokevirtual 104, 3) := by decide +kernel
theorem dX10_divisor_169 : decode cX10_divisor 169 = .ok (.aload_n 0, 1) := by decide +kernel
theorem dX10_divisor_170 : decode cX10_divisor 170 = .ok (.getfield 14, 3) := by decide +kernel
theorem dX10_divisor_173 : decode cX10_divisor 173 = .ok (.sipush 2060, 3) := by decide +kernel
theorem dX10_divisor_176 : decode cX10_divisor 176 = .ok (.iaload, 1) := by decide +kernel
theorem dX10_divisor_177 : decode cX10_divisor 177 = .ok (.ifCond .ne (-101), 3) := by decide +kernel
theorem dX10_divisor_180 : decode cX10_divisor 180 = .ok (.aload_n 0, 1) := by decide +kernel
theorem dX10_divisor_181 : decode cX10_divisor 181 = .ok (.sipush 2060, 3) := by decide +kernel
theorem dX10_divisor_184 : decode cX10_divisor 184 = .ok (.sipush 2061, 3) := by decide +kernel
theorem dX10_divisor_187 : decode cX10_divisor 187 = .ok (.invokevirtual 92, 3) := by decide +kernel
theorem dX10_divisor_190 : decode cX10_divisor 190 = .ok (.aload_n 0, 1) := by decide +kernel
theorem dX10_divisor_191 : decode cX10_divisor 191 = .ok (.getfield 14, 3) := by decide +kernel
theorem dX10_divisor_194 : decode cX10_divisor 194 = .ok (.sipush 2061, 3) := by decide +kernel
theorem dX10_divisor_197 : decode cX10_divisor 197 = .ok (.iconst 0, 1) := by decide +kernel
theorem dX10_divisor_198 : decode cX10_divisor 198 = .ok (.iastore, 1) := by decide +kernel
theorem dX10_divisor_199 : decode cX10_divisor 199 = .ok (.goto (-123), 3) := by decide +kernel
theorem dX10_divisor_202 : decode cX10_divisor 202 = .ok (.iconst 0, 1) := by decide +kernel
theorem dX10_divisor_203 : decode cX10_divisor 203 = .ok (.istore 4, 2) := by decide +kernel
theorem dX10_divisor_205 : decode cX10_divisor 205 = .ok (.iload 4, 2) := by decide +kernel
theorem dX10_divisor_207 : decode cX10_divisor 207 = .ok (.iload_n 3, 1) := by decide +kernel
theorem dX10_divisor_208 : decode cX10_divisor 208 = .ok (.if_icmp .ge 17, 3) := by decide +kernel
theorem dX10_divisor_211 : decode cX10_divisor 211 = .ok (.aload_n 0, 1) := by decide +kernel
theorem dX10_divisor_212 : decode cX10_divisor 212 = .ok (.sipush 2060, 3) := by decide +kernel
theorem dX10_divisor_215 : decode cX10_divisor 215 = .ok (.iconst 0, 1) := by decide +kernel
theorem dX10_divisor_216 : decode cX10_divisor 216 = .ok (.invokevirtual 114, 3) := by decide +kernel
theorem dX10_divisor_219 : decode cX10_divisor 219 = .ok (.iinc 4 1, 3) := by decide +kernel
theorem dX10_divisor_222 : decode cX10_divisor 222 = .ok (.goto (-17), 3) := by decide +kernel
theorem dX10_divisor_225 : decode cX10_divisor 225 = .ok (.return_, 1) := by decide +kernel
theorem dX10_divideByG_0 : decode cX10_divideByG 0 = .ok (.aload_n 0, 1) := by decide +kernel
theorem dX10_divideByG_1 : decode cX10_divideByG 1 = .ok (.getfield 18, 3) := by decide +kernel
theorem dX10_divideByG_4 : decode cX10_divideByG 4 = .ok (.iload_n 1, 1) := by decide +kernel
theorem dX10_divideByG_5 : decode cX10_divideByG 5 = .ok (.baload, 1) := by decide +kernel
theorem dX10_divideByG_6 : decode cX10_divideByG 6 = .ok (.istore_n 2, 1) := by decide +kernel
theorem dX10_divideByG_7 : decode cX10_divideByG 7 = .ok (.aload_n 0, 1) := by decide +kernel
theorem dX10_divideByG_8 : decode cX10_divideByG 8 = .ok (.sipush 2062, 3) := by decide +kernel
theorem dX10_divideByG_11 : decode cX10_divideByG 11 = .ok (.lconst 0, 1) := by decide +kernel
theorem dX10_divideByG_12 : decode cX10_divideByG 12 = .ok (.invokevirtual 74, 3) := by decide +kernel
theorem dX10_divideByG_15 : decode cX10_divideByG 15 = .ok (.aload_n 0, 1) := by decide +kernel
theorem dX10_divideByG_16 : decode cX10_divideByG 16 = .ok (.sipush 2063, 3) := by decide +kernel
theorem dX10_divideByG_19 : decode cX10_divideByG 19 = .ok (.lconst 0, 1) := by decide +kernel
theorem dX10_divideByG_20 : decode cX10_divideByG 20 = .ok (.invokevirtual 74, 3) := by decide +kernel
theorem dX10_divideByG_23 : decode cX10_divideByG 23 = .ok (.aload_n 0, 1) := by decide +kernel
theorem dX10_divideByG_24 : decode cX10_divideByG 24 = .ok (.iload_n 1, 1) := by decide +kernel
theorem dX10_divideByG_25 : decode cX10_divideByG 25 = .ok (.invokevirtual 117, 3) := by decide +kernel
theorem dX10_divideByG_28 : decode cX10_divideByG 28 = .ok (.iconst 1, 1) := by decide +kernel
theorem dX10_divideByG_29 : decode cX10_divideByG 29 = .ok (.isub, 1) := by decide +kernel
theorem dX10_divideByG_30 : decode cX10_divideByG 30 = .ok (.istore_n 3, 1) := by decide +kernel
theorem dX10_divideByG_31 : decode cX10_divideByG 31 = .ok (.iload_n 3, 1) := by decide +kernel
theorem dX10_divideByG_32 : decode cX10_divideByG 32 = .ok (.ifCond .lt 88, 3) := by decide +kernel
theorem dX10_divideByG_35 : decode cX10_divideByG 35 = .ok (.aload_n 0, 1) := by decide +kernel
theorem dX10_divideByG_36 : decode cX10_divideByG 36 = .ok (.sipush 2062, 3) := by decide +kernel
theorem dX10_divideByG_39 : decode cX10_divideByG 39 = .ok (.aload_n 0, 1) := by decide +kernel
theorem dX10_divideByG_40 : decode cX10_divideByG 40 = .ok (.iload_n 1, 1) := by decide +kernel
theorem dX10_divideByG_41 : decode cX10_divideByG 41 = .ok (.iload_n 3, 1) := by decide +kernel
theorem dX10_divideByG_42 : decode cX10_divideByG 42 = .ok (.bipush 32, 2) := by decide +kernel
theorem dX10_divideByG_44 : decode cX10_divideByG 44 = .ok (.idiv, 1) := by decide +kernel
theorem dX10_divideByG_45 : decode cX10_divideByG 45 = .ok (.invokevirtual 87, 3) := by decide +kernel
theorem dX10_divideByG_48 : decode cX10_divideByG 48 = .ok (.iload_n 3, 1) := by decide +kernel
theorem dX10_divideByG_49 : decode cX10_divideByG 49 = .ok (.bipush 32, 2) := by decide +kernel
theorem dX10_divideByG_51 : decode cX10_divideByG 51 = .ok (.irem, 1) := by decide +kernel
theorem dX10_divideByG_52 : decode cX10_divideByG 52 = .ok (.lshr, 1) := by decide +kernel
theorem dX10_divideByG_53 : decode cX10_divideByG 53 = .ok (.lconst 1, 1) := by decide +kernel
theorem dX10_divideByG_54 : decode cX10_divideByG 54 = .ok (.land, 1) := by decide +kernel
theorem dX10_divideByG_55 : decode cX10_divideByG 55 = .ok (.l2i, 1) := by decide +kernel
theorem dX10_divideByG_56 : decode cX10_divideByG 56 = .ok (.invokevirtual 114, 3) := by decide +kernel
theorem dX10_divideByG_59 : decode cX10_divideByG 59 = .ok (.aload_n 0, 1) := by decide +kernel
theorem dX10_divideByG_60 : decode cX10_divideByG 60 = .ok (.sipush 2062, 3) := by decide +kernel
theorem dX10_divideByG_63 : decode cX10_divideByG 63 = .ok (.sipush 2060, 3) := by decide +kernel
theorem dX10_divideByG_66 : decode cX10_divideByG 66 = .ok (.invokevirtual 100, 3) := by decide +kernel
theorem dX10_divideByG_69 : decode cX10_divideByG 69 = .ok (.ifCond .lt 7, 3) := by decide +kernel
theorem dX10_divideByG_72 : decode cX10_divideByG 72 = .ok (.iconst 1, 1) := by decide +kernel
theorem dX10_divideByG_73 : decode cX10_divideByG 73 = .ok (.goto 4, 3) := by decide +kernel
theorem dX10_divideByG_76 : decode cX10_divideByG 76 = .ok (.iconst 0, 1) := by decide +kernel
theorem dX10_divideByG_77 : decode cX10_divideByG 77 = .ok (.istore 4, 2) := by decide +kernel
theorem dX10_divideByG_79 : decode cX10_divideByG 79 = .ok (.iload 4, 2) := by decide +kernel
theorem dX10_divideByG_81 : decode cX10_divideByG 81 = .ok (.ifCond .eq 16, 3) := by decide +kernel
theorem dX10_divideByG_84 : decode cX10_divideByG 84 = .ok (.aload_n 0, 1) := by decide +kernel
theorem dX10_divideByG_85 : decode cX10_divideByG 85 = .ok (.sipush 2062, 3) := by decide +kernel
theorem dX10_divideByG_88 : decode cX10_divideByG 88 = .ok (.sipush 2062, 3) := by decide +kernel
theorem dX10_divideByG_91 : decode cX10_divideByG 91 = .ok (.sipush 2060, 3) := by decide +kernel
theorem dX10_divideByG_94 : decode cX10_divideByG 94 = .ok (.invokevirtual 104, 3) := by decide +kernel
theorem dX10_divideByG_97 : decode cX10_divideByG 97 = .ok (.aload_n 0, 1) := by decide +kernel
theorem dX10_divideByG_98 : decode cX10_divideByG 98 = .ok (.sipush 2063, 3) := by decide +kernel
theorem dX10_divideByG_101 : decode cX10_divideByG 101 = .ok (.iload 4, 2) := by decide +kernel
theorem dX10_divideByG_103 : decode cX10_divideByG 103 = .ok (.ifCond .eq 7, 3) := by decide +kernel
theorem dX10_divideByG_106 : decode cX10_divideByG 106 = .ok (.iconst 1, 1) := by decide +kernel
theorem dX10_divideByG_107 : decode cX10_divideByG 107 = .ok (.goto 4, 3) := by decide +kernel
theorem dX10_divideByG_110 : decode cX10_divideByG 110 = .ok (.iconst 0, 1) := by decide +kernel
theorem dX10_divideByG_111 : decode cX10_divideByG 111 = .ok (.invokevirtual 114, 3) := by decide +kernel
theorem dX10_divideByG_114 : decode cX10_divideByG 114 = .ok (.iinc 3 (-1), 3) := by decide +kernel
theorem dX10_divideByG_117 : decode cX10_divideByG 117 = .ok (.goto (-86), 3) := by decide +kernel
theorem dX10_divideByG_120 : decode cX10_divideByG 120 = .ok (.aload_n 0, 1) := by decide +kernel
theorem dX10_divideByG_121 : decode cX10_divideByG 121 = .ok (.iload_n 1, 1) := by decide +kernel
theorem dX10_divideByG_122 : decode cX10_divideByG 122 = .ok (.sipush 2063, 3) := by decide +kernel
theorem dX10_divideByG_125 : decode cX10_divideByG 125 = .ok (.invokevirtual 92, 3) := by decide +kernel
theorem dX10_divideByG_128 : decode cX10_divideByG 128 = .ok (.aload_n 0, 1) := by decide +kernel
theorem dX10_divideByG_129 : decode cX10_divideByG 129 = .ok (.getfield 18, 3) := by decide +kernel
theorem dX10_divideByG_132 : decode cX10_divideByG 132 = .ok (.iload_n 1, 1) := by decide +kernel
theorem dX10_divideByG_133 : decode cX10_divideByG 133 = .ok (.iload_n 2, 1) := by decide +kernel
theorem dX10_divideByG_134 : decode cX10_divideByG 134 = .ok (.bastore, 1) := by decide +kernel
theorem dX10_divideByG_135 : decode cX10_divideByG 135 = .ok (.return_, 1) := by decide +kernel
theorem dX10_copyFraction_0 : decode cX10_copyFraction 0 = .ok (.aload_n 0, 1) := by decide +kernel
theorem dX10_copyFraction_1 : decode cX10_copyFraction 1 = .ok (.iconst 2, 1) := by decide +kernel
theorem dX10_copyFraction_2 : decode cX10_copyFraction 2 = .ok (.iload_n 1, 1) := by decide +kernel
theorem dX10_copyFraction_3 : decode cX10_copyFraction 3 = .ok (.imul, 1) := by decide +kernel
theorem dX10_copyFraction_4 : decode cX10_copyFraction 4 = .ok (.iconst 2, 1) := by decide +kernel
theorem dX10_copyFraction_5 : decode cX10_copyFraction 5 = .ok (.iload_n 2, 1) := by decide +kernel
theorem dX10_copyFraction_6 : decode cX10_copyFraction 6 = .ok (.imul, 1) := by decide +kernel
theorem dX10_copyFraction_7 : decode cX10_copyFraction 7 = .ok (.invokevirtual 92, 3) := by decide +kernel
theorem dX10_copyFraction_10 : decode cX10_copyFraction 10 = .ok (.aload_n 0, 1) := by decide +kernel
theorem dX10_copyFraction_11 : decode cX10_copyFraction 11 = .ok (.iconst 2, 1) := by decide +kernel
theorem dX10_copyFraction_12 : decode cX10_copyFraction 12 = .ok (.iload_n 1, 1) := by decide +kernel
theorem dX10_copyFraction_13 : decode cX10_copyFraction 13 = .ok (.imul, 1) := by decide +kernel
theorem dX10_copyFraction_14 : decode cX10_copyFraction 14 = .ok (.iconst 1, 1) := by decide +kernel
theorem dX10_copyFraction_15 : decode cX10_copyFraction 15 = .ok (.iadd, 1) := by decide +kernel
theorem dX10_copyFraction_16 : decode cX10_copyFraction 16 = .ok (.iconst 2, 1) := by decide +kernel
theorem dX10_copyFraction_17 : decode cX10_copyFraction 17 = .ok (.iload_n 2, 1) := by decide +kernel
theorem dX10_copyFraction_18 : decode cX10_copyFraction 18 = .ok (.imul, 1) := by decide +kernel
theorem dX10_copyFraction_19 : decode cX10_copyFraction 19 = .ok (.iconst 1, 1) := by decide +kernel
theorem dX10_copyFraction_20 : decode cX10_copyFraction 20 = .ok (.iadd, 1) := by decide +kernel
theorem dX10_copyFraction_21 : decode cX10_copyFraction 21 = .ok (.invokevirtual 92, 3) := by decide +kernel
theorem dX10_copyFraction_24 : decode cX10_copyFraction 24 = .ok (.return_, 1) := by decide +kernel
theorem dX10_setFraction_0 : decode cX10_setFraction 0 = .ok (.aload_n 0, 1) := by decide +kernel
theorem dX10_setFraction_1 : decode cX10_setFraction 1 = .ok (.iconst 2, 1) := by decide +kernel
theorem dX10_setFraction_2 : decode cX10_setFraction 2 = .ok (.iload_n 1, 1) := by decide +kernel
theorem dX10_setFraction_3 : decode cX10_setFraction 3 = .ok (.imul, 1) := by decide +kernel
theorem dX10_setFraction_4 : decode cX10_setFraction 4 = .ok (.lload_n 2, 1) := by decide +kernel
theorem dX10_setFraction_5 : decode cX10_setFraction 5 = .ok (.invokevirtual 74, 3) := by decide +kernel
theorem dX10_setFraction_8 : decode cX10_setFraction 8 = .ok (.aload_n 0, 1) := by decide +kernel
theorem dX10_setFraction_9 : decode cX10_setFraction 9 = .ok (.iconst 2, 1) := by decide +kernel
theorem dX10_setFraction_10 : decode cX10_setFraction 10 = .ok (.iload_n 1, 1) := by decide +kernel
theorem dX10_setFraction_11 : decode cX10_setFraction 11 = .ok (.imul, 1) := by decide +kernel
theorem dX10_setFraction_12 : decode cX10_setFraction 12 = .ok (.iconst 1, 1) := by decide +kernel
theorem dX10_setFraction_13 : decode cX10_setFraction 13 = .ok (.iadd, 1) := by decide +kernel
theorem dX10_setFraction_14 : decode cX10_setFraction 14 = .ok (.lload 4, 2) := by decide +kernel
theorem dX10_setFraction_16 : decode cX10_setFraction 16 = .ok (.invokevirtual 74, 3) := by decide +kernel
theorem dX10_setFraction_19 : decode cX10_setFraction 19 = .ok (.aload_n 0, 1) := by decide +kernel
theorem dX10_setFraction_20 : decode cX10_setFraction 20 = .ok (.iload_n 1, 1) := by decide +kernel
theorem dX10_setFraction_21 : decode cX10_setFraction 21 = .ok (.invokevirtual 121, 3) := by decide +kernel
theorem dX10_setFraction_24 : decode cX10_setFraction 24 = .ok (.return_, 1) := by decide +kernel
theorem dX10_reduce_0 : decode cX10_reduce 0 = .ok (.aload_n 0, 1) := by decide +kernel
theorem dX10_reduce_1 : decode cX10_reduce 1 = .ok (.getfield 14, 3) := by decide +kernel
theorem dX10_reduce_4 : decode cX10_reduce 4 = .ok (.iconst 2, 1) := by decide +kernel
theorem dX10_reduce_5 : decode cX10_reduce 5 = .ok (.iload_n 1, 1) := by decide +kernel
theorem dX10_reduce_6 : decode cX10_reduce 6 = .ok (.imul, 1) := by decide +kernel
theorem dX10_reduce_7 : decode cX10_reduce 7 = .ok (.iaload, 1) := by decide +kernel
theorem dX10_reduce_8 : decode cX10_reduce 8 = .ok (.ifCond .ne 14, 3) := by decide +kernel
theorem dX10_reduce_11 : decode cX10_reduce 11 = .ok (.aload_n 0, 1) := by decide +kernel
theorem dX10_reduce_12 : decode cX10_reduce 12 = .ok (.iconst 2, 1) := by decide +kernel
theorem dX10_reduce_13 : decode cX10_reduce 13 = .ok (.iload_n 1, 1) := by decide +kernel
theorem dX10_reduce_14 : decode cX10_reduce 14 = .ok (.imul, 1) := by decide +kernel
theorem dX10_reduce_15 : decode cX10_reduce 15 = .ok (.iconst 1, 1) := by decide +kernel
theorem dX10_reduce_16 : decode cX10_reduce 16 = .ok (.iadd, 1) := by decide +kernel
theorem dX10_reduce_17 : decode cX10_reduce 17 = .ok (.lconst 1, 1) := by decide +kernel
theorem dX10_reduce_18 : decode cX10_reduce 18 = .ok (.invokevirtual 74, 3) := by decide +kernel
theorem dX10_reduce_21 : decode cX10_reduce 21 = .ok (.return_, 1) := by decide +kernel
theorem dX10_reduce_22 : decode cX10_reduce 22 = .ok (.aload_n 0, 1) := by decide +kernel
theorem dX10_reduce_23 : decode cX10_reduce 23 = .ok (.iconst 2, 1) := by decide +kernel
theorem dX10_reduce_24 : decode cX10_reduce 24 = .ok (.iload_n 1, 1) := by decide +kernel
theorem dX10_reduce_25 : decode cX10_reduce 25 = .ok (.imul, 1) := by decide +kernel
theorem dX10_reduce_26 : decode cX10_reduce 26 = .ok (.iconst 2, 1) := by decide +kernel
theorem dX10_reduce_27 : decode cX10_reduce 27 = .ok (.iload_n 1, 1) := by decide +kernel
theorem dX10_reduce_28 : decode cX10_reduce 28 = .ok (.imul, 1) := by decide +kernel
theorem dX10_reduce_29 : decode cX10_reduce 29 = .ok (.iconst 1, 1) := by decide +kernel
theorem dX10_reduce_30 : decode cX10_reduce 30 = .ok (.iadd, 1) := by decide +kernel
theorem dX10_reduce_31 : decode cX10_reduce 31 = .ok (.invokevirtual 124, 3) := by decide +kernel
theorem dX10_reduce_34 : decode cX10_reduce 34 = .ok (.aload_n 0, 1) := by decide +kernel
theorem dX10_reduce_35 : decode cX10_reduce 35 = .ok (.getfield 14, 3) := by decide +kernel
theorem dX10_reduce_38 : decode cX10_reduce 38 = .ok (.sipush 2060, 3) := by decide +kernel
theorem dX10_reduce_41 : decode cX10_reduce 41 = .ok (.iaload, 1) := by decide +kernel
theorem dX10_reduce_42 : decode cX10_reduce 42 = .ok (.iconst 1, 1) := by decide +kernel
theorem dX10_reduce_43 : decode cX10_reduce 43 = .ok (.if_icmp .gt 16, 3) := by decide +kernel
theorem dX10_reduce_46 : decode cX10_reduce 46 = .ok (.aload_n 0, 1) := by decide +kernel
theorem dX10_reduce_47 : decode cX10_reduce 47 = .ok (.sipush 2060, 3) := by decide +kernel
theorem dX10_reduce_50 : decode cX10_reduce 50 = .ok (.iconst 0, 1) := by decide +kernel
theorem dX10_reduce_51 : decode cX10_reduce 51 = .ok (.invokevirtual 87, 3) := by decide +kernel
theorem dX10_reduce_54 : decode cX10_reduce 54 = .ok (.lconst 1, 1) := by decide +kernel
theorem dX10_reduce_55 : decode cX10_reduce 55 = .ok (.lcmp, 1) := by decide +kernel
theorem dX10_reduce_56 : decode cX10_reduce 56 = .ok (.ifCond .eq 19, 3) := by decide +kernel
theorem dX10_reduce_59 : decode cX10_reduce 59 = .ok (.aload_n 0, 1) := by decide +kernel
theorem dX10_reduce_60 : decode cX10_reduce 60 = .ok (.iconst 2, 1) := by decide +kernel
theorem dX10_reduce_61 : decode cX10_reduce 61 = .ok (.iload_n 1, 1) := by decide +kernel
theorem dX10_reduce_62 : decode cX10_reduce 62 = .ok (.imul, 1) := by decide +kernel
theorem dX10_reduce_63 : decode cX10_reduce 63 = .ok (.invokevirtual 127, 3) := by decide +kernel
theorem dX10_reduce_66 : decode cX10_reduce 66 = .ok (.aload_n 0, 1) := by decide +kernel
theorem dX10_reduce_67 : decode cX10_reduce 67 = .ok (.iconst 2, 1) := by decide +kernel
theorem dX10_reduce_68 : decode cX10_reduce 68 = .ok (.iload_n 1, 1) := by decide +kernel
theorem dX10_reduce_69 : decode cX10_reduce 69 = .ok (.imul, 1) := by decide +kernel
theorem dX10_reduce_70 : decode cX10_reduce 70 = .ok (.iconst 1, 1) := by decide +kernel
theorem dX10_reduce_71 : decode cX10_reduce 71 = .ok (.iadd, 1) := by decide +kernel
theorem dX10_reduce_72 : decode cX10_reduce 72 = .ok (.invokevirtual 127, 3) := by decide +kernel
theorem dX10_reduce_75 : decode cX10_reduce 75 = .ok (.return_, 1) := by decide +kernel
theorem dX10_addFractions_0 : decode cX10_addFractions 0 = .ok (.aload_n 0, 1) := by decide +kernel
theorem dX10_addFractions_1 : decode cX10_addFractions 1 = .ok (.sipush 2064, 3) := by decide +kernel
theorem dX10_addFractions_4 : decode cX10_addFractions 4 = .ok (.iconst 2, 1) := by decide +kernel
theorem dX10_addFractions_5 : decode cX10_addFractions 5 = .ok (.iload_n 2, 1) := by decide +kernel
theorem dX10_addFractions_6 : decode cX10_addFractions 6 = .ok (.imul, 1) := by decide +kernel
theorem dX10_addFractions_7 : decode cX10_addFractions 7 = .ok (.iconst 2, 1) := by decide +kernel
theorem dX10_addFractions_8 : decode cX10_addFractions 8 = .ok (.iload_n 3, 1) := by decide +kernel
theorem dX10_addFractions_9 : decode cX10_addFractions 9 = .ok (.imul, 1) := by decide +kernel
theorem dX10_addFractions_10 : decode cX10_addFractions 10 = .ok (.iconst 1, 1) := by decide +kernel
theorem dX10_addFractions_11 : decode cX10_addFractions 11 = .ok (.iadd, 1) := by decide +kernel
theorem dX10_addFractions_12 : decode cX10_addFractions 12 = .ok (.invokevirtual 130, 3) := by decide +kernel
theorem dX10_addFractions_15 : decode cX10_addFractions 15 = .ok (.aload_n 0, 1) := by decide +kernel
theorem dX10_addFractions_16 : decode cX10_addFractions 16 = .ok (.sipush 2065, 3) := by decide +kernel
theorem dX10_addFractions_19 : decode cX10_addFractions 19 = .ok (.iconst 2, 1) := by decide +kernel
theorem dX10_addFractions_20 : decode cX10_addFractions 20 = .ok (.iload_n 3, 1) := by decide +kernel
theorem dX10_addFractions_21 : decode cX10_addFractions 21 = .ok (.imul, 1) := by decide +kernel
theorem dX10_addFractions_22 : decode cX10_addFractions 22 = .ok (.iconst 2, 1) := by decide +kernel
theorem dX10_addFractions_23 : decode cX10_addFractions 23 = .ok (.iload_n 2, 1) := by decide +kernel
theorem dX10_addFractions_24 : decode cX10_addFractions 24 = .ok (.imul, 1) := by decide +kernel
theorem dX10_addFractions_25 : decode cX10_addFractions 25 = .ok (.iconst 1, 1) := by decide +kernel
theorem dX10_addFractions_26 : decode cX10_addFractions 26 = .ok (.iadd, 1) := by decide +kernel
theorem dX10_addFractions_27 : decode cX10_addFractions 27 = .ok (.invokevirtual 130, 3) := by decide +kernel
theorem dX10_addFractions_30 : decode cX10_addFractions 30 = .ok (.aload_n 0, 1) := by decide +kernel
theorem dX10_addFractions_31 : decode cX10_addFractions 31 = .ok (.sipush 2033, 3) := by decide +kernel
theorem dX10_addFractions_34 : decode cX10_addFractions 34 = .ok (.iconst 2, 1) := by decide +kernel
theorem dX10_addFractions_35 : decode cX10_addFractions 35 = .ok (.iload_n 2, 1) := by decide +kernel
theorem dX10_addFractions_36 : decode cX10_addFractions 36 = .ok (.imul, 1) := by decide +kernel
theorem dX10_addFractions_37 : decode cX10_addFractions 37 = .ok (.iconst 1, 1) := by decide +kernel
theorem dX10_addFractions_38 : decode cX10_addFractions 38 = .ok (.iadd, 1) := by decide +kernel
theorem dX10_addFractions_39 : decode cX10_addFractions 39 = .ok (.iconst 2, 1) := by decide +kernel
theorem dX10_addFractions_40 : decode cX10_addFractions 40 = .ok (.iload_n 3, 1) := by decide +kernel
theorem dX10_addFractions_41 : decode cX10_addFractions 41 = .ok (.imul, 1) := by decide +kernel
theorem dX10_addFractions_42 : decode cX10_addFractions 42 = .ok (.iconst 1, 1) := by decide +kernel
theorem dX10_addFractions_43 : decode cX10_addFractions 43 = .ok (.iadd, 1) := by decide +kernel
theorem dX10_addFractions_44 : decode cX10_addFractions 44 = .ok (.invokevirtual 130, 3) := by decide +kernel
theorem dX10_addFractions_47 : decode cX10_addFractions 47 = .ok (.aload_n 0, 1) := by decide +kernel
theorem dX10_addFractions_48 : decode cX10_addFractions 48 = .ok (.sipush 2032, 3) := by decide +kernel
theorem dX10_addFractions_51 : decode cX10_addFractions 51 = .ok (.sipush 2064, 3) := by decide +kernel
theorem dX10_addFractions_54 : decode cX10_addFractions 54 = .ok (.sipush 2065, 3) := by decide +kernel
theorem dX10_addFractions_57 : decode cX10_addFractions 57 = .ok (.invokevirtual 133, 3) := by decide +kernel
theorem dX10_addFractions_60 : decode cX10_addFractions 60 = .ok (.aload_n 0, 1) := by decide +kernel
theorem dX10_addFractions_61 : decode cX10_addFractions 61 = .ok (.sipush 1016, 3) := by decide +kernel
theorem dX10_addFractions_64 : decode cX10_addFractions 64 = .ok (.invokevirtual 121, 3) := by decide +kernel
theorem dX10_addFractions_67 : decode cX10_addFractions 67 = .ok (.aload_n 0, 1) := by decide +kernel
theorem dX10_addFractions_68 : decode cX10_addFractions 68 = .ok (.iload_n 1, 1) := by decide +kernel
theorem dX10_addFractions_69 : decode cX10_addFractions 69 = .ok (.sipush 1016, 3) := by decide +kernel
theorem dX10_addFractions_72 : decode cX10_addFractions 72 = .ok (.invokevirtual 136, 3) := by decide +kernel
theorem dX10_addFractions_75 : decode cX10_addFractions 75 = .ok (.return_, 1) := by decide +kernel
theorem dX10_timesFractions_0 : decode cX10_timesFractions 0 = .ok (.aload_n 0, 1) := by decide +kernel
theorem dX10_timesFractions_1 : decode cX10_timesFractions 1 = .ok (.sipush 2032, 3) := by decide +kernel
theorem dX10_timesFractions_4 : decode cX10_timesFractions 4 = .ok (.iconst 2, 1) := by decide +kernel
theorem dX10_timesFractions_5 : decode cX10_timesFractions 5 = .ok (.iload_n 2, 1) := by decide +kernel
theorem dX10_timesFractions_6 : decode cX10_timesFractions 6 = .ok (.imul, 1) := by decide +kernel
theorem dX10_timesFractions_7 : decode cX10_timesFractions 7 = .ok (.iconst 2, 1) := by decide +kernel
theorem dX10_timesFractions_8 : decode cX10_timesFractions 8 = .ok (.iload_n 3, 1) := by decide +kernel
theorem dX10_timesFractions_9 : decode cX10_timesFractions 9 = .ok (.imul, 1) := by decide +kernel
theorem dX10_timesFractions_10 : decode cX10_timesFractions 10 = .ok (.invokevirtual 130, 3) := by decide +kernel
theorem dX10_timesFractions_13 : decode cX10_timesFractions 13 = .ok (.aload_n 0, 1) := by decide +kernel
theorem dX10_timesFractions_14 : decode cX10_timesFractions 14 = .ok (.sipush 2033, 3) := by decide +kernel
theorem dX10_timesFractions_17 : decode cX10_timesFractions 17 = .ok (.iconst 2, 1) := by decide +kernel
theorem dX10_timesFractions_18 : decode cX10_timesFractions 18 = .ok (.iload_n 2, 1) := by decide +kernel
theorem dX10_timesFractions_19 : decode cX10_timesFractions 19 = .ok (.imul, 1) := by decide +kernel
theorem dX10_timesFractions_20 : decode cX10_timesFractions 20 = .ok (.iconst 1, 1) := by decide +kernel
theorem dX10_timesFractions_21 : decode cX10_timesFractions 21 = .ok (.iadd, 1) := by decide +kernel
theorem dX10_timesFractions_22 : decode cX10_timesFractions 22 = .ok (.iconst 2, 1) := by decide +kernel
theorem dX10_timesFractions_23 : decode cX10_timesFractions 23 = .ok (.iload_n 3, 1) := by decide +kernel
theorem dX10_timesFractions_24 : decode cX10_timesFractions 24 = .ok (.imul, 1) := by decide +kernel
theorem dX10_timesFractions_25 : decode cX10_timesFractions 25 = .ok (.iconst 1, 1) := by decide +kernel
theorem dX10_timesFractions_26 : decode cX10_timesFractions 26 = .ok (.iadd, 1) := by decide +kernel
theorem dX10_timesFractions_27 : decode cX10_timesFractions 27 = .ok (.invokevirtual 130, 3) := by decide +kernel
theorem dX10_timesFractions_30 : decode cX10_timesFractions 30 = .ok (.aload_n 0, 1) := by decide +kernel
theorem dX10_timesFractions_31 : decode cX10_timesFractions 31 = .ok (.sipush 1016, 3) := by decide +kernel
theorem dX10_timesFractions_34 : decode cX10_timesFractions 34 = .ok (.invokevirtual 121, 3) := by decide +kernel
theorem dX10_timesFractions_37 : decode cX10_timesFractions 37 = .ok (.aload_n 0, 1) := by decide +kernel
theorem dX10_timesFractions_38 : decode cX10_timesFractions 38 = .ok (.iload_n 1, 1) := by decide +kernel
theorem dX10_timesFractions_39 : decode cX10_timesFractions 39 = .ok (.sipush 1016, 3) := by decide +kernel
theorem dX10_timesFractions_42 : decode cX10_timesFractions 42 = .ok (.invokevirtual 136, 3) := by decide +kernel
theorem dX10_timesFractions_45 : decode cX10_timesFractions 45 = .ok (.return_, 1) := by decide +kernel
theorem dX10_next_0 : decode cX10_next 0 = .ok (.aload_n 0, 1) := by decide +kernel
theorem dX10_next_1 : decode cX10_next 1 = .ok (.getfield 184, 3) := by decide +kernel
theorem dX10_next_4 : decode cX10_next 4 = .ok (.aload_n 0, 1) := by decide +kernel
theorem dX10_next_5 : decode cX10_next 5 = .ok (.getfield 187, 3) := by decide +kernel
theorem dX10_next_8 : decode cX10_next 8 = .ok (.if_icmp .ge 15, 3) := by decide +kernel
theorem dX10_next_11 : decode cX10_next 11 = .ok (.aload_n 0, 1) := by decide +kernel
theorem dX10_next_12 : decode cX10_next 12 = .ok (.getfield 22, 3) := by decide +kernel
theorem dX10_next_15 : decode cX10_next 15 = .ok (.aload_n 0, 1) := by decide +kernel
theorem dX10_next_16 : decode cX10_next 16 = .ok (.getfield 184, 3) := by decide +kernel
theorem dX10_next_19 : decode cX10_next 19 = .ok (.iaload, 1) := by decide +kernel
theorem dX10_next_20 : decode cX10_next 20 = .ok (.goto 4, 3) := by decide +kernel
theorem dX10_next_23 : decode cX10_next 23 = .ok (.iconst 0, 1) := by decide +kernel
theorem dX10_next_24 : decode cX10_next 24 = .ok (.ireturn, 1) := by decide +kernel
theorem dX10_isDigit_0 : decode cX10_isDigit 0 = .ok (.iload_n 0, 1) := by decide +kernel
theorem dX10_isDigit_1 : decode cX10_isDigit 1 = .ok (.bipush 48, 2) := by decide +kernel
theorem dX10_isDigit_3 : decode cX10_isDigit 3 = .ok (.if_icmp .lt 13, 3) := by decide +kernel
theorem dX10_isDigit_6 : decode cX10_isDigit 6 = .ok (.iload_n 0, 1) := by decide +kernel
theorem dX10_isDigit_7 : decode cX10_isDigit 7 = .ok (.bipush 57, 2) := by decide +kernel
theorem dX10_isDigit_9 : decode cX10_isDigit 9 = .ok (.if_icmp .gt 7, 3) := by decide +kernel
theorem dX10_isDigit_12 : decode cX10_isDigit 12 = .ok (.iconst 1, 1) := by decide +kernel
theorem dX10_isDigit_13 : decode cX10_isDigit 13 = .ok (.goto 4, 3) := by decide +kernel
theorem dX10_isDigit_16 : decode cX10_isDigit 16 = .ok (.iconst 0, 1) := by decide +kernel
theorem dX10_isDigit_17 : decode cX10_isDigit 17 = .ok (.ireturn, 1) := by decide +kernel
theorem dX10_passAtom_0 : decode cX10_passAtom 0 = .ok (.aload_n 0, 1) := by decide +kernel
theorem dX10_passAtom_1 : decode cX10_passAtom 1 = .ok (.invokevirtual 190, 3) := by decide +kernel
theorem dX10_passAtom_4 : decode cX10_passAtom 4 = .ok (.istore_n 1, 1) := by decide +kernel
theorem dX10_passAtom_5 : decode cX10_passAtom 5 = .ok (.iload_n 1, 1) := by decide +kernel
theorem dX10_passAtom_6 : decode cX10_passAtom 6 = .ok (.invokestatic 193, 3) := by decide +kernel
theorem dX10_passAtom_9 : decode cX10_passAtom 9 = .ok (.ifCond .eq 40, 3) := by decide +kernel
theorem dX10_passAtom_12 : decode cX10_passAtom 12 = .ok (.aload_n 0, 1) := by decide +kernel
theorem dX10_passAtom_13 : decode cX10_passAtom 13 = .ok (.iconst 0, 1) := by decide +kernel
theorem dX10_passAtom_14 : decode cX10_passAtom 14 = .ok (.invokevirtual 196, 3) := by decide +kernel
theorem dX10_passAtom_17 : decode cX10_passAtom 17 = .ok (.ifCond .ne 5, 3) := by decide +kernel
theorem dX10_passAtom_20 : decode cX10_passAtom 20 = .ok (.iconst 0, 1) := by decide +kernel
theorem dX10_passAtom_21 : decode cX10_passAtom 21 = .ok (.ireturn, 1) := by decide +kernel
theorem dX10_passAtom_22 : decode cX10_passAtom 22 = .ok (.aload_n 0, 1) := by decide +kernel
theorem dX10_passAtom_23 : decode cX10_passAtom 23 = .ok (.invokevirtual 190, 3) := by decide +kernel
theorem dX10_passAtom_26 : decode cX10_passAtom 26 = .ok (.bipush 47, 2) := by decide +kernel
theorem dX10_passAtom_28 : decode cX10_passAtom 28 = .ok (.if_icmp .eq 5, 3) := by decide +kernel
theorem dX10_passAtom_31 : decode cX10_passAtom 31 = .ok (.iconst 1, 1) := by decide +kernel
theorem dX10_passAtom_32 : decode cX10_passAtom 32 = .ok (.ireturn, 1) := by decide +kernel
theorem dX10_passAtom_33 : decode cX10_passAtom 33 = .ok (.aload_n 0, 1) := by decide +kernel
theorem dX10_passAtom_34 : decode cX10_passAtom 34 = .ok (.dup, 1) := by decide +kernel
theorem dX10_passAtom_35 : decode cX10_passAtom 35 = .ok (.getfield 184, 3) := by decide +kernel
theorem dX10_passAtom_38 : decode cX10_passAtom 38 = .ok (.iconst 1, 1) := by decide +kernel
theorem dX10_passAtom_39 : decode cX10_passAtom 39 = .ok (.iadd, 1) := by decide +kernel
theorem dX10_passAtom_40 : decode cX10_passAtom 40 = .ok (.putfield 184, 3) := by decide +kernel
theorem dX10_passAtom_43 : decode cX10_passAtom 43 = .ok (.aload_n 0, 1) := by decide +kernel
theorem dX10_passAtom_44 : decode cX10_passAtom 44 = .ok (.iconst 1, 1) := by decide +kernel
theorem dX10_passAtom_45 : decode cX10_passAtom 45 = .ok (.invokevirtual 196, 3) := by decide +kernel
theorem dX10_passAtom_48 : decode cX10_passAtom 48 = .ok (.ireturn, 1) := by decide +kernel
theorem dX10_passAtom_49 : decode cX10_passAtom 49 = .ok (.iload_n 1, 1) := by decide +kernel
theorem dX10_passAtom_50 : decode cX10_passAtom 50 = .ok (.bipush 97, 2) := by decide +kernel
theorem dX10_passAtom_52 : decode cX10_passAtom 52 = .ok (.if_icmp .lt 9, 3) := by decide +kernel
theorem dX10_passAtom_55 : decode cX10_passAtom 55 = .ok (.iload_n 1, 1) := by decide +kernel
theorem dX10_passAtom_56 : decode cX10_passAtom 56 = .ok (.bipush 99, 2) := by decide +kernel
theorem dX10_passAtom_58 : decode cX10_passAtom 58 = .ok (.if_icmp .le 15, 3) := by decide +kernel
theorem dX10_passAtom_61 : decode cX10_passAtom 61 = .ok (.iload_n 1, 1) := by decide +kernel
theorem dX10_passAtom_62 : decode cX10_passAtom 62 = .ok (.bipush 65, 2) := by decide +kernel
theorem dX10_passAtom_64 : decode cX10_passAtom 64 = .ok (.if_icmp .lt 21, 3) := by decide +kernel
theorem dX10_passAtom_67 : decode cX10_passAtom 67 = .ok (.iload_n 1, 1) := by decide +kernel
theorem dX10_passAtom_68 : decode cX10_passAtom 68 = .ok (.bipush 72, 2) := by decide +kernel
theorem dX10_passAtom_70 : decode cX10_passAtom 70 = .ok (.if_icmp .gt 15, 3) := by decide +kernel
theorem dX10_passAtom_73 : decode cX10_passAtom 73 = .ok (.aload_n 0, 1) := by decide +kernel
theorem dX10_passAtom_74 : decode cX10_passAtom 74 = .ok (.dup, 1) := by decide +kernel
theorem dX10_passAtom_75 : decode cX10_passAtom 75 = .ok (.getfield 184, 3) := by decide +kernel
theorem dX10_passAtom_78 : decode cX10_passAtom 78 = .ok (.iconst 1, 1) := by decide +kernel
theorem dX10_passAtom_79 : decode cX10_passAtom 79 = .ok (.iadd, 1) := by decide +kernel
theorem dX10_passAtom_80 : decode cX10_passAtom 80 = .ok (.putfield 184, 3) := by decide +kernel
theorem dX10_passAtom_83 : decode cX10_passAtom 83 = .ok (.iconst 1, 1) := by decide +kernel
theorem dX10_passAtom_84 : decode cX10_passAtom 84 = .ok (.ireturn, 1) := by decide +kernel
theorem dX10_passAtom_85 : decode cX10_passAtom 85 = .ok (.iconst 0, 1) := by decide +kernel
theorem dX10_passAtom_86 : decode cX10_passAtom 86 = .ok (.ireturn, 1) := by decide +kernel
theorem dX10_isInGrammar_0 : decode cX10_isInGrammar 0 = .ok (.aload_n 0, 1) := by decide +kernel
theorem dX10_isInGrammar_1 : decode cX10_isInGrammar 1 = .ok (.iconst 0, 1) := by decide +kernel
theorem dX10_isInGrammar_2 : decode cX10_isInGrammar 2 = .ok (.putfield 184, 3) := by decide +kernel
theorem dX10_isInGrammar_5 : decode cX10_isInGrammar 5 = .ok (.iconst 0, 1) := by decide +kernel
theorem dX10_isInGrammar_6 : decode cX10_isInGrammar 6 = .ok (.istore_n 1, 1) := by decide +kernel
theorem dX10_isInGrammar_7 : decode cX10_isInGrammar 7 = .ok (.iconst 1, 1) := by decide +kernel
theorem dX10_isInGrammar_8 : decode cX10_isInGrammar 8 = .ok (.istore_n 2, 1) := by decide +kernel
theorem dX10_isInGrammar_9 : decode cX10_isInGrammar 9 = .ok (.iconst 0, 1) := by decide +kernel
theorem dX10_isInGrammar_10 : decode cX10_isInGrammar 10 = .ok (.istore_n 3, 1) := by decide +kernel
theorem dX10_isInGrammar_11 : decode cX10_isInGrammar 11 = .ok (.aload_n 0, 1) := by decide +kernel
theorem dX10_isInGrammar_12 : decode cX10_isInGrammar 12 = .ok (.getfield 184, 3) := by decide +kernel
theorem dX10_isInGrammar_15 : decode cX10_isInGrammar 15 = .ok (.aload_n 0, 1) := by decide +kernel
theorem dX10_isInGrammar_16 : decode cX10_isInGrammar 16 = .ok (.getfield 187, 3) := by decide +kernel
theorem dX10_isInGrammar_19 : decode cX10_isInGrammar 19 = .ok (.if_icmp .ge 198, 3) := by decide +kernel
theorem dX10_isInGrammar_22 : decode cX10_isInGrammar 22 = .ok (.aload_n 0, 1) := by decide +kernel
theorem dX10_isInGrammar_23 : decode cX10_isInGrammar 23 = .ok (.invokevirtual 190, 3) := by decide +kernel
theorem dX10_isInGrammar_26 : decode cX10_isInGrammar 26 = .ok (.istore 4, 2) := by decide +kernel
theorem dX10_isInGrammar_28 : decode cX10_isInGrammar 28 = .ok (.iload_n 2, 1) := by decide +kernel
theorem dX10_isInGrammar_29 : decode cX10_isInGrammar 29 = .ok (.ifCond .eq 23, 3) := by decide +kernel
theorem dX10_isInGrammar_32 : decode cX10_isInGrammar 32 = .ok (.iload 4, 2) := by decide +kernel
theorem dX10_isInGrammar_34 : decode cX10_isInGrammar 34 = .ok (.bipush 45, 2) := by decide +kernel
theorem dX10_isInGrammar_36 : decode cX10_isInGrammar 36 = .ok (.if_icmp .ne 16, 3) := by decide +kernel
theorem dX10_isInGrammar_39 : decode cX10_isInGrammar 39 = .ok (.aload_n 0, 1) := by decide +kernel
theorem dX10_isInGrammar_40 : decode cX10_isInGrammar 40 = .ok (.dup, 1) := by decide +kernel
theorem dX10_isInGrammar_41 : decode cX10_isInGrammar 41 = .ok (.getfield 184, 3) := by decide +kernel
theorem dX10_isInGrammar_44 : decode cX10_isInGrammar 44 = .ok (.iconst 1, 1) := by decide +kernel
theorem dX10_isInGrammar_45 : decode cX10_isInGrammar 45 = .ok (.iadd, 1) := by decide +kernel
theorem dX10_isInGrammar_46 : decode cX10_isInGrammar 46 = .ok (.putfield 184, 3) := by decide +kernel
theorem dX10_isInGrammar_49 : decode cX10_isInGrammar 49 = .ok (.goto 165, 3) := by decide +kernel
theorem dX10_isInGrammar_52 : decode cX10_isInGrammar 52 = .ok (.iload_n 2, 1) := by decide +kernel
theorem dX10_isInGrammar_53 : decode cX10_isInGrammar 53 = .ok (.ifCond .eq 26, 3) := by decide +kernel
theorem dX10_isInGrammar_56 : decode cX10_isInGrammar 56 = .ok (.iload 4, 2) := by decide +kernel
theorem dX10_isInGrammar_58 : decode cX10_isInGrammar 58 = .ok (.bipush 40, 2) := by decide +kernel
theorem dX10_isInGrammar_60 : decode cX10_isInGrammar 60 = .ok (.if_icmp .ne 19, 3) := by decide +kernel
theorem dX10_isInGrammar_63 : decode cX10_isInGrammar 63 = .ok (.iinc 1 1, 3) := by decide +kernel
theorem dX10_isInGrammar_66 : decode cX10_isInGrammar 66 = .ok (.aload_n 0, 1) := by decide +kernel
theorem dX10_isInGrammar_67 : decode cX10_isInGrammar 67 = .ok (.dup, 1) := by decide +kernel
theorem dX10_isInGrammar_68 : decode cX10_isInGrammar 68 = .ok (.getfield 184, 3) := by decide +kernel
theorem dX10_isInGrammar_71 : decode cX10_isInGrammar 71 = .ok (.iconst 1, 1) := by decide +kernel
theorem dX10_isInGrammar_72 : decode cX10_isInGrammar 72 = .ok (.iadd, 1) := by decide +kernel
theorem dX10_isInGrammar_73 : decode cX10_isInGrammar 73 = .ok (.putfield 184, 3) := by decide +kernel
theorem dX10_isInGrammar_76 : decode cX10_isInGrammar 76 = .ok (.goto 138, 3) := by decide +kernel
theorem dX10_isInGrammar_79 : decode cX10_isInGrammar 79 = .ok (.iload_n 2, 1) := by decide +kernel
theorem dX10_isInGrammar_80 : decode cX10_isInGrammar 80 = .ok (.ifCond .eq 19, 3) := by decide +kernel
theorem dX10_isInGrammar_83 : decode cX10_isInGrammar 83 = .ok (.aload_n 0, 1) := by decide +kernel
theorem dX10_isInGrammar_84 : decode cX10_isInGrammar 84 = .ok (.invokevirtual 200, 3) := by decide +kernel
theorem dX10_isInGrammar_87 : decode cX10_isInGrammar 87 = .ok (.ifCond .ne 5, 3) := by decide +kernel
theorem dX10_isInGrammar_90 : decode cX10_isInGrammar 90 = .ok (.iconst 0, 1) := by decide +kernel
theorem dX10_isInGrammar_91 : decode cX10_isInGrammar 91 = .ok (.ireturn, 1) := by decide +kernel
theorem dX10_isInGrammar_92 : decode cX10_isInGrammar 92 = .ok (.iconst 0, 1) := by decide +kernel
theorem dX10_isInGrammar_93 : decode cX10_isInGrammar 93 = .ok (.istore_n 2, 1) := by decide +kernel
theorem dX10_isInGrammar_94 : decode cX10_isInGrammar 94 = .ok (.iconst 1, 1) := by decide +kernel
theorem dX10_isInGrammar_95 : decode cX10_isInGrammar 95 = .ok (.istore_n 3, 1) := by decide +kernel
theorem dX10_isInGrammar_96 : decode cX10_isInGrammar 96 = .ok (.goto 118, 3) := by decide +kernel
theorem dX10_isInGrammar_99 : decode cX10_isInGrammar 99 = .ok (.iload 4, 2) := by decide +kernel
theorem dX10_isInGrammar_101 : decode cX10_isInGrammar 101 = .ok (.bipush 94, 2) := by decide +kernel
theorem dX10_isInGrammar_103 : decode cX10_isInGrammar 103 = .ok (.if_icmp .ne 44, 3) := by decide +kernel
theorem dX10_isInGrammar_106 : decode cX10_isInGrammar 106 = .ok (.iload_n 3, 1) := by decide +kernel
theorem dX10_isInGrammar_107 : decode cX10_isInGrammar 107 = .ok (.ifCond .eq 40, 3) := by decide +kernel
theorem dX10_isInGrammar_110 : decode cX10_isInGrammar 110 = .ok (.aload_n 0, 1) := by decide +kernel
theorem dX10_isInGrammar_111 : decode cX10_isInGrammar 111 = .ok (.dup, 1) := by decide +kernel
theorem dX10_isInGrammar_112 : decode cX10_isInGrammar 112 = .ok (.getfield 184, 3) := by decide +kernel
theorem dX10_isInGrammar_115 : decode cX10_isInGrammar 115 = .ok (.iconst 1, 1) := by decide +kernel
theorem dX10_isInGrammar_116 : decode cX10_isInGrammar 116 = .ok (.iadd, 1) := by decide +kernel
theorem dX10_isInGrammar_117 : decode cX10_isInGrammar 117 = .ok (.putfield 184, 3) := by decide +kernel
theorem dX10_isInGrammar_120 : decode cX10_isInGrammar 120 = .ok (.aload_n 0, 1) := by decide +kernel
theorem dX10_isInGrammar_121 : decode cX10_isInGrammar 121 = .ok (.invokevirtual 190, 3) := by decide +kernel
theorem dX10_isInGrammar_124 : decode cX10_isInGrammar 124 = .ok (.invokestatic 193, 3) := by decide +kernel
theorem dX10_isInGrammar_127 : decode cX10_isInGrammar 127 = .ok (.ifCond .ne 5, 3) := by decide +kernel
theorem dX10_isInGrammar_130 : decode cX10_isInGrammar 130 = .ok (.iconst 0, 1) := by decide +kernel
theorem dX10_isInGrammar_131 : decode cX10_isInGrammar 131 = .ok (.ireturn, 1) := by decide +kernel
theorem dX10_isInGrammar_132 : decode cX10_isInGrammar 132 = .ok (.aload_n 0, 1) := by decide +kernel
theorem dX10_isInGrammar_133 : decode cX10_isInGrammar 133 = .ok (.dup, 1) := by decide +kernel
theorem dX10_isInGrammar_134 : decode cX10_isInGrammar 134 = .ok (.getfield 184, 3) := by decide +kernel
theorem dX10_isInGrammar_137 : decode cX10_isInGrammar 137 = .ok (.iconst 1, 1) := by decide +kernel
theorem dX10_isInGrammar_138 : decode cX10_isInGrammar 138 = .ok (.iadd, 1) := by decide +kernel
theorem dX10_isInGrammar_139 : decode cX10_isInGrammar 139 = .ok (.putfield 184, 3) := by decide +kernel
theorem dX10_isInGrammar_142 : decode cX10_isInGrammar 142 = .ok (.iconst 0, 1) := by decide +kernel
theorem dX10_isInGrammar_143 : decode cX10_isInGrammar 143 = .ok (.istore_n 3, 1) := by decide +kernel
theorem dX10_isInGrammar_144 : decode cX10_isInGrammar 144 = .ok (.goto 70, 3) := by decide +kernel
theorem dX10_isInGrammar_147 : decode cX10_isInGrammar 147 = .ok (.iload 4, 2) := by decide +kernel
theorem dX10_isInGrammar_149 : decode cX10_isInGrammar 149 = .ok (.bipush 41, 2) := by decide +kernel
theorem dX10_isInGrammar_151 : decode cX10_isInGrammar 151 = .ok (.if_icmp .ne 25, 3) := by decide +kernel
theorem dX10_isInGrammar_154 : decode cX10_isInGrammar 154 = .ok (.iload_n 1, 1) := by decide +kernel
theorem dX10_isInGrammar_155 : decode cX10_isInGrammar 155 = .ok (.ifCond .le 21, 3) := by decide +kernel
theorem dX10_isInGrammar_158 : decode cX10_isInGrammar 158 = .ok (.iinc 1 (-1), 3) := by decide +kernel
theorem dX10_isInGrammar_161 : decode cX10_isInGrammar 161 = .ok (.aload_n 0, 1) := by decide +kernel
theorem dX10_isInGrammar_162 : decode cX10_isInGrammar 162 = .ok (.dup, 1) := by decide +kernel
theorem dX10_isInGrammar_163 : decode cX10_isInGrammar 163 = .ok (.getfield 184, 3) := by decide +kernel
theorem dX10_isInGrammar_166 : decode cX10_isInGrammar 166 = .ok (.iconst 1, 1) := by decide +kernel
theorem dX10_isInGrammar_167 : decode cX10_isInGrammar 167 = .ok (.iadd, 1) := by decide +kernel
theorem dX10_isInGrammar_168 : decode cX10_isInGrammar 168 = .ok (.putfield 184, 3) := by decide +kernel
theorem dX10_isInGrammar_171 : decode cX10_isInGrammar 171 = .ok (.iconst 1, 1) := by decide +kernel
theorem dX10_isInGrammar_172 : decode cX10_isInGrammar 172 = .ok (.istore_n 3, 1) := by decide +kernel
theorem dX10_isInGrammar_173 : decode cX10_isInGrammar 173 = .ok (.goto 41, 3) := by decide +kernel
theorem dX10_isInGrammar_176 : decode cX10_isInGrammar 176 = .ok (.iload 4, 2) := by decide +kernel
theorem dX10_isInGrammar_178 : decode cX10_isInGrammar 178 = .ok (.bipush 42, 2) := by decide +kernel
theorem dX10_isInGrammar_180 : decode cX10_isInGrammar 180 = .ok (.if_icmp .eq 17, 3) := by decide +kernel
theorem dX10_isInGrammar_183 : decode cX10_isInGrammar 183 = .ok (.iload 4, 2) := by decide +kernel
theorem dX10_isInGrammar_185 : decode cX10_isInGrammar 185 = .ok (.bipush 43, 2) := by decide +kernel
theorem dX10_isInGrammar_187 : decode cX10_isInGrammar 187 = .ok (.if_icmp .eq 10, 3) := by decide +kernel
theorem dX10_isInGrammar_190 : decode cX10_isInGrammar 190 = .ok (.iload 4, 2) := by decide +kernel
theorem dX10_isInGrammar_192 : decode cX10_isInGrammar 192 = .ok (.bipush 45, 2) := by decide +kernel
theorem dX10_isInGrammar_194 : decode cX10_isInGrammar 194 = .ok (.if_icmp .ne 18, 3) := by decide +kernel
theorem dX10_isInGrammar_197 : decode cX10_isInGrammar 197 = .ok (.iconst 1, 1) := by decide +kernel
theorem dX10_isInGrammar_198 : decode cX10_isInGrammar 198 = .ok (.istore_n 2, 1) := by decide +kernel
theorem dX10_isInGrammar_199 : decode cX10_isInGrammar 199 = .ok (.aload_n 0, 1) := by decide +kernel
theorem dX10_isInGrammar_200 : decode cX10_isInGrammar 200 = .ok (.dup, 1) := by decide +kernel
theorem dX10_isInGrammar_201 : decode cX10_isInGrammar 201 = .ok (.getfield 184, 3) := by decide +kernel
theorem dX10_isInGrammar_204 : decode cX10_isInGrammar 204 = .ok (.iconst 1, 1) := by decide +kernel
theorem dX10_isInGrammar_205 : decode cX10_isInGrammar 205 = .ok (.iadd, 1) := by decide +kernel
theorem dX10_isInGrammar_206 : decode cX10_isInGrammar 206 = .ok (.putfield 184, 3) := by decide +kernel
theorem dX10_isInGrammar_209 : decode cX10_isInGrammar 209 = .ok (.goto 5, 3) := by decide +kernel
theorem dX10_isInGrammar_212 : decode cX10_isInGrammar 212 = .ok (.iconst 0, 1) := by decide +kernel
theorem dX10_isInGrammar_213 : decode cX10_isInGrammar 213 = .ok (.ireturn, 1) := by decide +kernel
theorem dX10_isInGrammar_214 : decode cX10_isInGrammar 214 = .ok (.goto (-203), 3) := by decide +kernel
theorem dX10_isInGrammar_217 : decode cX10_isInGrammar 217 = .ok (.iload_n 2, 1) := by decide +kernel
theorem dX10_isInGrammar_218 : decode cX10_isInGrammar 218 = .ok (.ifCond .ne 11, 3) := by decide +kernel
theorem dX10_isInGrammar_221 : decode cX10_isInGrammar 221 = .ok (.iload_n 1, 1) := by decide +kernel
theorem dX10_isInGrammar_222 : decode cX10_isInGrammar 222 = .ok (.ifCond .ne 7, 3) := by decide +kernel
theorem dX10_isInGrammar_225 : decode cX10_isInGrammar 225 = .ok (.iconst 1, 1) := by decide +kernel
theorem dX10_isInGrammar_226 : decode cX10_isInGrammar 226 = .ok (.goto 4, 3) := by decide +kernel
theorem dX10_isInGrammar_229 : decode cX10_isInGrammar 229 = .ok (.iconst 0, 1) := by decide +kernel
theorem dX10_isInGrammar_230 : decode cX10_isInGrammar 230 = .ok (.ireturn, 1) := by decide +kernel
theorem dX10_type_0 : decode cX10_type 0 = .ok (.iload_n 3, 1) := by decide +kernel
theorem dX10_type_1 : decode cX10_type 1 = .ok (.iconst 1, 1) := by decide +kernel
theorem dX10_type_2 : decode cX10_type 2 = .ok (.if_icmp .lt 13, 3) := by decide +kernel
theorem dX10_type_5 : decode cX10_type 5 = .ok (.iload_n 3, 1) := by decide +kernel
theorem dX10_type_6 : decode cX10_type 6 = .ok (.bipush 8, 2) := by decide +kernel
theorem dX10_type_8 : decode cX10_type 8 = .ok (.if_icmp .gt 7, 3) := by decide +kernel
theorem dX10_type_11 : decode cX10_type 11 = .ok (.iconst 1, 1) := by decide +kernel
theorem dX10_type_12 : decode cX10_type 12 = .ok (.goto 4, 3) := by decide +kernel
theorem dX10_type_15 : decode cX10_type 15 = .ok (.iconst 0, 1) := by decide +kernel
theorem dX10_type_16 : decode cX10_type 16 = .ok (.istore 4, 2) := by decide +kernel
theorem dX10_type_18 : decode cX10_type 18 = .ok (.iconst 0, 1) := by decide +kernel
theorem dX10_type_19 : decode cX10_type 19 = .ok (.istore 5, 2) := by decide +kernel
theorem dX10_type_21 : decode cX10_type 21 = .ok (.iload 5, 2) := by decide +kernel
theorem dX10_type_23 : decode cX10_type 23 = .ok (.iload_n 3, 1) := by decide +kernel
theorem dX10_type_24 : decode cX10_type 24 = .ok (.if_icmp .ge 52, 3) := by decide +kernel
theorem dX10_type_27 : decode cX10_type 27 = .ok (.iload 4, 2) := by decide +kernel
theorem dX10_type_29 : decode cX10_type 29 = .ok (.ifCond .eq 47, 3) := by decide +kernel
theorem dX10_type_32 : decode cX10_type 32 = .ok (.lload_n 1, 1) := by decide +kernel
theorem dX10_type_33 : decode cX10_type 33 = .ok (.bipush 8, 2) := by decide +kernel
theorem dX10_type_35 : decode cX10_type 35 = .ok (.iload 5, 2) := by decide +kernel
theorem dX10_type_37 : decode cX10_type 37 = .ok (.imul, 1) := by decide +kernel
theorem dX10_type_38 : decode cX10_type 38 = .ok (.lshr, 1) := by decide +kernel
theorem dX10_type_39 : decode cX10_type 39 = .ok (.ldc2_w 242, 3) := by decide +kernel
theorem dX10_type_42 : decode cX10_type 42 = .ok (.land, 1) := by decide +kernel
theorem dX10_type_43 : decode cX10_type 43 = .ok (.lstore 6, 2) := by decide +kernel
theorem dX10_type_45 : decode cX10_type 45 = .ok (.lload 6, 2) := by decide +kernel
theorem dX10_type_47 : decode cX10_type 47 = .ok (.ldc2_w 244, 3) := by decide +kernel
theorem dX10_type_50 : decode cX10_type 50 = .ok (.lcmp, 1) := by decide +kernel
theorem dX10_type_51 : decode cX10_type 51 = .ok (.ifCond .lt 16, 3) := by decide +kernel
theorem dX10_type_54 : decode cX10_type 54 = .ok (.lload 6, 2) := by decide +kernel
theorem dX10_type_56 : decode cX10_type 56 = .ok (.ldc2_w 246, 3) := by decide +kernel
theorem dX10_type_59 : decode cX10_type 59 = .ok (.lcmp, 1) := by decide +kernel
theorem dX10_type_60 : decode cX10_type 60 = .ok (.ifCond .gt 7, 3) := by decide +kernel
theorem dX10_type_63 : decode cX10_type 63 = .ok (.iconst 1, 1) := by decide +kernel
theorem dX10_type_64 : decode cX10_type 64 = .ok (.goto 4, 3) := by decide +kernel
theorem dX10_type_67 : decode cX10_type 67 = .ok (.iconst 0, 1) := by decide +kernel
theorem dX10_type_68 : decode cX10_type 68 = .ok (.istore 4, 2) := by decide +kernel
theorem dX10_type_70 : decode cX10_type 70 = .ok (.iinc 5 1, 3) := by decide +kernel
theorem dX10_type_73 : decode cX10_type 73 = .ok (.goto (-52), 3) := by decide +kernel
theorem dX10_type_76 : decode cX10_type 76 = .ok (.aload_n 0, 1) := by decide +kernel
theorem dX10_type_77 : decode cX10_type 77 = .ok (.iload 4, 2) := by decide +kernel
theorem dX10_type_79 : decode cX10_type 79 = .ok (.ifCond .ne 7, 3) := by decide +kernel
theorem dX10_type_82 : decode cX10_type 82 = .ok (.iconst 1, 1) := by decide +kernel
theorem dX10_type_83 : decode cX10_type 83 = .ok (.goto 19, 3) := by decide +kernel
theorem dX10_type_86 : decode cX10_type 86 = .ok (.aload_n 0, 1) := by decide +kernel
theorem dX10_type_87 : decode cX10_type 87 = .ok (.getfield 187, 3) := by decide +kernel
theorem dX10_type_90 : decode cX10_type 90 = .ok (.iload_n 3, 1) := by decide +kernel
theorem dX10_type_91 : decode cX10_type 91 = .ok (.iadd, 1) := by decide +kernel
theorem dX10_type_92 : decode cX10_type 92 = .ok (.bipush 64, 2) := by decide +kernel
theorem dX10_type_94 : decode cX10_type 94 = .ok (.if_icmp .le 7, 3) := by decide +kernel
theorem dX10_type_97 : decode cX10_type 97 = .ok (.iconst 2, 1) := by decide +kernel
theorem dX10_type_98 : decode cX10_type 98 = .ok (.goto 4, 3) := by decide +kernel
theorem dX10_type_101 : decode cX10_type 101 = .ok (.iconst 0, 1) := by decide +kernel
theorem dX10_type_102 : decode cX10_type 102 = .ok (.putfield 78, 3) := by decide +kernel
theorem dX10_type_105 : decode cX10_type 105 = .ok (.aload_n 0, 1) := by decide +kernel
theorem dX10_type_106 : decode cX10_type 106 = .ok (.getfield 78, 3) := by decide +kernel
theorem dX10_type_109 : decode cX10_type 109 = .ok (.ifCond .le 5, 3) := by decide +kernel
theorem dX10_type_112 : decode cX10_type 112 = .ok (.iconst 0, 1) := by decide +kernel
theorem dX10_type_113 : decode cX10_type 113 = .ok (.ireturn, 1) := by decide +kernel
theorem dX10_type_114 : decode cX10_type 114 = .ok (.iconst 0, 1) := by decide +kernel
theorem dX10_type_115 : decode cX10_type 115 = .ok (.istore 5, 2) := by decide +kernel
theorem dX10_type_117 : decode cX10_type 117 = .ok (.iload 5, 2) := by decide +kernel
theorem dX10_type_119 : decode cX10_type 119 = .ok (.iload_n 3, 1) := by decide +kernel
theorem dX10_type_120 : decode cX10_type 120 = .ok (.if_icmp .ge 40, 3) := by decide +kernel
theorem dX10_type_123 : decode cX10_type 123 = .ok (.aload_n 0, 1) := by decide +kernel
theorem dX10_type_124 : decode cX10_type 124 = .ok (.getfield 22, 3) := by decide +kernel
theorem dX10_type_127 : decode cX10_type 127 = .ok (.aload_n 0, 1) := by decide +kernel
theorem dX10_type_128 : decode cX10_type 128 = .ok (.getfield 187, 3) := by decide +kernel
theorem dX10_type_131 : decode cX10_type 131 = .ok (.lload_n 1, 1) := by decide +kernel
theorem dX10_type_132 : decode cX10_type 132 = .ok (.bipush 8, 2) := by decide +kernel
theorem dX10_type_134 : decode cX10_type 134 = .ok (.iload 5, 2) := by decide +kernel
theorem dX10_type_136 : decode cX10_type 136 = .ok (.imul, 1) := by decide +kernel
theorem dX10_type_137 : decode cX10_type 137 = .ok (.lshr, 1) := by decide +kernel
theorem dX10_type_138 : decode cX10_type 138 = .ok (.ldc2_w 242, 3) := by decide +kernel
theorem dX10_type_141 : decode cX10_type 141 = .ok (.land, 1) := by decide +kernel
theorem dX10_type_142 : decode cX10_type 142 = .ok (.l2i, 1) := by decide +kernel
theorem dX10_type_143 : decode cX10_type 143 = .ok (.iastore, 1) := by decide +kernel
theorem dX10_type_144 : decode cX10_type 144 = .ok (.aload_n 0, 1) := by decide +kernel
theorem dX10_type_145 : decode cX10_type 145 = .ok (.dup, 1) := by decide +kernel
theorem dX10_type_146 : decode cX10_type 146 = .ok (.getfield 187, 3) := by decide +kernel
theorem dX10_type_149 : decode cX10_type 149 = .ok (.iconst 1, 1) := by decide +kernel
theorem dX10_type_150 : decode cX10_type 150 = .ok (.iadd, 1) := by decide +kernel
theorem dX10_type_151 : decode cX10_type 151 = .ok (.putfield 187, 3) := by decide +kernel
theorem dX10_type_154 : decode cX10_type 154 = .ok (.iinc 5 1, 3) := by decide +kernel
theorem dX10_type_157 : decode cX10_type 157 = .ok (.goto (-40), 3) := by decide +kernel
theorem dX10_type_160 : decode cX10_type 160 = .ok (.aload_n 0, 1) := by decide +kernel
theorem dX10_type_161 : decode cX10_type 161 = .ok (.getfield 187, 3) := by decide +kernel
theorem dX10_type_164 : decode cX10_type 164 = .ok (.ireturn, 1) := by decide +kernel
theorem dX10_define_0 : decode cX10_define 0 = .ok (.aload_n 0, 1) := by decide +kernel
theorem dX10_define_1 : decode cX10_define 1 = .ok (.iload_n 1, 1) := by decide +kernel
theorem dX10_define_2 : decode cX10_define 2 = .ok (.ifCond .lt 9, 3) := by decide +kernel
theorem dX10_define_5 : decode cX10_define 5 = .ok (.iload_n 1, 1) := by decide +kernel
theorem dX10_define_6 : decode cX10_define 6 = .ok (.bipush 7, 2) := by decide +kernel
theorem dX10_define_8 : decode cX10_define 8 = .ok (.if_icmp .le 7, 3) := by decide +kernel
theorem dX10_define_11 : decode cX10_define 11 = .ok (.iconst 1, 1) := by decide +kernel
theorem dX10_define_12 : decode cX10_define 12 = .ok (.goto 4, 3) := by decide +kernel
theorem dX10_define_15 : decode cX10_define 15 = .ok (.iconst 0, 1) := by decide +kernel
theorem dX10_define_16 : decode cX10_define 16 = .ok (.putfield 78, 3) := by decide +kernel
theorem dX10_define_19 : decode cX10_define 19 = .ok (.aload_n 0, 1) := by decide +kernel
theorem dX10_define_20 : decode cX10_define 20 = .ok (.getfield 78, 3) := by decide +kernel
theorem dX10_define_23 : decode cX10_define 23 = .ok (.ifCond .le 5, 3) := by decide +kernel
theorem dX10_define_26 : decode cX10_define 26 = .ok (.iconst 0, 1) := by decide +kernel
theorem dX10_define_27 : decode cX10_define 27 = .ok (.ireturn, 1) := by decide +kernel
theorem dX10_define_28 : decode cX10_define 28 = .ok (.aload_n 0, 1) := by decide +kernel
theorem dX10_define_29 : decode cX10_define 29 = .ok (.iconst (-1), 1) := by decide +kernel
theorem dX10_define_30 : decode cX10_define 30 = .ok (.putfield 25, 3) := by decide +kernel
theorem dX10_define_33 : decode cX10_define 33 = .ok (.aload_n 0, 1) := by decide +kernel
theorem dX10_define_34 : decode cX10_define 34 = .ok (.invokevirtual 248, 3) := by decide +kernel
theorem dX10_define_37 : decode cX10_define 37 = .ok (.ifCond .ne 16, 3) := by decide +kernel
theorem dX10_define_40 : decode cX10_define 40 = .ok (.aload_n 0, 1) := by decide +kernel
theorem dX10_define_41 : decode cX10_define 41 = .ok (.aload_n 0, 1) := by decide +kernel
theorem dX10_define_42 : decode cX10_define 42 = .ok (.getfield 184, 3) := by decide +kernel
theorem dX10_define_45 : decode cX10_define 45 = .ok (.putfield 25, 3) := by decide +kernel
theorem dX10_define_48 : decode cX10_define 48 = .ok (.iconst (-1), 1) := by decide +kernel
theorem dX10_define_49 : decode cX10_define 49 = .ok (.istore_n 2, 1) := by decide +kernel
theorem dX10_define_50 : decode cX10_define 50 = .ok (.goto 67, 3) := by decide +kernel
theorem dX10_define_53 : decode cX10_define 53 = .ok (.aload_n 0, 1) := by decide +kernel
theorem dX10_define_54 : decode cX10_define 54 = .ok (.invokevirtual 251, 3) := by decide +kernel
theorem dX10_define_57 : decode cX10_define 57 = .ok (.ifCond .ne 9, 3) := by decide +kernel
theorem dX10_define_60 : decode cX10_define 60 = .ok (.bipush (-2), 2) := by decide +kernel
theorem dX10_define_62 : decode cX10_define 62 = .ok (.istore_n 2, 1) := by decide +kernel
theorem dX10_define_63 : decode cX10_define 63 = .ok (.goto 54, 3) := by decide +kernel
theorem dX10_define_66 : decode cX10_define 66 = .ok (.aload_n 0, 1) := by decide +kernel
theorem dX10_define_67 : decode cX10_define 67 = .ok (.getfield 149, 3) := by decide +kernel
theorem dX10_define_70 : decode cX10_define 70 = .ok (.istore_n 3, 1) := by decide +kernel
theorem dX10_define_71 : decode cX10_define 71 = .ok (.aload_n 0, 1) := by decide +kernel
theorem dX10_define_72 : decode cX10_define 72 = .ok (.iconst 0, 1) := by decide +kernel
theorem dX10_define_73 : decode cX10_define 73 = .ok (.putfield 146, 3) := by decide +kernel
theorem dX10_define_76 : decode cX10_define 76 = .ok (.aload_n 0, 1) := by decide +kernel
theorem dX10_define_77 : decode cX10_define 77 = .ok (.invokevirtual 254, 3) := by decide +kernel
theorem dX10_define_80 : decode cX10_define 80 = .ok (.istore_n 2, 1) := by decide +kernel
theorem dX10_define_81 : decode cX10_define 81 = .ok (.aload_n 0, 1) := by decide +kernel
theorem dX10_define_82 : decode cX10_define 82 = .ok (.iload_n 2, 1) := by decide +kernel
theorem dX10_define_83 : decode cX10_define 83 = .ok (.ifCond .ge 7, 3) := by decide +kernel
theorem dX10_define_86 : decode cX10_define 86 = .ok (.iload_n 3, 1) := by decide +kernel
theorem dX10_define_87 : decode cX10_define 87 = .ok (.goto 7, 3) := by decide +kernel
theorem dX10_define_90 : decode cX10_define 90 = .ok (.aload_n 0, 1) := by decide +kernel
theorem dX10_define_91 : decode cX10_define 91 = .ok (.getfield 149, 3) := by decide +kernel
theorem dX10_define_94 : decode cX10_define 94 = .ok (.putfield 149, 3) := by decide +kernel
theorem dX10_define_97 : decode cX10_define 97 = .ok (.aload_n 0, 1) := by decide +kernel
theorem dX10_define_98 : decode cX10_define 98 = .ok (.getfield 47, 3) := by decide +kernel
theorem dX10_define_101 : decode cX10_define 101 = .ok (.iload_n 1, 1) := by decide +kernel
theorem dX10_define_102 : decode cX10_define 102 = .ok (.iload_n 2, 1) := by decide +kernel
theorem dX10_define_103 : decode cX10_define 103 = .ok (.ifCond .ge 12, 3) := by decide +kernel
theorem dX10_define_106 : decode cX10_define 106 = .ok (.aload_n 0, 1) := by decide +kernel
theorem dX10_define_107 : decode cX10_define 107 = .ok (.getfield 47, 3) := by decide +kernel
theorem dX10_define_110 : decode cX10_define 110 = .ok (.iload_n 1, 1) := by decide +kernel
theorem dX10_define_111 : decode cX10_define 111 = .ok (.iaload, 1) := by decide +kernel
theorem dX10_define_112 : decode cX10_define 112 = .ok (.goto 4, 3) := by decide +kernel
theorem dX10_define_115 : decode cX10_define 115 = .ok (.iload_n 2, 1) := by decide +kernel
theorem dX10_define_116 : decode cX10_define 116 = .ok (.iastore, 1) := by decide +kernel
theorem dX10_define_117 : decode cX10_define 117 = .ok (.aload_n 0, 1) := by decide +kernel
theorem dX10_define_118 : decode cX10_define 118 = .ok (.iconst 0, 1) := by decide +kernel
theorem dX10_define_119 : decode cX10_define 119 = .ok (.putfield 187, 3) := by decide +kernel
theorem dX10_define_122 : decode cX10_define 122 = .ok (.iload_n 2, 1) := by decide +kernel
theorem dX10_define_123 : decode cX10_define 123 = .ok (.ireturn, 1) := by decide +kernel
theorem dX10_place_0 : decode cX10_place 0 = .ok (.aload_n 0, 1) := by decide +kernel
theorem dX10_place_1 : decode cX10_place 1 = .ok (.iconst 0, 1) := by decide +kernel
theorem dX10_place_2 : decode cX10_place 2 = .ok (.putfield 78, 3) := by decide +kernel
theorem dX10_place_5 : decode cX10_place 5 = .ok (.aload_n 0, 1) := by decide +kernel
theorem dX10_place_6 : decode cX10_place 6 = .ok (.getfield 25, 3) := by decide +kernel
theorem dX10_place_9 : decode cX10_place 9 = .ok (.ireturn, 1) := by decide +kernel
theorem dX10_noName_0 : decode cX10_noName 0 = .ok (.aload_n 0, 1) := by decide +kernel
theorem dX10_noName_1 : decode cX10_noName 1 = .ok (.iload_n 1, 1) := by decide +kernel
theorem dX10_noName_2 : decode cX10_noName 2 = .ok (.ifCond .lt 9, 3) := by decide +kernel
theorem dX10_noName_5 : decode cX10_noName 5 = .ok (.iload_n 1, 1) := by decide +kernel
theorem dX10_noName_6 : decode cX10_noName 6 = .ok (.bipush 7, 2) := by decide +kernel
theorem dX10_noName_8 : decode cX10_noName 8 = .ok (.if_icmp .le 7, 3) := by decide +kernel
theorem dX10_noName_11 : decode cX10_noName 11 = .ok (.iconst 1, 1) := by decide +kernel
theorem dX10_noName_12 : decode cX10_noName 12 = .ok (.goto 17, 3) := by decide +kernel
theorem dX10_noName_15 : decode cX10_noName 15 = .ok (.aload_n 0, 1) := by decide +kernel
theorem dX10_noName_16 : decode cX10_noName 16 = .ok (.getfield 47, 3) := by decide +kernel
theorem dX10_noName_19 : decode cX10_noName 19 = .ok (.iload_n 1, 1) := by decide +kernel
theorem dX10_noName_20 : decode cX10_noName 20 = .ok (.iaload, 1) := by decide +kernel
theorem dX10_noName_21 : decode cX10_noName 21 = .ok (.ifCond .ge 7, 3) := by decide +kernel
theorem dX10_noName_24 : decode cX10_noName 24 = .ok (.iconst 2, 1) := by decide +kernel
theorem dX10_noName_25 : decode cX10_noName 25 = .ok (.goto 4, 3) := by decide +kernel
theorem dX10_noName_28 : decode cX10_noName 28 = .ok (.iconst 0, 1) := by decide +kernel
theorem dX10_noName_29 : decode cX10_noName 29 = .ok (.putfield 78, 3) := by decide +kernel
theorem dX10_noName_32 : decode cX10_noName 32 = .ok (.aload_n 0, 1) := by decide +kernel
theorem dX10_noName_33 : decode cX10_noName 33 = .ok (.getfield 78, 3) := by decide +kernel
theorem dX10_noName_36 : decode cX10_noName 36 = .ok (.ifCond .le 7, 3) := by decide +kernel
theorem dX10_noName_39 : decode cX10_noName 39 = .ok (.iconst 1, 1) := by decide +kernel
theorem dX10_noName_40 : decode cX10_noName 40 = .ok (.goto 4, 3) := by decide +kernel
theorem dX10_noName_43 : decode cX10_noName 43 = .ok (.iconst 0, 1) := by decide +kernel
theorem dX10_noName_44 : decode cX10_noName 44 = .ok (.ireturn, 1) := by decide +kernel
theorem dX10_derive_0 : decode cX10_derive 0 = .ok (.iload_n 1, 1) := by decide +kernel
theorem dX10_derive_1 : decode cX10_derive 1 = .ok (.ifCond .lt 28, 3) := by decide +kernel
theorem dX10_derive_4 : decode cX10_derive 4 = .ok (.iload_n 1, 1) := by decide +kernel
theorem dX10_derive_5 : decode cX10_derive 5 = .ok (.bipush 7, 2) := by decide +kernel
theorem dX10_derive_7 : decode cX10_derive 7 = .ok (.if_icmp .gt 22, 3) := by decide +kernel
theorem dX10_derive_10 : decode cX10_derive 10 = .ok (.iload_n 3, 1) := by decide +kernel
theorem dX10_derive_11 : decode cX10_derive 11 = .ok (.ifCond .lt 18, 3) := by decide +kernel
theorem dX10_derive_14 : decode cX10_derive 14 = .ok (.iload_n 3, 1) := by decide +kernel
theorem dX10_derive_15 : decode cX10_derive 15 = .ok (.bipush 7, 2) := by decide +kernel
theorem dX10_derive_17 : decode cX10_derive 17 = .ok (.if_icmp .gt 12, 3) := by decide +kernel
theorem dX10_derive_20 : decode cX10_derive 20 = .ok (.iload_n 2, 1) := by decide +kernel
theorem dX10_derive_21 : decode cX10_derive 21 = .ok (.ifCond .lt 8, 3) := by decide +kernel
theorem dX10_derive_24 : decode cX10_derive 24 = .ok (.iload_n 2, 1) := by decide +kernel
theorem dX10_derive_25 : decode cX10_derive 25 = .ok (.iconst 2, 1) := by decide +kernel
theorem dX10_derive_26 : decode cX10_derive 26 = .ok (.if_icmp .le 7, 3) := by decide +kernel
theorem dX10_derive_29 : decode cX10_derive 29 = .ok (.iconst 1, 1) := by decide +kernel
theorem dX10_derive_30 : decode cX10_derive 30 = .ok (.goto 4, 3) := by decide +kernel
theorem dX10_derive_33 : decode cX10_derive 33 = .ok (.iconst 0, 1) := by decide +kernel
theorem dX10_derive_34 : decode cX10_derive 34 = .ok (.istore 4, 2) := by decide +kernel
theorem dX10_derive_36 : decode cX10_derive 36 = .ok (.aload_n 0, 1) := by decide +kernel
theorem dX10_derive_37 : decode cX10_derive 37 = .ok (.iload 4, 2) := by decide +kernel
theorem dX10_derive_39 : decode cX10_derive 39 = .ok (.ifCond .eq 7, 3) := by decide +kernel
theorem dX10_derive_42 : decode cX10_derive 42 = .ok (.iconst 1, 1) := by decide +kernel
theorem dX10_derive_43 : decode cX10_derive 43 = .ok (.goto 17, 3) := by decide +kernel
theorem dX10_derive_46 : decode cX10_derive 46 = .ok (.aload_n 0, 1) := by decide +kernel
theorem dX10_derive_47 : decode cX10_derive 47 = .ok (.getfield 47, 3) := by decide +kernel
theorem dX10_derive_50 : decode cX10_derive 50 = .ok (.iload_n 1, 1) := by decide +kernel
theorem dX10_derive_51 : decode cX10_derive 51 = .ok (.iaload, 1) := by decide +kernel
theorem dX10_derive_52 : decode cX10_derive 52 = .ok (.ifCond .ge 7, 3) := by decide +kernel
theorem dX10_derive_55 : decode cX10_derive 55 = .ok (.iconst 2, 1) := by decide +kernel
theorem dX10_derive_56 : decode cX10_derive 56 = .ok (.goto 4, 3) := by decide +kernel
theorem dX10_derive_59 : decode cX10_derive 59 = .ok (.iconst 0, 1) := by decide +kernel
theorem dX10_derive_60 : decode cX10_derive 60 = .ok (.putfield 78, 3) := by decide +kernel
theorem dX10_derive_63 : decode cX10_derive 63 = .ok (.aload_n 0, 1) := by decide +kernel
theorem dX10_derive_64 : decode cX10_derive 64 = .ok (.getfield 78, 3) := by decide +kernel
theorem dX10_derive_67 : decode cX10_derive 67 = .ok (.ifCond .le 5, 3) := by decide +kernel
theorem dX10_derive_70 : decode cX10_derive 70 = .ok (.iconst 0, 1) := by decide +kernel
theorem dX10_derive_71 : decode cX10_derive 71 = .ok (.ireturn, 1) := by decide +kernel
theorem dX10_derive_72 : decode cX10_derive 72 = .ok (.aload_n 0, 1) := by decide +kernel
theorem dX10_derive_73 : decode cX10_derive 73 = .ok (.getfield 47, 3) := by decide +kernel
theorem dX10_derive_76 : decode cX10_derive 76 = .ok (.iload_n 1, 1) := by decide +kernel
theorem dX10_derive_77 : decode cX10_derive 77 = .ok (.iaload, 1) := by decide +kernel
theorem dX10_derive_78 : decode cX10_derive 78 = .ok (.istore 5, 2) := by decide +kernel
theorem dX10_derive_80 : decode cX10_derive 80 = .ok (.aload_n 0, 1) := by decide +kernel
theorem dX10_derive_81 : decode cX10_derive 81 = .ok (.iload 5, 2) := by decide +kernel
theorem dX10_derive_83 : decode cX10_derive 83 = .ok (.invokevirtual 257, 3) := by decide +kernel
theorem dX10_derive_86 : decode cX10_derive 86 = .ok (.aload_n 0, 1) := by decide +kernel
theorem dX10_derive_87 : decode cX10_derive 87 = .ok (.getfield 149, 3) := by decide +kernel
theorem dX10_derive_90 : decode cX10_derive 90 = .ok (.istore 6, 2) := by decide +kernel
theorem dX10_derive_92 : decode cX10_derive 92 = .ok (.aload_n 0, 1) := by decide +kernel
theorem dX10_derive_93 : decode cX10_derive 93 = .ok (.iconst 0, 1) := by decide +kernel
theorem dX10_derive_94 : decode cX10_derive 94 = .ok (.putfield 146, 3) := by decide +kernel
theorem dX10_derive_97 : decode cX10_derive 97 = .ok (.iconst 0, 1) := by decide +kernel
theorem dX10_derive_98 : decode cX10_derive 98 = .ok (.istore 7, 2) := by decide +kernel
theorem dX10_derive_100 : decode cX10_derive 100 = .ok (.iload 7, 2) := by decide +kernel
theorem dX10_derive_102 : decode cX10_derive 102 = .ok (.iload 5, 2) := by decide +kernel
theorem dX10_derive_104 : decode cX10_derive 104 = .ok (.if_icmp .gt 40, 3) := by decide +kernel
theorem dX10_derive_107 : decode cX10_derive 107 = .ok (.aload_n 0, 1) := by decide +kernel
theorem dX10_derive_108 : decode cX10_derive 108 = .ok (.getfield 146, 3) := by decide +kernel
theorem dX10_derive_111 : decode cX10_derive 111 = .ok (.ifCond .ne 33, 3) := by decide +kernel
theorem dX10_derive_114 : decode cX10_derive 114 = .ok (.aload_n 0, 1) := by decide +kernel
theorem dX10_derive_115 : decode cX10_derive 115 = .ok (.getfield 50, 3) := by decide +kernel
theorem dX10_derive_118 : decode cX10_derive 118 = .ok (.iload 7, 2) := by decide +kernel
theorem dX10_derive_120 : decode cX10_derive 120 = .ok (.baload, 1) := by decide +kernel
theorem dX10_derive_121 : decode cX10_derive 121 = .ok (.ifCond .eq 17, 3) := by decide +kernel
theorem dX10_derive_124 : decode cX10_derive 124 = .ok (.aload_n 0, 1) := by decide +kernel
theorem dX10_derive_125 : decode cX10_derive 125 = .ok (.getfield 53, 3) := by decide +kernel
theorem dX10_derive_128 : decode cX10_derive 128 = .ok (.iload 7, 2) := by decide +kernel
theorem dX10_derive_130 : decode cX10_derive 130 = .ok (.aload_n 0, 1) := by decide +kernel
theorem dX10_derive_131 : decode cX10_derive 131 = .ok (.iload 7, 2) := by decide +kernel
theorem dX10_derive_133 : decode cX10_derive 133 = .ok (.iload_n 2, 1) := by decide +kernel
theorem dX10_derive_134 : decode cX10_derive 134 = .ok (.invokevirtual 260, 3) := by decide +kernel
theorem dX10_derive_137 : decode cX10_derive 137 = .ok (.iastore, 1) := by decide +kernel
theorem dX10_derive_138 : decode cX10_derive 138 = .ok (.iinc 7 1, 3) := by decide +kernel
theorem dX10_derive_141 : decode cX10_derive 141 = .ok (.goto (-41), 3) := by decide +kernel
theorem dX10_derive_144 : decode cX10_derive 144 = .ok (.aload_n 0, 1) := by decide +kernel
theorem dX10_derive_145 : decode cX10_derive 145 = .ok (.getfield 146, 3) := by decide +kernel
theorem dX10_derive_148 : decode cX10_derive 148 = .ok (.ifCond .ge 14, 3) := by decide +kernel
theorem dX10_derive_151 : decode cX10_derive 151 = .ok (.aload_n 0, 1) := by decide +kernel
theorem dX10_derive_152 : decode cX10_derive 152 = .ok (.iload 6, 2) := by decide +kernel
theorem dX10_derive_154 : decode cX10_derive 154 = .ok (.putfield 149, 3) := by decide +kernel
theorem dX10_derive_157 : decode cX10_derive 157 = .ok (.aload_n 0, 1) := by decide +kernel
theorem dX10_derive_158 : decode cX10_derive 158 = .ok (.getfield 146, 3) := by decide +kernel
theorem dX10_derive_161 : decode cX10_derive 161 = .ok (.ireturn, 1) := by decide +kernel
theorem dX10_derive_162 : decode cX10_derive 162 = .ok (.aload_n 0, 1) := by decide +kernel
theorem dX10_derive_163 : decode cX10_derive 163 = .ok (.getfield 47, 3) := by decide +kernel
theorem dX10_derive_166 : decode cX10_derive 166 = .ok (.iload_n 3, 1) := by decide +kernel
theorem dX10_derive_167 : decode cX10_derive 167 = .ok (.aload_n 0, 1) := by decide +kernel
theorem dX10_derive_168 : decode cX10_derive 168 = .ok (.getfield 53, 3) := by decide +kernel
theorem dX10_derive_171 : decode cX10_derive 171 = .ok (.iload 5, 2) := by decide +kernel
theorem dX10_derive_173 : decode cX10_derive 173 = .ok (.iaload, 1) := by decide +kernel
theorem dX10_derive_174 : decode cX10_derive 174 = .ok (.iastore, 1) := by decide +kernel
theorem dX10_derive_175 : decode cX10_derive 175 = .ok (.aload_n 0, 1) := by decide +kernel
theorem dX10_derive_176 : decode cX10_derive 176 = .ok (.getfield 47, 3) := by decide +kernel
theorem dX10_derive_179 : decode cX10_derive 179 = .ok (.iload_n 3, 1) := by decide +kernel
theorem dX10_derive_180 : decode cX10_derive 180 = .ok (.iaload, 1) := by decide +kernel
theorem dX10_derive_181 : decode cX10_derive 181 = .ok (.ireturn, 1) := by decide +kernel
theorem dX10_made_0 : decode cX10_made 0 = .ok (.aload_n 0, 1) := by decide +kernel
theorem dX10_made_1 : decode cX10_made 1 = .ok (.iconst 0, 1) := by decide +kernel
theorem dX10_made_2 : decode cX10_made 2 = .ok (.putfield 78, 3) := by decide +kernel
theorem dX10_made_5 : decode cX10_made 5 = .ok (.aload_n 0, 1) := by decide +kernel
theorem dX10_made_6 : decode cX10_made 6 = .ok (.getfield 149, 3) := by decide +kernel
theorem dX10_made_9 : decode cX10_made 9 = .ok (.ireturn, 1) := by decide +kernel
theorem dX10_parts_0 : decode cX10_parts 0 = .ok (.aload_n 0, 1) := by decide +kernel
theorem dX10_parts_1 : decode cX10_parts 1 = .ok (.iload_n 1, 1) := by decide +kernel
theorem dX10_parts_2 : decode cX10_parts 2 = .ok (.invokevirtual 263, 3) := by decide +kernel
theorem dX10_parts_5 : decode cX10_parts 5 = .ok (.ifCond .eq 5, 3) := by decide +kernel
theorem dX10_parts_8 : decode cX10_parts 8 = .ok (.iconst 0, 1) := by decide +kernel
theorem dX10_parts_9 : decode cX10_parts 9 = .ok (.ireturn, 1) := by decide +kernel
theorem dX10_parts_10 : decode cX10_parts 10 = .ok (.aload_n 0, 1) := by decide +kernel
theorem dX10_parts_11 : decode cX10_parts 11 = .ok (.aload_n 0, 1) := by decide +kernel
theorem dX10_parts_12 : decode cX10_parts 12 = .ok (.getfield 47, 3) := by decide +kernel
theorem dX10_parts_15 : decode cX10_parts 15 = .ok (.iload_n 1, 1) := by decide +kernel
theorem dX10_parts_16 : decode cX10_parts 16 = .ok (.iaload, 1) := by decide +kernel
theorem dX10_parts_17 : decode cX10_parts 17 = .ok (.invokevirtual 257, 3) := by decide +kernel
theorem dX10_parts_20 : decode cX10_parts 20 = .ok (.iconst 0, 1) := by decide +kernel
theorem dX10_parts_21 : decode cX10_parts 21 = .ok (.istore_n 2, 1) := by decide +kernel
theorem dX10_parts_22 : decode cX10_parts 22 = .ok (.iconst 0, 1) := by decide +kernel
theorem dX10_parts_23 : decode cX10_parts 23 = .ok (.istore_n 3, 1) := by decide +kernel
theorem dX10_parts_24 : decode cX10_parts 24 = .ok (.iload_n 3, 1) := by decide +kernel
theorem dX10_parts_25 : decode cX10_parts 25 = .ok (.sipush 200, 3) := by decide +kernel
theorem dX10_parts_28 : decode cX10_parts 28 = .ok (.if_icmp .ge 26, 3) := by decide +kernel
theorem dX10_parts_31 : decode cX10_parts 31 = .ok (.aload_n 0, 1) := by decide +kernel
theorem dX10_parts_32 : decode cX10_parts 32 = .ok (.getfield 50, 3) := by decide +kernel
theorem dX10_parts_35 : decode cX10_parts 35 = .ok (.iload_n 3, 1) := by decide +kernel
theorem dX10_parts_36 : decode cX10_parts 36 = .ok (.baload, 1) := by decide +kernel
theorem dX10_parts_37 : decode cX10_parts 37 = .ok (.ifCond .eq 9, 3) := by decide +kernel
theorem dX10_parts_40 : decode cX10_parts 40 = .ok (.iload_n 2, 1) := by decide +kernel
theorem dX10_parts_41 : decode cX10_parts 41 = .ok (.iconst 1, 1) := by decide +kernel
theorem dX10_parts_42 : decode cX10_parts 42 = .ok (.iadd, 1) := by decide +kernel
theorem dX10_parts_43 : decode cX10_parts 43 = .ok (.goto 4, 3) := by decide +kernel
theorem dX10_parts_46 : decode cX10_parts 46 = .ok (.iload_n 2, 1) := by decide +kernel
theorem dX10_parts_47 : decode cX10_parts 47 = .ok (.istore_n 2, 1) := by decide +kernel
theorem dX10_parts_48 : decode cX10_parts 48 = .ok (.iinc 3 1, 3) := by decide +kernel
theorem dX10_parts_51 : decode cX10_parts 51 = .ok (.goto (-27), 3) := by decide +kernel
theorem dX10_parts_54 : decode cX10_parts 54 = .ok (.iload_n 2, 1) := by decide +kernel
theorem dX10_parts_55 : decode cX10_parts 55 = .ok (.ireturn, 1) := by decide +kernel
theorem dX10_part_0 : decode cX10_part 0 = .ok (.aload_n 0, 1) := by decide +kernel
theorem dX10_part_1 : decode cX10_part 1 = .ok (.iload_n 1, 1) := by decide +kernel
theorem dX10_part_2 : decode cX10_part 2 = .ok (.ifCond .lt 11, 3) := by decide +kernel
theorem dX10_part_5 : decode cX10_part 5 = .ok (.iload_n 1, 1) := by decide +kernel
theorem dX10_part_6 : decode cX10_part 6 = .ok (.aload_n 0, 1) := by decide +kernel
theorem dX10_part_7 : decode cX10_part 7 = .ok (.getfield 149, 3) := by decide +kernel
theorem dX10_part_10 : decode cX10_part 10 = .ok (.if_icmp .lt 7, 3) := by decide +kernel
theorem dX10_part_13 : decode cX10_part 13 = .ok (.iconst 1, 1) := by decide +kernel
theorem dX10_part_14 : decode cX10_part 14 = .ok (.goto 17, 3) := by decide +kernel
theorem dX10_part_17 : decode cX10_part 17 = .ok (.iload_n 2, 1) := by decide +kernel
theorem dX10_part_18 : decode cX10_part 18 = .ok (.ifCond .lt 8, 3) := by decide +kernel
theorem dX10_part_21 : decode cX10_part 21 = .ok (.iload_n 2, 1) := by decide +kernel
theorem dX10_part_22 : decode cX10_part 22 = .ok (.iconst 5, 1) := by decide +kernel
theorem dX10_part_23 : decode cX10_part 23 = .ok (.if_icmp .le 7, 3) := by decide +kernel
theorem dX10_part_26 : decode cX10_part 26 = .ok (.iconst 2, 1) := by decide +kernel
theorem dX10_part_27 : decode cX10_part 27 = .ok (.goto 4, 3) := by decide +kernel
theorem dX10_part_30 : decode cX10_part 30 = .ok (.iconst 0, 1) := by decide +kernel
theorem dX10_part_31 : decode cX10_part 31 = .ok (.putfield 78, 3) := by decide +kernel
theorem dX10_part_34 : decode cX10_part 34 = .ok (.aload_n 0, 1) := by decide +kernel
theorem dX10_part_35 : decode cX10_part 35 = .ok (.getfield 78, 3) := by decide +kernel
theorem dX10_part_38 : decode cX10_part 38 = .ok (.ifCond .le 5, 3) := by decide +kernel
theorem dX10_part_41 : decode cX10_part 41 = .ok (.iconst 0, 1) := by decide +kernel
theorem dX10_part_42 : decode cX10_part 42 = .ok (.ireturn, 1) := by decide +kernel
theorem dX10_part_43 : decode cX10_part 43 = .ok (.iload_n 2, 1) := by decide +kernel
theorem dX10_part_44 : decode cX10_part 44 = .ok (.ifCond .ne 12, 3) := by decide +kernel
theorem dX10_part_47 : decode cX10_part 47 = .ok (.aload_n 0, 1) := by decide +kernel
theorem dX10_part_48 : decode cX10_part 48 = .ok (.getfield 29, 3) := by decide +kernel
theorem dX10_part_51 : decode cX10_part 51 = .ok (.iload_n 1, 1) := by decide +kernel
theorem dX10_part_52 : decode cX10_part 52 = .ok (.iaload, 1) := by decide +kernel
theorem dX10_part_53 : decode cX10_part 53 = .ok (.goto 65, 3) := by decide +kernel
theorem dX10_part_56 : decode cX10_part 56 = .ok (.iload_n 2, 1) := by decide +kernel
theorem dX10_part_57 : decode cX10_part 57 = .ok (.iconst 1, 1) := by decide +kernel
theorem dX10_part_58 : decode cX10_part 58 = .ok (.if_icmp .ne 12, 3) := by decide +kernel
theorem dX10_part_61 : decode cX10_part 61 = .ok (.aload_n 0, 1) := by decide +kernel
theorem dX10_part_62 : decode cX10_part 62 = .ok (.getfield 32, 3) := by decide +kernel
theorem dX10_part_65 : decode cX10_part 65 = .ok (.iload_n 1, 1) := by decide +kernel
theorem dX10_part_66 : decode cX10_part 66 = .ok (.iaload, 1) := by decide +kernel
theorem dX10_part_67 : decode cX10_part 67 = .ok (.goto 51, 3) := by decide +kernel
theorem dX10_part_70 : decode cX10_part 70 = .ok (.iload_n 2, 1) := by decide +kernel
theorem dX10_part_71 : decode cX10_part 71 = .ok (.iconst 2, 1) := by decide +kernel
theorem dX10_part_72 : decode cX10_part 72 = .ok (.if_icmp .ne 12, 3) := by decide +kernel
theorem dX10_part_75 : decode cX10_part 75 = .ok (.aload_n 0, 1) := by decide +kernel
theorem dX10_part_76 : decode cX10_part 76 = .ok (.getfield 35, 3) := by decide +kernel
theorem dX10_part_79 : decode cX10_part 79 = .ok (.iload_n 1, 1) := by decide +kernel
theorem dX10_part_80 : decode cX10_part 80 = .ok (.iaload, 1) := by decide +kernel
theorem dX10_part_81 : decode cX10_part 81 = .ok (.goto 37, 3) := by decide +kernel
theorem dX10_part_84 : decode cX10_part 84 = .ok (.iload_n 2, 1) := by decide +kernel
theorem dX10_part_85 : decode cX10_part 85 = .ok (.iconst 3, 1) := by decide +kernel
theorem dX10_part_86 : decode cX10_part 86 = .ok (.if_icmp .ne 12, 3) := by decide +kernel
theorem dX10_part_89 : decode cX10_part 89 = .ok (.aload_n 0, 1) := by decide +kernel
theorem dX10_part_90 : decode cX10_part 90 = .ok (.getfield 38, 3) := by decide +kernel
theorem dX10_part_93 : decode cX10_part 93 = .ok (.iload_n 1, 1) := by decide +kernel
theorem dX10_part_94 : decode cX10_part 94 = .ok (.iaload, 1) := by decide +kernel
theorem dX10_part_95 : decode cX10_part 95 = .ok (.goto 23, 3) := by decide +kernel
theorem dX10_part_98 : decode cX10_part 98 = .ok (.iload_n 2, 1) := by decide +kernel
theorem dX10_part_99 : decode cX10_part 99 = .ok (.iconst 4, 1) := by decide +kernel
theorem dX10_part_100 : decode cX10_part 100 = .ok (.if_icmp .ne 12, 3) := by decide +kernel
theorem dX10_part_103 : decode cX10_part 103 = .ok (.aload_n 0, 1) := by decide +kernel
theorem dX10_part_104 : decode cX10_part 104 = .ok (.getfield 41, 3) := by decide +kernel
theorem dX10_part_107 : decode cX10_part 107 = .ok (.iload_n 1, 1) := by decide +kernel
theorem dX10_part_108 : decode cX10_part 108 = .ok (.iaload, 1) := by decide +kernel
theorem dX10_part_109 : decode cX10_part 109 = .ok (.goto 9, 3) := by decide +kernel
theorem dX10_part_112 : decode cX10_part 112 = .ok (.aload_n 0, 1) := by decide +kernel
theorem dX10_part_113 : decode cX10_part 113 = .ok (.getfield 44, 3) := by decide +kernel
theorem dX10_part_116 : decode cX10_part 116 = .ok (.iload_n 1, 1) := by decide +kernel
theorem dX10_part_117 : decode cX10_part 117 = .ok (.iaload, 1) := by decide +kernel
theorem dX10_part_118 : decode cX10_part 118 = .ok (.ireturn, 1) := by decide +kernel
theorem dX10_noResult_0 : decode cX10_noResult 0 = .ok (.iload_n 1, 1) := by decide +kernel
theorem dX10_noResult_1 : decode cX10_noResult 1 = .ok (.ifCond .lt 9, 3) := by decide +kernel
theorem dX10_noResult_4 : decode cX10_noResult 4 = .ok (.iload_n 1, 1) := by decide +kernel
theorem dX10_noResult_5 : decode cX10_noResult 5 = .ok (.bipush 7, 2) := by decide +kernel
theorem dX10_noResult_7 : decode cX10_noResult 7 = .ok (.if_icmp .le 7, 3) := by decide +kernel
theorem dX10_noResult_10 : decode cX10_noResult 10 = .ok (.iconst 1, 1) := by decide +kernel
theorem dX10_noResult_11 : decode cX10_noResult 11 = .ok (.goto 4, 3) := by decide +kernel
theorem dX10_noResult_14 : decode cX10_noResult 14 = .ok (.iconst 0, 1) := by decide +kernel
theorem dX10_noResult_15 : decode cX10_noResult 15 = .ok (.ireturn, 1) := by decide +kernel
theorem dX10_number_0 : decode cX10_number 0 = .ok (.aload_n 0, 1) := by decide +kernel
theorem dX10_number_1 : decode cX10_number 1 = .ok (.iload_n 1, 1) := by decide +kernel
theorem dX10_number_2 : decode cX10_number 2 = .ok (.ifCond .lt 19, 3) := by decide +kernel
theorem dX10_number_5 : decode cX10_number 5 = .ok (.iload_n 1, 1) := by decide +kernel
theorem dX10_number_6 : decode cX10_number 6 = .ok (.aload_n 0, 1) := by decide +kernel
theorem dX10_number_7 : decode cX10_number 7 = .ok (.getfield 149, 3) := by decide +kernel
theorem dX10_number_10 : decode cX10_number 10 = .ok (.if_icmp .ge 11, 3) := by decide +kernel
theorem dX10_number_13 : decode cX10_number 13 = .ok (.aload_n 0, 1) := by decide +kernel
theorem dX10_number_14 : decode cX10_number 14 = .ok (.iload_n 2, 1) := by decide +kernel
theorem dX10_number_15 : decode cX10_number 15 = .ok (.invokevirtual 266, 3) := by decide +kernel
theorem dX10_number_18 : decode cX10_number 18 = .ok (.ifCond .eq 7, 3) := by decide +kernel
theorem dX10_number_21 : decode cX10_number 21 = .ok (.iconst 1, 1) := by decide +kernel
theorem dX10_number_22 : decode cX10_number 22 = .ok (.goto 4, 3) := by decide +kernel
theorem dX10_number_25 : decode cX10_number 25 = .ok (.iconst 0, 1) := by decide +kernel
theorem dX10_number_26 : decode cX10_number 26 = .ok (.putfield 78, 3) := by decide +kernel
theorem dX10_number_29 : decode cX10_number 29 = .ok (.aload_n 0, 1) := by decide +kernel
theorem dX10_number_30 : decode cX10_number 30 = .ok (.getfield 78, 3) := by decide +kernel
theorem dX10_number_33 : decode cX10_number 33 = .ok (.ifCond .le 5, 3) := by decide +kernel
theorem dX10_number_36 : decode cX10_number 36 = .ok (.iconst 0, 1) := by decide +kernel
theorem dX10_number_37 : decode cX10_number 37 = .ok (.ireturn, 1) := by decide +kernel
theorem dX10_number_38 : decode cX10_number 38 = .ok (.aload_n 0, 1) := by decide +kernel
theorem dX10_number_39 : decode cX10_number 39 = .ok (.getfield 29, 3) := by decide +kernel
theorem dX10_number_42 : decode cX10_number 42 = .ok (.iload_n 1, 1) := by decide +kernel
theorem dX10_number_43 : decode cX10_number 43 = .ok (.iaload, 1) := by decide +kernel
theorem dX10_number_44 : decode cX10_number 44 = .ok (.ifCond .ne 7, 3) := by decide +kernel
theorem dX10_number_47 : decode cX10_number 47 = .ok (.iconst 1, 1) := by decide +kernel
theorem dX10_number_48 : decode cX10_number 48 = .ok (.goto 4, 3) := by decide +kernel
theorem dX10_number_51 : decode cX10_number 51 = .ok (.iconst 0, 1) := by decide +kernel
theorem dX10_number_52 : decode cX10_number 52 = .ok (.istore_n 3, 1) := by decide +kernel
theorem dX10_number_53 : decode cX10_number 53 = .ok (.iload_n 3, 1) := by decide +kernel
theorem dX10_number_54 : decode cX10_number 54 = .ok (.ifCond .eq 16, 3) := by decide +kernel
theorem dX10_number_57 : decode cX10_number 57 = .ok (.aload_n 0, 1) := by decide +kernel
theorem dX10_number_58 : decode cX10_number 58 = .ok (.sipush 1000, 3) := by decide +kernel
theorem dX10_number_61 : decode cX10_number 61 = .ok (.iload_n 2, 1) := by decide +kernel
theorem dX10_number_62 : decode cX10_number 62 = .ok (.iadd, 1) := by decide +kernel
theorem dX10_number_63 : decode cX10_number 63 = .ok (.iload_n 1, 1) := by decide +kernel
theorem dX10_number_64 : decode cX10_number 64 = .ok (.invokevirtual 136, 3) := by decide +kernel
theorem dX10_number_67 : decode cX10_number 67 = .ok (.goto 14, 3) := by decide +kernel
theorem dX10_number_70 : decode cX10_number 70 = .ok (.aload_n 0, 1) := by decide +kernel
theorem dX10_number_71 : decode cX10_number 71 = .ok (.sipush 1000, 3) := by decide +kernel
theorem dX10_number_74 : decode cX10_number 74 = .ok (.iload_n 2, 1) := by decide +kernel
theorem dX10_number_75 : decode cX10_number 75 = .ok (.iadd, 1) := by decide +kernel
theorem dX10_number_76 : decode cX10_number 76 = .ok (.lconst 0, 1) := by decide +kernel
theorem dX10_number_77 : decode cX10_number 77 = .ok (.lconst 1, 1) := by decide +kernel
theorem dX10_number_78 : decode cX10_number 78 = .ok (.invokevirtual 139, 3) := by decide +kernel
theorem dX10_number_81 : decode cX10_number 81 = .ok (.iload_n 3, 1) := by decide +kernel
theorem dX10_number_82 : decode cX10_number 82 = .ok (.ireturn, 1) := by decide +kernel
theorem dX10_clear_0 : decode cX10_clear 0 = .ok (.aload_n 0, 1) := by decide +kernel
theorem dX10_clear_1 : decode cX10_clear 1 = .ok (.iconst 0, 1) := by decide +kernel
theorem dX10_clear_2 : decode cX10_clear 2 = .ok (.putfield 78, 3) := by decide +kernel
theorem dX10_clear_5 : decode cX10_clear 5 = .ok (.aload_n 0, 1) := by decide +kernel
theorem dX10_clear_6 : decode cX10_clear 6 = .ok (.iconst 0, 1) := by decide +kernel
theorem dX10_clear_7 : decode cX10_clear 7 = .ok (.putfield 149, 3) := by decide +kernel
theorem dX10_clear_10 : decode cX10_clear 10 = .ok (.iconst 0, 1) := by decide +kernel
theorem dX10_clear_11 : decode cX10_clear 11 = .ok (.istore_n 1, 1) := by decide +kernel
theorem dX10_clear_12 : decode cX10_clear 12 = .ok (.iload_n 1, 1) := by decide +kernel
theorem dX10_clear_13 : decode cX10_clear 13 = .ok (.bipush 8, 2) := by decide +kernel
theorem dX10_clear_15 : decode cX10_clear 15 = .ok (.if_icmp .ge 16, 3) := by decide +kernel
theorem dX10_clear_18 : decode cX10_clear 18 = .ok (.aload_n 0, 1) := by decide +kernel
theorem dX10_clear_19 : decode cX10_clear 19 = .ok (.getfield 47, 3) := by decide +kernel
theorem dX10_clear_22 : decode cX10_clear 22 = .ok (.iload_n 1, 1) := by decide +kernel
theorem dX10_clear_23 : decode cX10_clear 23 = .ok (.iconst (-1), 1) := by decide +kernel
theorem dX10_clear_24 : decode cX10_clear 24 = .ok (.iastore, 1) := by decide +kernel
theorem dX10_clear_25 : decode cX10_clear 25 = .ok (.iinc 1 1, 3) := by decide +kernel
theorem dX10_clear_28 : decode cX10_clear 28 = .ok (.goto (-16), 3) := by decide +kernel
theorem dX10_clear_31 : decode cX10_clear 31 = .ok (.return_, 1) := by decide +kernel
theorem dX10_set_0 : decode cX10_set 0 = .ok (.aload_n 0, 1) := by decide +kernel
theorem dX10_set_1 : decode cX10_set 1 = .ok (.iload_n 1, 1) := by decide +kernel
theorem dX10_set_2 : decode cX10_set 2 = .ok (.ifCond .lt 34, 3) := by decide +kernel
theorem dX10_set_5 : decode cX10_set 5 = .ok (.iload_n 1, 1) := by decide +kernel
theorem dX10_set_6 : decode cX10_set 6 = .ok (.iconst 2, 1) := by decide +kernel
theorem dX10_set_7 : decode cX10_set 7 = .ok (.if_icmp .gt 29, 3) := by decide +kernel
theorem dX10_set_10 : decode cX10_set 10 = .ok (.iload_n 2, 1) := by decide +kernel
theorem dX10_set_11 : decode cX10_set 11 = .ok (.sipush (-9999), 3) := by decide +kernel
theorem dX10_set_14 : decode cX10_set 14 = .ok (.if_icmp .lt 22, 3) := by decide +kernel
theorem dX10_set_17 : decode cX10_set 17 = .ok (.iload_n 2, 1) := by decide +kernel
theorem dX10_set_18 : decode cX10_set 18 = .ok (.sipush 9999, 3) := by decide +kernel
theorem dX10_set_21 : decode cX10_set 21 = .ok (.if_icmp .gt 15, 3) := by decide +kernel
theorem dX10_set_24 : decode cX10_set 24 = .ok (.iload_n 3, 1) := by decide +kernel
theorem dX10_set_25 : decode cX10_set 25 = .ok (.iconst 1, 1) := by decide +kernel
theorem dX10_set_26 : decode cX10_set 26 = .ok (.if_icmp .lt 10, 3) := by decide +kernel
theorem dX10_set_29 : decode cX10_set 29 = .ok (.iload_n 3, 1) := by decide +kernel
theorem dX10_set_30 : decode cX10_set 30 = .ok (.sipush 9999, 3) := by decide +kernel
theorem dX10_set_33 : decode cX10_set 33 = .ok (.if_icmp .le 7, 3) := by decide +kernel
theorem dX10_set_36 : decode cX10_set 36 = .ok (.iconst 1, 1) := by decide +kernel
theorem dX10_set_37 : decode cX10_set 37 = .ok (.goto 4, 3) := by decide +kernel
theorem dX10_set_40 : decode cX10_set 40 = .ok (.iconst 0, 1) := by decide +kernel
theorem dX10_set_41 : decode cX10_set 41 = .ok (.putfield 78, 3) := by decide +kernel
theorem dX10_set_44 : decode cX10_set 44 = .ok (.aload_n 0, 1) := by decide +kernel
theorem dX10_set_45 : decode cX10_set 45 = .ok (.getfield 78, 3) := by decide +kernel
theorem dX10_set_48 : decode cX10_set 48 = .ok (.ifCond .ne 16, 3) := by decide +kernel
theorem dX10_set_51 : decode cX10_set 51 = .ok (.aload_n 0, 1) := by decide +kernel
theorem dX10_set_52 : decode cX10_set 52 = .ok (.sipush 1008, 3) := by decide +kernel
theorem dX10_set_55 : decode cX10_set 55 = .ok (.iload_n 1, 1) := by decide +kernel
theorem dX10_set_56 : decode cX10_set 56 = .ok (.iadd, 1) := by decide +kernel
theorem dX10_set_57 : decode cX10_set 57 = .ok (.iload_n 2, 1) := by decide +kernel
theorem dX10_set_58 : decode cX10_set 58 = .ok (.i2l, 1) := by decide +kernel
theorem dX10_set_59 : decode cX10_set 59 = .ok (.iload_n 3, 1) := by decide +kernel
theorem dX10_set_60 : decode cX10_set 60 = .ok (.i2l, 1) := by decide +kernel
theorem dX10_set_61 : decode cX10_set 61 = .ok (.invokevirtual 139, 3) := by decide +kernel
theorem dX10_set_64 : decode cX10_set 64 = .ok (.return_, 1) := by decide +kernel
theorem dX10_gradient_0 : decode cX10_gradient 0 = .ok (.aload_n 0, 1) := by decide +kernel
theorem dX10_gradient_1 : decode cX10_gradient 1 = .ok (.iload_n 1, 1) := by decide +kernel
theorem dX10_gradient_2 : decode cX10_gradient 2 = .ok (.invokevirtual 263, 3) := by decide +kernel
theorem dX10_gradient_5 : decode cX10_gradient 5 = .ok (.ifCond .eq 4, 3) := by decide +kernel
theorem dX10_gradient_8 : decode cX10_gradient 8 = .ok (.return_, 1) := by decide +kernel
theorem dX10_gradient_9 : decode cX10_gradient 9 = .ok (.aload_n 0, 1) := by decide +kernel
theorem dX10_gradient_10 : decode cX10_gradient 10 = .ok (.getfield 47, 3) := by decide +kernel
theorem dX10_gradient_13 : decode cX10_gradient 13 = .ok (.iload_n 1, 1) := by decide +kernel
theorem dX10_gradient_14 : decode cX10_gradient 14 = .ok (.iaload, 1) := by decide +kernel
theorem dX10_gradient_15 : decode cX10_gradient 15 = .ok (.istore_n 2, 1) := by decide +kernel
theorem dX10_gradient_16 : decode cX10_gradient 16 = .ok (.aload_n 0, 1) := by decide +kernel
theorem dX10_gradient_17 : decode cX10_gradient 17 = .ok (.iload_n 2, 1) := by decide +kernel
theorem dX10_gradient_18 : decode cX10_gradient 18 = .ok (.invokevirtual 275, 3) := by decide +kernel
theorem dX10_gradient_21 : decode cX10_gradient 21 = .ok (.aload_n 0, 1) := by decide +kernel
theorem dX10_gradient_22 : decode cX10_gradient 22 = .ok (.sipush 1000, 3) := by decide +kernel
theorem dX10_gradient_25 : decode cX10_gradient 25 = .ok (.sipush 200, 3) := by decide +kernel
theorem dX10_gradient_28 : decode cX10_gradient 28 = .ok (.iload_n 2, 1) := by decide +kernel
theorem dX10_gradient_29 : decode cX10_gradient 29 = .ok (.iadd, 1) := by decide +kernel
theorem dX10_gradient_30 : decode cX10_gradient 30 = .ok (.invokevirtual 136, 3) := by decide +kernel
theorem dX10_gradient_33 : decode cX10_gradient 33 = .ok (.iconst 0, 1) := by decide +kernel
theorem dX10_gradient_34 : decode cX10_gradient 34 = .ok (.istore_n 3, 1) := by decide +kernel
theorem dX10_gradient_35 : decode cX10_gradient 35 = .ok (.iload_n 3, 1) := by decide +kernel
theorem dX10_gradient_36 : decode cX10_gradient 36 = .ok (.iconst 3, 1) := by decide +kernel
theorem dX10_gradient_37 : decode cX10_gradient 37 = .ok (.if_icmp .ge 23, 3) := by decide +kernel
theorem dX10_gradient_40 : decode cX10_gradient 40 = .ok (.aload_n 0, 1) := by decide +kernel
theorem dX10_gradient_41 : decode cX10_gradient 41 = .ok (.sipush 1001, 3) := by decide +kernel
theorem dX10_gradient_44 : decode cX10_gradient 44 = .ok (.iload_n 3, 1) := by decide +kernel
theorem dX10_gradient_45 : decode cX10_gradient 45 = .ok (.iadd, 1) := by decide +kernel
theorem dX10_gradient_46 : decode cX10_gradient 46 = .ok (.iload_n 2, 1) := by decide +kernel
theorem dX10_gradient_47 : decode cX10_gradient 47 = .ok (.iload_n 3, 1) := by decide +kernel
theorem dX10_gradient_48 : decode cX10_gradient 48 = .ok (.invokestatic 269, 3) := by decide +kernel
theorem dX10_gradient_51 : decode cX10_gradient 51 = .ok (.invokevirtual 136, 3) := by decide +kernel
theorem dX10_gradient_54 : decode cX10_gradient 54 = .ok (.iinc 3 1, 3) := by decide +kernel
theorem dX10_gradient_57 : decode cX10_gradient 57 = .ok (.goto (-22), 3) := by decide +kernel
theorem dX10_gradient_60 : decode cX10_gradient 60 = .ok (.return_, 1) := by decide +kernel
theorem dX10_along_0 : decode cX10_along 0 = .ok (.iload_n 1, 1) := by decide +kernel
theorem dX10_along_1 : decode cX10_along 1 = .ok (.ifCond .lt 53, 3) := by decide +kernel
theorem dX10_along_4 : decode cX10_along 4 = .ok (.iload_n 1, 1) := by decide +kernel
theorem dX10_along_5 : decode cX10_along 5 = .ok (.bipush 7, 2) := by decide +kernel
theorem dX10_along_7 : decode cX10_along 7 = .ok (.if_icmp .gt 47, 3) := by decide +kernel
theorem dX10_along_10 : decode cX10_along 10 = .ok (.iload_n 2, 1) := by decide +kernel
theorem dX10_along_11 : decode cX10_along 11 = .ok (.sipush (-999), 3) := by decide +kernel
theorem dX10_along_14 : decode cX10_along 14 = .ok (.if_icmp .lt 40, 3) := by decide +kernel
theorem dX10_along_17 : decode cX10_along 17 = .ok (.iload_n 2, 1) := by decide +kernel
theorem dX10_along_18 : decode cX10_along 18 = .ok (.sipush 999, 3) := by decide +kernel
theorem dX10_along_21 : decode cX10_along 21 = .ok (.if_icmp .gt 33, 3) := by decide +kernel
theorem dX10_along_24 : decode cX10_along 24 = .ok (.iload_n 3, 1) := by decide +kernel
theorem dX10_along_25 : decode cX10_along 25 = .ok (.sipush (-999), 3) := by decide +kernel
theorem dX10_along_28 : decode cX10_along 28 = .ok (.if_icmp .lt 26, 3) := by decide +kernel
theorem dX10_along_31 : decode cX10_along 31 = .ok (.iload_n 3, 1) := by decide +kernel
theorem dX10_along_32 : decode cX10_along 32 = .ok (.sipush 999, 3) := by decide +kernel
theorem dX10_along_35 : decode cX10_along 35 = .ok (.if_icmp .gt 19, 3) := by decide +kernel
theorem dX10_along_38 : decode cX10_along 38 = .ok (.iload 4, 2) := by decide +kernel
theorem dX10_along_40 : decode cX10_along 40 = .ok (.sipush (-999), 3) := by decide +kernel
theorem dX10_along_43 : decode cX10_along 43 = .ok (.if_icmp .lt 11, 3) := by decide +kernel
theorem dX10_along_46 : decode cX10_along 46 = .ok (.iload 4, 2) := by decide +kernel
theorem dX10_along_48 : decode cX10_along 48 = .ok (.sipush 999, 3) := by decide +kernel
theorem dX10_along_51 : decode cX10_along 51 = .ok (.if_icmp .le 7, 3) := by decide +kernel
theorem dX10_along_54 : decode cX10_along 54 = .ok (.iconst 1, 1) := by decide +kernel
theorem dX10_along_55 : decode cX10_along 55 = .ok (.goto 4, 3) := by decide +kernel
theorem dX10_along_58 : decode cX10_along 58 = .ok (.iconst 0, 1) := by decide +kernel
theorem dX10_along_59 : decode cX10_along 59 = .ok (.istore 5, 2) := by decide +kernel
theorem dX10_along_61 : decode cX10_along 61 = .ok (.aload_n 0, 1) := by decide +kernel
theorem dX10_along_62 : decode cX10_along 62 = .ok (.iload 5, 2) := by decide +kernel
theorem dX10_along_64 : decode cX10_along 64 = .ok (.ifCond .eq 7, 3) := by decide +kernel
theorem dX10_along_67 : decode cX10_along 67 = .ok (.iconst 1, 1) := by decide +kernel
theorem dX10_along_68 : decode cX10_along 68 = .ok (.goto 17, 3) := by decide +kernel
theorem dX10_along_71 : decode cX10_along 71 = .ok (.aload_n 0, 1) := by decide +kernel
theorem dX10_along_72 : decode cX10_along 72 = .ok (.getfield 47, 3) := by decide +kernel
theorem dX10_along_75 : decode cX10_along 75 = .ok (.iload_n 1, 1) := by decide +kernel
theorem dX10_along_76 : decode cX10_along 76 = .ok (.iaload, 1) := by decide +kernel
theorem dX10_along_77 : decode cX10_along 77 = .ok (.ifCond .ge 7, 3) := by decide +kernel
theorem dX10_along_80 : decode cX10_along 80 = .ok (.iconst 2, 1) := by decide +kernel
theorem dX10_along_81 : decode cX10_along 81 = .ok (.goto 4, 3) := by decide +kernel
theorem dX10_along_84 : decode cX10_along 84 = .ok (.iconst 0, 1) := by decide +kernel
theorem dX10_along_85 : decode cX10_along 85 = .ok (.putfield 78, 3) := by decide +kernel
theorem dX10_along_88 : decode cX10_along 88 = .ok (.aload_n 0, 1) := by decide +kernel
theorem dX10_along_89 : decode cX10_along 89 = .ok (.getfield 78, 3) := by decide +kernel
theorem dX10_along_92 : decode cX10_along 92 = .ok (.ifCond .le 4, 3) := by decide +kernel
theorem dX10_along_95 : decode cX10_along 95 = .ok (.return_, 1) := by decide +kernel
theorem dX10_along_96 : decode cX10_along 96 = .ok (.aload_n 0, 1) := by decide +kernel
theorem dX10_along_97 : decode cX10_along 97 = .ok (.getfield 47, 3) := by decide +kernel
theorem dX10_along_100 : decode cX10_along 100 = .ok (.iload_n 1, 1) := by decide +kernel
theorem dX10_along_101 : decode cX10_along 101 = .ok (.iaload, 1) := by decide +kernel
theorem dX10_along_102 : decode cX10_along 102 = .ok (.istore 6, 2) := by decide +kernel
theorem dX10_along_104 : decode cX10_along 104 = .ok (.aload_n 0, 1) := by decide +kernel
theorem dX10_along_105 : decode cX10_along 105 = .ok (.iload 6, 2) := by decide +kernel
theorem dX10_along_107 : decode cX10_along 107 = .ok (.invokevirtual 275, 3) := by decide +kernel
theorem dX10_along_110 : decode cX10_along 110 = .ok (.aload_n 0, 1) := by decide +kernel
theorem dX10_along_111 : decode cX10_along 111 = .ok (.sipush 1004, 3) := by decide +kernel
theorem dX10_along_114 : decode cX10_along 114 = .ok (.sipush 200, 3) := by decide +kernel
theorem dX10_along_117 : decode cX10_along 117 = .ok (.iload 6, 2) := by decide +kernel
theorem dX10_along_119 : decode cX10_along 119 = .ok (.iadd, 1) := by decide +kernel
theorem dX10_along_120 : decode cX10_along 120 = .ok (.invokevirtual 136, 3) := by decide +kernel
theorem dX10_along_123 : decode cX10_along 123 = .ok (.aload_n 0, 1) := by decide +kernel
theorem dX10_along_124 : decode cX10_along 124 = .ok (.sipush 1015, 3) := by decide +kernel
theorem dX10_along_127 : decode cX10_along 127 = .ok (.lconst 0, 1) := by decide +kernel
theorem dX10_along_128 : decode cX10_along 128 = .ok (.lconst 1, 1) := by decide +kernel
theorem dX10_along_129 : decode cX10_along 129 = .ok (.invokevirtual 139, 3) := by decide +kernel
theorem dX10_along_132 : decode cX10_along 132 = .ok (.iconst 0, 1) := by decide +kernel
theorem dX10_along_133 : decode cX10_along 133 = .ok (.istore 7, 2) := by decide +kernel
theorem dX10_along_135 : decode cX10_along 135 = .ok (.iload 7, 2) := by decide +kernel
theorem dX10_along_137 : decode cX10_along 137 = .ok (.iconst 3, 1) := by decide +kernel
theorem dX10_along_138 : decode cX10_along 138 = .ok (.if_icmp .ge 71, 3) := by decide +kernel
theorem dX10_along_141 : decode cX10_along 141 = .ok (.aload_n 0, 1) := by decide +kernel
theorem dX10_along_142 : decode cX10_along 142 = .ok (.sipush 1012, 3) := by decide +kernel
theorem dX10_along_145 : decode cX10_along 145 = .ok (.iload 7, 2) := by decide +kernel
theorem dX10_along_147 : decode cX10_along 147 = .ok (.ifCond .ne 8, 3) := by decide +kernel
theorem dX10_along_150 : decode cX10_along 150 = .ok (.iload_n 2, 1) := by decide +kernel
theorem dX10_along_151 : decode cX10_along 151 = .ok (.i2l, 1) := by decide +kernel
theorem dX10_along_152 : decode cX10_along 152 = .ok (.goto 17, 3) := by decide +kernel
theorem dX10_along_155 : decode cX10_along 155 = .ok (.iload 7, 2) := by decide +kernel
theorem dX10_along_157 : decode cX10_along 157 = .ok (.iconst 1, 1) := by decide +kernel
theorem dX10_along_158 : decode cX10_along 158 = .ok (.if_icmp .ne 8, 3) := by decide +kernel
theorem dX10_along_161 : decode cX10_along 161 = .ok (.iload_n 3, 1) := by decide +kernel
theorem dX10_along_162 : decode cX10_along 162 = .ok (.i2l, 1) := by decide +kernel
theorem dX10_along_163 : decode cX10_along 163 = .ok (.goto 6, 3) := by decide +kernel
theorem dX10_along_166 : decode cX10_along 166 = .ok (.iload 4, 2) := by decide +kernel
theorem dX10_along_168 : decode cX10_along 168 = .ok (.i2l, 1) := by decide +kernel
theorem dX10_along_169 : decode cX10_along 169 = .ok (.lconst 1, 1) := by decide +kernel
theorem dX10_along_170 : decode cX10_along 170 = .ok (.invokevirtual 139, 3) := by decide +kernel
theorem dX10_along_173 : decode cX10_along 173 = .ok (.aload_n 0, 1) := by decide +kernel
theorem dX10_along_174 : decode cX10_along 174 = .ok (.sipush 1012, 3) := by decide +kernel
theorem dX10_along_177 : decode cX10_along 177 = .ok (.sipush 1012, 3) := by decide +kernel
theorem dX10_along_180 : decode cX10_along 180 = .ok (.iload 6, 2) := by decide +kernel
theorem dX10_along_182 : decode cX10_along 182 = .ok (.iload 7, 2) := by decide +kernel
theorem dX10_along_184 : decode cX10_along 184 = .ok (.invokestatic 269, 3) := by decide +kernel
theorem dX10_along_187 : decode cX10_along 187 = .ok (.invokevirtual 143, 3) := by decide +kernel
theorem dX10_along_190 : decode cX10_along 190 = .ok (.aload_n 0, 1) := by decide +kernel
theorem dX10_along_191 : decode cX10_along 191 = .ok (.sipush 1015, 3) := by decide +kernel
theorem dX10_along_194 : decode cX10_along 194 = .ok (.sipush 1015, 3) := by decide +kernel
theorem dX10_along_197 : decode cX10_along 197 = .ok (.sipush 1012, 3) := by decide +kernel
theorem dX10_along_200 : decode cX10_along 200 = .ok (.invokevirtual 171, 3) := by decide +kernel
theorem dX10_along_203 : decode cX10_along 203 = .ok (.iinc 7 1, 3) := by decide +kernel
theorem dX10_along_206 : decode cX10_along 206 = .ok (.goto (-71), 3) := by decide +kernel
theorem dX10_along_209 : decode cX10_along 209 = .ok (.aload_n 0, 1) := by decide +kernel
theorem dX10_along_210 : decode cX10_along 210 = .ok (.sipush 1005, 3) := by decide +kernel
theorem dX10_along_213 : decode cX10_along 213 = .ok (.sipush 1015, 3) := by decide +kernel
theorem dX10_along_216 : decode cX10_along 216 = .ok (.invokevirtual 136, 3) := by decide +kernel
theorem dX10_along_219 : decode cX10_along 219 = .ok (.return_, 1) := by decide +kernel
theorem dX10_reckon_0 : decode cX10_reckon 0 = .ok (.aload_n 0, 1) := by decide +kernel
theorem dX10_reckon_1 : decode cX10_reckon 1 = .ok (.aload_n 0, 1) := by decide +kernel
theorem dX10_reckon_2 : decode cX10_reckon 2 = .ok (.iload_n 2, 1) := by decide +kernel
theorem dX10_reckon_3 : decode cX10_reckon 3 = .ok (.invokevirtual 266, 3) := by decide +kernel
theorem dX10_reckon_6 : decode cX10_reckon 6 = .ok (.ifCond .ne 20, 3) := by decide +kernel
theorem dX10_reckon_9 : decode cX10_reckon 9 = .ok (.aload_n 0, 1) := by decide +kernel
theorem dX10_reckon_10 : decode cX10_reckon 10 = .ok (.iload_n 3, 1) := by decide +kernel
theorem dX10_reckon_11 : decode cX10_reckon 11 = .ok (.invokevirtual 266, 3) := by decide +kernel
theorem dX10_reckon_14 : decode cX10_reckon 14 = .ok (.ifCond .ne 12, 3) := by decide +kernel
theorem dX10_reckon_17 : decode cX10_reckon 17 = .ok (.aload_n 0, 1) := by decide +kernel
theorem dX10_reckon_18 : decode cX10_reckon 18 = .ok (.iload 4, 2) := by decide +kernel
theorem dX10_reckon_20 : decode cX10_reckon 20 = .ok (.invokevirtual 266, 3) := by decide +kernel
theorem dX10_reckon_23 : decode cX10_reckon 23 = .ok (.ifCond .eq 7, 3) := by decide +kernel
theorem dX10_reckon_26 : decode cX10_reckon 26 = .ok (.iconst 1, 1) := by decide +kernel
theorem dX10_reckon_27 : decode cX10_reckon 27 = .ok (.goto 17, 3) := by decide +kernel
theorem dX10_reckon_30 : decode cX10_reckon 30 = .ok (.iload_n 1, 1) := by decide +kernel
theorem dX10_reckon_31 : decode cX10_reckon 31 = .ok (.ifCond .lt 8, 3) := by decide +kernel
theorem dX10_reckon_34 : decode cX10_reckon 34 = .ok (.iload_n 1, 1) := by decide +kernel
theorem dX10_reckon_35 : decode cX10_reckon 35 = .ok (.iconst 2, 1) := by decide +kernel
theorem dX10_reckon_36 : decode cX10_reckon 36 = .ok (.if_icmp .le 7, 3) := by decide +kernel
theorem dX10_reckon_39 : decode cX10_reckon 39 = .ok (.iconst 2, 1) := by decide +kernel
theorem dX10_reckon_40 : decode cX10_reckon 40 = .ok (.goto 4, 3) := by decide +kernel
theorem dX10_reckon_43 : decode cX10_reckon 43 = .ok (.iconst 0, 1) := by decide +kernel
theorem dX10_reckon_44 : decode cX10_reckon 44 = .ok (.putfield 78, 3) := by decide +kernel
theorem dX10_reckon_47 : decode cX10_reckon 47 = .ok (.aload_n 0, 1) := by decide +kernel
theorem dX10_reckon_48 : decode cX10_reckon 48 = .ok (.getfield 78, 3) := by decide +kernel
theorem dX10_reckon_51 : decode cX10_reckon 51 = .ok (.ifCond .le 5, 3) := by decide +kernel
theorem dX10_reckon_54 : decode cX10_reckon 54 = .ok (.iconst 0, 1) := by decide +kernel
theorem dX10_reckon_55 : decode cX10_reckon 55 = .ok (.ireturn, 1) := by decide +kernel
theorem dX10_reckon_56 : decode cX10_reckon 56 = .ok (.aload_n 0, 1) := by decide +kernel
theorem dX10_reckon_57 : decode cX10_reckon 57 = .ok (.sipush 1012, 3) := by decide +kernel
theorem dX10_reckon_60 : decode cX10_reckon 60 = .ok (.sipush 1000, 3) := by decide +kernel
theorem dX10_reckon_63 : decode cX10_reckon 63 = .ok (.iload_n 3, 1) := by decide +kernel
theorem dX10_reckon_64 : decode cX10_reckon 64 = .ok (.iadd, 1) := by decide +kernel
theorem dX10_reckon_65 : decode cX10_reckon 65 = .ok (.invokevirtual 136, 3) := by decide +kernel
theorem dX10_reckon_68 : decode cX10_reckon 68 = .ok (.aload_n 0, 1) := by decide +kernel
theorem dX10_reckon_69 : decode cX10_reckon 69 = .ok (.sipush 1013, 3) := by decide +kernel
theorem dX10_reckon_72 : decode cX10_reckon 72 = .ok (.sipush 1000, 3) := by decide +kernel
theorem dX10_reckon_75 : decode cX10_reckon 75 = .ok (.iload 4, 2) := by decide +kernel
theorem dX10_reckon_77 : decode cX10_reckon 77 = .ok (.iadd, 1) := by decide +kernel
theorem dX10_reckon_78 : decode cX10_reckon 78 = .ok (.invokevirtual 136, 3) := by decide +kernel
theorem dX10_reckon_81 : decode cX10_reckon 81 = .ok (.iload_n 1, 1) := by decide +kernel
theorem dX10_reckon_82 : decode cX10_reckon 82 = .ok (.iconst 1, 1) := by decide +kernel
theorem dX10_reckon_83 : decode cX10_reckon 83 = .ok (.if_icmp .ne 38, 3) := by decide +kernel
theorem dX10_reckon_86 : decode cX10_reckon 86 = .ok (.aload_n 0, 1) := by decide +kernel
theorem dX10_reckon_87 : decode cX10_reckon 87 = .ok (.getfield 18, 3) := by decide +kernel
theorem dX10_reckon_90 : decode cX10_reckon 90 = .ok (.sipush 2026, 3) := by decide +kernel
theorem dX10_reckon_93 : decode cX10_reckon 93 = .ok (.aload_n 0, 1) := by decide +kernel
theorem dX10_reckon_94 : decode cX10_reckon 94 = .ok (.getfield 14, 3) := by decide +kernel
theorem dX10_reckon_97 : decode cX10_reckon 97 = .ok (.sipush 2026, 3) := by decide +kernel
theorem dX10_reckon_100 : decode cX10_reckon 100 = .ok (.iaload, 1) := by decide +kernel
theorem dX10_reckon_101 : decode cX10_reckon 101 = .ok (.ifCond .le 18, 3) := by decide +kernel
theorem dX10_reckon_104 : decode cX10_reckon 104 = .ok (.aload_n 0, 1) := by decide +kernel
theorem dX10_reckon_105 : decode cX10_reckon 105 = .ok (.getfield 18, 3) := by decide +kernel
theorem dX10_reckon_108 : decode cX10_reckon 108 = .ok (.sipush 2026, 3) := by decide +kernel
theorem dX10_reckon_111 : decode cX10_reckon 111 = .ok (.baload, 1) := by decide +kernel
theorem dX10_reckon_112 : decode cX10_reckon 112 = .ok (.ifCond .ne 7, 3) := by decide +kernel
theorem dX10_reckon_115 : decode cX10_reckon 115 = .ok (.iconst 1, 1) := by decide +kernel
theorem dX10_reckon_116 : decode cX10_reckon 116 = .ok (.goto 4, 3) := by decide +kernel
theorem dX10_reckon_119 : decode cX10_reckon 119 = .ok (.iconst 0, 1) := by decide +kernel
theorem dX10_reckon_120 : decode cX10_reckon 120 = .ok (.bastore, 1) := by decide +kernel
theorem dX10_reckon_121 : decode cX10_reckon 121 = .ok (.iload_n 1, 1) := by decide +kernel
theorem dX10_reckon_122 : decode cX10_reckon 122 = .ok (.iconst 2, 1) := by decide +kernel
theorem dX10_reckon_123 : decode cX10_reckon 123 = .ok (.if_icmp .ge 19, 3) := by decide +kernel
theorem dX10_reckon_126 : decode cX10_reckon 126 = .ok (.aload_n 0, 1) := by decide +kernel
theorem dX10_reckon_127 : decode cX10_reckon 127 = .ok (.sipush 1015, 3) := by decide +kernel
theorem dX10_reckon_130 : decode cX10_reckon 130 = .ok (.sipush 1012, 3) := by decide +kernel
theorem dX10_reckon_133 : decode cX10_reckon 133 = .ok (.sipush 1013, 3) := by decide +kernel
theorem dX10_reckon_136 : decode cX10_reckon 136 = .ok (.invokevirtual 171, 3) := by decide +kernel
theorem dX10_reckon_139 : decode cX10_reckon 139 = .ok (.goto 16, 3) := by decide +kernel
theorem dX10_reckon_142 : decode cX10_reckon 142 = .ok (.aload_n 0, 1) := by decide +kernel
theorem dX10_reckon_143 : decode cX10_reckon 143 = .ok (.sipush 1015, 3) := by decide +kernel
theorem dX10_reckon_146 : decode cX10_reckon 146 = .ok (.sipush 1012, 3) := by decide +kernel
theorem dX10_reckon_149 : decode cX10_reckon 149 = .ok (.sipush 1013, 3) := by decide +kernel
theorem dX10_reckon_152 : decode cX10_reckon 152 = .ok (.invokevirtual 143, 3) := by decide +kernel
theorem dX10_reckon_155 : decode cX10_reckon 155 = .ok (.aload_n 0, 1) := by decide +kernel
theorem dX10_reckon_156 : decode cX10_reckon 156 = .ok (.sipush 2030, 3) := by decide +kernel
theorem dX10_reckon_159 : decode cX10_reckon 159 = .ok (.invokevirtual 117, 3) := by decide +kernel
theorem dX10_reckon_162 : decode cX10_reckon 162 = .ok (.sipush 1000, 3) := by decide +kernel
theorem dX10_reckon_165 : decode cX10_reckon 165 = .ok (.if_icmp .gt 20, 3) := by decide +kernel
theorem dX10_reckon_168 : decode cX10_reckon 168 = .ok (.aload_n 0, 1) := by decide +kernel
theorem dX10_reckon_169 : decode cX10_reckon 169 = .ok (.sipush 2031, 3) := by decide +kernel
theorem dX10_reckon_172 : decode cX10_reckon 172 = .ok (.invokevirtual 117, 3) := by decide +kernel
theorem dX10_reckon_175 : decode cX10_reckon 175 = .ok (.sipush 1000, 3) := by decide +kernel
theorem dX10_reckon_178 : decode cX10_reckon 178 = .ok (.if_icmp .gt 7, 3) := by decide +kernel
theorem dX10_reckon_181 : decode cX10_reckon 181 = .ok (.iconst 1, 1) := by decide +kernel
theorem dX10_reckon_182 : decode cX10_reckon 182 = .ok (.goto 4, 3) := by decide +kernel
theorem dX10_reckon_185 : decode cX10_reckon 185 = .ok (.iconst 0, 1) := by decide +kernel
theorem dX10_reckon_186 : decode cX10_reckon 186 = .ok (.istore 5, 2) := by decide +kernel
theorem dX10_reckon_188 : decode cX10_reckon 188 = .ok (.iload 5, 2) := by decide +kernel
theorem dX10_reckon_190 : decode cX10_reckon 190 = .ok (.ifCond .eq 15, 3) := by decide +kernel
theorem dX10_reckon_193 : decode cX10_reckon 193 = .ok (.aload_n 0, 1) := by decide +kernel
theorem dX10_reckon_194 : decode cX10_reckon 194 = .ok (.sipush 1000, 3) := by decide +kernel
theorem dX10_reckon_197 : decode cX10_reckon 197 = .ok (.iload_n 2, 1) := by decide +kernel
theorem dX10_reckon_198 : decode cX10_reckon 198 = .ok (.iadd, 1) := by decide +kernel
theorem dX10_reckon_199 : decode cX10_reckon 199 = .ok (.sipush 1015, 3) := by decide +kernel
theorem dX10_reckon_202 : decode cX10_reckon 202 = .ok (.invokevirtual 136, 3) := by decide +kernel
theorem dX10_reckon_205 : decode cX10_reckon 205 = .ok (.iload 5, 2) := by decide +kernel
theorem dX10_reckon_207 : decode cX10_reckon 207 = .ok (.ireturn, 1) := by decide +kernel
theorem dX10_compare_0 : decode cX10_compare 0 = .ok (.aload_n 0, 1) := by decide +kernel
theorem dX10_compare_1 : decode cX10_compare 1 = .ok (.aload_n 0, 1) := by decide +kernel
theorem dX10_compare_2 : decode cX10_compare 2 = .ok (.iload_n 1, 1) := by decide +kernel
theorem dX10_compare_3 : decode cX10_compare 3 = .ok (.invokevirtual 266, 3) := by decide +kernel
theorem dX10_compare_6 : decode cX10_compare 6 = .ok (.ifCond .ne 11, 3) := by decide +kernel
theorem dX10_compare_9 : decode cX10_compare 9 = .ok (.aload_n 0, 1) := by decide +kernel
theorem dX10_compare_10 : decode cX10_compare 10 = .ok (.iload_n 2, 1) := by decide +kernel
theorem dX10_compare_11 : decode cX10_compare 11 = .ok (.invokevirtual 266, 3) := by decide +kernel
theorem dX10_compare_14 : decode cX10_compare 14 = .ok (.ifCond .eq 7, 3) := by decide +kernel
theorem dX10_compare_17 : decode cX10_compare 17 = .ok (.iconst 1, 1) := by decide +kernel
theorem dX10_compare_18 : decode cX10_compare 18 = .ok (.goto 4, 3) := by decide +kernel
theorem dX10_compare_21 : decode cX10_compare 21 = .ok (.iconst 0, 1) := by decide +kernel
theorem dX10_compare_22 : decode cX10_compare 22 = .ok (.putfield 78, 3) := by decide +kernel
theorem dX10_compare_25 : decode cX10_compare 25 = .ok (.aload_n 0, 1) := by decide +kernel
theorem dX10_compare_26 : decode cX10_compare 26 = .ok (.getfield 78, 3) := by decide +kernel
theorem dX10_compare_29 : decode cX10_compare 29 = .ok (.ifCond .le 5, 3) := by decide +kernel
theorem dX10_compare_32 : decode cX10_compare 32 = .ok (.iconst 0, 1) := by decide +kernel
theorem dX10_compare_33 : decode cX10_compare 33 = .ok (.ireturn, 1) := by decide +kernel
theorem dX10_compare_34 : decode cX10_compare 34 = .ok (.aload_n 0, 1) := by decide +kernel
theorem dX10_compare_35 : decode cX10_compare 35 = .ok (.sipush 1012, 3) := by decide +kernel
theorem dX10_compare_38 : decode cX10_compare 38 = .ok (.sipush 1000, 3) := by decide +kernel
theorem dX10_compare_41 : decode cX10_compare 41 = .ok (.iload_n 1, 1) := by decide +kernel
theorem dX10_compare_42 : decode cX10_compare 42 = .ok (.iadd, 1) := by decide +kernel
theorem dX10_compare_43 : decode cX10_compare 43 = .ok (.invokevirtual 136, 3) := by decide +kernel
theorem dX10_compare_46 : decode cX10_compare 46 = .ok (.aload_n 0, 1) := by decide +kernel
theorem dX10_compare_47 : decode cX10_compare 47 = .ok (.sipush 1013, 3) := by decide +kernel
theorem dX10_compare_50 : decode cX10_compare 50 = .ok (.sipush 1000, 3) := by decide +kernel
theorem dX10_compare_53 : decode cX10_compare 53 = .ok (.iload_n 2, 1) := by decide +kernel
theorem dX10_compare_54 : decode cX10_compare 54 = .ok (.iadd, 1) := by decide +kernel
theorem dX10_compare_55 : decode cX10_compare 55 = .ok (.invokevirtual 136, 3) := by decide +kernel
theorem dX10_compare_58 : decode cX10_compare 58 = .ok (.aload_n 0, 1) := by decide +kernel
theorem dX10_compare_59 : decode cX10_compare 59 = .ok (.sipush 2064, 3) := by decide +kernel
theorem dX10_compare_62 : decode cX10_compare 62 = .ok (.sipush 2024, 3) := by decide +kernel
theorem dX10_compare_65 : decode cX10_compare 65 = .ok (.sipush 2027, 3) := by decide +kernel
theorem dX10_compare_68 : decode cX10_compare 68 = .ok (.invokevirtual 130, 3) := by decide +kernel
theorem dX10_compare_71 : decode cX10_compare 71 = .ok (.aload_n 0, 1) := by decide +kernel
theorem dX10_compare_72 : decode cX10_compare 72 = .ok (.sipush 2065, 3) := by decide +kernel
theorem dX10_compare_75 : decode cX10_compare 75 = .ok (.sipush 2026, 3) := by decide +kernel
theorem dX10_compare_78 : decode cX10_compare 78 = .ok (.sipush 2025, 3) := by decide +kernel
theorem dX10_compare_81 : decode cX10_compare 81 = .ok (.invokevirtual 130, 3) := by decide +kernel
theorem dX10_compare_84 : decode cX10_compare 84 = .ok (.aload_n 0, 1) := by decide +kernel
theorem dX10_compare_85 : decode cX10_compare 85 = .ok (.getfield 18, 3) := by decide +kernel
theorem dX10_compare_88 : decode cX10_compare 88 = .ok (.sipush 2064, 3) := by decide +kernel
theorem dX10_compare_91 : decode cX10_compare 91 = .ok (.baload, 1) := by decide +kernel
theorem dX10_compare_92 : decode cX10_compare 92 = .ok (.aload_n 0, 1) := by decide +kernel
theorem dX10_compare_93 : decode cX10_compare 93 = .ok (.getfield 18, 3) := by decide +kernel
theorem dX10_compare_96 : decode cX10_compare 96 = .ok (.sipush 2065, 3) := by decide +kernel
theorem dX10_compare_99 : decode cX10_compare 99 = .ok (.baload, 1) := by decide +kernel
theorem dX10_compare_100 : decode cX10_compare 100 = .ok (.if_icmp .eq 20, 3) := by decide +kernel
theorem dX10_compare_103 : decode cX10_compare 103 = .ok (.aload_n 0, 1) := by decide +kernel
theorem dX10_compare_104 : decode cX10_compare 104 = .ok (.getfield 18, 3) := by decide +kernel
theorem dX10_compare_107 : decode cX10_compare 107 = .ok (.sipush 2064, 3) := by decide +kernel
theorem dX10_compare_110 : decode cX10_compare 110 = .ok (.baload, 1) := by decide +kernel
theorem dX10_compare_111 : decode cX10_compare 111 = .ok (.ifCond .eq 7, 3) := by decide +kernel
theorem dX10_compare_114 : decode cX10_compare 114 = .ok (.iconst (-1), 1) := by decide +kernel
theorem dX10_compare_115 : decode cX10_compare 115 = .ok (.goto 4, 3) := by decide +kernel
theorem dX10_compare_118 : decode cX10_compare 118 = .ok (.iconst 1, 1) := by decide +kernel
theorem dX10_compare_119 : decode cX10_compare 119 = .ok (.ireturn, 1) := by decide +kernel
theorem dX10_compare_120 : decode cX10_compare 120 = .ok (.aload_n 0, 1) := by decide +kernel
theorem dX10_compare_121 : decode cX10_compare 121 = .ok (.sipush 2064, 3) := by decide +kernel
theorem dX10_compare_124 : decode cX10_compare 124 = .ok (.sipush 2065, 3) := by decide +kernel
theorem dX10_compare_127 : decode cX10_compare 127 = .ok (.invokevirtual 100, 3) := by decide +kernel
theorem dX10_compare_130 : decode cX10_compare 130 = .ok (.istore_n 3, 1) := by decide +kernel
theorem dX10_compare_131 : decode cX10_compare 131 = .ok (.aload_n 0, 1) := by decide +kernel
theorem dX10_compare_132 : decode cX10_compare 132 = .ok (.getfield 18, 3) := by decide +kernel
theorem dX10_compare_135 : decode cX10_compare 135 = .ok (.sipush 2064, 3) := by decide +kernel
theorem dX10_compare_138 : decode cX10_compare 138 = .ok (.baload, 1) := by decide +kernel
theorem dX10_compare_139 : decode cX10_compare 139 = .ok (.ifCond .eq 8, 3) := by decide +kernel
theorem dX10_compare_142 : decode cX10_compare 142 = .ok (.iload_n 3, 1) := by decide +kernel
theorem dX10_compare_143 : decode cX10_compare 143 = .ok (.ineg, 1) := by decide +kernel
theorem dX10_compare_144 : decode cX10_compare 144 = .ok (.goto 4, 3) := by decide +kernel
theorem dX10_compare_147 : decode cX10_compare 147 = .ok (.iload_n 3, 1) := by decide +kernel
theorem dX10_compare_148 : decode cX10_compare 148 = .ok (.ireturn, 1) := by decide +kernel
theorem dX10_sign_0 : decode cX10_sign 0 = .ok (.aload_n 0, 1) := by decide +kernel
theorem dX10_sign_1 : decode cX10_sign 1 = .ok (.aload_n 0, 1) := by decide +kernel
theorem dX10_sign_2 : decode cX10_sign 2 = .ok (.iload_n 1, 1) := by decide +kernel
theorem dX10_sign_3 : decode cX10_sign 3 = .ok (.invokevirtual 266, 3) := by decide +kernel
theorem dX10_sign_6 : decode cX10_sign 6 = .ok (.ifCond .eq 7, 3) := by decide +kernel
theorem dX10_sign_9 : decode cX10_sign 9 = .ok (.iconst 1, 1) := by decide +kernel
theorem dX10_sign_10 : decode cX10_sign 10 = .ok (.goto 4, 3) := by decide +kernel
theorem dX10_sign_13 : decode cX10_sign 13 = .ok (.iconst 0, 1) := by decide +kernel
theorem dX10_sign_14 : decode cX10_sign 14 = .ok (.putfield 78, 3) := by decide +kernel
theorem dX10_sign_17 : decode cX10_sign 17 = .ok (.aload_n 0, 1) := by decide +kernel
theorem dX10_sign_18 : decode cX10_sign 18 = .ok (.getfield 78, 3) := by decide +kernel
theorem dX10_sign_21 : decode cX10_sign 21 = .ok (.ifCond .gt 18, 3) := by decide +kernel
theorem dX10_sign_24 : decode cX10_sign 24 = .ok (.aload_n 0, 1) := by decide +kernel
theorem dX10_sign_25 : decode cX10_sign 25 = .ok (.getfield 14, 3) := by decide +kernel
theorem dX10_sign_28 : decode cX10_sign 28 = .ok (.iconst 2, 1) := by decide +kernel
theorem dX10_sign_29 : decode cX10_sign 29 = .ok (.sipush 1000, 3) := by decide +kernel
theorem dX10_sign_32 : decode cX10_sign 32 = .ok (.iload_n 1, 1) := by decide +kernel
theorem dX10_sign_33 : decode cX10_sign 33 = .ok (.iadd, 1) := by decide +kernel
theorem dX10_sign_34 : decode cX10_sign 34 = .ok (.imul, 1) := by decide +kernel
theorem dX10_sign_35 : decode cX10_sign 35 = .ok (.iaload, 1) := by decide +kernel
theorem dX10_sign_36 : decode cX10_sign 36 = .ok (.ifCond .ne 7, 3) := by decide +kernel
theorem dX10_sign_39 : decode cX10_sign 39 = .ok (.iconst 0, 1) := by decide +kernel
theorem dX10_sign_40 : decode cX10_sign 40 = .ok (.goto 23, 3) := by decide +kernel
theorem dX10_sign_43 : decode cX10_sign 43 = .ok (.aload_n 0, 1) := by decide +kernel
theorem dX10_sign_44 : decode cX10_sign 44 = .ok (.getfield 18, 3) := by decide +kernel
theorem dX10_sign_47 : decode cX10_sign 47 = .ok (.iconst 2, 1) := by decide +kernel
theorem dX10_sign_48 : decode cX10_sign 48 = .ok (.sipush 1000, 3) := by decide +kernel
theorem dX10_sign_51 : decode cX10_sign 51 = .ok (.iload_n 1, 1) := by decide +kernel
theorem dX10_sign_52 : decode cX10_sign 52 = .ok (.iadd, 1) := by decide +kernel
theorem dX10_sign_53 : decode cX10_sign 53 = .ok (.imul, 1) := by decide +kernel
theorem dX10_sign_54 : decode cX10_sign 54 = .ok (.baload, 1) := by decide +kernel
theorem dX10_sign_55 : decode cX10_sign 55 = .ok (.ifCond .eq 7, 3) := by decide +kernel
theorem dX10_sign_58 : decode cX10_sign 58 = .ok (.iconst (-1), 1) := by decide +kernel
theorem dX10_sign_59 : decode cX10_sign 59 = .ok (.goto 4, 3) := by decide +kernel
theorem dX10_sign_62 : decode cX10_sign 62 = .ok (.iconst 1, 1) := by decide +kernel
theorem dX10_sign_63 : decode cX10_sign 63 = .ok (.ireturn, 1) := by decide +kernel
theorem dX10_bits_0 : decode cX10_bits 0 = .ok (.aload_n 0, 1) := by decide +kernel
theorem dX10_bits_1 : decode cX10_bits 1 = .ok (.aload_n 0, 1) := by decide +kernel
theorem dX10_bits_2 : decode cX10_bits 2 = .ok (.iload_n 1, 1) := by decide +kernel
theorem dX10_bits_3 : decode cX10_bits 3 = .ok (.invokevirtual 266, 3) := by decide +kernel
theorem dX10_bits_6 : decode cX10_bits 6 = .ok (.ifCond .eq 7, 3) := by decide +kernel
theorem dX10_bits_9 : decode cX10_bits 9 = .ok (.iconst 1, 1) := by decide +kernel
theorem dX10_bits_10 : decode cX10_bits 10 = .ok (.goto 17, 3) := by decide +kernel
theorem dX10_bits_13 : decode cX10_bits 13 = .ok (.iload_n 2, 1) := by decide +kernel
theorem dX10_bits_14 : decode cX10_bits 14 = .ok (.ifCond .eq 12, 3) := by decide +kernel
theorem dX10_bits_17 : decode cX10_bits 17 = .ok (.iload_n 2, 1) := by decide +kernel
theorem dX10_bits_18 : decode cX10_bits 18 = .ok (.iconst 1, 1) := by decide +kernel
theorem dX10_bits_19 : decode cX10_bits 19 = .ok (.if_icmp .eq 7, 3) := by decide +kernel
theorem dX10_bits_22 : decode cX10_bits 22 = .ok (.iconst 2, 1) := by decide +kernel
theorem dX10_bits_23 : decode cX10_bits 23 = .ok (.goto 4, 3) := by decide +kernel
theorem dX10_bits_26 : decode cX10_bits 26 = .ok (.iconst 0, 1) := by decide +kernel
theorem dX10_bits_27 : decode cX10_bits 27 = .ok (.putfield 78, 3) := by decide +kernel
theorem dX10_bits_30 : decode cX10_bits 30 = .ok (.aload_n 0, 1) := by decide +kernel
theorem dX10_bits_31 : decode cX10_bits 31 = .ok (.getfield 78, 3) := by decide +kernel
theorem dX10_bits_34 : decode cX10_bits 34 = .ok (.ifCond .le 7, 3) := by decide +kernel
theorem dX10_bits_37 : decode cX10_bits 37 = .ok (.iconst 0, 1) := by decide +kernel
theorem dX10_bits_38 : decode cX10_bits 38 = .ok (.goto 16, 3) := by decide +kernel
theorem dX10_bits_41 : decode cX10_bits 41 = .ok (.aload_n 0, 1) := by decide +kernel
theorem dX10_bits_42 : decode cX10_bits 42 = .ok (.iconst 2, 1) := by decide +kernel
theorem dX10_bits_43 : decode cX10_bits 43 = .ok (.sipush 1000, 3) := by decide +kernel
theorem dX10_bits_46 : decode cX10_bits 46 = .ok (.iload_n 1, 1) := by decide +kernel
theorem dX10_bits_47 : decode cX10_bits 47 = .ok (.iadd, 1) := by decide +kernel
theorem dX10_bits_48 : decode cX10_bits 48 = .ok (.imul, 1) := by decide +kernel
theorem dX10_bits_49 : decode cX10_bits 49 = .ok (.iload_n 2, 1) := by decide +kernel
theorem dX10_bits_50 : decode cX10_bits 50 = .ok (.iadd, 1) := by decide +kernel
theorem dX10_bits_51 : decode cX10_bits 51 = .ok (.invokevirtual 117, 3) := by decide +kernel
theorem dX10_bits_54 : decode cX10_bits 54 = .ok (.ireturn, 1) := by decide +kernel
theorem dX10_word_0 : decode cX10_word 0 = .ok (.aload_n 0, 1) := by decide +kernel
theorem dX10_word_1 : decode cX10_word 1 = .ok (.aload_n 0, 1) := by decide +kernel
theorem dX10_word_2 : decode cX10_word 2 = .ok (.iload_n 1, 1) := by decide +kernel
theorem dX10_word_3 : decode cX10_word 3 = .ok (.invokevirtual 266, 3) := by decide +kernel
theorem dX10_word_6 : decode cX10_word 6 = .ok (.ifCond .ne 13, 3) := by decide +kernel
theorem dX10_word_9 : decode cX10_word 9 = .ok (.iload_n 3, 1) := by decide +kernel
theorem dX10_word_10 : decode cX10_word 10 = .ok (.ifCond .lt 9, 3) := by decide +kernel
theorem dX10_word_13 : decode cX10_word 13 = .ok (.iload_n 3, 1) := by decide +kernel
theorem dX10_word_14 : decode cX10_word 14 = .ok (.bipush 63, 2) := by decide +kernel
theorem dX10_word_16 : decode cX10_word 16 = .ok (.if_icmp .le 7, 3) := by decide +kernel
theorem dX10_word_19 : decode cX10_word 19 = .ok (.iconst 1, 1) := by decide +kernel
theorem dX10_word_20 : decode cX10_word 20 = .ok (.goto 17, 3) := by decide +kernel
theorem dX10_word_23 : decode cX10_word 23 = .ok (.iload_n 2, 1) := by decide +kernel
theorem dX10_word_24 : decode cX10_word 24 = .ok (.ifCond .eq 12, 3) := by decide +kernel
theorem dX10_word_27 : decode cX10_word 27 = .ok (.iload_n 2, 1) := by decide +kernel
theorem dX10_word_28 : decode cX10_word 28 = .ok (.iconst 1, 1) := by decide +kernel
theorem dX10_word_29 : decode cX10_word 29 = .ok (.if_icmp .eq 7, 3) := by decide +kernel
theorem dX10_word_32 : decode cX10_word 32 = .ok (.iconst 2, 1) := by decide +kernel
theorem dX10_word_33 : decode cX10_word 33 = .ok (.goto 4, 3) := by decide +kernel
theorem dX10_word_36 : decode cX10_word 36 = .ok (.iconst 0, 1) := by decide +kernel
theorem dX10_word_37 : decode cX10_word 37 = .ok (.putfield 78, 3) := by decide +kernel
theorem dX10_word_40 : decode cX10_word 40 = .ok (.aload_n 0, 1) := by decide +kernel
theorem dX10_word_41 : decode cX10_word 41 = .ok (.getfield 78, 3) := by decide +kernel
theorem dX10_word_44 : decode cX10_word 44 = .ok (.ifCond .le 7, 3) := by decide +kernel
theorem dX10_word_47 : decode cX10_word 47 = .ok (.iconst 0, 1) := by decide +kernel
theorem dX10_word_48 : decode cX10_word 48 = .ok (.goto 18, 3) := by decide +kernel
theorem dX10_word_51 : decode cX10_word 51 = .ok (.aload_n 0, 1) := by decide +kernel
theorem dX10_word_52 : decode cX10_word 52 = .ok (.iconst 2, 1) := by decide +kernel
theorem dX10_word_53 : decode cX10_word 53 = .ok (.sipush 1000, 3) := by decide +kernel
theorem dX10_word_56 : decode cX10_word 56 = .ok (.iload_n 1, 1) := by decide +kernel
theorem dX10_word_57 : decode cX10_word 57 = .ok (.iadd, 1) := by decide +kernel
theorem dX10_word_58 : decode cX10_word 58 = .ok (.imul, 1) := by decide +kernel
theorem dX10_word_59 : decode cX10_word 59 = .ok (.iload_n 2, 1) := by decide +kernel
theorem dX10_word_60 : decode cX10_word 60 = .ok (.iadd, 1) := by decide +kernel
theorem dX10_word_61 : decode cX10_word 61 = .ok (.iload_n 3, 1) := by decide +kernel
theorem dX10_word_62 : decode cX10_word 62 = .ok (.invokevirtual 87, 3) := by decide +kernel
theorem dX10_word_65 : decode cX10_word 65 = .ok (.l2i, 1) := by decide +kernel
theorem dX10_word_66 : decode cX10_word 66 = .ok (.ireturn, 1) := by decide +kernel
theorem dX10_write_0 : decode cX10_write 0 = .ok (.aload_n 0, 1) := by decide +kernel
theorem dX10_write_1 : decode cX10_write 1 = .ok (.iload_n 1, 1) := by decide +kernel
theorem dX10_write_2 : decode cX10_write 2 = .ok (.invokevirtual 263, 3) := by decide +kernel
theorem dX10_write_5 : decode cX10_write 5 = .ok (.ifCond .eq 5, 3) := by decide +kernel
theorem dX10_write_8 : decode cX10_write 8 = .ok (.iconst 0, 1) := by decide +kernel
theorem dX10_write_9 : decode cX10_write 9 = .ok (.ireturn, 1) := by decide +kernel
theorem dX10_write_10 : decode cX10_write 10 = .ok (.iconst 1, 1) := by decide +kernel
theorem dX10_write_11 : decode cX10_write 11 = .ok (.istore_n 2, 1) := by decide +kernel
theorem dX10_write_12 : decode cX10_write 12 = .ok (.aload_n 0, 1) := by decide +kernel
theorem dX10_write_13 : decode cX10_write 13 = .ok (.getfield 71, 3) := by decide +kernel
theorem dX10_write_16 : decode cX10_write 16 = .ok (.iconst 0, 1) := by decide +kernel
theorem dX10_write_17 : decode cX10_write 17 = .ok (.aload_n 0, 1) := by decide +kernel
theorem dX10_write_18 : decode cX10_write 18 = .ok (.getfield 47, 3) := by decide +kernel
theorem dX10_write_21 : decode cX10_write 21 = .ok (.iload_n 1, 1) := by decide +kernel
theorem dX10_write_22 : decode cX10_write 22 = .ok (.iaload, 1) := by decide +kernel
theorem dX10_write_23 : decode cX10_write 23 = .ok (.iastore, 1) := by decide +kernel
theorem dX10_write_24 : decode cX10_write 24 = .ok (.aload_n 0, 1) := by decide +kernel
theorem dX10_write_25 : decode cX10_write 25 = .ok (.iconst 0, 1) := by decide +kernel
theorem dX10_write_26 : decode cX10_write 26 = .ok (.putfield 278, 3) := by decide +kernel
theorem dX10_write_29 : decode cX10_write 29 = .ok (.iload_n 2, 1) := by decide +kernel
theorem dX10_write_30 : decode cX10_write 30 = .ok (.ifCond .le 187, 3) := by decide +kernel
theorem dX10_write_33 : decode cX10_write 33 = .ok (.aload_n 0, 1) := by decide +kernel
theorem dX10_write_34 : decode cX10_write 34 = .ok (.getfield 278, 3) := by decide +kernel
theorem dX10_write_37 : decode cX10_write 37 = .ok (.sipush 250, 3) := by decide +kernel
theorem dX10_write_40 : decode cX10_write 40 = .ok (.if_icmp .gt 177, 3) := by decide +kernel
theorem dX10_write_43 : decode cX10_write 43 = .ok (.iinc 2 (-1), 3) := by decide +kernel
theorem dX10_write_46 : decode cX10_write 46 = .ok (.aload_n 0, 1) := by decide +kernel
theorem dX10_write_47 : decode cX10_write 47 = .ok (.getfield 71, 3) := by decide +kernel
theorem dX10_write_50 : decode cX10_write 50 = .ok (.iload_n 2, 1) := by decide +kernel
theorem dX10_write_51 : decode cX10_write 51 = .ok (.iaload, 1) := by decide +kernel
theorem dX10_write_52 : decode cX10_write 52 = .ok (.istore_n 3, 1) := by decide +kernel
theorem dX10_write_53 : decode cX10_write 53 = .ok (.iload_n 3, 1) := by decide +kernel
theorem dX10_write_54 : decode cX10_write 54 = .ok (.ifCond .ge 13, 3) := by decide +kernel
theorem dX10_write_57 : decode cX10_write 57 = .ok (.aload_n 0, 1) := by decide +kernel
theorem dX10_write_58 : decode cX10_write 58 = .ok (.iconst (-1), 1) := by decide +kernel
theorem dX10_write_59 : decode cX10_write 59 = .ok (.iload_n 3, 1) := by decide +kernel
theorem dX10_write_60 : decode cX10_write 60 = .ok (.isub, 1) := by decide +kernel
theorem dX10_write_61 : decode cX10_write 61 = .ok (.invokevirtual 284, 3) := by decide +kernel
theorem dX10_write_64 : decode cX10_write 64 = .ok (.goto 150, 3) := by decide +kernel
theorem dX10_write_67 : decode cX10_write 67 = .ok (.aload_n 0, 1) := by decide +kernel
theorem dX10_write_68 : decode cX10_write 68 = .ok (.getfield 29, 3) := by decide +kernel
theorem dX10_write_71 : decode cX10_write 71 = .ok (.iload_n 3, 1) := by decide +kernel
theorem dX10_write_72 : decode cX10_write 72 = .ok (.iaload, 1) := by decide +kernel
theorem dX10_write_73 : decode cX10_write 73 = .ok (.iconst 2, 1) := by decide +kernel
theorem dX10_write_74 : decode cX10_write 74 = .ok (.if_icmp .ge 11, 3) := by decide +kernel
theorem dX10_write_77 : decode cX10_write 77 = .ok (.aload_n 0, 1) := by decide +kernel
theorem dX10_write_78 : decode cX10_write 78 = .ok (.iload_n 3, 1) := by decide +kernel
theorem dX10_write_79 : decode cX10_write 79 = .ok (.invokevirtual 290, 3) := by decide +kernel
theorem dX10_write_82 : decode cX10_write 82 = .ok (.goto 132, 3) := by decide +kernel
theorem dX10_write_85 : decode cX10_write 85 = .ok (.aload_n 0, 1) := by decide +kernel
theorem dX10_write_86 : decode cX10_write 86 = .ok (.getfield 29, 3) := by decide +kernel
theorem dX10_write_89 : decode cX10_write 89 = .ok (.iload_n 3, 1) := by decide +kernel
theorem dX10_write_90 : decode cX10_write 90 = .ok (.iaload, 1) := by decide +kernel
theorem dX10_write_91 : decode cX10_write 91 = .ok (.iconst 4, 1) := by decide +kernel
theorem dX10_write_92 : decode cX10_write 92 = .ok (.if_icmp .ne 48, 3) := by decide +kernel
theorem dX10_write_95 : decode cX10_write 95 = .ok (.aload_n 0, 1) := by decide +kernel
theorem dX10_write_96 : decode cX10_write 96 = .ok (.getfield 71, 3) := by decide +kernel
theorem dX10_write_99 : decode cX10_write 99 = .ok (.iload_n 2, 1) := by decide +kernel
theorem dX10_write_100 : decode cX10_write 100 = .ok (.bipush (-49), 2) := by decide +kernel
theorem dX10_write_102 : decode cX10_write 102 = .ok (.aload_n 0, 1) := by decide +kernel
theorem dX10_write_103 : decode cX10_write 103 = .ok (.getfield 35, 3) := by decide +kernel
theorem dX10_write_106 : decode cX10_write 106 = .ok (.iload_n 3, 1) := by decide +kernel
theorem dX10_write_107 : decode cX10_write 107 = .ok (.iaload, 1) := by decide +kernel
theorem dX10_write_108 : decode cX10_write 108 = .ok (.isub, 1) := by decide +kernel
theorem dX10_write_109 : decode cX10_write 109 = .ok (.iastore, 1) := by decide +kernel
theorem dX10_write_110 : decode cX10_write 110 = .ok (.aload_n 0, 1) := by decide +kernel
theorem dX10_write_111 : decode cX10_write 111 = .ok (.getfield 71, 3) := by decide +kernel
theorem dX10_write_114 : decode cX10_write 114 = .ok (.iload_n 2, 1) := by decide +kernel
theorem dX10_write_115 : decode cX10_write 115 = .ok (.iconst 1, 1) := by decide +kernel
theorem dX10_write_116 : decode cX10_write 116 = .ok (.iadd, 1) := by decide +kernel
theorem dX10_write_117 : decode cX10_write 117 = .ok (.bipush (-95), 2) := by decide +kernel
theorem dX10_write_119 : decode cX10_write 119 = .ok (.iastore, 1) := by decide +kernel
theorem dX10_write_120 : decode cX10_write 120 = .ok (.aload_n 0, 1) := by decide +kernel
theorem dX10_write_121 : decode cX10_write 121 = .ok (.getfield 71, 3) := by decide +kernel
theorem dX10_write_124 : decode cX10_write 124 = .ok (.iload_n 2, 1) := by decide +kernel
theorem dX10_write_125 : decode cX10_write 125 = .ok (.iconst 2, 1) := by decide +kernel
theorem dX10_write_126 : decode cX10_write 126 = .ok (.iadd, 1) := by decide +kernel
theorem dX10_write_127 : decode cX10_write 127 = .ok (.aload_n 0, 1) := by decide +kernel
theorem dX10_write_128 : decode cX10_write 128 = .ok (.getfield 32, 3) := by decide +kernel
theorem dX10_write_131 : decode cX10_write 131 = .ok (.iload_n 3, 1) := by decide +kernel
theorem dX10_write_132 : decode cX10_write 132 = .ok (.iaload, 1) := by decide +kernel
theorem dX10_write_133 : decode cX10_write 133 = .ok (.iastore, 1) := by decide +kernel
theorem dX10_write_134 : decode cX10_write 134 = .ok (.iinc 2 3, 3) := by decide +kernel
theorem dX10_write_137 : decode cX10_write 137 = .ok (.goto 77, 3) := by decide +kernel
theorem dX10_write_140 : decode cX10_write 140 = .ok (.aload_n 0, 1) := by decide +kernel
theorem dX10_write_141 : decode cX10_write 141 = .ok (.getfield 71, 3) := by decide +kernel
theorem dX10_write_144 : decode cX10_write 144 = .ok (.iload_n 2, 1) := by decide +kernel
theorem dX10_write_145 : decode cX10_write 145 = .ok (.bipush (-42), 2) := by decide +kernel
theorem dX10_write_147 : decode cX10_write 147 = .ok (.iastore, 1) := by decide +kernel
theorem dX10_write_148 : decode cX10_write 148 = .ok (.aload_n 0, 1) := by decide +kernel
theorem dX10_write_149 : decode cX10_write 149 = .ok (.getfield 71, 3) := by decide +kernel
theorem dX10_write_152 : decode cX10_write 152 = .ok (.iload_n 2, 1) := by decide +kernel
theorem dX10_write_153 : decode cX10_write 153 = .ok (.iconst 1, 1) := by decide +kernel
theorem dX10_write_154 : decode cX10_write 154 = .ok (.iadd, 1) := by decide +kernel
theorem dX10_write_155 : decode cX10_write 155 = .ok (.aload_n 0, 1) := by decide +kernel
theorem dX10_write_156 : decode cX10_write 156 = .ok (.getfield 35, 3) := by decide +kernel
theorem dX10_write_159 : decode cX10_write 159 = .ok (.iload_n 3, 1) := by decide +kernel
theorem dX10_write_160 : decode cX10_write 160 = .ok (.iaload, 1) := by decide +kernel
theorem dX10_write_161 : decode cX10_write 161 = .ok (.iastore, 1) := by decide +kernel
theorem dX10_write_162 : decode cX10_write 162 = .ok (.aload_n 0, 1) := by decide +kernel
theorem dX10_write_163 : decode cX10_write 163 = .ok (.getfield 71, 3) := by decide +kernel
theorem dX10_write_166 : decode cX10_write 166 = .ok (.iload_n 2, 1) := by decide +kernel
theorem dX10_write_167 : decode cX10_write 167 = .ok (.iconst 2, 1) := by decide +kernel
theorem dX10_write_168 : decode cX10_write 168 = .ok (.iadd, 1) := by decide +kernel
theorem dX10_write_169 : decode cX10_write 169 = .ok (.aload_n 0, 1) := by decide +kernel
theorem dX10_write_170 : decode cX10_write 170 = .ok (.getfield 29, 3) := by decide +kernel
theorem dX10_write_173 : decode cX10_write 173 = .ok (.iload_n 3, 1) := by decide +kernel
theorem dX10_write_174 : decode cX10_write 174 = .ok (.iaload, 1) := by decide +kernel
theorem dX10_write_175 : decode cX10_write 175 = .ok (.iconst 2, 1) := by decide +kernel
theorem dX10_write_176 : decode cX10_write 176 = .ok (.if_icmp .ne 8, 3) := by decide +kernel
theorem dX10_write_179 : decode cX10_write 179 = .ok (.bipush (-44), 2) := by decide +kernel
theorem dX10_write_181 : decode cX10_write 181 = .ok (.goto 5, 3) := by decide +kernel
theorem dX10_write_184 : decode cX10_write 184 = .ok (.bipush (-43), 2) := by decide +kernel
theorem dX10_write_186 : decode cX10_write 186 = .ok (.iastore, 1) := by decide +kernel
theorem dX10_write_187 : decode cX10_write 187 = .ok (.aload_n 0, 1) := by decide +kernel
theorem dX10_write_188 : decode cX10_write 188 = .ok (.getfield 71, 3) := by decide +kernel
theorem dX10_write_191 : decode cX10_write 191 = .ok (.iload_n 2, 1) := by decide +kernel
theorem dX10_write_192 : decode cX10_write 192 = .ok (.iconst 3, 1) := by decide +kernel
theorem dX10_write_193 : decode cX10_write 193 = .ok (.iadd, 1) := by decide +kernel
theorem dX10_write_194 : decode cX10_write 194 = .ok (.aload_n 0, 1) := by decide +kernel
theorem dX10_write_195 : decode cX10_write 195 = .ok (.getfield 32, 3) := by decide +kernel
theorem dX10_write_198 : decode cX10_write 198 = .ok (.iload_n 3, 1) := by decide +kernel
theorem dX10_write_199 : decode cX10_write 199 = .ok (.iaload, 1) := by decide +kernel
theorem dX10_write_200 : decode cX10_write 200 = .ok (.iastore, 1) := by decide +kernel
theorem dX10_write_201 : decode cX10_write 201 = .ok (.aload_n 0, 1) := by decide +kernel
theorem dX10_write_202 : decode cX10_write 202 = .ok (.getfield 71, 3) := by decide +kernel
theorem dX10_write_205 : decode cX10_write 205 = .ok (.iload_n 2, 1) := by decide +kernel
theorem dX10_write_206 : decode cX10_write 206 = .ok (.iconst 4, 1) := by decide +kernel
theorem dX10_write_207 : decode cX10_write 207 = .ok (.iadd, 1) := by decide +kernel
theorem dX10_write_208 : decode cX10_write 208 = .ok (.bipush (-41), 2) := by decide +kernel
theorem dX10_write_210 : decode cX10_write 210 = .ok (.iastore, 1) := by decide +kernel
theorem dX10_write_211 : decode cX10_write 211 = .ok (.iinc 2 5, 3) := by decide +kernel
theorem dX10_write_214 : decode cX10_write 214 = .ok (.goto (-185), 3) := by decide +kernel
theorem dX10_write_217 : decode cX10_write 217 = .ok (.aload_n 0, 1) := by decide +kernel
theorem dX10_write_218 : decode cX10_write 218 = .ok (.getfield 278, 3) := by decide +kernel
theorem dX10_write_221 : decode cX10_write 221 = .ok (.sipush 250, 3) := by decide +kernel
theorem dX10_write_224 : decode cX10_write 224 = .ok (.if_icmp .le 6, 3) := by decide +kernel
theorem dX10_write_227 : decode cX10_write 227 = .ok (.bipush (-3), 2) := by decide +kernel
theorem dX10_write_229 : decode cX10_write 229 = .ok (.ireturn, 1) := by decide +kernel
theorem dX10_write_230 : decode cX10_write 230 = .ok (.iconst 0, 1) := by decide +kernel
theorem dX10_write_231 : decode cX10_write 231 = .ok (.istore_n 3, 1) := by decide +kernel
theorem dX10_write_232 : decode cX10_write 232 = .ok (.iload_n 3, 1) := by decide +kernel
theorem dX10_write_233 : decode cX10_write 233 = .ok (.aload_n 0, 1) := by decide +kernel
theorem dX10_write_234 : decode cX10_write 234 = .ok (.getfield 278, 3) := by decide +kernel
theorem dX10_write_237 : decode cX10_write 237 = .ok (.if_icmp .ge 21, 3) := by decide +kernel
theorem dX10_write_240 : decode cX10_write 240 = .ok (.aload_n 0, 1) := by decide +kernel
theorem dX10_write_241 : decode cX10_write 241 = .ok (.getfield 62, 3) := by decide +kernel
theorem dX10_write_244 : decode cX10_write 244 = .ok (.iload_n 3, 1) := by decide +kernel
theorem dX10_write_245 : decode cX10_write 245 = .ok (.aload_n 0, 1) := by decide +kernel
theorem dX10_write_246 : decode cX10_write 246 = .ok (.getfield 65, 3) := by decide +kernel
theorem dX10_write_249 : decode cX10_write 249 = .ok (.iload_n 3, 1) := by decide +kernel
theorem dX10_write_250 : decode cX10_write 250 = .ok (.iaload, 1) := by decide +kernel
theorem dX10_write_251 : decode cX10_write 251 = .ok (.iastore, 1) := by decide +kernel
theorem dX10_write_252 : decode cX10_write 252 = .ok (.iinc 3 1, 3) := by decide +kernel
theorem dX10_write_255 : decode cX10_write 255 = .ok (.goto (-23), 3) := by decide +kernel
theorem dX10_write_258 : decode cX10_write 258 = .ok (.aload_n 0, 1) := by decide +kernel
theorem dX10_write_259 : decode cX10_write 259 = .ok (.aload_n 0, 1) := by decide +kernel
theorem dX10_write_260 : decode cX10_write 260 = .ok (.getfield 278, 3) := by decide +kernel
theorem dX10_write_263 : decode cX10_write 263 = .ok (.putfield 293, 3) := by decide +kernel
theorem dX10_write_266 : decode cX10_write 266 = .ok (.aload_n 0, 1) := by decide +kernel
theorem dX10_write_267 : decode cX10_write 267 = .ok (.getfield 293, 3) := by decide +kernel
theorem dX10_write_270 : decode cX10_write 270 = .ok (.ireturn, 1) := by decide +kernel
theorem dX10_written_0 : decode cX10_written 0 = .ok (.aload_n 0, 1) := by decide +kernel
theorem dX10_written_1 : decode cX10_written 1 = .ok (.iload_n 1, 1) := by decide +kernel
theorem dX10_written_2 : decode cX10_written 2 = .ok (.ifCond .lt 11, 3) := by decide +kernel
theorem dX10_written_5 : decode cX10_written 5 = .ok (.iload_n 1, 1) := by decide +kernel
theorem dX10_written_6 : decode cX10_written 6 = .ok (.aload_n 0, 1) := by decide +kernel
theorem dX10_written_7 : decode cX10_written 7 = .ok (.getfield 293, 3) := by decide +kernel
theorem dX10_written_10 : decode cX10_written 10 = .ok (.if_icmp .lt 7, 3) := by decide +kernel
theorem dX10_written_13 : decode cX10_written 13 = .ok (.iconst 1, 1) := by decide +kernel
theorem dX10_written_14 : decode cX10_written 14 = .ok (.goto 4, 3) := by decide +kernel
theorem dX10_written_17 : decode cX10_written 17 = .ok (.iconst 0, 1) := by decide +kernel
theorem dX10_written_18 : decode cX10_written 18 = .ok (.putfield 78, 3) := by decide +kernel
theorem dX10_written_21 : decode cX10_written 21 = .ok (.aload_n 0, 1) := by decide +kernel
theorem dX10_written_22 : decode cX10_written 22 = .ok (.getfield 78, 3) := by decide +kernel
theorem dX10_written_25 : decode cX10_written 25 = .ok (.ifCond .le 7, 3) := by decide +kernel
theorem dX10_written_28 : decode cX10_written 28 = .ok (.iconst 0, 1) := by decide +kernel
theorem dX10_written_29 : decode cX10_written 29 = .ok (.goto 9, 3) := by decide +kernel
theorem dX10_written_32 : decode cX10_written 32 = .ok (.aload_n 0, 1) := by decide +kernel
theorem dX10_written_33 : decode cX10_written 33 = .ok (.getfield 62, 3) := by decide +kernel
theorem dX10_written_36 : decode cX10_written 36 = .ok (.iload_n 1, 1) := by decide +kernel
theorem dX10_written_37 : decode cX10_written 37 = .ok (.iaload, 1) := by decide +kernel
theorem dX10_written_38 : decode cX10_written 38 = .ok (.ireturn, 1) := by decide +kernel
