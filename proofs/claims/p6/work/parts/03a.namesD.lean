theorem dX9_init_0 : decode cX9_init 0 = .ok (.aload_n 0, 1) := by decide +kernel
theorem dX9_init_1 : decode cX9_init 1 = .ok (.invokespecial 1, 3) := by decide +kernel
theorem dX9_init_4 : decode cX9_init 4 = .ok (.aload_n 0, 1) := by decide +kernel
theorem dX9_init_5 : decode cX9_init 5 = .ok (.new 7, 3) := by decide +kernel
theorem dX9_init_8 : decode cX9_init 8 = .ok (.dup, 1) := by decide +kernel
theorem dX9_init_9 : decode cX9_init 9 = .ok (.invokespecial 9, 3) := by decide +kernel
theorem dX9_init_12 : decode cX9_init 12 = .ok (.putfield 10, 3) := by decide +kernel
theorem dX9_init_15 : decode cX9_init 15 = .ok (.aload_n 0, 1) := by decide +kernel
theorem dX9_init_16 : decode cX9_init 16 = .ok (.new 16, 3) := by decide +kernel
theorem dX9_init_19 : decode cX9_init 19 = .ok (.dup, 1) := by decide +kernel
theorem dX9_init_20 : decode cX9_init 20 = .ok (.invokespecial 18, 3) := by decide +kernel
theorem dX9_init_23 : decode cX9_init 23 = .ok (.putfield 19, 3) := by decide +kernel
theorem dX9_init_26 : decode cX9_init 26 = .ok (.aload_n 0, 1) := by decide +kernel
theorem dX9_init_27 : decode cX9_init 27 = .ok (.new 23, 3) := by decide +kernel
theorem dX9_init_30 : decode cX9_init 30 = .ok (.dup, 1) := by decide +kernel
theorem dX9_init_31 : decode cX9_init 31 = .ok (.aload_n 0, 1) := by decide +kernel
theorem dX9_init_32 : decode cX9_init 32 = .ok (.getfield 10, 3) := by decide +kernel
theorem dX9_init_35 : decode cX9_init 35 = .ok (.invokespecial 25, 3) := by decide +kernel
theorem dX9_init_38 : decode cX9_init 38 = .ok (.putfield 28, 3) := by decide +kernel
theorem dX9_init_41 : decode cX9_init 41 = .ok (.aload_n 0, 1) := by decide +kernel
theorem dX9_init_42 : decode cX9_init 42 = .ok (.new 32, 3) := by decide +kernel
theorem dX9_init_45 : decode cX9_init 45 = .ok (.dup, 1) := by decide +kernel
theorem dX9_init_46 : decode cX9_init 46 = .ok (.aload_n 0, 1) := by decide +kernel
theorem dX9_init_47 : decode cX9_init 47 = .ok (.getfield 19, 3) := by decide +kernel
theorem dX9_init_50 : decode cX9_init 50 = .ok (.aload_n 0, 1) := by decide +kernel
theorem dX9_init_51 : decode cX9_init 51 = .ok (.getfield 28, 3) := by decide +kernel
theorem dX9_init_54 : decode cX9_init 54 = .ok (.invokespecial 34, 3) := by decide +kernel
theorem dX9_init_57 : decode cX9_init 57 = .ok (.putfield 37, 3) := by decide +kernel
theorem dX9_init_60 : decode cX9_init 60 = .ok (.aload_n 0, 1) := by decide +kernel
theorem dX9_init_61 : decode cX9_init 61 = .ok (.new 41, 3) := by decide +kernel
theorem dX9_init_64 : decode cX9_init 64 = .ok (.dup, 1) := by decide +kernel
theorem dX9_init_65 : decode cX9_init 65 = .ok (.aload_n 0, 1) := by decide +kernel
theorem dX9_init_66 : decode cX9_init 66 = .ok (.getfield 28, 3) := by decide +kernel
theorem dX9_init_69 : decode cX9_init 69 = .ok (.invokespecial 43, 3) := by decide +kernel
theorem dX9_init_72 : decode cX9_init 72 = .ok (.putfield 46, 3) := by decide +kernel
theorem dX9_init_75 : decode cX9_init 75 = .ok (.aload_n 0, 1) := by decide +kernel
theorem dX9_init_76 : decode cX9_init 76 = .ok (.new 50, 3) := by decide +kernel
theorem dX9_init_79 : decode cX9_init 79 = .ok (.dup, 1) := by decide +kernel
theorem dX9_init_80 : decode cX9_init 80 = .ok (.aload_n 0, 1) := by decide +kernel
theorem dX9_init_81 : decode cX9_init 81 = .ok (.getfield 28, 3) := by decide +kernel
theorem dX9_init_84 : decode cX9_init 84 = .ok (.invokespecial 52, 3) := by decide +kernel
theorem dX9_init_87 : decode cX9_init 87 = .ok (.putfield 53, 3) := by decide +kernel
theorem dX9_init_90 : decode cX9_init 90 = .ok (.aload_n 0, 1) := by decide +kernel
theorem dX9_init_91 : decode cX9_init 91 = .ok (.bipush 8, 2) := by decide +kernel
theorem dX9_init_93 : decode cX9_init 93 = .ok (.anewarray 57, 3) := by decide +kernel
theorem dX9_init_96 : decode cX9_init 96 = .ok (.putfield 59, 3) := by decide +kernel
theorem dX9_init_99 : decode cX9_init 99 = .ok (.iconst 0, 1) := by decide +kernel
theorem dX9_init_100 : decode cX9_init 100 = .ok (.istore_n 1, 1) := by decide +kernel
theorem dX9_init_101 : decode cX9_init 101 = .ok (.iload_n 1, 1) := by decide +kernel
theorem dX9_init_102 : decode cX9_init 102 = .ok (.bipush 8, 2) := by decide +kernel
theorem dX9_init_104 : decode cX9_init 104 = .ok (.if_icmp .ge 24, 3) := by decide +kernel
theorem dX9_init_107 : decode cX9_init 107 = .ok (.aload_n 0, 1) := by decide +kernel
theorem dX9_init_108 : decode cX9_init 108 = .ok (.getfield 59, 3) := by decide +kernel
theorem dX9_init_111 : decode cX9_init 111 = .ok (.iload_n 1, 1) := by decide +kernel
theorem dX9_init_112 : decode cX9_init 112 = .ok (.new 57, 3) := by decide +kernel
theorem dX9_init_115 : decode cX9_init 115 = .ok (.dup, 1) := by decide +kernel
theorem dX9_init_116 : decode cX9_init 116 = .ok (.bipush 64, 2) := by decide +kernel
theorem dX9_init_118 : decode cX9_init 118 = .ok (.invokespecial 63, 3) := by decide +kernel
theorem dX9_init_121 : decode cX9_init 121 = .ok (.aastore, 1) := by decide +kernel
theorem dX9_init_122 : decode cX9_init 122 = .ok (.iinc 1 1, 3) := by decide +kernel
theorem dX9_init_125 : decode cX9_init 125 = .ok (.goto (-24), 3) := by decide +kernel
theorem dX9_init_128 : decode cX9_init 128 = .ok (.aload_n 0, 1) := by decide +kernel
theorem dX9_init_129 : decode cX9_init 129 = .ok (.new 57, 3) := by decide +kernel
theorem dX9_init_132 : decode cX9_init 132 = .ok (.dup, 1) := by decide +kernel
theorem dX9_init_133 : decode cX9_init 133 = .ok (.bipush 64, 2) := by decide +kernel
theorem dX9_init_135 : decode cX9_init 135 = .ok (.invokespecial 63, 3) := by decide +kernel
theorem dX9_init_138 : decode cX9_init 138 = .ok (.putfield 66, 3) := by decide +kernel
theorem dX9_init_141 : decode cX9_init 141 = .ok (.aload_n 0, 1) := by decide +kernel
theorem dX9_init_142 : decode cX9_init 142 = .ok (.bipush 8, 2) := by decide +kernel
theorem dX9_init_144 : decode cX9_init 144 = .ok (.newarray .int, 2) := by decide +kernel
theorem dX9_init_146 : decode cX9_init 146 = .ok (.putfield 70, 3) := by decide +kernel
theorem dX9_init_149 : decode cX9_init 149 = .ok (.aload_n 0, 1) := by decide +kernel
theorem dX9_init_150 : decode cX9_init 150 = .ok (.getfield 70, 3) := by decide +kernel
theorem dX9_init_153 : decode cX9_init 153 = .ok (.iconst (-1), 1) := by decide +kernel
theorem dX9_init_154 : decode cX9_init 154 = .ok (.invokestatic 74, 3) := by decide +kernel
theorem dX9_init_157 : decode cX9_init 157 = .ok (.aload_n 0, 1) := by decide +kernel
theorem dX9_init_158 : decode cX9_init 158 = .ok (.iconst 3, 1) := by decide +kernel
theorem dX9_init_159 : decode cX9_init 159 = .ok (.newarray .int, 2) := by decide +kernel
theorem dX9_init_161 : decode cX9_init 161 = .ok (.putfield 80, 3) := by decide +kernel
theorem dX9_init_164 : decode cX9_init 164 = .ok (.aload_n 0, 1) := by decide +kernel
theorem dX9_init_165 : decode cX9_init 165 = .ok (.iconst 3, 1) := by decide +kernel
theorem dX9_init_166 : decode cX9_init 166 = .ok (.newarray .int, 2) := by decide +kernel
theorem dX9_init_168 : decode cX9_init 168 = .ok (.putfield 83, 3) := by decide +kernel
theorem dX9_init_171 : decode cX9_init 171 = .ok (.aload_n 0, 1) := by decide +kernel
theorem dX9_init_172 : decode cX9_init 172 = .ok (.getfield 83, 3) := by decide +kernel
theorem dX9_init_175 : decode cX9_init 175 = .ok (.iconst 1, 1) := by decide +kernel
theorem dX9_init_176 : decode cX9_init 176 = .ok (.invokestatic 74, 3) := by decide +kernel
theorem dX9_init_179 : decode cX9_init 179 = .ok (.aload_n 0, 1) := by decide +kernel
theorem dX9_init_180 : decode cX9_init 180 = .ok (.iconst (-1), 1) := by decide +kernel
theorem dX9_init_181 : decode cX9_init 181 = .ok (.putfield 86, 3) := by decide +kernel
theorem dX9_init_184 : decode cX9_init 184 = .ok (.return_, 1) := by decide +kernel
theorem dX9_type_0 : decode cX9_type 0 = .ok (.iload_n 3, 1) := by decide +kernel
theorem dX9_type_1 : decode cX9_type 1 = .ok (.iconst 1, 1) := by decide +kernel
theorem dX9_type_2 : decode cX9_type 2 = .ok (.if_icmp .lt 9, 3) := by decide +kernel
theorem dX9_type_5 : decode cX9_type 5 = .ok (.iload_n 3, 1) := by decide +kernel
theorem dX9_type_6 : decode cX9_type 6 = .ok (.bipush 8, 2) := by decide +kernel
theorem dX9_type_8 : decode cX9_type 8 = .ok (.if_icmp .le 13, 3) := by decide +kernel
theorem dX9_type_11 : decode cX9_type 11 = .ok (.new 90, 3) := by decide +kernel
theorem dX9_type_14 : decode cX9_type 14 = .ok (.dup, 1) := by decide +kernel
theorem dX9_type_15 : decode cX9_type 15 = .ok (.ldc 92, 2) := by decide +kernel
theorem dX9_type_17 : decode cX9_type 17 = .ok (.invokespecial 94, 3) := by decide +kernel
theorem dX9_type_20 : decode cX9_type 20 = .ok (.athrow, 1) := by decide +kernel
theorem dX9_type_21 : decode cX9_type 21 = .ok (.iconst 0, 1) := by decide +kernel
theorem dX9_type_22 : decode cX9_type 22 = .ok (.istore 4, 2) := by decide +kernel
theorem dX9_type_24 : decode cX9_type 24 = .ok (.iload 4, 2) := by decide +kernel
theorem dX9_type_26 : decode cX9_type 26 = .ok (.iload_n 3, 1) := by decide +kernel
theorem dX9_type_27 : decode cX9_type 27 = .ok (.if_icmp .ge 41, 3) := by decide +kernel
theorem dX9_type_30 : decode cX9_type 30 = .ok (.lload_n 1, 1) := by decide +kernel
theorem dX9_type_31 : decode cX9_type 31 = .ok (.iload 4, 2) := by decide +kernel
theorem dX9_type_33 : decode cX9_type 33 = .ok (.invokestatic 97, 3) := by decide +kernel
theorem dX9_type_36 : decode cX9_type 36 = .ok (.istore 5, 2) := by decide +kernel
theorem dX9_type_38 : decode cX9_type 38 = .ok (.iload 5, 2) := by decide +kernel
theorem dX9_type_40 : decode cX9_type 40 = .ok (.bipush 32, 2) := by decide +kernel
theorem dX9_type_42 : decode cX9_type 42 = .ok (.if_icmp .lt 10, 3) := by decide +kernel
theorem dX9_type_45 : decode cX9_type 45 = .ok (.iload 5, 2) := by decide +kernel
theorem dX9_type_47 : decode cX9_type 47 = .ok (.bipush 126, 2) := by decide +kernel
theorem dX9_type_49 : decode cX9_type 49 = .ok (.if_icmp .le 13, 3) := by decide +kernel
theorem dX9_type_52 : decode cX9_type 52 = .ok (.new 90, 3) := by decide +kernel
theorem dX9_type_55 : decode cX9_type 55 = .ok (.dup, 1) := by decide +kernel
theorem dX9_type_56 : decode cX9_type 56 = .ok (.ldc 101, 2) := by decide +kernel
theorem dX9_type_58 : decode cX9_type 58 = .ok (.invokespecial 94, 3) := by decide +kernel
theorem dX9_type_61 : decode cX9_type 61 = .ok (.athrow, 1) := by decide +kernel
theorem dX9_type_62 : decode cX9_type 62 = .ok (.iinc 4 1, 3) := by decide +kernel
theorem dX9_type_65 : decode cX9_type 65 = .ok (.goto (-41), 3) := by decide +kernel
theorem dX9_type_68 : decode cX9_type 68 = .ok (.aload_n 0, 1) := by decide +kernel
theorem dX9_type_69 : decode cX9_type 69 = .ok (.getfield 19, 3) := by decide +kernel
theorem dX9_type_72 : decode cX9_type 72 = .ok (.getfield 103, 3) := by decide +kernel
theorem dX9_type_75 : decode cX9_type 75 = .ok (.iload_n 3, 1) := by decide +kernel
theorem dX9_type_76 : decode cX9_type 76 = .ok (.iadd, 1) := by decide +kernel
theorem dX9_type_77 : decode cX9_type 77 = .ok (.bipush 64, 2) := by decide +kernel
theorem dX9_type_79 : decode cX9_type 79 = .ok (.if_icmp .le 13, 3) := by decide +kernel
theorem dX9_type_82 : decode cX9_type 82 = .ok (.new 106, 3) := by decide +kernel
theorem dX9_type_85 : decode cX9_type 85 = .ok (.dup, 1) := by decide +kernel
theorem dX9_type_86 : decode cX9_type 86 = .ok (.ldc 108, 2) := by decide +kernel
theorem dX9_type_88 : decode cX9_type 88 = .ok (.invokespecial 110, 3) := by decide +kernel
theorem dX9_type_91 : decode cX9_type 91 = .ok (.athrow, 1) := by decide +kernel
theorem dX9_type_92 : decode cX9_type 92 = .ok (.iconst 0, 1) := by decide +kernel
theorem dX9_type_93 : decode cX9_type 93 = .ok (.istore 4, 2) := by decide +kernel
theorem dX9_type_95 : decode cX9_type 95 = .ok (.iload 4, 2) := by decide +kernel
theorem dX9_type_97 : decode cX9_type 97 = .ok (.iload_n 3, 1) := by decide +kernel
theorem dX9_type_98 : decode cX9_type 98 = .ok (.if_icmp .ge 23, 3) := by decide +kernel
theorem dX9_type_101 : decode cX9_type 101 = .ok (.aload_n 0, 1) := by decide +kernel
theorem dX9_type_102 : decode cX9_type 102 = .ok (.getfield 19, 3) := by decide +kernel
theorem dX9_type_105 : decode cX9_type 105 = .ok (.lload_n 1, 1) := by decide +kernel
theorem dX9_type_106 : decode cX9_type 106 = .ok (.iload 4, 2) := by decide +kernel
theorem dX9_type_108 : decode cX9_type 108 = .ok (.invokestatic 97, 3) := by decide +kernel
theorem dX9_type_111 : decode cX9_type 111 = .ok (.i2c, 1) := by decide +kernel
theorem dX9_type_112 : decode cX9_type 112 = .ok (.invokevirtual 111, 3) := by decide +kernel
theorem dX9_type_115 : decode cX9_type 115 = .ok (.iinc 4 1, 3) := by decide +kernel
theorem dX9_type_118 : decode cX9_type 118 = .ok (.goto (-23), 3) := by decide +kernel
theorem dX9_type_121 : decode cX9_type 121 = .ok (.aload_n 0, 1) := by decide +kernel
theorem dX9_type_122 : decode cX9_type 122 = .ok (.getfield 19, 3) := by decide +kernel
theorem dX9_type_125 : decode cX9_type 125 = .ok (.getfield 103, 3) := by decide +kernel
theorem dX9_type_128 : decode cX9_type 128 = .ok (.ireturn, 1) := by decide +kernel
theorem dX9_define_0 : decode cX9_define 0 = .ok (.iload_n 1, 1) := by decide +kernel
theorem dX9_define_1 : decode cX9_define 1 = .ok (.invokestatic 115, 3) := by decide +kernel
theorem dX9_define_4 : decode cX9_define 4 = .ok (.aload_n 0, 1) := by decide +kernel
theorem dX9_define_5 : decode cX9_define 5 = .ok (.aload_n 0, 1) := by decide +kernel
theorem dX9_define_6 : decode cX9_define 6 = .ok (.getfield 19, 3) := by decide +kernel
theorem dX9_define_9 : decode cX9_define 9 = .ok (.invokevirtual 118, 3) := by decide +kernel
theorem dX9_define_12 : decode cX9_define 12 = .ok (.putfield 86, 3) := by decide +kernel
theorem dX9_define_15 : decode cX9_define 15 = .ok (.aload_n 0, 1) := by decide +kernel
theorem dX9_define_16 : decode cX9_define 16 = .ok (.getfield 28, 3) := by decide +kernel
theorem dX9_define_19 : decode cX9_define 19 = .ok (.getfield 122, 3) := by decide +kernel
theorem dX9_define_22 : decode cX9_define 22 = .ok (.istore_n 2, 1) := by decide +kernel
theorem dX9_define_23 : decode cX9_define 23 = .ok (.iconst (-1), 1) := by decide +kernel
theorem dX9_define_24 : decode cX9_define 24 = .ok (.istore_n 3, 1) := by decide +kernel
theorem dX9_define_25 : decode cX9_define 25 = .ok (.aload_n 0, 1) := by decide +kernel
theorem dX9_define_26 : decode cX9_define 26 = .ok (.getfield 86, 3) := by decide +kernel
theorem dX9_define_29 : decode cX9_define 29 = .ok (.iconst (-1), 1) := by decide +kernel
theorem dX9_define_30 : decode cX9_define 30 = .ok (.if_icmp .ne 30, 3) := by decide +kernel
theorem dX9_define_33 : decode cX9_define 33 = .ok (.aload_n 0, 1) := by decide +kernel
theorem dX9_define_34 : decode cX9_define 34 = .ok (.getfield 37, 3) := by decide +kernel
theorem dX9_define_37 : decode cX9_define 37 = .ok (.aload_n 0, 1) := by decide +kernel
theorem dX9_define_38 : decode cX9_define 38 = .ok (.getfield 70, 3) := by decide +kernel
theorem dX9_define_41 : decode cX9_define 41 = .ok (.invokevirtual 125, 3) := by decide +kernel
theorem dX9_define_44 : decode cX9_define 44 = .ok (.ifCond .eq 13, 3) := by decide +kernel
theorem dX9_define_47 : decode cX9_define 47 = .ok (.aload_n 0, 1) := by decide +kernel
theorem dX9_define_48 : decode cX9_define 48 = .ok (.getfield 37, 3) := by decide +kernel
theorem dX9_define_51 : decode cX9_define 51 = .ok (.invokevirtual 129, 3) := by decide +kernel
theorem dX9_define_54 : decode cX9_define 54 = .ok (.goto 5, 3) := by decide +kernel
theorem dX9_define_57 : decode cX9_define 57 = .ok (.bipush (-2), 2) := by decide +kernel
theorem dX9_define_59 : decode cX9_define 59 = .ok (.istore_n 3, 1) := by decide +kernel
theorem dX9_define_60 : decode cX9_define 60 = .ok (.aload_n 0, 1) := by decide +kernel
theorem dX9_define_61 : decode cX9_define 61 = .ok (.getfield 19, 3) := by decide +kernel
theorem dX9_define_64 : decode cX9_define 64 = .ok (.iconst 0, 1) := by decide +kernel
theorem dX9_define_65 : decode cX9_define 65 = .ok (.putfield 103, 3) := by decide +kernel
theorem dX9_define_68 : decode cX9_define 68 = .ok (.iload_n 3, 1) := by decide +kernel
theorem dX9_define_69 : decode cX9_define 69 = .ok (.ifCond .lt 13, 3) := by decide +kernel
theorem dX9_define_72 : decode cX9_define 72 = .ok (.aload_n 0, 1) := by decide +kernel
theorem dX9_define_73 : decode cX9_define 73 = .ok (.getfield 70, 3) := by decide +kernel
theorem dX9_define_76 : decode cX9_define 76 = .ok (.iload_n 1, 1) := by decide +kernel
theorem dX9_define_77 : decode cX9_define 77 = .ok (.iload_n 3, 1) := by decide +kernel
theorem dX9_define_78 : decode cX9_define 78 = .ok (.iastore, 1) := by decide +kernel
theorem dX9_define_79 : decode cX9_define 79 = .ok (.goto 11, 3) := by decide +kernel
theorem dX9_define_82 : decode cX9_define 82 = .ok (.aload_n 0, 1) := by decide +kernel
theorem dX9_define_83 : decode cX9_define 83 = .ok (.getfield 28, 3) := by decide +kernel
theorem dX9_define_86 : decode cX9_define 86 = .ok (.iload_n 2, 1) := by decide +kernel
theorem dX9_define_87 : decode cX9_define 87 = .ok (.putfield 122, 3) := by decide +kernel
theorem dX9_define_90 : decode cX9_define 90 = .ok (.iload_n 3, 1) := by decide +kernel
theorem dX9_define_91 : decode cX9_define 91 = .ok (.ireturn, 1) := by decide +kernel
theorem dX9_place_0 : decode cX9_place 0 = .ok (.aload_n 0, 1) := by decide +kernel
theorem dX9_place_1 : decode cX9_place 1 = .ok (.getfield 86, 3) := by decide +kernel
theorem dX9_place_4 : decode cX9_place 4 = .ok (.ireturn, 1) := by decide +kernel
theorem dX9_derive_0 : decode cX9_derive 0 = .ok (.iload_n 1, 1) := by decide +kernel
theorem dX9_derive_1 : decode cX9_derive 1 = .ok (.invokestatic 115, 3) := by decide +kernel
theorem dX9_derive_4 : decode cX9_derive 4 = .ok (.iload_n 2, 1) := by decide +kernel
theorem dX9_derive_5 : decode cX9_derive 5 = .ok (.invokestatic 132, 3) := by decide +kernel
theorem dX9_derive_8 : decode cX9_derive 8 = .ok (.iload_n 3, 1) := by decide +kernel
theorem dX9_derive_9 : decode cX9_derive 9 = .ok (.invokestatic 115, 3) := by decide +kernel
theorem dX9_derive_12 : decode cX9_derive 12 = .ok (.aload_n 0, 1) := by decide +kernel
theorem dX9_derive_13 : decode cX9_derive 13 = .ok (.iload_n 1, 1) := by decide +kernel
theorem dX9_derive_14 : decode cX9_derive 14 = .ok (.invokevirtual 135, 3) := by decide +kernel
theorem dX9_derive_17 : decode cX9_derive 17 = .ok (.aload_n 0, 1) := by decide +kernel
theorem dX9_derive_18 : decode cX9_derive 18 = .ok (.getfield 28, 3) := by decide +kernel
theorem dX9_derive_21 : decode cX9_derive 21 = .ok (.getfield 122, 3) := by decide +kernel
theorem dX9_derive_24 : decode cX9_derive 24 = .ok (.istore 4, 2) := by decide +kernel
theorem dX9_derive_26 : decode cX9_derive 26 = .ok (.aload_n 0, 1) := by decide +kernel
theorem dX9_derive_27 : decode cX9_derive 27 = .ok (.getfield 28, 3) := by decide +kernel
theorem dX9_derive_30 : decode cX9_derive 30 = .ok (.aload_n 0, 1) := by decide +kernel
theorem dX9_derive_31 : decode cX9_derive 31 = .ok (.getfield 70, 3) := by decide +kernel
theorem dX9_derive_34 : decode cX9_derive 34 = .ok (.iload_n 1, 1) := by decide +kernel
theorem dX9_derive_35 : decode cX9_derive 35 = .ok (.iaload, 1) := by decide +kernel
theorem dX9_derive_36 : decode cX9_derive 36 = .ok (.iload_n 2, 1) := by decide +kernel
theorem dX9_derive_37 : decode cX9_derive 37 = .ok (.invokevirtual 138, 3) := by decide +kernel
theorem dX9_derive_40 : decode cX9_derive 40 = .ok (.istore 5, 2) := by decide +kernel
theorem dX9_derive_42 : decode cX9_derive 42 = .ok (.iload 5, 2) := by decide +kernel
theorem dX9_derive_44 : decode cX9_derive 44 = .ok (.ifCond .lt 14, 3) := by decide +kernel
theorem dX9_derive_47 : decode cX9_derive 47 = .ok (.aload_n 0, 1) := by decide +kernel
theorem dX9_derive_48 : decode cX9_derive 48 = .ok (.getfield 70, 3) := by decide +kernel
theorem dX9_derive_51 : decode cX9_derive 51 = .ok (.iload_n 3, 1) := by decide +kernel
theorem dX9_derive_52 : decode cX9_derive 52 = .ok (.iload 5, 2) := by decide +kernel
theorem dX9_derive_54 : decode cX9_derive 54 = .ok (.iastore, 1) := by decide +kernel
theorem dX9_derive_55 : decode cX9_derive 55 = .ok (.goto 12, 3) := by decide +kernel
theorem dX9_derive_58 : decode cX9_derive 58 = .ok (.aload_n 0, 1) := by decide +kernel
theorem dX9_derive_59 : decode cX9_derive 59 = .ok (.getfield 28, 3) := by decide +kernel
theorem dX9_derive_62 : decode cX9_derive 62 = .ok (.iload 4, 2) := by decide +kernel
theorem dX9_derive_64 : decode cX9_derive 64 = .ok (.putfield 122, 3) := by decide +kernel
theorem dX9_derive_67 : decode cX9_derive 67 = .ok (.iload 5, 2) := by decide +kernel
theorem dX9_derive_69 : decode cX9_derive 69 = .ok (.ireturn, 1) := by decide +kernel
theorem dX9_made_0 : decode cX9_made 0 = .ok (.aload_n 0, 1) := by decide +kernel
theorem dX9_made_1 : decode cX9_made 1 = .ok (.getfield 28, 3) := by decide +kernel
theorem dX9_made_4 : decode cX9_made 4 = .ok (.getfield 122, 3) := by decide +kernel
theorem dX9_made_7 : decode cX9_made 7 = .ok (.ireturn, 1) := by decide +kernel
theorem dX9_parts_0 : decode cX9_parts 0 = .ok (.iload_n 1, 1) := by decide +kernel
theorem dX9_parts_1 : decode cX9_parts 1 = .ok (.invokestatic 115, 3) := by decide +kernel
theorem dX9_parts_4 : decode cX9_parts 4 = .ok (.aload_n 0, 1) := by decide +kernel
theorem dX9_parts_5 : decode cX9_parts 5 = .ok (.iload_n 1, 1) := by decide +kernel
theorem dX9_parts_6 : decode cX9_parts 6 = .ok (.invokevirtual 135, 3) := by decide +kernel
theorem dX9_parts_9 : decode cX9_parts 9 = .ok (.aload_n 0, 1) := by decide +kernel
theorem dX9_parts_10 : decode cX9_parts 10 = .ok (.getfield 28, 3) := by decide +kernel
theorem dX9_parts_13 : decode cX9_parts 13 = .ok (.aload_n 0, 1) := by decide +kernel
theorem dX9_parts_14 : decode cX9_parts 14 = .ok (.getfield 70, 3) := by decide +kernel
theorem dX9_parts_17 : decode cX9_parts 17 = .ok (.iload_n 1, 1) := by decide +kernel
theorem dX9_parts_18 : decode cX9_parts 18 = .ok (.iaload, 1) := by decide +kernel
theorem dX9_parts_19 : decode cX9_parts 19 = .ok (.invokevirtual 142, 3) := by decide +kernel
theorem dX9_parts_22 : decode cX9_parts 22 = .ok (.ireturn, 1) := by decide +kernel
theorem dX9_part_0 : decode cX9_part 0 = .ok (.aload_n 0, 1) := by decide +kernel
theorem dX9_part_1 : decode cX9_part 1 = .ok (.iload_n 1, 1) := by decide +kernel
theorem dX9_part_2 : decode cX9_part 2 = .ok (.invokevirtual 146, 3) := by decide +kernel
theorem dX9_part_5 : decode cX9_part 5 = .ok (.aload_n 0, 1) := by decide +kernel
theorem dX9_part_6 : decode cX9_part 6 = .ok (.getfield 28, 3) := by decide +kernel
theorem dX9_part_9 : decode cX9_part 9 = .ok (.getfield 149, 3) := by decide +kernel
theorem dX9_part_12 : decode cX9_part 12 = .ok (.iload_n 1, 1) := by decide +kernel
theorem dX9_part_13 : decode cX9_part 13 = .ok (.aaload, 1) := by decide +kernel
theorem dX9_part_14 : decode cX9_part 14 = .ok (.astore_n 3, 1) := by decide +kernel
theorem dX9_part_15 : decode cX9_part 15 = .ok (.iload_n 2, 1) := by decide +kernel
theorem dX9_part_16 : decode cX9_part 16 = .ok (.tableswitch 70 0 5 #[40, 45, 50, 55, 60, 65], 40) := by decide +kernel
theorem dX9_part_56 : decode cX9_part 56 = .ok (.aload_n 3, 1) := by decide +kernel
theorem dX9_part_57 : decode cX9_part 57 = .ok (.getfield 153, 3) := by decide +kernel
theorem dX9_part_60 : decode cX9_part 60 = .ok (.ireturn, 1) := by decide +kernel
theorem dX9_part_61 : decode cX9_part 61 = .ok (.aload_n 3, 1) := by decide +kernel
theorem dX9_part_62 : decode cX9_part 62 = .ok (.getfield 158, 3) := by decide +kernel
theorem dX9_part_65 : decode cX9_part 65 = .ok (.ireturn, 1) := by decide +kernel
theorem dX9_part_66 : decode cX9_part 66 = .ok (.aload_n 3, 1) := by decide +kernel
theorem dX9_part_67 : decode cX9_part 67 = .ok (.getfield 161, 3) := by decide +kernel
theorem dX9_part_70 : decode cX9_part 70 = .ok (.ireturn, 1) := by decide +kernel
theorem dX9_part_71 : decode cX9_part 71 = .ok (.aload_n 3, 1) := by decide +kernel
theorem dX9_part_72 : decode cX9_part 72 = .ok (.getfield 164, 3) := by decide +kernel
theorem dX9_part_75 : decode cX9_part 75 = .ok (.ireturn, 1) := by decide +kernel
theorem dX9_part_76 : decode cX9_part 76 = .ok (.aload_n 3, 1) := by decide +kernel
theorem dX9_part_77 : decode cX9_part 77 = .ok (.getfield 167, 3) := by decide +kernel
theorem dX9_part_80 : decode cX9_part 80 = .ok (.ireturn, 1) := by decide +kernel
theorem dX9_part_81 : decode cX9_part 81 = .ok (.aload_n 3, 1) := by decide +kernel
theorem dX9_part_82 : decode cX9_part 82 = .ok (.getfield 170, 3) := by decide +kernel
theorem dX9_part_85 : decode cX9_part 85 = .ok (.ireturn, 1) := by decide +kernel
theorem dX9_part_86 : decode cX9_part 86 = .ok (.new 90, 3) := by decide +kernel
theorem dX9_part_89 : decode cX9_part 89 = .ok (.dup, 1) := by decide +kernel
theorem dX9_part_90 : decode cX9_part 90 = .ok (.ldc 173, 2) := by decide +kernel
theorem dX9_part_92 : decode cX9_part 92 = .ok (.invokespecial 94, 3) := by decide +kernel
theorem dX9_part_95 : decode cX9_part 95 = .ok (.athrow, 1) := by decide +kernel
theorem dX9_number_0 : decode cX9_number 0 = .ok (.aload_n 0, 1) := by decide +kernel
theorem dX9_number_1 : decode cX9_number 1 = .ok (.iload_n 1, 1) := by decide +kernel
theorem dX9_number_2 : decode cX9_number 2 = .ok (.invokevirtual 146, 3) := by decide +kernel
theorem dX9_number_5 : decode cX9_number 5 = .ok (.iload_n 2, 1) := by decide +kernel
theorem dX9_number_6 : decode cX9_number 6 = .ok (.invokestatic 175, 3) := by decide +kernel
theorem dX9_number_9 : decode cX9_number 9 = .ok (.aload_n 0, 1) := by decide +kernel
theorem dX9_number_10 : decode cX9_number 10 = .ok (.getfield 28, 3) := by decide +kernel
theorem dX9_number_13 : decode cX9_number 13 = .ok (.getfield 149, 3) := by decide +kernel
theorem dX9_number_16 : decode cX9_number 16 = .ok (.iload_n 1, 1) := by decide +kernel
theorem dX9_number_17 : decode cX9_number 17 = .ok (.aaload, 1) := by decide +kernel
theorem dX9_number_18 : decode cX9_number 18 = .ok (.getfield 153, 3) := by decide +kernel
theorem dX9_number_21 : decode cX9_number 21 = .ok (.ifCond .ne 7, 3) := by decide +kernel
theorem dX9_number_24 : decode cX9_number 24 = .ok (.iconst 1, 1) := by decide +kernel
theorem dX9_number_25 : decode cX9_number 25 = .ok (.goto 4, 3) := by decide +kernel
theorem dX9_number_28 : decode cX9_number 28 = .ok (.iconst 0, 1) := by decide +kernel
theorem dX9_number_29 : decode cX9_number 29 = .ok (.istore_n 3, 1) := by decide +kernel
theorem dX9_number_30 : decode cX9_number 30 = .ok (.iload_n 3, 1) := by decide +kernel
theorem dX9_number_31 : decode cX9_number 31 = .ok (.ifCond .eq 27, 3) := by decide +kernel
theorem dX9_number_34 : decode cX9_number 34 = .ok (.aload_n 0, 1) := by decide +kernel
theorem dX9_number_35 : decode cX9_number 35 = .ok (.getfield 59, 3) := by decide +kernel
theorem dX9_number_38 : decode cX9_number 38 = .ok (.iload_n 2, 1) := by decide +kernel
theorem dX9_number_39 : decode cX9_number 39 = .ok (.aaload, 1) := by decide +kernel
theorem dX9_number_40 : decode cX9_number 40 = .ok (.aload_n 0, 1) := by decide +kernel
theorem dX9_number_41 : decode cX9_number 41 = .ok (.getfield 28, 3) := by decide +kernel
theorem dX9_number_44 : decode cX9_number 44 = .ok (.getfield 149, 3) := by decide +kernel
theorem dX9_number_47 : decode cX9_number 47 = .ok (.iload_n 1, 1) := by decide +kernel
theorem dX9_number_48 : decode cX9_number 48 = .ok (.aaload, 1) := by decide +kernel
theorem dX9_number_49 : decode cX9_number 49 = .ok (.getfield 178, 3) := by decide +kernel
theorem dX9_number_52 : decode cX9_number 52 = .ok (.invokevirtual 181, 3) := by decide +kernel
theorem dX9_number_55 : decode cX9_number 55 = .ok (.goto 14, 3) := by decide +kernel
theorem dX9_number_58 : decode cX9_number 58 = .ok (.aload_n 0, 1) := by decide +kernel
theorem dX9_number_59 : decode cX9_number 59 = .ok (.getfield 59, 3) := by decide +kernel
theorem dX9_number_62 : decode cX9_number 62 = .ok (.iload_n 2, 1) := by decide +kernel
theorem dX9_number_63 : decode cX9_number 63 = .ok (.aaload, 1) := by decide +kernel
theorem dX9_number_64 : decode cX9_number 64 = .ok (.iconst 0, 1) := by decide +kernel
theorem dX9_number_65 : decode cX9_number 65 = .ok (.iconst 1, 1) := by decide +kernel
theorem dX9_number_66 : decode cX9_number 66 = .ok (.invokevirtual 185, 3) := by decide +kernel
theorem dX9_number_69 : decode cX9_number 69 = .ok (.iload_n 3, 1) := by decide +kernel
theorem dX9_number_70 : decode cX9_number 70 = .ok (.ireturn, 1) := by decide +kernel
theorem dX9_clear_0 : decode cX9_clear 0 = .ok (.aload_n 0, 1) := by decide +kernel
theorem dX9_clear_1 : decode cX9_clear 1 = .ok (.getfield 28, 3) := by decide +kernel
theorem dX9_clear_4 : decode cX9_clear 4 = .ok (.iconst 0, 1) := by decide +kernel
theorem dX9_clear_5 : decode cX9_clear 5 = .ok (.putfield 122, 3) := by decide +kernel
theorem dX9_clear_8 : decode cX9_clear 8 = .ok (.aload_n 0, 1) := by decide +kernel
theorem dX9_clear_9 : decode cX9_clear 9 = .ok (.getfield 70, 3) := by decide +kernel
theorem dX9_clear_12 : decode cX9_clear 12 = .ok (.iconst (-1), 1) := by decide +kernel
theorem dX9_clear_13 : decode cX9_clear 13 = .ok (.invokestatic 74, 3) := by decide +kernel
theorem dX9_clear_16 : decode cX9_clear 16 = .ok (.return_, 1) := by decide +kernel
theorem dX9_set_0 : decode cX9_set 0 = .ok (.iload_n 1, 1) := by decide +kernel
theorem dX9_set_1 : decode cX9_set 1 = .ok (.invokestatic 132, 3) := by decide +kernel
theorem dX9_set_4 : decode cX9_set 4 = .ok (.iload_n 2, 1) := by decide +kernel
theorem dX9_set_5 : decode cX9_set 5 = .ok (.sipush (-9999), 3) := by decide +kernel
theorem dX9_set_8 : decode cX9_set 8 = .ok (.if_icmp .lt 22, 3) := by decide +kernel
theorem dX9_set_11 : decode cX9_set 11 = .ok (.iload_n 2, 1) := by decide +kernel
theorem dX9_set_12 : decode cX9_set 12 = .ok (.sipush 9999, 3) := by decide +kernel
theorem dX9_set_15 : decode cX9_set 15 = .ok (.if_icmp .gt 15, 3) := by decide +kernel
theorem dX9_set_18 : decode cX9_set 18 = .ok (.iload_n 3, 1) := by decide +kernel
theorem dX9_set_19 : decode cX9_set 19 = .ok (.iconst 1, 1) := by decide +kernel
theorem dX9_set_20 : decode cX9_set 20 = .ok (.if_icmp .lt 10, 3) := by decide +kernel
theorem dX9_set_23 : decode cX9_set 23 = .ok (.iload_n 3, 1) := by decide +kernel
theorem dX9_set_24 : decode cX9_set 24 = .ok (.sipush 9999, 3) := by decide +kernel
theorem dX9_set_27 : decode cX9_set 27 = .ok (.if_icmp .le 13, 3) := by decide +kernel
theorem dX9_set_30 : decode cX9_set 30 = .ok (.new 90, 3) := by decide +kernel
theorem dX9_set_33 : decode cX9_set 33 = .ok (.dup, 1) := by decide +kernel
theorem dX9_set_34 : decode cX9_set 34 = .ok (.ldc 189, 2) := by decide +kernel
theorem dX9_set_36 : decode cX9_set 36 = .ok (.invokespecial 94, 3) := by decide +kernel
theorem dX9_set_39 : decode cX9_set 39 = .ok (.athrow, 1) := by decide +kernel
theorem dX9_set_40 : decode cX9_set 40 = .ok (.aload_n 0, 1) := by decide +kernel
theorem dX9_set_41 : decode cX9_set 41 = .ok (.getfield 80, 3) := by decide +kernel
theorem dX9_set_44 : decode cX9_set 44 = .ok (.iload_n 1, 1) := by decide +kernel
theorem dX9_set_45 : decode cX9_set 45 = .ok (.iload_n 2, 1) := by decide +kernel
theorem dX9_set_46 : decode cX9_set 46 = .ok (.iastore, 1) := by decide +kernel
theorem dX9_set_47 : decode cX9_set 47 = .ok (.aload_n 0, 1) := by decide +kernel
theorem dX9_set_48 : decode cX9_set 48 = .ok (.getfield 83, 3) := by decide +kernel
theorem dX9_set_51 : decode cX9_set 51 = .ok (.iload_n 1, 1) := by decide +kernel
theorem dX9_set_52 : decode cX9_set 52 = .ok (.iload_n 3, 1) := by decide +kernel
theorem dX9_set_53 : decode cX9_set 53 = .ok (.iastore, 1) := by decide +kernel
theorem dX9_set_54 : decode cX9_set 54 = .ok (.return_, 1) := by decide +kernel
theorem dX9_gradient_0 : decode cX9_gradient 0 = .ok (.iload_n 1, 1) := by decide +kernel
theorem dX9_gradient_1 : decode cX9_gradient 1 = .ok (.invokestatic 115, 3) := by decide +kernel
theorem dX9_gradient_4 : decode cX9_gradient 4 = .ok (.aload_n 0, 1) := by decide +kernel
theorem dX9_gradient_5 : decode cX9_gradient 5 = .ok (.iload_n 1, 1) := by decide +kernel
theorem dX9_gradient_6 : decode cX9_gradient 6 = .ok (.invokevirtual 135, 3) := by decide +kernel
theorem dX9_gradient_9 : decode cX9_gradient 9 = .ok (.aload_n 0, 1) := by decide +kernel
theorem dX9_gradient_10 : decode cX9_gradient 10 = .ok (.aload_n 0, 1) := by decide +kernel
theorem dX9_gradient_11 : decode cX9_gradient 11 = .ok (.getfield 70, 3) := by decide +kernel
theorem dX9_gradient_14 : decode cX9_gradient 14 = .ok (.iload_n 1, 1) := by decide +kernel
theorem dX9_gradient_15 : decode cX9_gradient 15 = .ok (.iaload, 1) := by decide +kernel
theorem dX9_gradient_16 : decode cX9_gradient 16 = .ok (.iconst 0, 1) := by decide +kernel
theorem dX9_gradient_17 : decode cX9_gradient 17 = .ok (.invokevirtual 191, 3) := by decide +kernel
theorem dX9_gradient_20 : decode cX9_gradient 20 = .ok (.aload_n 0, 1) := by decide +kernel
theorem dX9_gradient_21 : decode cX9_gradient 21 = .ok (.aload_n 0, 1) := by decide +kernel
theorem dX9_gradient_22 : decode cX9_gradient 22 = .ok (.getfield 70, 3) := by decide +kernel
theorem dX9_gradient_25 : decode cX9_gradient 25 = .ok (.iload_n 1, 1) := by decide +kernel
theorem dX9_gradient_26 : decode cX9_gradient 26 = .ok (.iaload, 1) := by decide +kernel
theorem dX9_gradient_27 : decode cX9_gradient 27 = .ok (.iconst 1, 1) := by decide +kernel
theorem dX9_gradient_28 : decode cX9_gradient 28 = .ok (.iconst 0, 1) := by decide +kernel
theorem dX9_gradient_29 : decode cX9_gradient 29 = .ok (.iconst 0, 1) := by decide +kernel
theorem dX9_gradient_30 : decode cX9_gradient 30 = .ok (.iconst 1, 1) := by decide +kernel
theorem dX9_gradient_31 : decode cX9_gradient 31 = .ok (.invokevirtual 194, 3) := by decide +kernel
theorem dX9_gradient_34 : decode cX9_gradient 34 = .ok (.aload_n 0, 1) := by decide +kernel
theorem dX9_gradient_35 : decode cX9_gradient 35 = .ok (.aload_n 0, 1) := by decide +kernel
theorem dX9_gradient_36 : decode cX9_gradient 36 = .ok (.getfield 70, 3) := by decide +kernel
theorem dX9_gradient_39 : decode cX9_gradient 39 = .ok (.iload_n 1, 1) := by decide +kernel
theorem dX9_gradient_40 : decode cX9_gradient 40 = .ok (.iaload, 1) := by decide +kernel
theorem dX9_gradient_41 : decode cX9_gradient 41 = .ok (.iconst 0, 1) := by decide +kernel
theorem dX9_gradient_42 : decode cX9_gradient 42 = .ok (.iconst 1, 1) := by decide +kernel
theorem dX9_gradient_43 : decode cX9_gradient 43 = .ok (.iconst 0, 1) := by decide +kernel
theorem dX9_gradient_44 : decode cX9_gradient 44 = .ok (.iconst 2, 1) := by decide +kernel
theorem dX9_gradient_45 : decode cX9_gradient 45 = .ok (.invokevirtual 194, 3) := by decide +kernel
theorem dX9_gradient_48 : decode cX9_gradient 48 = .ok (.aload_n 0, 1) := by decide +kernel
theorem dX9_gradient_49 : decode cX9_gradient 49 = .ok (.aload_n 0, 1) := by decide +kernel
theorem dX9_gradient_50 : decode cX9_gradient 50 = .ok (.getfield 70, 3) := by decide +kernel
theorem dX9_gradient_53 : decode cX9_gradient 53 = .ok (.iload_n 1, 1) := by decide +kernel
theorem dX9_gradient_54 : decode cX9_gradient 54 = .ok (.iaload, 1) := by decide +kernel
theorem dX9_gradient_55 : decode cX9_gradient 55 = .ok (.iconst 0, 1) := by decide +kernel
theorem dX9_gradient_56 : decode cX9_gradient 56 = .ok (.iconst 0, 1) := by decide +kernel
theorem dX9_gradient_57 : decode cX9_gradient 57 = .ok (.iconst 1, 1) := by decide +kernel
theorem dX9_gradient_58 : decode cX9_gradient 58 = .ok (.iconst 3, 1) := by decide +kernel
theorem dX9_gradient_59 : decode cX9_gradient 59 = .ok (.invokevirtual 194, 3) := by decide +kernel
theorem dX9_gradient_62 : decode cX9_gradient 62 = .ok (.return_, 1) := by decide +kernel
theorem dX9_along_0 : decode cX9_along 0 = .ok (.iload_n 1, 1) := by decide +kernel
theorem dX9_along_1 : decode cX9_along 1 = .ok (.invokestatic 115, 3) := by decide +kernel
theorem dX9_along_4 : decode cX9_along 4 = .ok (.iload_n 2, 1) := by decide +kernel
theorem dX9_along_5 : decode cX9_along 5 = .ok (.invokestatic 198, 3) := by decide +kernel
theorem dX9_along_8 : decode cX9_along 8 = .ok (.iload_n 3, 1) := by decide +kernel
theorem dX9_along_9 : decode cX9_along 9 = .ok (.invokestatic 198, 3) := by decide +kernel
theorem dX9_along_12 : decode cX9_along 12 = .ok (.iload 4, 2) := by decide +kernel
theorem dX9_along_14 : decode cX9_along 14 = .ok (.invokestatic 198, 3) := by decide +kernel
theorem dX9_along_17 : decode cX9_along 17 = .ok (.aload_n 0, 1) := by decide +kernel
theorem dX9_along_18 : decode cX9_along 18 = .ok (.iload_n 1, 1) := by decide +kernel
theorem dX9_along_19 : decode cX9_along 19 = .ok (.invokevirtual 135, 3) := by decide +kernel
theorem dX9_along_22 : decode cX9_along 22 = .ok (.aload_n 0, 1) := by decide +kernel
theorem dX9_along_23 : decode cX9_along 23 = .ok (.aload_n 0, 1) := by decide +kernel
theorem dX9_along_24 : decode cX9_along 24 = .ok (.getfield 70, 3) := by decide +kernel
theorem dX9_along_27 : decode cX9_along 27 = .ok (.iload_n 1, 1) := by decide +kernel
theorem dX9_along_28 : decode cX9_along 28 = .ok (.iaload, 1) := by decide +kernel
theorem dX9_along_29 : decode cX9_along 29 = .ok (.iconst 4, 1) := by decide +kernel
theorem dX9_along_30 : decode cX9_along 30 = .ok (.invokevirtual 191, 3) := by decide +kernel
theorem dX9_along_33 : decode cX9_along 33 = .ok (.aload_n 0, 1) := by decide +kernel
theorem dX9_along_34 : decode cX9_along 34 = .ok (.aload_n 0, 1) := by decide +kernel
theorem dX9_along_35 : decode cX9_along 35 = .ok (.getfield 70, 3) := by decide +kernel
theorem dX9_along_38 : decode cX9_along 38 = .ok (.iload_n 1, 1) := by decide +kernel
theorem dX9_along_39 : decode cX9_along 39 = .ok (.iaload, 1) := by decide +kernel
theorem dX9_along_40 : decode cX9_along 40 = .ok (.iload_n 2, 1) := by decide +kernel
theorem dX9_along_41 : decode cX9_along 41 = .ok (.iload_n 3, 1) := by decide +kernel
theorem dX9_along_42 : decode cX9_along 42 = .ok (.iload 4, 2) := by decide +kernel
theorem dX9_along_44 : decode cX9_along 44 = .ok (.iconst 5, 1) := by decide +kernel
theorem dX9_along_45 : decode cX9_along 45 = .ok (.invokevirtual 194, 3) := by decide +kernel
theorem dX9_along_48 : decode cX9_along 48 = .ok (.return_, 1) := by decide +kernel
theorem dX9_reckon_0 : decode cX9_reckon 0 = .ok (.iload_n 2, 1) := by decide +kernel
theorem dX9_reckon_1 : decode cX9_reckon 1 = .ok (.invokestatic 175, 3) := by decide +kernel
theorem dX9_reckon_4 : decode cX9_reckon 4 = .ok (.iload_n 3, 1) := by decide +kernel
theorem dX9_reckon_5 : decode cX9_reckon 5 = .ok (.invokestatic 175, 3) := by decide +kernel
theorem dX9_reckon_8 : decode cX9_reckon 8 = .ok (.iload 4, 2) := by decide +kernel
theorem dX9_reckon_10 : decode cX9_reckon 10 = .ok (.invokestatic 175, 3) := by decide +kernel
theorem dX9_reckon_13 : decode cX9_reckon 13 = .ok (.iload_n 1, 1) := by decide +kernel
theorem dX9_reckon_14 : decode cX9_reckon 14 = .ok (.ifCond .lt 8, 3) := by decide +kernel
theorem dX9_reckon_17 : decode cX9_reckon 17 = .ok (.iload_n 1, 1) := by decide +kernel
theorem dX9_reckon_18 : decode cX9_reckon 18 = .ok (.iconst 2, 1) := by decide +kernel
theorem dX9_reckon_19 : decode cX9_reckon 19 = .ok (.if_icmp .le 13, 3) := by decide +kernel
theorem dX9_reckon_22 : decode cX9_reckon 22 = .ok (.new 90, 3) := by decide +kernel
theorem dX9_reckon_25 : decode cX9_reckon 25 = .ok (.dup, 1) := by decide +kernel
theorem dX9_reckon_26 : decode cX9_reckon 26 = .ok (.ldc 201, 2) := by decide +kernel
theorem dX9_reckon_28 : decode cX9_reckon 28 = .ok (.invokespecial 94, 3) := by decide +kernel
theorem dX9_reckon_31 : decode cX9_reckon 31 = .ok (.athrow, 1) := by decide +kernel
theorem dX9_reckon_32 : decode cX9_reckon 32 = .ok (.aload_n 0, 1) := by decide +kernel
theorem dX9_reckon_33 : decode cX9_reckon 33 = .ok (.getfield 59, 3) := by decide +kernel
theorem dX9_reckon_36 : decode cX9_reckon 36 = .ok (.iload_n 3, 1) := by decide +kernel
theorem dX9_reckon_37 : decode cX9_reckon 37 = .ok (.aaload, 1) := by decide +kernel
theorem dX9_reckon_38 : decode cX9_reckon 38 = .ok (.invokestatic 203, 3) := by decide +kernel
theorem dX9_reckon_41 : decode cX9_reckon 41 = .ok (.ifCond .ne 16, 3) := by decide +kernel
theorem dX9_reckon_44 : decode cX9_reckon 44 = .ok (.aload_n 0, 1) := by decide +kernel
theorem dX9_reckon_45 : decode cX9_reckon 45 = .ok (.getfield 59, 3) := by decide +kernel
theorem dX9_reckon_48 : decode cX9_reckon 48 = .ok (.iload 4, 2) := by decide +kernel
theorem dX9_reckon_50 : decode cX9_reckon 50 = .ok (.aaload, 1) := by decide +kernel
theorem dX9_reckon_51 : decode cX9_reckon 51 = .ok (.invokestatic 203, 3) := by decide +kernel
theorem dX9_reckon_54 : decode cX9_reckon 54 = .ok (.ifCond .eq 5, 3) := by decide +kernel
theorem dX9_reckon_57 : decode cX9_reckon 57 = .ok (.iconst 0, 1) := by decide +kernel
theorem dX9_reckon_58 : decode cX9_reckon 58 = .ok (.ireturn, 1) := by decide +kernel
theorem dX9_reckon_59 : decode cX9_reckon 59 = .ok (.iload_n 1, 1) := by decide +kernel
theorem dX9_reckon_60 : decode cX9_reckon 60 = .ok (.iconst 2, 1) := by decide +kernel
theorem dX9_reckon_61 : decode cX9_reckon 61 = .ok (.if_icmp .ne 30, 3) := by decide +kernel
theorem dX9_reckon_64 : decode cX9_reckon 64 = .ok (.aload_n 0, 1) := by decide +kernel
theorem dX9_reckon_65 : decode cX9_reckon 65 = .ok (.getfield 10, 3) := by decide +kernel
theorem dX9_reckon_68 : decode cX9_reckon 68 = .ok (.aload_n 0, 1) := by decide +kernel
theorem dX9_reckon_69 : decode cX9_reckon 69 = .ok (.getfield 59, 3) := by decide +kernel
theorem dX9_reckon_72 : decode cX9_reckon 72 = .ok (.iload_n 3, 1) := by decide +kernel
theorem dX9_reckon_73 : decode cX9_reckon 73 = .ok (.aaload, 1) := by decide +kernel
theorem dX9_reckon_74 : decode cX9_reckon 74 = .ok (.aload_n 0, 1) := by decide +kernel
theorem dX9_reckon_75 : decode cX9_reckon 75 = .ok (.getfield 59, 3) := by decide +kernel
theorem dX9_reckon_78 : decode cX9_reckon 78 = .ok (.iload 4, 2) := by decide +kernel
theorem dX9_reckon_80 : decode cX9_reckon 80 = .ok (.aaload, 1) := by decide +kernel
theorem dX9_reckon_81 : decode cX9_reckon 81 = .ok (.aload_n 0, 1) := by decide +kernel
theorem dX9_reckon_82 : decode cX9_reckon 82 = .ok (.getfield 66, 3) := by decide +kernel
theorem dX9_reckon_85 : decode cX9_reckon 85 = .ok (.invokevirtual 207, 3) := by decide +kernel
theorem dX9_reckon_88 : decode cX9_reckon 88 = .ok (.goto 37, 3) := by decide +kernel
theorem dX9_reckon_91 : decode cX9_reckon 91 = .ok (.aload_n 0, 1) := by decide +kernel
theorem dX9_reckon_92 : decode cX9_reckon 92 = .ok (.getfield 10, 3) := by decide +kernel
theorem dX9_reckon_95 : decode cX9_reckon 95 = .ok (.aload_n 0, 1) := by decide +kernel
theorem dX9_reckon_96 : decode cX9_reckon 96 = .ok (.getfield 59, 3) := by decide +kernel
theorem dX9_reckon_99 : decode cX9_reckon 99 = .ok (.iload_n 3, 1) := by decide +kernel
theorem dX9_reckon_100 : decode cX9_reckon 100 = .ok (.aaload, 1) := by decide +kernel
theorem dX9_reckon_101 : decode cX9_reckon 101 = .ok (.aload_n 0, 1) := by decide +kernel
theorem dX9_reckon_102 : decode cX9_reckon 102 = .ok (.getfield 59, 3) := by decide +kernel
theorem dX9_reckon_105 : decode cX9_reckon 105 = .ok (.iload 4, 2) := by decide +kernel
theorem dX9_reckon_107 : decode cX9_reckon 107 = .ok (.aaload, 1) := by decide +kernel
theorem dX9_reckon_108 : decode cX9_reckon 108 = .ok (.iload_n 1, 1) := by decide +kernel
theorem dX9_reckon_109 : decode cX9_reckon 109 = .ok (.iconst 1, 1) := by decide +kernel
theorem dX9_reckon_110 : decode cX9_reckon 110 = .ok (.if_icmp .ne 7, 3) := by decide +kernel
theorem dX9_reckon_113 : decode cX9_reckon 113 = .ok (.iconst 1, 1) := by decide +kernel
theorem dX9_reckon_114 : decode cX9_reckon 114 = .ok (.goto 4, 3) := by decide +kernel
theorem dX9_reckon_117 : decode cX9_reckon 117 = .ok (.iconst 0, 1) := by decide +kernel
theorem dX9_reckon_118 : decode cX9_reckon 118 = .ok (.aload_n 0, 1) := by decide +kernel
theorem dX9_reckon_119 : decode cX9_reckon 119 = .ok (.getfield 66, 3) := by decide +kernel
theorem dX9_reckon_122 : decode cX9_reckon 122 = .ok (.invokevirtual 211, 3) := by decide +kernel
theorem dX9_reckon_125 : decode cX9_reckon 125 = .ok (.aload_n 0, 1) := by decide +kernel
theorem dX9_reckon_126 : decode cX9_reckon 126 = .ok (.getfield 10, 3) := by decide +kernel
theorem dX9_reckon_129 : decode cX9_reckon 129 = .ok (.aload_n 0, 1) := by decide +kernel
theorem dX9_reckon_130 : decode cX9_reckon 130 = .ok (.getfield 66, 3) := by decide +kernel
theorem dX9_reckon_133 : decode cX9_reckon 133 = .ok (.invokevirtual 215, 3) := by decide +kernel
theorem dX9_reckon_136 : decode cX9_reckon 136 = .ok (.aload_n 0, 1) := by decide +kernel
theorem dX9_reckon_137 : decode cX9_reckon 137 = .ok (.getfield 59, 3) := by decide +kernel
theorem dX9_reckon_140 : decode cX9_reckon 140 = .ok (.iload_n 2, 1) := by decide +kernel
theorem dX9_reckon_141 : decode cX9_reckon 141 = .ok (.aaload, 1) := by decide +kernel
theorem dX9_reckon_142 : decode cX9_reckon 142 = .ok (.aload_n 0, 1) := by decide +kernel
theorem dX9_reckon_143 : decode cX9_reckon 143 = .ok (.getfield 66, 3) := by decide +kernel
theorem dX9_reckon_146 : decode cX9_reckon 146 = .ok (.invokevirtual 181, 3) := by decide +kernel
theorem dX9_reckon_149 : decode cX9_reckon 149 = .ok (.iconst 1, 1) := by decide +kernel
theorem dX9_reckon_150 : decode cX9_reckon 150 = .ok (.ireturn, 1) := by decide +kernel
theorem dX9_compare_0 : decode cX9_compare 0 = .ok (.iload_n 1, 1) := by decide +kernel
theorem dX9_compare_1 : decode cX9_compare 1 = .ok (.invokestatic 175, 3) := by decide +kernel
theorem dX9_compare_4 : decode cX9_compare 4 = .ok (.iload_n 2, 1) := by decide +kernel
theorem dX9_compare_5 : decode cX9_compare 5 = .ok (.invokestatic 175, 3) := by decide +kernel
theorem dX9_compare_8 : decode cX9_compare 8 = .ok (.aload_n 0, 1) := by decide +kernel
theorem dX9_compare_9 : decode cX9_compare 9 = .ok (.getfield 10, 3) := by decide +kernel
theorem dX9_compare_12 : decode cX9_compare 12 = .ok (.aload_n 0, 1) := by decide +kernel
theorem dX9_compare_13 : decode cX9_compare 13 = .ok (.getfield 59, 3) := by decide +kernel
theorem dX9_compare_16 : decode cX9_compare 16 = .ok (.iload_n 1, 1) := by decide +kernel
theorem dX9_compare_17 : decode cX9_compare 17 = .ok (.aaload, 1) := by decide +kernel
theorem dX9_compare_18 : decode cX9_compare 18 = .ok (.aload_n 0, 1) := by decide +kernel
theorem dX9_compare_19 : decode cX9_compare 19 = .ok (.getfield 59, 3) := by decide +kernel
theorem dX9_compare_22 : decode cX9_compare 22 = .ok (.iload_n 2, 1) := by decide +kernel
theorem dX9_compare_23 : decode cX9_compare 23 = .ok (.aaload, 1) := by decide +kernel
theorem dX9_compare_24 : decode cX9_compare 24 = .ok (.invokevirtual 218, 3) := by decide +kernel
theorem dX9_compare_27 : decode cX9_compare 27 = .ok (.ireturn, 1) := by decide +kernel
theorem dX9_sign_0 : decode cX9_sign 0 = .ok (.iload_n 1, 1) := by decide +kernel
theorem dX9_sign_1 : decode cX9_sign 1 = .ok (.invokestatic 175, 3) := by decide +kernel
theorem dX9_sign_4 : decode cX9_sign 4 = .ok (.aload_n 0, 1) := by decide +kernel
theorem dX9_sign_5 : decode cX9_sign 5 = .ok (.getfield 59, 3) := by decide +kernel
theorem dX9_sign_8 : decode cX9_sign 8 = .ok (.iload_n 1, 1) := by decide +kernel
theorem dX9_sign_9 : decode cX9_sign 9 = .ok (.aaload, 1) := by decide +kernel
theorem dX9_sign_10 : decode cX9_sign 10 = .ok (.getfield 222, 3) := by decide +kernel
theorem dX9_sign_13 : decode cX9_sign 13 = .ok (.invokevirtual 226, 3) := by decide +kernel
theorem dX9_sign_16 : decode cX9_sign 16 = .ok (.ireturn, 1) := by decide +kernel
theorem dX9_bits_0 : decode cX9_bits 0 = .ok (.iload_n 1, 1) := by decide +kernel
theorem dX9_bits_1 : decode cX9_bits 1 = .ok (.invokestatic 175, 3) := by decide +kernel
theorem dX9_bits_4 : decode cX9_bits 4 = .ok (.iload_n 2, 1) := by decide +kernel
theorem dX9_bits_5 : decode cX9_bits 5 = .ok (.invokestatic 231, 3) := by decide +kernel
theorem dX9_bits_8 : decode cX9_bits 8 = .ok (.aload_n 0, 1) := by decide +kernel
theorem dX9_bits_9 : decode cX9_bits 9 = .ok (.iload_n 1, 1) := by decide +kernel
theorem dX9_bits_10 : decode cX9_bits 10 = .ok (.iload_n 2, 1) := by decide +kernel
theorem dX9_bits_11 : decode cX9_bits 11 = .ok (.invokevirtual 234, 3) := by decide +kernel
theorem dX9_bits_14 : decode cX9_bits 14 = .ok (.invokevirtual 238, 3) := by decide +kernel
theorem dX9_bits_17 : decode cX9_bits 17 = .ok (.ireturn, 1) := by decide +kernel
theorem dX9_word_0 : decode cX9_word 0 = .ok (.iload_n 1, 1) := by decide +kernel
theorem dX9_word_1 : decode cX9_word 1 = .ok (.invokestatic 175, 3) := by decide +kernel
theorem dX9_word_4 : decode cX9_word 4 = .ok (.iload_n 3, 1) := by decide +kernel
theorem dX9_word_5 : decode cX9_word 5 = .ok (.ifCond .lt 9, 3) := by decide +kernel
theorem dX9_word_8 : decode cX9_word 8 = .ok (.iload_n 3, 1) := by decide +kernel
theorem dX9_word_9 : decode cX9_word 9 = .ok (.bipush 64, 2) := by decide +kernel
theorem dX9_word_11 : decode cX9_word 11 = .ok (.if_icmp .lt 13, 3) := by decide +kernel
theorem dX9_word_14 : decode cX9_word 14 = .ok (.new 241, 3) := by decide +kernel
theorem dX9_word_17 : decode cX9_word 17 = .ok (.dup, 1) := by decide +kernel
theorem dX9_word_18 : decode cX9_word 18 = .ok (.ldc 243, 2) := by decide +kernel
theorem dX9_word_20 : decode cX9_word 20 = .ok (.invokespecial 245, 3) := by decide +kernel
theorem dX9_word_23 : decode cX9_word 23 = .ok (.athrow, 1) := by decide +kernel
theorem dX9_word_24 : decode cX9_word 24 = .ok (.iload_n 2, 1) := by decide +kernel
theorem dX9_word_25 : decode cX9_word 25 = .ok (.invokestatic 231, 3) := by decide +kernel
theorem dX9_word_28 : decode cX9_word 28 = .ok (.aload_n 0, 1) := by decide +kernel
theorem dX9_word_29 : decode cX9_word 29 = .ok (.iload_n 1, 1) := by decide +kernel
theorem dX9_word_30 : decode cX9_word 30 = .ok (.iload_n 2, 1) := by decide +kernel
theorem dX9_word_31 : decode cX9_word 31 = .ok (.invokevirtual 234, 3) := by decide +kernel
theorem dX9_word_34 : decode cX9_word 34 = .ok (.astore 4, 2) := by decide +kernel
theorem dX9_word_36 : decode cX9_word 36 = .ok (.iload_n 3, 1) := by decide +kernel
theorem dX9_word_37 : decode cX9_word 37 = .ok (.aload 4, 2) := by decide +kernel
theorem dX9_word_39 : decode cX9_word 39 = .ok (.getfield 246, 3) := by decide +kernel
theorem dX9_word_42 : decode cX9_word 42 = .ok (.if_icmp .ge 13, 3) := by decide +kernel
theorem dX9_word_45 : decode cX9_word 45 = .ok (.aload 4, 2) := by decide +kernel
theorem dX9_word_47 : decode cX9_word 47 = .ok (.getfield 249, 3) := by decide +kernel
theorem dX9_word_50 : decode cX9_word 50 = .ok (.iload_n 3, 1) := by decide +kernel
theorem dX9_word_51 : decode cX9_word 51 = .ok (.iaload, 1) := by decide +kernel
theorem dX9_word_52 : decode cX9_word 52 = .ok (.goto 4, 3) := by decide +kernel
theorem dX9_word_55 : decode cX9_word 55 = .ok (.iconst 0, 1) := by decide +kernel
theorem dX9_word_56 : decode cX9_word 56 = .ok (.ireturn, 1) := by decide +kernel
theorem dX9_write_0 : decode cX9_write 0 = .ok (.iload_n 1, 1) := by decide +kernel
theorem dX9_write_1 : decode cX9_write 1 = .ok (.invokestatic 115, 3) := by decide +kernel
theorem dX9_write_4 : decode cX9_write 4 = .ok (.aload_n 0, 1) := by decide +kernel
theorem dX9_write_5 : decode cX9_write 5 = .ok (.iload_n 1, 1) := by decide +kernel
theorem dX9_write_6 : decode cX9_write 6 = .ok (.invokevirtual 135, 3) := by decide +kernel
theorem dX9_write_9 : decode cX9_write 9 = .ok (.aload_n 0, 1) := by decide +kernel
theorem dX9_write_10 : decode cX9_write 10 = .ok (.getfield 53, 3) := by decide +kernel
theorem dX9_write_13 : decode cX9_write 13 = .ok (.aload_n 0, 1) := by decide +kernel
theorem dX9_write_14 : decode cX9_write 14 = .ok (.getfield 70, 3) := by decide +kernel
theorem dX9_write_17 : decode cX9_write 17 = .ok (.iload_n 1, 1) := by decide +kernel
theorem dX9_write_18 : decode cX9_write 18 = .ok (.iaload, 1) := by decide +kernel
theorem dX9_write_19 : decode cX9_write 19 = .ok (.invokevirtual 252, 3) := by decide +kernel
theorem dX9_write_22 : decode cX9_write 22 = .ok (.ireturn, 1) := by decide +kernel
theorem dX9_written_0 : decode cX9_written 0 = .ok (.iload_n 1, 1) := by decide +kernel
theorem dX9_written_1 : decode cX9_written 1 = .ok (.ifCond .lt 14, 3) := by decide +kernel
theorem dX9_written_4 : decode cX9_written 4 = .ok (.iload_n 1, 1) := by decide +kernel
theorem dX9_written_5 : decode cX9_written 5 = .ok (.aload_n 0, 1) := by decide +kernel
theorem dX9_written_6 : decode cX9_written 6 = .ok (.getfield 53, 3) := by decide +kernel
theorem dX9_written_9 : decode cX9_written 9 = .ok (.getfield 255, 3) := by decide +kernel
theorem dX9_written_12 : decode cX9_written 12 = .ok (.if_icmp .lt 14, 3) := by decide +kernel
theorem dX9_written_15 : decode cX9_written 15 = .ok (.new 241, 3) := by decide +kernel
theorem dX9_written_18 : decode cX9_written 18 = .ok (.dup, 1) := by decide +kernel
theorem dX9_written_19 : decode cX9_written 19 = .ok (.ldc_w 256, 3) := by decide +kernel
theorem dX9_written_22 : decode cX9_written 22 = .ok (.invokespecial 245, 3) := by decide +kernel
theorem dX9_written_25 : decode cX9_written 25 = .ok (.athrow, 1) := by decide +kernel
theorem dX9_written_26 : decode cX9_written 26 = .ok (.aload_n 0, 1) := by decide +kernel
theorem dX9_written_27 : decode cX9_written 27 = .ok (.getfield 53, 3) := by decide +kernel
theorem dX9_written_30 : decode cX9_written 30 = .ok (.getfield 258, 3) := by decide +kernel
theorem dX9_written_33 : decode cX9_written 33 = .ok (.iload_n 1, 1) := by decide +kernel
theorem dX9_written_34 : decode cX9_written 34 = .ok (.caload, 1) := by decide +kernel
theorem dX9_written_35 : decode cX9_written 35 = .ok (.ireturn, 1) := by decide +kernel
theorem dX9_byteOf_0 : decode cX9_byteOf 0 = .ok (.lload_n 0, 1) := by decide +kernel
theorem dX9_byteOf_1 : decode cX9_byteOf 1 = .ok (.bipush 8, 2) := by decide +kernel
theorem dX9_byteOf_3 : decode cX9_byteOf 3 = .ok (.iload_n 2, 1) := by decide +kernel
theorem dX9_byteOf_4 : decode cX9_byteOf 4 = .ok (.imul, 1) := by decide +kernel
theorem dX9_byteOf_5 : decode cX9_byteOf 5 = .ok (.lushr, 1) := by decide +kernel
theorem dX9_byteOf_6 : decode cX9_byteOf 6 = .ok (.l2i, 1) := by decide +kernel
theorem dX9_byteOf_7 : decode cX9_byteOf 7 = .ok (.sipush 255, 3) := by decide +kernel
theorem dX9_byteOf_10 : decode cX9_byteOf 10 = .ok (.iand, 1) := by decide +kernel
theorem dX9_byteOf_11 : decode cX9_byteOf 11 = .ok (.ireturn, 1) := by decide +kernel
theorem dX9_isLong_0 : decode cX9_isLong 0 = .ok (.aload_n 0, 1) := by decide +kernel
theorem dX9_isLong_1 : decode cX9_isLong 1 = .ok (.getfield 222, 3) := by decide +kernel
theorem dX9_isLong_4 : decode cX9_isLong 4 = .ok (.invokevirtual 238, 3) := by decide +kernel
theorem dX9_isLong_7 : decode cX9_isLong 7 = .ok (.sipush 1000, 3) := by decide +kernel
theorem dX9_isLong_10 : decode cX9_isLong 10 = .ok (.if_icmp .gt 16, 3) := by decide +kernel
theorem dX9_isLong_13 : decode cX9_isLong 13 = .ok (.aload_n 0, 1) := by decide +kernel
theorem dX9_isLong_14 : decode cX9_isLong 14 = .ok (.getfield 262, 3) := by decide +kernel
theorem dX9_isLong_17 : decode cX9_isLong 17 = .ok (.invokevirtual 238, 3) := by decide +kernel
theorem dX9_isLong_20 : decode cX9_isLong 20 = .ok (.sipush 1000, 3) := by decide +kernel
theorem dX9_isLong_23 : decode cX9_isLong 23 = .ok (.if_icmp .le 7, 3) := by decide +kernel
theorem dX9_isLong_26 : decode cX9_isLong 26 = .ok (.iconst 1, 1) := by decide +kernel
theorem dX9_isLong_27 : decode cX9_isLong 27 = .ok (.goto 4, 3) := by decide +kernel
theorem dX9_isLong_30 : decode cX9_isLong 30 = .ok (.iconst 0, 1) := by decide +kernel
theorem dX9_isLong_31 : decode cX9_isLong 31 = .ok (.ireturn, 1) := by decide +kernel
theorem dX9_checkName_0 : decode cX9_checkName 0 = .ok (.iload_n 0, 1) := by decide +kernel
theorem dX9_checkName_1 : decode cX9_checkName 1 = .ok (.ifCond .lt 9, 3) := by decide +kernel
theorem dX9_checkName_4 : decode cX9_checkName 4 = .ok (.iload_n 0, 1) := by decide +kernel
theorem dX9_checkName_5 : decode cX9_checkName 5 = .ok (.bipush 8, 2) := by decide +kernel
theorem dX9_checkName_7 : decode cX9_checkName 7 = .ok (.if_icmp .lt 14, 3) := by decide +kernel
theorem dX9_checkName_10 : decode cX9_checkName 10 = .ok (.new 90, 3) := by decide +kernel
theorem dX9_checkName_13 : decode cX9_checkName 13 = .ok (.dup, 1) := by decide +kernel
theorem dX9_checkName_14 : decode cX9_checkName 14 = .ok (.ldc_w 265, 3) := by decide +kernel
theorem dX9_checkName_17 : decode cX9_checkName 17 = .ok (.invokespecial 94, 3) := by decide +kernel
theorem dX9_checkName_20 : decode cX9_checkName 20 = .ok (.athrow, 1) := by decide +kernel
theorem dX9_checkName_21 : decode cX9_checkName 21 = .ok (.return_, 1) := by decide +kernel
theorem dX9_checkVariable_0 : decode cX9_checkVariable 0 = .ok (.iload_n 0, 1) := by decide +kernel
theorem dX9_checkVariable_1 : decode cX9_checkVariable 1 = .ok (.ifCond .lt 8, 3) := by decide +kernel
theorem dX9_checkVariable_4 : decode cX9_checkVariable 4 = .ok (.iload_n 0, 1) := by decide +kernel
theorem dX9_checkVariable_5 : decode cX9_checkVariable 5 = .ok (.iconst 3, 1) := by decide +kernel
theorem dX9_checkVariable_6 : decode cX9_checkVariable 6 = .ok (.if_icmp .lt 14, 3) := by decide +kernel
theorem dX9_checkVariable_9 : decode cX9_checkVariable 9 = .ok (.new 90, 3) := by decide +kernel
theorem dX9_checkVariable_12 : decode cX9_checkVariable 12 = .ok (.dup, 1) := by decide +kernel
theorem dX9_checkVariable_13 : decode cX9_checkVariable 13 = .ok (.ldc_w 267, 3) := by decide +kernel
theorem dX9_checkVariable_16 : decode cX9_checkVariable 16 = .ok (.invokespecial 94, 3) := by decide +kernel
theorem dX9_checkVariable_19 : decode cX9_checkVariable 19 = .ok (.athrow, 1) := by decide +kernel
theorem dX9_checkVariable_20 : decode cX9_checkVariable 20 = .ok (.return_, 1) := by decide +kernel
theorem dX9_checkStep_0 : decode cX9_checkStep 0 = .ok (.iload_n 0, 1) := by decide +kernel
theorem dX9_checkStep_1 : decode cX9_checkStep 1 = .ok (.sipush (-999), 3) := by decide +kernel
theorem dX9_checkStep_4 : decode cX9_checkStep 4 = .ok (.if_icmp .lt 10, 3) := by decide +kernel
theorem dX9_checkStep_7 : decode cX9_checkStep 7 = .ok (.iload_n 0, 1) := by decide +kernel
theorem dX9_checkStep_8 : decode cX9_checkStep 8 = .ok (.sipush 999, 3) := by decide +kernel
theorem dX9_checkStep_11 : decode cX9_checkStep 11 = .ok (.if_icmp .le 14, 3) := by decide +kernel
theorem dX9_checkStep_14 : decode cX9_checkStep 14 = .ok (.new 90, 3) := by decide +kernel
theorem dX9_checkStep_17 : decode cX9_checkStep 17 = .ok (.dup, 1) := by decide +kernel
theorem dX9_checkStep_18 : decode cX9_checkStep 18 = .ok (.ldc_w 269, 3) := by decide +kernel
theorem dX9_checkStep_21 : decode cX9_checkStep 21 = .ok (.invokespecial 94, 3) := by decide +kernel
theorem dX9_checkStep_24 : decode cX9_checkStep 24 = .ok (.athrow, 1) := by decide +kernel
theorem dX9_checkStep_25 : decode cX9_checkStep 25 = .ok (.return_, 1) := by decide +kernel
theorem dX9_checkSide_0 : decode cX9_checkSide 0 = .ok (.iload_n 0, 1) := by decide +kernel
theorem dX9_checkSide_1 : decode cX9_checkSide 1 = .ok (.ifCond .lt 8, 3) := by decide +kernel
theorem dX9_checkSide_4 : decode cX9_checkSide 4 = .ok (.iload_n 0, 1) := by decide +kernel
theorem dX9_checkSide_5 : decode cX9_checkSide 5 = .ok (.iconst 1, 1) := by decide +kernel
theorem dX9_checkSide_6 : decode cX9_checkSide 6 = .ok (.if_icmp .le 14, 3) := by decide +kernel
theorem dX9_checkSide_9 : decode cX9_checkSide 9 = .ok (.new 90, 3) := by decide +kernel
theorem dX9_checkSide_12 : decode cX9_checkSide 12 = .ok (.dup, 1) := by decide +kernel
theorem dX9_checkSide_13 : decode cX9_checkSide 13 = .ok (.ldc_w 271, 3) := by decide +kernel
theorem dX9_checkSide_16 : decode cX9_checkSide 16 = .ok (.invokespecial 94, 3) := by decide +kernel
theorem dX9_checkSide_19 : decode cX9_checkSide 19 = .ok (.athrow, 1) := by decide +kernel
theorem dX9_checkSide_20 : decode cX9_checkSide 20 = .ok (.return_, 1) := by decide +kernel
theorem dX9_checkResult_0 : decode cX9_checkResult 0 = .ok (.iload_n 0, 1) := by decide +kernel
theorem dX9_checkResult_1 : decode cX9_checkResult 1 = .ok (.ifCond .lt 9, 3) := by decide +kernel
theorem dX9_checkResult_4 : decode cX9_checkResult 4 = .ok (.iload_n 0, 1) := by decide +kernel
theorem dX9_checkResult_5 : decode cX9_checkResult 5 = .ok (.bipush 8, 2) := by decide +kernel
theorem dX9_checkResult_7 : decode cX9_checkResult 7 = .ok (.if_icmp .lt 14, 3) := by decide +kernel
theorem dX9_checkResult_10 : decode cX9_checkResult 10 = .ok (.new 241, 3) := by decide +kernel
theorem dX9_checkResult_13 : decode cX9_checkResult 13 = .ok (.dup, 1) := by decide +kernel
theorem dX9_checkResult_14 : decode cX9_checkResult 14 = .ok (.ldc_w 273, 3) := by decide +kernel
theorem dX9_checkResult_17 : decode cX9_checkResult 17 = .ok (.invokespecial 245, 3) := by decide +kernel
theorem dX9_checkResult_20 : decode cX9_checkResult 20 = .ok (.athrow, 1) := by decide +kernel
theorem dX9_checkResult_21 : decode cX9_checkResult 21 = .ok (.return_, 1) := by decide +kernel
theorem dX9_checkPart_0 : decode cX9_checkPart 0 = .ok (.iload_n 1, 1) := by decide +kernel
theorem dX9_checkPart_1 : decode cX9_checkPart 1 = .ok (.ifCond .lt 14, 3) := by decide +kernel
theorem dX9_checkPart_4 : decode cX9_checkPart 4 = .ok (.iload_n 1, 1) := by decide +kernel
theorem dX9_checkPart_5 : decode cX9_checkPart 5 = .ok (.aload_n 0, 1) := by decide +kernel
theorem dX9_checkPart_6 : decode cX9_checkPart 6 = .ok (.getfield 28, 3) := by decide +kernel
theorem dX9_checkPart_9 : decode cX9_checkPart 9 = .ok (.getfield 122, 3) := by decide +kernel
theorem dX9_checkPart_12 : decode cX9_checkPart 12 = .ok (.if_icmp .lt 14, 3) := by decide +kernel
theorem dX9_checkPart_15 : decode cX9_checkPart 15 = .ok (.new 241, 3) := by decide +kernel
theorem dX9_checkPart_18 : decode cX9_checkPart 18 = .ok (.dup, 1) := by decide +kernel
theorem dX9_checkPart_19 : decode cX9_checkPart 19 = .ok (.ldc_w 275, 3) := by decide +kernel
theorem dX9_checkPart_22 : decode cX9_checkPart 22 = .ok (.invokespecial 245, 3) := by decide +kernel
theorem dX9_checkPart_25 : decode cX9_checkPart 25 = .ok (.athrow, 1) := by decide +kernel
theorem dX9_checkPart_26 : decode cX9_checkPart 26 = .ok (.return_, 1) := by decide +kernel
theorem dX9_checkKnown_0 : decode cX9_checkKnown 0 = .ok (.aload_n 0, 1) := by decide +kernel
theorem dX9_checkKnown_1 : decode cX9_checkKnown 1 = .ok (.getfield 70, 3) := by decide +kernel
theorem dX9_checkKnown_4 : decode cX9_checkKnown 4 = .ok (.iload_n 1, 1) := by decide +kernel
theorem dX9_checkKnown_5 : decode cX9_checkKnown 5 = .ok (.iaload, 1) := by decide +kernel
theorem dX9_checkKnown_6 : decode cX9_checkKnown 6 = .ok (.iconst (-1), 1) := by decide +kernel
theorem dX9_checkKnown_7 : decode cX9_checkKnown 7 = .ok (.if_icmp .ne 14, 3) := by decide +kernel
theorem dX9_checkKnown_10 : decode cX9_checkKnown 10 = .ok (.new 277, 3) := by decide +kernel
theorem dX9_checkKnown_13 : decode cX9_checkKnown 13 = .ok (.dup, 1) := by decide +kernel
theorem dX9_checkKnown_14 : decode cX9_checkKnown 14 = .ok (.ldc_w 279, 3) := by decide +kernel
theorem dX9_checkKnown_17 : decode cX9_checkKnown 17 = .ok (.invokespecial 281, 3) := by decide +kernel
theorem dX9_checkKnown_20 : decode cX9_checkKnown 20 = .ok (.athrow, 1) := by decide +kernel
theorem dX9_checkKnown_21 : decode cX9_checkKnown 21 = .ok (.return_, 1) := by decide +kernel
theorem dX9_reckonValue_0 : decode cX9_reckonValue 0 = .ok (.aload_n 0, 1) := by decide +kernel
theorem dX9_reckonValue_1 : decode cX9_reckonValue 1 = .ok (.getfield 46, 3) := by decide +kernel
theorem dX9_reckonValue_4 : decode cX9_reckonValue 4 = .ok (.aload_n 0, 1) := by decide +kernel
theorem dX9_reckonValue_5 : decode cX9_reckonValue 5 = .ok (.getfield 80, 3) := by decide +kernel
theorem dX9_reckonValue_8 : decode cX9_reckonValue 8 = .ok (.aload_n 0, 1) := by decide +kernel
theorem dX9_reckonValue_9 : decode cX9_reckonValue 9 = .ok (.getfield 83, 3) := by decide +kernel
theorem dX9_reckonValue_12 : decode cX9_reckonValue 12 = .ok (.invokevirtual 282, 3) := by decide +kernel
theorem dX9_reckonValue_15 : decode cX9_reckonValue 15 = .ok (.aload_n 0, 1) := by decide +kernel
theorem dX9_reckonValue_16 : decode cX9_reckonValue 16 = .ok (.getfield 46, 3) := by decide +kernel
theorem dX9_reckonValue_19 : decode cX9_reckonValue 19 = .ok (.iload_n 1, 1) := by decide +kernel
theorem dX9_reckonValue_20 : decode cX9_reckonValue 20 = .ok (.invokevirtual 286, 3) := by decide +kernel
theorem dX9_reckonValue_23 : decode cX9_reckonValue 23 = .ok (.aload_n 0, 1) := by decide +kernel
theorem dX9_reckonValue_24 : decode cX9_reckonValue 24 = .ok (.getfield 46, 3) := by decide +kernel
theorem dX9_reckonValue_27 : decode cX9_reckonValue 27 = .ok (.iload_n 1, 1) := by decide +kernel
theorem dX9_reckonValue_28 : decode cX9_reckonValue 28 = .ok (.aload_n 0, 1) := by decide +kernel
theorem dX9_reckonValue_29 : decode cX9_reckonValue 29 = .ok (.getfield 59, 3) := by decide +kernel
theorem dX9_reckonValue_32 : decode cX9_reckonValue 32 = .ok (.iload_n 2, 1) := by decide +kernel
theorem dX9_reckonValue_33 : decode cX9_reckonValue 33 = .ok (.aaload, 1) := by decide +kernel
theorem dX9_reckonValue_34 : decode cX9_reckonValue 34 = .ok (.invokevirtual 289, 3) := by decide +kernel
theorem dX9_reckonValue_37 : decode cX9_reckonValue 37 = .ok (.aload_n 0, 1) := by decide +kernel
theorem dX9_reckonValue_38 : decode cX9_reckonValue 38 = .ok (.getfield 10, 3) := by decide +kernel
theorem dX9_reckonValue_41 : decode cX9_reckonValue 41 = .ok (.aload_n 0, 1) := by decide +kernel
theorem dX9_reckonValue_42 : decode cX9_reckonValue 42 = .ok (.getfield 59, 3) := by decide +kernel
theorem dX9_reckonValue_45 : decode cX9_reckonValue 45 = .ok (.iload_n 2, 1) := by decide +kernel
theorem dX9_reckonValue_46 : decode cX9_reckonValue 46 = .ok (.aaload, 1) := by decide +kernel
theorem dX9_reckonValue_47 : decode cX9_reckonValue 47 = .ok (.invokevirtual 215, 3) := by decide +kernel
theorem dX9_reckonValue_50 : decode cX9_reckonValue 50 = .ok (.return_, 1) := by decide +kernel
theorem dX9_reckonSlope_0 : decode cX9_reckonSlope 0 = .ok (.aload_n 0, 1) := by decide +kernel
theorem dX9_reckonSlope_1 : decode cX9_reckonSlope 1 = .ok (.getfield 46, 3) := by decide +kernel
theorem dX9_reckonSlope_4 : decode cX9_reckonSlope 4 = .ok (.iload_n 2, 1) := by decide +kernel
theorem dX9_reckonSlope_5 : decode cX9_reckonSlope 5 = .ok (.iload_n 3, 1) := by decide +kernel
theorem dX9_reckonSlope_6 : decode cX9_reckonSlope 6 = .ok (.iload 4, 2) := by decide +kernel
theorem dX9_reckonSlope_8 : decode cX9_reckonSlope 8 = .ok (.invokevirtual 293, 3) := by decide +kernel
theorem dX9_reckonSlope_11 : decode cX9_reckonSlope 11 = .ok (.aload_n 0, 1) := by decide +kernel
theorem dX9_reckonSlope_12 : decode cX9_reckonSlope 12 = .ok (.getfield 46, 3) := by decide +kernel
theorem dX9_reckonSlope_15 : decode cX9_reckonSlope 15 = .ok (.iload_n 1, 1) := by decide +kernel
theorem dX9_reckonSlope_16 : decode cX9_reckonSlope 16 = .ok (.invokevirtual 297, 3) := by decide +kernel
theorem dX9_reckonSlope_19 : decode cX9_reckonSlope 19 = .ok (.aload_n 0, 1) := by decide +kernel
theorem dX9_reckonSlope_20 : decode cX9_reckonSlope 20 = .ok (.getfield 46, 3) := by decide +kernel
theorem dX9_reckonSlope_23 : decode cX9_reckonSlope 23 = .ok (.iload_n 1, 1) := by decide +kernel
theorem dX9_reckonSlope_24 : decode cX9_reckonSlope 24 = .ok (.aload_n 0, 1) := by decide +kernel
theorem dX9_reckonSlope_25 : decode cX9_reckonSlope 25 = .ok (.getfield 59, 3) := by decide +kernel
theorem dX9_reckonSlope_28 : decode cX9_reckonSlope 28 = .ok (.iload 5, 2) := by decide +kernel
theorem dX9_reckonSlope_30 : decode cX9_reckonSlope 30 = .ok (.aaload, 1) := by decide +kernel
theorem dX9_reckonSlope_31 : decode cX9_reckonSlope 31 = .ok (.invokevirtual 300, 3) := by decide +kernel
theorem dX9_reckonSlope_34 : decode cX9_reckonSlope 34 = .ok (.aload_n 0, 1) := by decide +kernel
theorem dX9_reckonSlope_35 : decode cX9_reckonSlope 35 = .ok (.getfield 10, 3) := by decide +kernel
theorem dX9_reckonSlope_38 : decode cX9_reckonSlope 38 = .ok (.aload_n 0, 1) := by decide +kernel
theorem dX9_reckonSlope_39 : decode cX9_reckonSlope 39 = .ok (.getfield 59, 3) := by decide +kernel
theorem dX9_reckonSlope_42 : decode cX9_reckonSlope 42 = .ok (.iload 5, 2) := by decide +kernel
theorem dX9_reckonSlope_44 : decode cX9_reckonSlope 44 = .ok (.aaload, 1) := by decide +kernel
theorem dX9_reckonSlope_45 : decode cX9_reckonSlope 45 = .ok (.invokevirtual 215, 3) := by decide +kernel
theorem dX9_reckonSlope_48 : decode cX9_reckonSlope 48 = .ok (.return_, 1) := by decide +kernel
theorem dX9_side_0 : decode cX9_side 0 = .ok (.iload_n 2, 1) := by decide +kernel
theorem dX9_side_1 : decode cX9_side 1 = .ok (.ifCond .ne 15, 3) := by decide +kernel
theorem dX9_side_4 : decode cX9_side 4 = .ok (.aload_n 0, 1) := by decide +kernel
theorem dX9_side_5 : decode cX9_side 5 = .ok (.getfield 59, 3) := by decide +kernel
theorem dX9_side_8 : decode cX9_side 8 = .ok (.iload_n 1, 1) := by decide +kernel
theorem dX9_side_9 : decode cX9_side 9 = .ok (.aaload, 1) := by decide +kernel
theorem dX9_side_10 : decode cX9_side 10 = .ok (.getfield 222, 3) := by decide +kernel
theorem dX9_side_13 : decode cX9_side 13 = .ok (.goto 12, 3) := by decide +kernel
theorem dX9_side_16 : decode cX9_side 16 = .ok (.aload_n 0, 1) := by decide +kernel
theorem dX9_side_17 : decode cX9_side 17 = .ok (.getfield 59, 3) := by decide +kernel
theorem dX9_side_20 : decode cX9_side 20 = .ok (.iload_n 1, 1) := by decide +kernel
theorem dX9_side_21 : decode cX9_side 21 = .ok (.aaload, 1) := by decide +kernel
theorem dX9_side_22 : decode cX9_side 22 = .ok (.getfield 262, 3) := by decide +kernel
theorem dX9_side_25 : decode cX9_side 25 = .ok (.areturn, 1) := by decide +kernel
