theorem dX4_init_0 : decode cX4_init 0 = .ok (.aload_n 0, 1) := by decide +kernel
theorem dX4_init_1 : decode cX4_init 1 = .ok (.invokespecial 3, 3) := by decide +kernel
theorem dX4_init_4 : decode cX4_init 4 = .ok (.aload_n 0, 1) := by decide +kernel
theorem dX4_init_5 : decode cX4_init 5 = .ok (.bipush 64, 2) := by decide +kernel
theorem dX4_init_7 : decode cX4_init 7 = .ok (.newarray .char, 2) := by decide +kernel
theorem dX4_init_9 : decode cX4_init 9 = .ok (.putfield 9, 3) := by decide +kernel
theorem dX4_init_12 : decode cX4_init 12 = .ok (.aload_n 0, 1) := by decide +kernel
theorem dX4_init_13 : decode cX4_init 13 = .ok (.sipush 128, 3) := by decide +kernel
theorem dX4_init_16 : decode cX4_init 16 = .ok (.newarray .int, 2) := by decide +kernel
theorem dX4_init_18 : decode cX4_init 18 = .ok (.putfield 15, 3) := by decide +kernel
theorem dX4_init_21 : decode cX4_init 21 = .ok (.aload_n 0, 1) := by decide +kernel
theorem dX4_init_22 : decode cX4_init 22 = .ok (.sipush 128, 3) := by decide +kernel
theorem dX4_init_25 : decode cX4_init 25 = .ok (.newarray .int, 2) := by decide +kernel
theorem dX4_init_27 : decode cX4_init 27 = .ok (.putfield 19, 3) := by decide +kernel
theorem dX4_init_30 : decode cX4_init 30 = .ok (.aload_n 0, 1) := by decide +kernel
theorem dX4_init_31 : decode cX4_init 31 = .ok (.sipush 128, 3) := by decide +kernel
theorem dX4_init_34 : decode cX4_init 34 = .ok (.newarray .int, 2) := by decide +kernel
theorem dX4_init_36 : decode cX4_init 36 = .ok (.putfield 22, 3) := by decide +kernel
theorem dX4_init_39 : decode cX4_init 39 = .ok (.aload_n 0, 1) := by decide +kernel
theorem dX4_init_40 : decode cX4_init 40 = .ok (.sipush 128, 3) := by decide +kernel
theorem dX4_init_43 : decode cX4_init 43 = .ok (.newarray .int, 2) := by decide +kernel
theorem dX4_init_45 : decode cX4_init 45 = .ok (.putfield 25, 3) := by decide +kernel
theorem dX4_init_48 : decode cX4_init 48 = .ok (.aload_n 0, 1) := by decide +kernel
theorem dX4_init_49 : decode cX4_init 49 = .ok (.aload_n 1, 1) := by decide +kernel
theorem dX4_init_50 : decode cX4_init 50 = .ok (.putfield 28, 3) := by decide +kernel
theorem dX4_init_53 : decode cX4_init 53 = .ok (.aload_n 0, 1) := by decide +kernel
theorem dX4_init_54 : decode cX4_init 54 = .ok (.aload_n 2, 1) := by decide +kernel
theorem dX4_init_55 : decode cX4_init 55 = .ok (.putfield 32, 3) := by decide +kernel
theorem dX4_init_58 : decode cX4_init 58 = .ok (.return_, 1) := by decide +kernel
theorem dX4_arrange_0 : decode cX4_arrange 0 = .ok (.aload_n 0, 1) := by decide +kernel
theorem dX4_arrange_1 : decode cX4_arrange 1 = .ok (.iconst 0, 1) := by decide +kernel
theorem dX4_arrange_2 : decode cX4_arrange 2 = .ok (.putfield 36, 3) := by decide +kernel
theorem dX4_arrange_5 : decode cX4_arrange 5 = .ok (.aload_n 0, 1) := by decide +kernel
theorem dX4_arrange_6 : decode cX4_arrange 6 = .ok (.iconst 0, 1) := by decide +kernel
theorem dX4_arrange_7 : decode cX4_arrange 7 = .ok (.putfield 40, 3) := by decide +kernel
theorem dX4_arrange_10 : decode cX4_arrange 10 = .ok (.aload_n 0, 1) := by decide +kernel
theorem dX4_arrange_11 : decode cX4_arrange 11 = .ok (.iconst 0, 1) := by decide +kernel
theorem dX4_arrange_12 : decode cX4_arrange 12 = .ok (.putfield 43, 3) := by decide +kernel
theorem dX4_arrange_15 : decode cX4_arrange 15 = .ok (.iconst 1, 1) := by decide +kernel
theorem dX4_arrange_16 : decode cX4_arrange 16 = .ok (.istore_n 2, 1) := by decide +kernel
theorem dX4_arrange_17 : decode cX4_arrange 17 = .ok (.iconst 1, 1) := by decide +kernel
theorem dX4_arrange_18 : decode cX4_arrange 18 = .ok (.istore_n 3, 1) := by decide +kernel
theorem dX4_arrange_19 : decode cX4_arrange 19 = .ok (.iconst 0, 1) := by decide +kernel
theorem dX4_arrange_20 : decode cX4_arrange 20 = .ok (.istore 4, 2) := by decide +kernel
theorem dX4_arrange_22 : decode cX4_arrange 22 = .ok (.iload 4, 2) := by decide +kernel
theorem dX4_arrange_24 : decode cX4_arrange 24 = .ok (.bipush 64, 2) := by decide +kernel
theorem dX4_arrange_26 : decode cX4_arrange 26 = .ok (.if_icmp .ge 153, 3) := by decide +kernel
theorem dX4_arrange_29 : decode cX4_arrange 29 = .ok (.aload_n 0, 1) := by decide +kernel
theorem dX4_arrange_30 : decode cX4_arrange 30 = .ok (.getfield 43, 3) := by decide +kernel
theorem dX4_arrange_33 : decode cX4_arrange 33 = .ok (.aload_n 0, 1) := by decide +kernel
theorem dX4_arrange_34 : decode cX4_arrange 34 = .ok (.getfield 28, 3) := by decide +kernel
theorem dX4_arrange_37 : decode cX4_arrange 37 = .ok (.getfield 46, 3) := by decide +kernel
theorem dX4_arrange_40 : decode cX4_arrange 40 = .ok (.if_icmp .ge 139, 3) := by decide +kernel
theorem dX4_arrange_43 : decode cX4_arrange 43 = .ok (.aload_n 0, 1) := by decide +kernel
theorem dX4_arrange_44 : decode cX4_arrange 44 = .ok (.getfield 28, 3) := by decide +kernel
theorem dX4_arrange_47 : decode cX4_arrange 47 = .ok (.aload_n 0, 1) := by decide +kernel
theorem dX4_arrange_48 : decode cX4_arrange 48 = .ok (.getfield 43, 3) := by decide +kernel
theorem dX4_arrange_51 : decode cX4_arrange 51 = .ok (.invokevirtual 51, 3) := by decide +kernel
theorem dX4_arrange_54 : decode cX4_arrange 54 = .ok (.istore 5, 2) := by decide +kernel
theorem dX4_arrange_56 : decode cX4_arrange 56 = .ok (.iload 5, 2) := by decide +kernel
theorem dX4_arrange_58 : decode cX4_arrange 58 = .ok (.bipush 40, 2) := by decide +kernel
theorem dX4_arrange_60 : decode cX4_arrange 60 = .ok (.if_icmp .ne 12, 3) := by decide +kernel
theorem dX4_arrange_63 : decode cX4_arrange 63 = .ok (.aload_n 0, 1) := by decide +kernel
theorem dX4_arrange_64 : decode cX4_arrange 64 = .ok (.iload 5, 2) := by decide +kernel
theorem dX4_arrange_66 : decode cX4_arrange 66 = .ok (.invokevirtual 55, 3) := by decide +kernel
theorem dX4_arrange_69 : decode cX4_arrange 69 = .ok (.goto 104, 3) := by decide +kernel
theorem dX4_arrange_72 : decode cX4_arrange 72 = .ok (.iload 5, 2) := by decide +kernel
theorem dX4_arrange_74 : decode cX4_arrange 74 = .ok (.bipush 45, 2) := by decide +kernel
theorem dX4_arrange_76 : decode cX4_arrange 76 = .ok (.if_icmp .ne 16, 3) := by decide +kernel
theorem dX4_arrange_79 : decode cX4_arrange 79 = .ok (.iload_n 2, 1) := by decide +kernel
theorem dX4_arrange_80 : decode cX4_arrange 80 = .ok (.ifCond .eq 12, 3) := by decide +kernel
theorem dX4_arrange_83 : decode cX4_arrange 83 = .ok (.aload_n 0, 1) := by decide +kernel
theorem dX4_arrange_84 : decode cX4_arrange 84 = .ok (.bipush 126, 2) := by decide +kernel
theorem dX4_arrange_86 : decode cX4_arrange 86 = .ok (.invokevirtual 55, 3) := by decide +kernel
theorem dX4_arrange_89 : decode cX4_arrange 89 = .ok (.goto 84, 3) := by decide +kernel
theorem dX4_arrange_92 : decode cX4_arrange 92 = .ok (.iload 5, 2) := by decide +kernel
theorem dX4_arrange_94 : decode cX4_arrange 94 = .ok (.bipush 43, 2) := by decide +kernel
theorem dX4_arrange_96 : decode cX4_arrange 96 = .ok (.if_icmp .eq 17, 3) := by decide +kernel
theorem dX4_arrange_99 : decode cX4_arrange 99 = .ok (.iload 5, 2) := by decide +kernel
theorem dX4_arrange_101 : decode cX4_arrange 101 = .ok (.bipush 45, 2) := by decide +kernel
theorem dX4_arrange_103 : decode cX4_arrange 103 = .ok (.if_icmp .eq 10, 3) := by decide +kernel
theorem dX4_arrange_106 : decode cX4_arrange 106 = .ok (.iload 5, 2) := by decide +kernel
theorem dX4_arrange_108 : decode cX4_arrange 108 = .ok (.bipush 42, 2) := by decide +kernel
theorem dX4_arrange_110 : decode cX4_arrange 110 = .ok (.if_icmp .ne 23, 3) := by decide +kernel
theorem dX4_arrange_113 : decode cX4_arrange 113 = .ok (.aload_n 0, 1) := by decide +kernel
theorem dX4_arrange_114 : decode cX4_arrange 114 = .ok (.iload 5, 2) := by decide +kernel
theorem dX4_arrange_116 : decode cX4_arrange 116 = .ok (.invokestatic 59, 3) := by decide +kernel
theorem dX4_arrange_119 : decode cX4_arrange 119 = .ok (.invokevirtual 63, 3) := by decide +kernel
theorem dX4_arrange_122 : decode cX4_arrange 122 = .ok (.aload_n 0, 1) := by decide +kernel
theorem dX4_arrange_123 : decode cX4_arrange 123 = .ok (.iload 5, 2) := by decide +kernel
theorem dX4_arrange_125 : decode cX4_arrange 125 = .ok (.invokevirtual 55, 3) := by decide +kernel
theorem dX4_arrange_128 : decode cX4_arrange 128 = .ok (.iconst 1, 1) := by decide +kernel
theorem dX4_arrange_129 : decode cX4_arrange 129 = .ok (.istore_n 2, 1) := by decide +kernel
theorem dX4_arrange_130 : decode cX4_arrange 130 = .ok (.goto 43, 3) := by decide +kernel
theorem dX4_arrange_133 : decode cX4_arrange 133 = .ok (.iload_n 3, 1) := by decide +kernel
theorem dX4_arrange_134 : decode cX4_arrange 134 = .ok (.iload 5, 2) := by decide +kernel
theorem dX4_arrange_136 : decode cX4_arrange 136 = .ok (.invokestatic 67, 3) := by decide +kernel
theorem dX4_arrange_139 : decode cX4_arrange 139 = .ok (.ifCond .eq 14, 3) := by decide +kernel
theorem dX4_arrange_142 : decode cX4_arrange 142 = .ok (.aload_n 1, 1) := by decide +kernel
theorem dX4_arrange_143 : decode cX4_arrange 143 = .ok (.iload 5, 2) := by decide +kernel
theorem dX4_arrange_145 : decode cX4_arrange 145 = .ok (.bipush 65, 2) := by decide +kernel
theorem dX4_arrange_147 : decode cX4_arrange 147 = .ok (.isub, 1) := by decide +kernel
theorem dX4_arrange_148 : decode cX4_arrange 148 = .ok (.iaload, 1) := by decide +kernel
theorem dX4_arrange_149 : decode cX4_arrange 149 = .ok (.iconst (-1), 1) := by decide +kernel
theorem dX4_arrange_150 : decode cX4_arrange 150 = .ok (.if_icmp .eq 7, 3) := by decide +kernel
theorem dX4_arrange_153 : decode cX4_arrange 153 = .ok (.iconst 1, 1) := by decide +kernel
theorem dX4_arrange_154 : decode cX4_arrange 154 = .ok (.goto 4, 3) := by decide +kernel
theorem dX4_arrange_157 : decode cX4_arrange 157 = .ok (.iconst 0, 1) := by decide +kernel
theorem dX4_arrange_158 : decode cX4_arrange 158 = .ok (.iand, 1) := by decide +kernel
theorem dX4_arrange_159 : decode cX4_arrange 159 = .ok (.istore_n 3, 1) := by decide +kernel
theorem dX4_arrange_160 : decode cX4_arrange 160 = .ok (.aload_n 0, 1) := by decide +kernel
theorem dX4_arrange_161 : decode cX4_arrange 161 = .ok (.iload 5, 2) := by decide +kernel
theorem dX4_arrange_163 : decode cX4_arrange 163 = .ok (.aload_n 1, 1) := by decide +kernel
theorem dX4_arrange_164 : decode cX4_arrange 164 = .ok (.invokevirtual 71, 3) := by decide +kernel
theorem dX4_arrange_167 : decode cX4_arrange 167 = .ok (.aload_n 0, 1) := by decide +kernel
theorem dX4_arrange_168 : decode cX4_arrange 168 = .ok (.invokevirtual 75, 3) := by decide +kernel
theorem dX4_arrange_171 : decode cX4_arrange 171 = .ok (.iconst 0, 1) := by decide +kernel
theorem dX4_arrange_172 : decode cX4_arrange 172 = .ok (.istore_n 2, 1) := by decide +kernel
theorem dX4_arrange_173 : decode cX4_arrange 173 = .ok (.iinc 4 1, 3) := by decide +kernel
theorem dX4_arrange_176 : decode cX4_arrange 176 = .ok (.goto (-154), 3) := by decide +kernel
theorem dX4_arrange_179 : decode cX4_arrange 179 = .ok (.aload_n 0, 1) := by decide +kernel
theorem dX4_arrange_180 : decode cX4_arrange 180 = .ok (.iconst 1, 1) := by decide +kernel
theorem dX4_arrange_181 : decode cX4_arrange 181 = .ok (.invokevirtual 63, 3) := by decide +kernel
theorem dX4_arrange_184 : decode cX4_arrange 184 = .ok (.iload_n 3, 1) := by decide +kernel
theorem dX4_arrange_185 : decode cX4_arrange 185 = .ok (.ireturn, 1) := by decide +kernel
theorem dX4_make_0 : decode cX4_make 0 = .ok (.iconst 0, 1) := by decide +kernel
theorem dX4_make_1 : decode cX4_make 1 = .ok (.istore_n 1, 1) := by decide +kernel
theorem dX4_make_2 : decode cX4_make 2 = .ok (.iconst 0, 1) := by decide +kernel
theorem dX4_make_3 : decode cX4_make 3 = .ok (.istore_n 2, 1) := by decide +kernel
theorem dX4_make_4 : decode cX4_make 4 = .ok (.iload_n 2, 1) := by decide +kernel
theorem dX4_make_5 : decode cX4_make 5 = .ok (.aload_n 0, 1) := by decide +kernel
theorem dX4_make_6 : decode cX4_make 6 = .ok (.getfield 40, 3) := by decide +kernel
theorem dX4_make_9 : decode cX4_make 9 = .ok (.if_icmp .ge 232, 3) := by decide +kernel
theorem dX4_make_12 : decode cX4_make 12 = .ok (.iload_n 1, 1) := by decide +kernel
theorem dX4_make_13 : decode cX4_make 13 = .ok (.aload_n 0, 1) := by decide +kernel
theorem dX4_make_14 : decode cX4_make 14 = .ok (.getfield 15, 3) := by decide +kernel
theorem dX4_make_17 : decode cX4_make 17 = .ok (.iload_n 2, 1) := by decide +kernel
theorem dX4_make_18 : decode cX4_make 18 = .ok (.iaload, 1) := by decide +kernel
theorem dX4_make_19 : decode cX4_make 19 = .ok (.invokestatic 78, 3) := by decide +kernel
theorem dX4_make_22 : decode cX4_make 22 = .ok (.iadd, 1) := by decide +kernel
theorem dX4_make_23 : decode cX4_make 23 = .ok (.istore_n 1, 1) := by decide +kernel
theorem dX4_make_24 : decode cX4_make 24 = .ok (.iload_n 1, 1) := by decide +kernel
theorem dX4_make_25 : decode cX4_make 25 = .ok (.iconst 1, 1) := by decide +kernel
theorem dX4_make_26 : decode cX4_make 26 = .ok (.if_icmp .ge 5, 3) := by decide +kernel
theorem dX4_make_29 : decode cX4_make 29 = .ok (.iconst (-1), 1) := by decide +kernel
theorem dX4_make_30 : decode cX4_make 30 = .ok (.ireturn, 1) := by decide +kernel
theorem dX4_make_31 : decode cX4_make 31 = .ok (.iload_n 1, 1) := by decide +kernel
theorem dX4_make_32 : decode cX4_make 32 = .ok (.iconst 1, 1) := by decide +kernel
theorem dX4_make_33 : decode cX4_make 33 = .ok (.isub, 1) := by decide +kernel
theorem dX4_make_34 : decode cX4_make 34 = .ok (.istore 4, 2) := by decide +kernel
theorem dX4_make_36 : decode cX4_make 36 = .ok (.aload_n 0, 1) := by decide +kernel
theorem dX4_make_37 : decode cX4_make 37 = .ok (.getfield 15, 3) := by decide +kernel
theorem dX4_make_40 : decode cX4_make 40 = .ok (.iload_n 2, 1) := by decide +kernel
theorem dX4_make_41 : decode cX4_make 41 = .ok (.iaload, 1) := by decide +kernel
theorem dX4_make_42 : decode cX4_make 42 = .ok (.tableswitch 158 0 6 #[42, 65, 134, 158, 110, 82, 92], 42) := by decide +kernel
theorem dX4_make_84 : decode cX4_make 84 = .ok (.aload_n 0, 1) := by decide +kernel
theorem dX4_make_85 : decode cX4_make 85 = .ok (.getfield 32, 3) := by decide +kernel
theorem dX4_make_88 : decode cX4_make 88 = .ok (.aload_n 0, 1) := by decide +kernel
theorem dX4_make_89 : decode cX4_make 89 = .ok (.getfield 19, 3) := by decide +kernel
theorem dX4_make_92 : decode cX4_make 92 = .ok (.iload_n 2, 1) := by decide +kernel
theorem dX4_make_93 : decode cX4_make 93 = .ok (.iaload, 1) := by decide +kernel
theorem dX4_make_94 : decode cX4_make 94 = .ok (.aload_n 0, 1) := by decide +kernel
theorem dX4_make_95 : decode cX4_make 95 = .ok (.getfield 22, 3) := by decide +kernel
theorem dX4_make_98 : decode cX4_make 98 = .ok (.iload_n 2, 1) := by decide +kernel
theorem dX4_make_99 : decode cX4_make 99 = .ok (.iaload, 1) := by decide +kernel
theorem dX4_make_100 : decode cX4_make 100 = .ok (.invokevirtual 82, 3) := by decide +kernel
theorem dX4_make_103 : decode cX4_make 103 = .ok (.istore_n 3, 1) := by decide +kernel
theorem dX4_make_104 : decode cX4_make 104 = .ok (.goto 117, 3) := by decide +kernel
theorem dX4_make_107 : decode cX4_make 107 = .ok (.aload_n 0, 1) := by decide +kernel
theorem dX4_make_108 : decode cX4_make 108 = .ok (.getfield 32, 3) := by decide +kernel
theorem dX4_make_111 : decode cX4_make 111 = .ok (.aload_n 0, 1) := by decide +kernel
theorem dX4_make_112 : decode cX4_make 112 = .ok (.getfield 19, 3) := by decide +kernel
theorem dX4_make_115 : decode cX4_make 115 = .ok (.iload_n 2, 1) := by decide +kernel
theorem dX4_make_116 : decode cX4_make 116 = .ok (.iaload, 1) := by decide +kernel
theorem dX4_make_117 : decode cX4_make 117 = .ok (.invokevirtual 88, 3) := by decide +kernel
theorem dX4_make_120 : decode cX4_make 120 = .ok (.istore_n 3, 1) := by decide +kernel
theorem dX4_make_121 : decode cX4_make 121 = .ok (.goto 100, 3) := by decide +kernel
theorem dX4_make_124 : decode cX4_make 124 = .ok (.aload_n 0, 1) := by decide +kernel
theorem dX4_make_125 : decode cX4_make 125 = .ok (.getfield 19, 3) := by decide +kernel
theorem dX4_make_128 : decode cX4_make 128 = .ok (.iload_n 2, 1) := by decide +kernel
theorem dX4_make_129 : decode cX4_make 129 = .ok (.iaload, 1) := by decide +kernel
theorem dX4_make_130 : decode cX4_make 130 = .ok (.istore_n 3, 1) := by decide +kernel
theorem dX4_make_131 : decode cX4_make 131 = .ok (.goto 90, 3) := by decide +kernel
theorem dX4_make_134 : decode cX4_make 134 = .ok (.aload_n 0, 1) := by decide +kernel
theorem dX4_make_135 : decode cX4_make 135 = .ok (.getfield 32, 3) := by decide +kernel
theorem dX4_make_138 : decode cX4_make 138 = .ok (.aload_n 0, 1) := by decide +kernel
theorem dX4_make_139 : decode cX4_make 139 = .ok (.getfield 25, 3) := by decide +kernel
theorem dX4_make_142 : decode cX4_make 142 = .ok (.iload 4, 2) := by decide +kernel
theorem dX4_make_144 : decode cX4_make 144 = .ok (.iaload, 1) := by decide +kernel
theorem dX4_make_145 : decode cX4_make 145 = .ok (.invokevirtual 91, 3) := by decide +kernel
theorem dX4_make_148 : decode cX4_make 148 = .ok (.istore_n 3, 1) := by decide +kernel
theorem dX4_make_149 : decode cX4_make 149 = .ok (.goto 72, 3) := by decide +kernel
theorem dX4_make_152 : decode cX4_make 152 = .ok (.aload_n 0, 1) := by decide +kernel
theorem dX4_make_153 : decode cX4_make 153 = .ok (.getfield 32, 3) := by decide +kernel
theorem dX4_make_156 : decode cX4_make 156 = .ok (.aload_n 0, 1) := by decide +kernel
theorem dX4_make_157 : decode cX4_make 157 = .ok (.getfield 25, 3) := by decide +kernel
theorem dX4_make_160 : decode cX4_make 160 = .ok (.iload 4, 2) := by decide +kernel
theorem dX4_make_162 : decode cX4_make 162 = .ok (.iaload, 1) := by decide +kernel
theorem dX4_make_163 : decode cX4_make 163 = .ok (.aload_n 0, 1) := by decide +kernel
theorem dX4_make_164 : decode cX4_make 164 = .ok (.getfield 19, 3) := by decide +kernel
theorem dX4_make_167 : decode cX4_make 167 = .ok (.iload_n 2, 1) := by decide +kernel
theorem dX4_make_168 : decode cX4_make 168 = .ok (.iaload, 1) := by decide +kernel
theorem dX4_make_169 : decode cX4_make 169 = .ok (.invokevirtual 94, 3) := by decide +kernel
theorem dX4_make_172 : decode cX4_make 172 = .ok (.istore_n 3, 1) := by decide +kernel
theorem dX4_make_173 : decode cX4_make 173 = .ok (.goto 48, 3) := by decide +kernel
theorem dX4_make_176 : decode cX4_make 176 = .ok (.aload_n 0, 1) := by decide +kernel
theorem dX4_make_177 : decode cX4_make 177 = .ok (.getfield 32, 3) := by decide +kernel
theorem dX4_make_180 : decode cX4_make 180 = .ok (.aload_n 0, 1) := by decide +kernel
theorem dX4_make_181 : decode cX4_make 181 = .ok (.getfield 25, 3) := by decide +kernel
theorem dX4_make_184 : decode cX4_make 184 = .ok (.iload 4, 2) := by decide +kernel
theorem dX4_make_186 : decode cX4_make 186 = .ok (.iaload, 1) := by decide +kernel
theorem dX4_make_187 : decode cX4_make 187 = .ok (.aload_n 0, 1) := by decide +kernel
theorem dX4_make_188 : decode cX4_make 188 = .ok (.getfield 25, 3) := by decide +kernel
theorem dX4_make_191 : decode cX4_make 191 = .ok (.iload_n 1, 1) := by decide +kernel
theorem dX4_make_192 : decode cX4_make 192 = .ok (.iaload, 1) := by decide +kernel
theorem dX4_make_193 : decode cX4_make 193 = .ok (.invokevirtual 97, 3) := by decide +kernel
theorem dX4_make_196 : decode cX4_make 196 = .ok (.istore_n 3, 1) := by decide +kernel
theorem dX4_make_197 : decode cX4_make 197 = .ok (.goto 24, 3) := by decide +kernel
theorem dX4_make_200 : decode cX4_make 200 = .ok (.aload_n 0, 1) := by decide +kernel
theorem dX4_make_201 : decode cX4_make 201 = .ok (.getfield 32, 3) := by decide +kernel
theorem dX4_make_204 : decode cX4_make 204 = .ok (.aload_n 0, 1) := by decide +kernel
theorem dX4_make_205 : decode cX4_make 205 = .ok (.getfield 25, 3) := by decide +kernel
theorem dX4_make_208 : decode cX4_make 208 = .ok (.iload 4, 2) := by decide +kernel
theorem dX4_make_210 : decode cX4_make 210 = .ok (.iaload, 1) := by decide +kernel
theorem dX4_make_211 : decode cX4_make 211 = .ok (.aload_n 0, 1) := by decide +kernel
theorem dX4_make_212 : decode cX4_make 212 = .ok (.getfield 25, 3) := by decide +kernel
theorem dX4_make_215 : decode cX4_make 215 = .ok (.iload_n 1, 1) := by decide +kernel
theorem dX4_make_216 : decode cX4_make 216 = .ok (.iaload, 1) := by decide +kernel
theorem dX4_make_217 : decode cX4_make 217 = .ok (.invokevirtual 100, 3) := by decide +kernel
theorem dX4_make_220 : decode cX4_make 220 = .ok (.istore_n 3, 1) := by decide +kernel
theorem dX4_make_221 : decode cX4_make 221 = .ok (.iload_n 3, 1) := by decide +kernel
theorem dX4_make_222 : decode cX4_make 222 = .ok (.ifCond .ge 5, 3) := by decide +kernel
theorem dX4_make_225 : decode cX4_make 225 = .ok (.iload_n 3, 1) := by decide +kernel
theorem dX4_make_226 : decode cX4_make 226 = .ok (.ireturn, 1) := by decide +kernel
theorem dX4_make_227 : decode cX4_make 227 = .ok (.aload_n 0, 1) := by decide +kernel
theorem dX4_make_228 : decode cX4_make 228 = .ok (.getfield 25, 3) := by decide +kernel
theorem dX4_make_231 : decode cX4_make 231 = .ok (.iload 4, 2) := by decide +kernel
theorem dX4_make_233 : decode cX4_make 233 = .ok (.iload_n 3, 1) := by decide +kernel
theorem dX4_make_234 : decode cX4_make 234 = .ok (.iastore, 1) := by decide +kernel
theorem dX4_make_235 : decode cX4_make 235 = .ok (.iinc 2 1, 3) := by decide +kernel
theorem dX4_make_238 : decode cX4_make 238 = .ok (.goto (-234), 3) := by decide +kernel
theorem dX4_make_241 : decode cX4_make 241 = .ok (.iload_n 1, 1) := by decide +kernel
theorem dX4_make_242 : decode cX4_make 242 = .ok (.iconst 1, 1) := by decide +kernel
theorem dX4_make_243 : decode cX4_make 243 = .ok (.if_icmp .ne 12, 3) := by decide +kernel
theorem dX4_make_246 : decode cX4_make 246 = .ok (.aload_n 0, 1) := by decide +kernel
theorem dX4_make_247 : decode cX4_make 247 = .ok (.getfield 25, 3) := by decide +kernel
theorem dX4_make_250 : decode cX4_make 250 = .ok (.iconst 0, 1) := by decide +kernel
theorem dX4_make_251 : decode cX4_make 251 = .ok (.iaload, 1) := by decide +kernel
theorem dX4_make_252 : decode cX4_make 252 = .ok (.goto 4, 3) := by decide +kernel
theorem dX4_make_255 : decode cX4_make 255 = .ok (.iconst (-1), 1) := by decide +kernel
theorem dX4_make_256 : decode cX4_make 256 = .ok (.ireturn, 1) := by decide +kernel
theorem dX4_growthBy_0 : decode cX4_growthBy 0 = .ok (.iload_n 0, 1) := by decide +kernel
theorem dX4_growthBy_1 : decode cX4_growthBy 1 = .ok (.iconst 2, 1) := by decide +kernel
theorem dX4_growthBy_2 : decode cX4_growthBy 2 = .ok (.if_icmp .eq 8, 3) := by decide +kernel
theorem dX4_growthBy_5 : decode cX4_growthBy 5 = .ok (.iload_n 0, 1) := by decide +kernel
theorem dX4_growthBy_6 : decode cX4_growthBy 6 = .ok (.iconst 3, 1) := by decide +kernel
theorem dX4_growthBy_7 : decode cX4_growthBy 7 = .ok (.if_icmp .ne 5, 3) := by decide +kernel
theorem dX4_growthBy_10 : decode cX4_growthBy 10 = .ok (.iconst (-1), 1) := by decide +kernel
theorem dX4_growthBy_11 : decode cX4_growthBy 11 = .ok (.ireturn, 1) := by decide +kernel
theorem dX4_growthBy_12 : decode cX4_growthBy 12 = .ok (.iload_n 0, 1) := by decide +kernel
theorem dX4_growthBy_13 : decode cX4_growthBy 13 = .ok (.iconst 4, 1) := by decide +kernel
theorem dX4_growthBy_14 : decode cX4_growthBy 14 = .ok (.if_icmp .eq 9, 3) := by decide +kernel
theorem dX4_growthBy_17 : decode cX4_growthBy 17 = .ok (.iload_n 0, 1) := by decide +kernel
theorem dX4_growthBy_18 : decode cX4_growthBy 18 = .ok (.bipush 6, 2) := by decide +kernel
theorem dX4_growthBy_20 : decode cX4_growthBy 20 = .ok (.if_icmp .ne 7, 3) := by decide +kernel
theorem dX4_growthBy_23 : decode cX4_growthBy 23 = .ok (.iconst 0, 1) := by decide +kernel
theorem dX4_growthBy_24 : decode cX4_growthBy 24 = .ok (.goto 4, 3) := by decide +kernel
theorem dX4_growthBy_27 : decode cX4_growthBy 27 = .ok (.iconst 1, 1) := by decide +kernel
theorem dX4_growthBy_28 : decode cX4_growthBy 28 = .ok (.ireturn, 1) := by decide +kernel
theorem dX4_levelOf_0 : decode cX4_levelOf 0 = .ok (.iload_n 0, 1) := by decide +kernel
theorem dX4_levelOf_1 : decode cX4_levelOf 1 = .ok (.bipush 126, 2) := by decide +kernel
theorem dX4_levelOf_3 : decode cX4_levelOf 3 = .ok (.if_icmp .ne 5, 3) := by decide +kernel
theorem dX4_levelOf_6 : decode cX4_levelOf 6 = .ok (.iconst 3, 1) := by decide +kernel
theorem dX4_levelOf_7 : decode cX4_levelOf 7 = .ok (.ireturn, 1) := by decide +kernel
theorem dX4_levelOf_8 : decode cX4_levelOf 8 = .ok (.iload_n 0, 1) := by decide +kernel
theorem dX4_levelOf_9 : decode cX4_levelOf 9 = .ok (.bipush 42, 2) := by decide +kernel
theorem dX4_levelOf_11 : decode cX4_levelOf 11 = .ok (.if_icmp .ne 5, 3) := by decide +kernel
theorem dX4_levelOf_14 : decode cX4_levelOf 14 = .ok (.iconst 2, 1) := by decide +kernel
theorem dX4_levelOf_15 : decode cX4_levelOf 15 = .ok (.ireturn, 1) := by decide +kernel
theorem dX4_levelOf_16 : decode cX4_levelOf 16 = .ok (.iload_n 0, 1) := by decide +kernel
theorem dX4_levelOf_17 : decode cX4_levelOf 17 = .ok (.bipush 40, 2) := by decide +kernel
theorem dX4_levelOf_19 : decode cX4_levelOf 19 = .ok (.if_icmp .ne 7, 3) := by decide +kernel
theorem dX4_levelOf_22 : decode cX4_levelOf 22 = .ok (.iconst 0, 1) := by decide +kernel
theorem dX4_levelOf_23 : decode cX4_levelOf 23 = .ok (.goto 4, 3) := by decide +kernel
theorem dX4_levelOf_26 : decode cX4_levelOf 26 = .ok (.iconst 1, 1) := by decide +kernel
theorem dX4_levelOf_27 : decode cX4_levelOf 27 = .ok (.ireturn, 1) := by decide +kernel
theorem dX4_open_0 : decode cX4_open 0 = .ok (.aload_n 0, 1) := by decide +kernel
theorem dX4_open_1 : decode cX4_open 1 = .ok (.getfield 36, 3) := by decide +kernel
theorem dX4_open_4 : decode cX4_open 4 = .ok (.bipush 64, 2) := by decide +kernel
theorem dX4_open_6 : decode cX4_open 6 = .ok (.if_icmp .ge 23, 3) := by decide +kernel
theorem dX4_open_9 : decode cX4_open 9 = .ok (.aload_n 0, 1) := by decide +kernel
theorem dX4_open_10 : decode cX4_open 10 = .ok (.getfield 9, 3) := by decide +kernel
theorem dX4_open_13 : decode cX4_open 13 = .ok (.aload_n 0, 1) := by decide +kernel
theorem dX4_open_14 : decode cX4_open 14 = .ok (.getfield 36, 3) := by decide +kernel
theorem dX4_open_17 : decode cX4_open 17 = .ok (.iload_n 1, 1) := by decide +kernel
theorem dX4_open_18 : decode cX4_open 18 = .ok (.castore, 1) := by decide +kernel
theorem dX4_open_19 : decode cX4_open 19 = .ok (.aload_n 0, 1) := by decide +kernel
theorem dX4_open_20 : decode cX4_open 20 = .ok (.dup, 1) := by decide +kernel
theorem dX4_open_21 : decode cX4_open 21 = .ok (.getfield 36, 3) := by decide +kernel
theorem dX4_open_24 : decode cX4_open 24 = .ok (.iconst 1, 1) := by decide +kernel
theorem dX4_open_25 : decode cX4_open 25 = .ok (.iadd, 1) := by decide +kernel
theorem dX4_open_26 : decode cX4_open 26 = .ok (.putfield 36, 3) := by decide +kernel
theorem dX4_open_29 : decode cX4_open 29 = .ok (.aload_n 0, 1) := by decide +kernel
theorem dX4_open_30 : decode cX4_open 30 = .ok (.dup, 1) := by decide +kernel
theorem dX4_open_31 : decode cX4_open 31 = .ok (.getfield 43, 3) := by decide +kernel
theorem dX4_open_34 : decode cX4_open 34 = .ok (.iconst 1, 1) := by decide +kernel
theorem dX4_open_35 : decode cX4_open 35 = .ok (.iadd, 1) := by decide +kernel
theorem dX4_open_36 : decode cX4_open 36 = .ok (.putfield 43, 3) := by decide +kernel
theorem dX4_open_39 : decode cX4_open 39 = .ok (.return_, 1) := by decide +kernel
theorem dX4_addStep_0 : decode cX4_addStep 0 = .ok (.aload_n 0, 1) := by decide +kernel
theorem dX4_addStep_1 : decode cX4_addStep 1 = .ok (.getfield 40, 3) := by decide +kernel
theorem dX4_addStep_4 : decode cX4_addStep 4 = .ok (.sipush 128, 3) := by decide +kernel
theorem dX4_addStep_7 : decode cX4_addStep 7 = .ok (.if_icmp .ge 43, 3) := by decide +kernel
theorem dX4_addStep_10 : decode cX4_addStep 10 = .ok (.aload_n 0, 1) := by decide +kernel
theorem dX4_addStep_11 : decode cX4_addStep 11 = .ok (.getfield 15, 3) := by decide +kernel
theorem dX4_addStep_14 : decode cX4_addStep 14 = .ok (.aload_n 0, 1) := by decide +kernel
theorem dX4_addStep_15 : decode cX4_addStep 15 = .ok (.getfield 40, 3) := by decide +kernel
theorem dX4_addStep_18 : decode cX4_addStep 18 = .ok (.iload_n 1, 1) := by decide +kernel
theorem dX4_addStep_19 : decode cX4_addStep 19 = .ok (.iastore, 1) := by decide +kernel
theorem dX4_addStep_20 : decode cX4_addStep 20 = .ok (.aload_n 0, 1) := by decide +kernel
theorem dX4_addStep_21 : decode cX4_addStep 21 = .ok (.getfield 19, 3) := by decide +kernel
theorem dX4_addStep_24 : decode cX4_addStep 24 = .ok (.aload_n 0, 1) := by decide +kernel
theorem dX4_addStep_25 : decode cX4_addStep 25 = .ok (.getfield 40, 3) := by decide +kernel
theorem dX4_addStep_28 : decode cX4_addStep 28 = .ok (.iload_n 2, 1) := by decide +kernel
theorem dX4_addStep_29 : decode cX4_addStep 29 = .ok (.iastore, 1) := by decide +kernel
theorem dX4_addStep_30 : decode cX4_addStep 30 = .ok (.aload_n 0, 1) := by decide +kernel
theorem dX4_addStep_31 : decode cX4_addStep 31 = .ok (.getfield 22, 3) := by decide +kernel
theorem dX4_addStep_34 : decode cX4_addStep 34 = .ok (.aload_n 0, 1) := by decide +kernel
theorem dX4_addStep_35 : decode cX4_addStep 35 = .ok (.getfield 40, 3) := by decide +kernel
theorem dX4_addStep_38 : decode cX4_addStep 38 = .ok (.iload_n 3, 1) := by decide +kernel
theorem dX4_addStep_39 : decode cX4_addStep 39 = .ok (.iastore, 1) := by decide +kernel
theorem dX4_addStep_40 : decode cX4_addStep 40 = .ok (.aload_n 0, 1) := by decide +kernel
theorem dX4_addStep_41 : decode cX4_addStep 41 = .ok (.dup, 1) := by decide +kernel
theorem dX4_addStep_42 : decode cX4_addStep 42 = .ok (.getfield 40, 3) := by decide +kernel
theorem dX4_addStep_45 : decode cX4_addStep 45 = .ok (.iconst 1, 1) := by decide +kernel
theorem dX4_addStep_46 : decode cX4_addStep 46 = .ok (.iadd, 1) := by decide +kernel
theorem dX4_addStep_47 : decode cX4_addStep 47 = .ok (.putfield 40, 3) := by decide +kernel
theorem dX4_addStep_50 : decode cX4_addStep 50 = .ok (.return_, 1) := by decide +kernel
theorem dX4_settle_0 : decode cX4_settle 0 = .ok (.aload_n 0, 1) := by decide +kernel
theorem dX4_settle_1 : decode cX4_settle 1 = .ok (.getfield 36, 3) := by decide +kernel
theorem dX4_settle_4 : decode cX4_settle 4 = .ok (.ifCond .le 93, 3) := by decide +kernel
theorem dX4_settle_7 : decode cX4_settle 7 = .ok (.aload_n 0, 1) := by decide +kernel
theorem dX4_settle_8 : decode cX4_settle 8 = .ok (.getfield 9, 3) := by decide +kernel
theorem dX4_settle_11 : decode cX4_settle 11 = .ok (.aload_n 0, 1) := by decide +kernel
theorem dX4_settle_12 : decode cX4_settle 12 = .ok (.getfield 36, 3) := by decide +kernel
theorem dX4_settle_15 : decode cX4_settle 15 = .ok (.iconst 1, 1) := by decide +kernel
theorem dX4_settle_16 : decode cX4_settle 16 = .ok (.isub, 1) := by decide +kernel
theorem dX4_settle_17 : decode cX4_settle 17 = .ok (.caload, 1) := by decide +kernel
theorem dX4_settle_18 : decode cX4_settle 18 = .ok (.invokestatic 59, 3) := by decide +kernel
theorem dX4_settle_21 : decode cX4_settle 21 = .ok (.iload_n 1, 1) := by decide +kernel
theorem dX4_settle_22 : decode cX4_settle 22 = .ok (.if_icmp .lt 75, 3) := by decide +kernel
theorem dX4_settle_25 : decode cX4_settle 25 = .ok (.aload_n 0, 1) := by decide +kernel
theorem dX4_settle_26 : decode cX4_settle 26 = .ok (.dup, 1) := by decide +kernel
theorem dX4_settle_27 : decode cX4_settle 27 = .ok (.getfield 36, 3) := by decide +kernel
theorem dX4_settle_30 : decode cX4_settle 30 = .ok (.iconst 1, 1) := by decide +kernel
theorem dX4_settle_31 : decode cX4_settle 31 = .ok (.isub, 1) := by decide +kernel
theorem dX4_settle_32 : decode cX4_settle 32 = .ok (.putfield 36, 3) := by decide +kernel
theorem dX4_settle_35 : decode cX4_settle 35 = .ok (.aload_n 0, 1) := by decide +kernel
theorem dX4_settle_36 : decode cX4_settle 36 = .ok (.getfield 9, 3) := by decide +kernel
theorem dX4_settle_39 : decode cX4_settle 39 = .ok (.aload_n 0, 1) := by decide +kernel
theorem dX4_settle_40 : decode cX4_settle 40 = .ok (.getfield 36, 3) := by decide +kernel
theorem dX4_settle_43 : decode cX4_settle 43 = .ok (.caload, 1) := by decide +kernel
theorem dX4_settle_44 : decode cX4_settle 44 = .ok (.istore_n 2, 1) := by decide +kernel
theorem dX4_settle_45 : decode cX4_settle 45 = .ok (.iload_n 2, 1) := by decide +kernel
theorem dX4_settle_46 : decode cX4_settle 46 = .ok (.bipush 45, 2) := by decide +kernel
theorem dX4_settle_48 : decode cX4_settle 48 = .ok (.if_icmp .eq 9, 3) := by decide +kernel
theorem dX4_settle_51 : decode cX4_settle 51 = .ok (.iload_n 2, 1) := by decide +kernel
theorem dX4_settle_52 : decode cX4_settle 52 = .ok (.bipush 126, 2) := by decide +kernel
theorem dX4_settle_54 : decode cX4_settle 54 = .ok (.if_icmp .ne 11, 3) := by decide +kernel
theorem dX4_settle_57 : decode cX4_settle 57 = .ok (.aload_n 0, 1) := by decide +kernel
theorem dX4_settle_58 : decode cX4_settle 58 = .ok (.bipush 6, 2) := by decide +kernel
theorem dX4_settle_60 : decode cX4_settle 60 = .ok (.iconst (-1), 1) := by decide +kernel
theorem dX4_settle_61 : decode cX4_settle 61 = .ok (.iconst (-1), 1) := by decide +kernel
theorem dX4_settle_62 : decode cX4_settle 62 = .ok (.invokevirtual 103, 3) := by decide +kernel
theorem dX4_settle_65 : decode cX4_settle 65 = .ok (.iload_n 2, 1) := by decide +kernel
theorem dX4_settle_66 : decode cX4_settle 66 = .ok (.bipush 42, 2) := by decide +kernel
theorem dX4_settle_68 : decode cX4_settle 68 = .ok (.if_icmp .ne 13, 3) := by decide +kernel
theorem dX4_settle_71 : decode cX4_settle 71 = .ok (.aload_n 0, 1) := by decide +kernel
theorem dX4_settle_72 : decode cX4_settle 72 = .ok (.iconst 3, 1) := by decide +kernel
theorem dX4_settle_73 : decode cX4_settle 73 = .ok (.iconst (-1), 1) := by decide +kernel
theorem dX4_settle_74 : decode cX4_settle 74 = .ok (.iconst (-1), 1) := by decide +kernel
theorem dX4_settle_75 : decode cX4_settle 75 = .ok (.invokevirtual 103, 3) := by decide +kernel
theorem dX4_settle_78 : decode cX4_settle 78 = .ok (.goto 16, 3) := by decide +kernel
theorem dX4_settle_81 : decode cX4_settle 81 = .ok (.iload_n 2, 1) := by decide +kernel
theorem dX4_settle_82 : decode cX4_settle 82 = .ok (.bipush 126, 2) := by decide +kernel
theorem dX4_settle_84 : decode cX4_settle 84 = .ok (.if_icmp .eq 10, 3) := by decide +kernel
theorem dX4_settle_87 : decode cX4_settle 87 = .ok (.aload_n 0, 1) := by decide +kernel
theorem dX4_settle_88 : decode cX4_settle 88 = .ok (.iconst 2, 1) := by decide +kernel
theorem dX4_settle_89 : decode cX4_settle 89 = .ok (.iconst (-1), 1) := by decide +kernel
theorem dX4_settle_90 : decode cX4_settle 90 = .ok (.iconst (-1), 1) := by decide +kernel
theorem dX4_settle_91 : decode cX4_settle 91 = .ok (.invokevirtual 103, 3) := by decide +kernel
theorem dX4_settle_94 : decode cX4_settle 94 = .ok (.goto (-94), 3) := by decide +kernel
theorem dX4_settle_97 : decode cX4_settle 97 = .ok (.return_, 1) := by decide +kernel
theorem dX4_readAtom_0 : decode cX4_readAtom 0 = .ok (.iload_n 1, 1) := by decide +kernel
theorem dX4_readAtom_1 : decode cX4_readAtom 1 = .ok (.invokestatic 107, 3) := by decide +kernel
theorem dX4_readAtom_4 : decode cX4_readAtom 4 = .ok (.ifCond .eq 8, 3) := by decide +kernel
theorem dX4_readAtom_7 : decode cX4_readAtom 7 = .ok (.aload_n 0, 1) := by decide +kernel
theorem dX4_readAtom_8 : decode cX4_readAtom 8 = .ok (.invokevirtual 110, 3) := by decide +kernel
theorem dX4_readAtom_11 : decode cX4_readAtom 11 = .ok (.return_, 1) := by decide +kernel
theorem dX4_readAtom_12 : decode cX4_readAtom 12 = .ok (.aload_n 0, 1) := by decide +kernel
theorem dX4_readAtom_13 : decode cX4_readAtom 13 = .ok (.dup, 1) := by decide +kernel
theorem dX4_readAtom_14 : decode cX4_readAtom 14 = .ok (.getfield 43, 3) := by decide +kernel
theorem dX4_readAtom_17 : decode cX4_readAtom 17 = .ok (.iconst 1, 1) := by decide +kernel
theorem dX4_readAtom_18 : decode cX4_readAtom 18 = .ok (.iadd, 1) := by decide +kernel
theorem dX4_readAtom_19 : decode cX4_readAtom 19 = .ok (.putfield 43, 3) := by decide +kernel
theorem dX4_readAtom_22 : decode cX4_readAtom 22 = .ok (.iload_n 1, 1) := by decide +kernel
theorem dX4_readAtom_23 : decode cX4_readAtom 23 = .ok (.bipush 41, 2) := by decide +kernel
theorem dX4_readAtom_25 : decode cX4_readAtom 25 = .ok (.if_icmp .ne 25, 3) := by decide +kernel
theorem dX4_readAtom_28 : decode cX4_readAtom 28 = .ok (.aload_n 0, 1) := by decide +kernel
theorem dX4_readAtom_29 : decode cX4_readAtom 29 = .ok (.iconst 1, 1) := by decide +kernel
theorem dX4_readAtom_30 : decode cX4_readAtom 30 = .ok (.invokevirtual 63, 3) := by decide +kernel
theorem dX4_readAtom_33 : decode cX4_readAtom 33 = .ok (.aload_n 0, 1) := by decide +kernel
theorem dX4_readAtom_34 : decode cX4_readAtom 34 = .ok (.aload_n 0, 1) := by decide +kernel
theorem dX4_readAtom_35 : decode cX4_readAtom 35 = .ok (.getfield 36, 3) := by decide +kernel
theorem dX4_readAtom_38 : decode cX4_readAtom 38 = .ok (.iconst 1, 1) := by decide +kernel
theorem dX4_readAtom_39 : decode cX4_readAtom 39 = .ok (.isub, 1) := by decide +kernel
theorem dX4_readAtom_40 : decode cX4_readAtom 40 = .ok (.iconst 0, 1) := by decide +kernel
theorem dX4_readAtom_41 : decode cX4_readAtom 41 = .ok (.invokestatic 113, 3) := by decide +kernel
theorem dX4_readAtom_44 : decode cX4_readAtom 44 = .ok (.putfield 36, 3) := by decide +kernel
theorem dX4_readAtom_47 : decode cX4_readAtom 47 = .ok (.goto 35, 3) := by decide +kernel
theorem dX4_readAtom_50 : decode cX4_readAtom 50 = .ok (.iload_n 1, 1) := by decide +kernel
theorem dX4_readAtom_51 : decode cX4_readAtom 51 = .ok (.invokestatic 67, 3) := by decide +kernel
theorem dX4_readAtom_54 : decode cX4_readAtom 54 = .ok (.ifCond .eq 18, 3) := by decide +kernel
theorem dX4_readAtom_57 : decode cX4_readAtom 57 = .ok (.aload_n 0, 1) := by decide +kernel
theorem dX4_readAtom_58 : decode cX4_readAtom 58 = .ok (.iconst 5, 1) := by decide +kernel
theorem dX4_readAtom_59 : decode cX4_readAtom 59 = .ok (.aload_n 2, 1) := by decide +kernel
theorem dX4_readAtom_60 : decode cX4_readAtom 60 = .ok (.iload_n 1, 1) := by decide +kernel
theorem dX4_readAtom_61 : decode cX4_readAtom 61 = .ok (.bipush 65, 2) := by decide +kernel
theorem dX4_readAtom_63 : decode cX4_readAtom 63 = .ok (.isub, 1) := by decide +kernel
theorem dX4_readAtom_64 : decode cX4_readAtom 64 = .ok (.iaload, 1) := by decide +kernel
theorem dX4_readAtom_65 : decode cX4_readAtom 65 = .ok (.iconst (-1), 1) := by decide +kernel
theorem dX4_readAtom_66 : decode cX4_readAtom 66 = .ok (.invokevirtual 103, 3) := by decide +kernel
theorem dX4_readAtom_69 : decode cX4_readAtom 69 = .ok (.goto 13, 3) := by decide +kernel
theorem dX4_readAtom_72 : decode cX4_readAtom 72 = .ok (.aload_n 0, 1) := by decide +kernel
theorem dX4_readAtom_73 : decode cX4_readAtom 73 = .ok (.iconst 1, 1) := by decide +kernel
theorem dX4_readAtom_74 : decode cX4_readAtom 74 = .ok (.iload_n 1, 1) := by decide +kernel
theorem dX4_readAtom_75 : decode cX4_readAtom 75 = .ok (.bipush 97, 2) := by decide +kernel
theorem dX4_readAtom_77 : decode cX4_readAtom 77 = .ok (.isub, 1) := by decide +kernel
theorem dX4_readAtom_78 : decode cX4_readAtom 78 = .ok (.iconst (-1), 1) := by decide +kernel
theorem dX4_readAtom_79 : decode cX4_readAtom 79 = .ok (.invokevirtual 103, 3) := by decide +kernel
theorem dX4_readAtom_82 : decode cX4_readAtom 82 = .ok (.return_, 1) := by decide +kernel
theorem dX4_readNumber_0 : decode cX4_readNumber 0 = .ok (.aload_n 0, 1) := by decide +kernel
theorem dX4_readNumber_1 : decode cX4_readNumber 1 = .ok (.invokevirtual 118, 3) := by decide +kernel
theorem dX4_readNumber_4 : decode cX4_readNumber 4 = .ok (.istore_n 1, 1) := by decide +kernel
theorem dX4_readNumber_5 : decode cX4_readNumber 5 = .ok (.iconst 1, 1) := by decide +kernel
theorem dX4_readNumber_6 : decode cX4_readNumber 6 = .ok (.istore_n 2, 1) := by decide +kernel
theorem dX4_readNumber_7 : decode cX4_readNumber 7 = .ok (.aload_n 0, 1) := by decide +kernel
theorem dX4_readNumber_8 : decode cX4_readNumber 8 = .ok (.getfield 28, 3) := by decide +kernel
theorem dX4_readNumber_11 : decode cX4_readNumber 11 = .ok (.aload_n 0, 1) := by decide +kernel
theorem dX4_readNumber_12 : decode cX4_readNumber 12 = .ok (.getfield 43, 3) := by decide +kernel
theorem dX4_readNumber_15 : decode cX4_readNumber 15 = .ok (.invokevirtual 51, 3) := by decide +kernel
theorem dX4_readNumber_18 : decode cX4_readNumber 18 = .ok (.bipush 47, 2) := by decide +kernel
theorem dX4_readNumber_20 : decode cX4_readNumber 20 = .ok (.if_icmp .ne 18, 3) := by decide +kernel
theorem dX4_readNumber_23 : decode cX4_readNumber 23 = .ok (.aload_n 0, 1) := by decide +kernel
theorem dX4_readNumber_24 : decode cX4_readNumber 24 = .ok (.dup, 1) := by decide +kernel
theorem dX4_readNumber_25 : decode cX4_readNumber 25 = .ok (.getfield 43, 3) := by decide +kernel
theorem dX4_readNumber_28 : decode cX4_readNumber 28 = .ok (.iconst 1, 1) := by decide +kernel
theorem dX4_readNumber_29 : decode cX4_readNumber 29 = .ok (.iadd, 1) := by decide +kernel
theorem dX4_readNumber_30 : decode cX4_readNumber 30 = .ok (.putfield 43, 3) := by decide +kernel
theorem dX4_readNumber_33 : decode cX4_readNumber 33 = .ok (.aload_n 0, 1) := by decide +kernel
theorem dX4_readNumber_34 : decode cX4_readNumber 34 = .ok (.invokevirtual 118, 3) := by decide +kernel
theorem dX4_readNumber_37 : decode cX4_readNumber 37 = .ok (.istore_n 2, 1) := by decide +kernel
theorem dX4_readNumber_38 : decode cX4_readNumber 38 = .ok (.aload_n 0, 1) := by decide +kernel
theorem dX4_readNumber_39 : decode cX4_readNumber 39 = .ok (.iconst 0, 1) := by decide +kernel
theorem dX4_readNumber_40 : decode cX4_readNumber 40 = .ok (.iload_n 1, 1) := by decide +kernel
theorem dX4_readNumber_41 : decode cX4_readNumber 41 = .ok (.iload_n 2, 1) := by decide +kernel
theorem dX4_readNumber_42 : decode cX4_readNumber 42 = .ok (.invokevirtual 103, 3) := by decide +kernel
theorem dX4_readNumber_45 : decode cX4_readNumber 45 = .ok (.return_, 1) := by decide +kernel
theorem dX4_readDigits_0 : decode cX4_readDigits 0 = .ok (.iconst 0, 1) := by decide +kernel
theorem dX4_readDigits_1 : decode cX4_readDigits 1 = .ok (.istore_n 1, 1) := by decide +kernel
theorem dX4_readDigits_2 : decode cX4_readDigits 2 = .ok (.iconst 0, 1) := by decide +kernel
theorem dX4_readDigits_3 : decode cX4_readDigits 3 = .ok (.istore_n 2, 1) := by decide +kernel
theorem dX4_readDigits_4 : decode cX4_readDigits 4 = .ok (.iload_n 2, 1) := by decide +kernel
theorem dX4_readDigits_5 : decode cX4_readDigits 5 = .ok (.iconst 4, 1) := by decide +kernel
theorem dX4_readDigits_6 : decode cX4_readDigits 6 = .ok (.if_icmp .ge 56, 3) := by decide +kernel
theorem dX4_readDigits_9 : decode cX4_readDigits 9 = .ok (.aload_n 0, 1) := by decide +kernel
theorem dX4_readDigits_10 : decode cX4_readDigits 10 = .ok (.getfield 28, 3) := by decide +kernel
theorem dX4_readDigits_13 : decode cX4_readDigits 13 = .ok (.aload_n 0, 1) := by decide +kernel
theorem dX4_readDigits_14 : decode cX4_readDigits 14 = .ok (.getfield 43, 3) := by decide +kernel
theorem dX4_readDigits_17 : decode cX4_readDigits 17 = .ok (.invokevirtual 51, 3) := by decide +kernel
theorem dX4_readDigits_20 : decode cX4_readDigits 20 = .ok (.invokestatic 107, 3) := by decide +kernel
theorem dX4_readDigits_23 : decode cX4_readDigits 23 = .ok (.ifCond .eq 39, 3) := by decide +kernel
theorem dX4_readDigits_26 : decode cX4_readDigits 26 = .ok (.bipush 10, 2) := by decide +kernel
theorem dX4_readDigits_28 : decode cX4_readDigits 28 = .ok (.iload_n 1, 1) := by decide +kernel
theorem dX4_readDigits_29 : decode cX4_readDigits 29 = .ok (.imul, 1) := by decide +kernel
theorem dX4_readDigits_30 : decode cX4_readDigits 30 = .ok (.aload_n 0, 1) := by decide +kernel
theorem dX4_readDigits_31 : decode cX4_readDigits 31 = .ok (.getfield 28, 3) := by decide +kernel
theorem dX4_readDigits_34 : decode cX4_readDigits 34 = .ok (.aload_n 0, 1) := by decide +kernel
theorem dX4_readDigits_35 : decode cX4_readDigits 35 = .ok (.getfield 43, 3) := by decide +kernel
theorem dX4_readDigits_38 : decode cX4_readDigits 38 = .ok (.invokevirtual 51, 3) := by decide +kernel
theorem dX4_readDigits_41 : decode cX4_readDigits 41 = .ok (.iadd, 1) := by decide +kernel
theorem dX4_readDigits_42 : decode cX4_readDigits 42 = .ok (.bipush 48, 2) := by decide +kernel
theorem dX4_readDigits_44 : decode cX4_readDigits 44 = .ok (.isub, 1) := by decide +kernel
theorem dX4_readDigits_45 : decode cX4_readDigits 45 = .ok (.istore_n 1, 1) := by decide +kernel
theorem dX4_readDigits_46 : decode cX4_readDigits 46 = .ok (.aload_n 0, 1) := by decide +kernel
theorem dX4_readDigits_47 : decode cX4_readDigits 47 = .ok (.dup, 1) := by decide +kernel
theorem dX4_readDigits_48 : decode cX4_readDigits 48 = .ok (.getfield 43, 3) := by decide +kernel
theorem dX4_readDigits_51 : decode cX4_readDigits 51 = .ok (.iconst 1, 1) := by decide +kernel
theorem dX4_readDigits_52 : decode cX4_readDigits 52 = .ok (.iadd, 1) := by decide +kernel
theorem dX4_readDigits_53 : decode cX4_readDigits 53 = .ok (.putfield 43, 3) := by decide +kernel
theorem dX4_readDigits_56 : decode cX4_readDigits 56 = .ok (.iinc 2 1, 3) := by decide +kernel
theorem dX4_readDigits_59 : decode cX4_readDigits 59 = .ok (.goto (-55), 3) := by decide +kernel
theorem dX4_readDigits_62 : decode cX4_readDigits 62 = .ok (.iload_n 1, 1) := by decide +kernel
theorem dX4_readDigits_63 : decode cX4_readDigits 63 = .ok (.ireturn, 1) := by decide +kernel
theorem dX4_readExponent_0 : decode cX4_readExponent 0 = .ok (.aload_n 0, 1) := by decide +kernel
theorem dX4_readExponent_1 : decode cX4_readExponent 1 = .ok (.getfield 28, 3) := by decide +kernel
theorem dX4_readExponent_4 : decode cX4_readExponent 4 = .ok (.aload_n 0, 1) := by decide +kernel
theorem dX4_readExponent_5 : decode cX4_readExponent 5 = .ok (.getfield 43, 3) := by decide +kernel
theorem dX4_readExponent_8 : decode cX4_readExponent 8 = .ok (.invokevirtual 51, 3) := by decide +kernel
theorem dX4_readExponent_11 : decode cX4_readExponent 11 = .ok (.bipush 94, 2) := by decide +kernel
theorem dX4_readExponent_13 : decode cX4_readExponent 13 = .ok (.if_icmp .ne 35, 3) := by decide +kernel
theorem dX4_readExponent_16 : decode cX4_readExponent 16 = .ok (.aload_n 0, 1) := by decide +kernel
theorem dX4_readExponent_17 : decode cX4_readExponent 17 = .ok (.iconst 4, 1) := by decide +kernel
theorem dX4_readExponent_18 : decode cX4_readExponent 18 = .ok (.aload_n 0, 1) := by decide +kernel
theorem dX4_readExponent_19 : decode cX4_readExponent 19 = .ok (.getfield 28, 3) := by decide +kernel
theorem dX4_readExponent_22 : decode cX4_readExponent 22 = .ok (.aload_n 0, 1) := by decide +kernel
theorem dX4_readExponent_23 : decode cX4_readExponent 23 = .ok (.getfield 43, 3) := by decide +kernel
theorem dX4_readExponent_26 : decode cX4_readExponent 26 = .ok (.iconst 1, 1) := by decide +kernel
theorem dX4_readExponent_27 : decode cX4_readExponent 27 = .ok (.iadd, 1) := by decide +kernel
theorem dX4_readExponent_28 : decode cX4_readExponent 28 = .ok (.invokevirtual 51, 3) := by decide +kernel
theorem dX4_readExponent_31 : decode cX4_readExponent 31 = .ok (.bipush 48, 2) := by decide +kernel
theorem dX4_readExponent_33 : decode cX4_readExponent 33 = .ok (.isub, 1) := by decide +kernel
theorem dX4_readExponent_34 : decode cX4_readExponent 34 = .ok (.iconst (-1), 1) := by decide +kernel
theorem dX4_readExponent_35 : decode cX4_readExponent 35 = .ok (.invokevirtual 103, 3) := by decide +kernel
theorem dX4_readExponent_38 : decode cX4_readExponent 38 = .ok (.aload_n 0, 1) := by decide +kernel
theorem dX4_readExponent_39 : decode cX4_readExponent 39 = .ok (.dup, 1) := by decide +kernel
theorem dX4_readExponent_40 : decode cX4_readExponent 40 = .ok (.getfield 43, 3) := by decide +kernel
theorem dX4_readExponent_43 : decode cX4_readExponent 43 = .ok (.iconst 2, 1) := by decide +kernel
theorem dX4_readExponent_44 : decode cX4_readExponent 44 = .ok (.iadd, 1) := by decide +kernel
theorem dX4_readExponent_45 : decode cX4_readExponent 45 = .ok (.putfield 43, 3) := by decide +kernel
theorem dX4_readExponent_48 : decode cX4_readExponent 48 = .ok (.return_, 1) := by decide +kernel
theorem dX5_init_0 : decode cX5_init 0 = .ok (.aload_n 0, 1) := by decide +kernel
theorem dX5_init_1 : decode cX5_init 1 = .ok (.invokespecial 3, 3) := by decide +kernel
theorem dX5_init_4 : decode cX5_init 4 = .ok (.aload_n 0, 1) := by decide +kernel
theorem dX5_init_5 : decode cX5_init 5 = .ok (.sipush 250, 3) := by decide +kernel
theorem dX5_init_8 : decode cX5_init 8 = .ok (.newarray .char, 2) := by decide +kernel
theorem dX5_init_10 : decode cX5_init 10 = .ok (.putfield 9, 3) := by decide +kernel
theorem dX5_init_13 : decode cX5_init 13 = .ok (.aload_n 0, 1) := by decide +kernel
theorem dX5_init_14 : decode cX5_init 14 = .ok (.sipush 200, 3) := by decide +kernel
theorem dX5_init_17 : decode cX5_init 17 = .ok (.newarray .int, 2) := by decide +kernel
theorem dX5_init_19 : decode cX5_init 19 = .ok (.putfield 15, 3) := by decide +kernel
theorem dX5_init_22 : decode cX5_init 22 = .ok (.aload_n 0, 1) := by decide +kernel
theorem dX5_init_23 : decode cX5_init 23 = .ok (.sipush 250, 3) := by decide +kernel
theorem dX5_init_26 : decode cX5_init 26 = .ok (.newarray .int, 2) := by decide +kernel
theorem dX5_init_28 : decode cX5_init 28 = .ok (.putfield 19, 3) := by decide +kernel
theorem dX5_init_31 : decode cX5_init 31 = .ok (.aload_n 0, 1) := by decide +kernel
theorem dX5_init_32 : decode cX5_init 32 = .ok (.sipush 250, 3) := by decide +kernel
theorem dX5_init_35 : decode cX5_init 35 = .ok (.newarray .int, 2) := by decide +kernel
theorem dX5_init_37 : decode cX5_init 37 = .ok (.putfield 22, 3) := by decide +kernel
theorem dX5_init_40 : decode cX5_init 40 = .ok (.aload_n 0, 1) := by decide +kernel
theorem dX5_init_41 : decode cX5_init 41 = .ok (.sipush 135, 3) := by decide +kernel
theorem dX5_init_44 : decode cX5_init 44 = .ok (.newarray .char, 2) := by decide +kernel
theorem dX5_init_46 : decode cX5_init 46 = .ok (.putfield 25, 3) := by decide +kernel
theorem dX5_init_49 : decode cX5_init 49 = .ok (.aload_n 0, 1) := by decide +kernel
theorem dX5_init_50 : decode cX5_init 50 = .ok (.new 28, 3) := by decide +kernel
theorem dX5_init_53 : decode cX5_init 53 = .ok (.dup, 1) := by decide +kernel
theorem dX5_init_54 : decode cX5_init 54 = .ok (.bipush 13, 2) := by decide +kernel
theorem dX5_init_56 : decode cX5_init 56 = .ok (.invokespecial 30, 3) := by decide +kernel
theorem dX5_init_59 : decode cX5_init 59 = .ok (.putfield 33, 3) := by decide +kernel
theorem dX5_init_62 : decode cX5_init 62 = .ok (.aload_n 0, 1) := by decide +kernel
theorem dX5_init_63 : decode cX5_init 63 = .ok (.aload_n 1, 1) := by decide +kernel
theorem dX5_init_64 : decode cX5_init 64 = .ok (.putfield 37, 3) := by decide +kernel
theorem dX5_init_67 : decode cX5_init 67 = .ok (.return_, 1) := by decide +kernel
theorem dX5_put_0 : decode cX5_put 0 = .ok (.aload_n 0, 1) := by decide +kernel
theorem dX5_put_1 : decode cX5_put 1 = .ok (.getfield 37, 3) := by decide +kernel
theorem dX5_put_4 : decode cX5_put 4 = .ok (.iload_n 1, 1) := by decide +kernel
theorem dX5_put_5 : decode cX5_put 5 = .ok (.invokevirtual 41, 3) := by decide +kernel
theorem dX5_put_8 : decode cX5_put 8 = .ok (.pop, 1) := by decide +kernel
theorem dX5_put_9 : decode cX5_put 9 = .ok (.iconst 0, 1) := by decide +kernel
theorem dX5_put_10 : decode cX5_put 10 = .ok (.istore_n 2, 1) := by decide +kernel
theorem dX5_put_11 : decode cX5_put 11 = .ok (.iload_n 2, 1) := by decide +kernel
theorem dX5_put_12 : decode cX5_put 12 = .ok (.iload_n 1, 1) := by decide +kernel
theorem dX5_put_13 : decode cX5_put 13 = .ok (.if_icmp .gt 46, 3) := by decide +kernel
theorem dX5_put_16 : decode cX5_put 16 = .ok (.aload_n 0, 1) := by decide +kernel
theorem dX5_put_17 : decode cX5_put 17 = .ok (.getfield 37, 3) := by decide +kernel
theorem dX5_put_20 : decode cX5_put 20 = .ok (.getfield 47, 3) := by decide +kernel
theorem dX5_put_23 : decode cX5_put 23 = .ok (.iload_n 2, 1) := by decide +kernel
theorem dX5_put_24 : decode cX5_put 24 = .ok (.baload, 1) := by decide +kernel
theorem dX5_put_25 : decode cX5_put 25 = .ok (.ifCond .eq 28, 3) := by decide +kernel
theorem dX5_put_28 : decode cX5_put 28 = .ok (.aload_n 0, 1) := by decide +kernel
theorem dX5_put_29 : decode cX5_put 29 = .ok (.getfield 15, 3) := by decide +kernel
theorem dX5_put_32 : decode cX5_put 32 = .ok (.iload_n 2, 1) := by decide +kernel
theorem dX5_put_33 : decode cX5_put 33 = .ok (.aload_n 0, 1) := by decide +kernel
theorem dX5_put_34 : decode cX5_put 34 = .ok (.aload_n 0, 1) := by decide +kernel
theorem dX5_put_35 : decode cX5_put 35 = .ok (.getfield 37, 3) := by decide +kernel
theorem dX5_put_38 : decode cX5_put 38 = .ok (.getfield 51, 3) := by decide +kernel
theorem dX5_put_41 : decode cX5_put 41 = .ok (.iload_n 2, 1) := by decide +kernel
theorem dX5_put_42 : decode cX5_put 42 = .ok (.aaload, 1) := by decide +kernel
theorem dX5_put_43 : decode cX5_put 43 = .ok (.invokevirtual 55, 3) := by decide +kernel
theorem dX5_put_46 : decode cX5_put 46 = .ok (.sipush 251, 3) := by decide +kernel
theorem dX5_put_49 : decode cX5_put 49 = .ok (.invokestatic 59, 3) := by decide +kernel
theorem dX5_put_52 : decode cX5_put 52 = .ok (.iastore, 1) := by decide +kernel
theorem dX5_put_53 : decode cX5_put 53 = .ok (.iinc 2 1, 3) := by decide +kernel
theorem dX5_put_56 : decode cX5_put 56 = .ok (.goto (-45), 3) := by decide +kernel
theorem dX5_put_59 : decode cX5_put 59 = .ok (.aload_n 0, 1) := by decide +kernel
theorem dX5_put_60 : decode cX5_put 60 = .ok (.getfield 15, 3) := by decide +kernel
theorem dX5_put_63 : decode cX5_put 63 = .ok (.iload_n 1, 1) := by decide +kernel
theorem dX5_put_64 : decode cX5_put 64 = .ok (.iaload, 1) := by decide +kernel
theorem dX5_put_65 : decode cX5_put 65 = .ok (.sipush 250, 3) := by decide +kernel
theorem dX5_put_68 : decode cX5_put 68 = .ok (.if_icmp .le 6, 3) := by decide +kernel
theorem dX5_put_71 : decode cX5_put 71 = .ok (.bipush (-3), 2) := by decide +kernel
theorem dX5_put_73 : decode cX5_put 73 = .ok (.ireturn, 1) := by decide +kernel
theorem dX5_put_74 : decode cX5_put 74 = .ok (.aload_n 0, 1) := by decide +kernel
theorem dX5_put_75 : decode cX5_put 75 = .ok (.aload_n 0, 1) := by decide +kernel
theorem dX5_put_76 : decode cX5_put 76 = .ok (.getfield 15, 3) := by decide +kernel
theorem dX5_put_79 : decode cX5_put 79 = .ok (.iload_n 1, 1) := by decide +kernel
theorem dX5_put_80 : decode cX5_put 80 = .ok (.iaload, 1) := by decide +kernel
theorem dX5_put_81 : decode cX5_put 81 = .ok (.putfield 65, 3) := by decide +kernel
theorem dX5_put_84 : decode cX5_put 84 = .ok (.aload_n 0, 1) := by decide +kernel
theorem dX5_put_85 : decode cX5_put 85 = .ok (.iconst 0, 1) := by decide +kernel
theorem dX5_put_86 : decode cX5_put 86 = .ok (.putfield 69, 3) := by decide +kernel
theorem dX5_put_89 : decode cX5_put 89 = .ok (.aload_n 0, 1) := by decide +kernel
theorem dX5_put_90 : decode cX5_put 90 = .ok (.iload_n 1, 1) := by decide +kernel
theorem dX5_put_91 : decode cX5_put 91 = .ok (.iconst 0, 1) := by decide +kernel
theorem dX5_put_92 : decode cX5_put 92 = .ok (.invokevirtual 72, 3) := by decide +kernel
theorem dX5_put_95 : decode cX5_put 95 = .ok (.iconst 0, 1) := by decide +kernel
theorem dX5_put_96 : decode cX5_put 96 = .ok (.istore_n 2, 1) := by decide +kernel
theorem dX5_put_97 : decode cX5_put 97 = .ok (.iload_n 2, 1) := by decide +kernel
theorem dX5_put_98 : decode cX5_put 98 = .ok (.sipush 250, 3) := by decide +kernel
theorem dX5_put_101 : decode cX5_put 101 = .ok (.if_icmp .ge 48, 3) := by decide +kernel
theorem dX5_put_104 : decode cX5_put 104 = .ok (.aload_n 0, 1) := by decide +kernel
theorem dX5_put_105 : decode cX5_put 105 = .ok (.getfield 69, 3) := by decide +kernel
theorem dX5_put_108 : decode cX5_put 108 = .ok (.ifCond .le 41, 3) := by decide +kernel
theorem dX5_put_111 : decode cX5_put 111 = .ok (.aload_n 0, 1) := by decide +kernel
theorem dX5_put_112 : decode cX5_put 112 = .ok (.dup, 1) := by decide +kernel
theorem dX5_put_113 : decode cX5_put 113 = .ok (.getfield 69, 3) := by decide +kernel
theorem dX5_put_116 : decode cX5_put 116 = .ok (.iconst 1, 1) := by decide +kernel
theorem dX5_put_117 : decode cX5_put 117 = .ok (.isub, 1) := by decide +kernel
theorem dX5_put_118 : decode cX5_put 118 = .ok (.putfield 69, 3) := by decide +kernel
theorem dX5_put_121 : decode cX5_put 121 = .ok (.aload_n 0, 1) := by decide +kernel
theorem dX5_put_122 : decode cX5_put 122 = .ok (.aload_n 0, 1) := by decide +kernel
theorem dX5_put_123 : decode cX5_put 123 = .ok (.getfield 19, 3) := by decide +kernel
theorem dX5_put_126 : decode cX5_put 126 = .ok (.aload_n 0, 1) := by decide +kernel
theorem dX5_put_127 : decode cX5_put 127 = .ok (.getfield 69, 3) := by decide +kernel
theorem dX5_put_130 : decode cX5_put 130 = .ok (.iaload, 1) := by decide +kernel
theorem dX5_put_131 : decode cX5_put 131 = .ok (.aload_n 0, 1) := by decide +kernel
theorem dX5_put_132 : decode cX5_put 132 = .ok (.getfield 22, 3) := by decide +kernel
theorem dX5_put_135 : decode cX5_put 135 = .ok (.aload_n 0, 1) := by decide +kernel
theorem dX5_put_136 : decode cX5_put 136 = .ok (.getfield 69, 3) := by decide +kernel
theorem dX5_put_139 : decode cX5_put 139 = .ok (.iaload, 1) := by decide +kernel
theorem dX5_put_140 : decode cX5_put 140 = .ok (.invokevirtual 76, 3) := by decide +kernel
theorem dX5_put_143 : decode cX5_put 143 = .ok (.iinc 2 1, 3) := by decide +kernel
theorem dX5_put_146 : decode cX5_put 146 = .ok (.goto (-49), 3) := by decide +kernel
theorem dX5_put_149 : decode cX5_put 149 = .ok (.aload_n 0, 1) := by decide +kernel
theorem dX5_put_150 : decode cX5_put 150 = .ok (.getfield 65, 3) := by decide +kernel
theorem dX5_put_153 : decode cX5_put 153 = .ok (.ireturn, 1) := by decide +kernel
theorem dX5_lengthOf_0 : decode cX5_lengthOf 0 = .ok (.aload_n 1, 1) := by decide +kernel
theorem dX5_lengthOf_1 : decode cX5_lengthOf 1 = .ok (.getfield 79, 3) := by decide +kernel
theorem dX5_lengthOf_4 : decode cX5_lengthOf 4 = .ok (.tableswitch 59 0 4 #[36, 45, 59, 59, 47], 36) := by decide +kernel
theorem dX5_lengthOf_40 : decode cX5_lengthOf 40 = .ok (.aload_n 0, 1) := by decide +kernel
theorem dX5_lengthOf_41 : decode cX5_lengthOf 41 = .ok (.aload_n 1, 1) := by decide +kernel
theorem dX5_lengthOf_42 : decode cX5_lengthOf 42 = .ok (.getfield 84, 3) := by decide +kernel
theorem dX5_lengthOf_45 : decode cX5_lengthOf 45 = .ok (.invokevirtual 88, 3) := by decide +kernel
theorem dX5_lengthOf_48 : decode cX5_lengthOf 48 = .ok (.ireturn, 1) := by decide +kernel
theorem dX5_lengthOf_49 : decode cX5_lengthOf 49 = .ok (.iconst 1, 1) := by decide +kernel
theorem dX5_lengthOf_50 : decode cX5_lengthOf 50 = .ok (.ireturn, 1) := by decide +kernel
theorem dX5_lengthOf_51 : decode cX5_lengthOf 51 = .ok (.aload_n 0, 1) := by decide +kernel
theorem dX5_lengthOf_52 : decode cX5_lengthOf 52 = .ok (.getfield 15, 3) := by decide +kernel
theorem dX5_lengthOf_55 : decode cX5_lengthOf 55 = .ok (.aload_n 1, 1) := by decide +kernel
theorem dX5_lengthOf_56 : decode cX5_lengthOf 56 = .ok (.getfield 92, 3) := by decide +kernel
theorem dX5_lengthOf_59 : decode cX5_lengthOf 59 = .ok (.iaload, 1) := by decide +kernel
theorem dX5_lengthOf_60 : decode cX5_lengthOf 60 = .ok (.iconst 2, 1) := by decide +kernel
theorem dX5_lengthOf_61 : decode cX5_lengthOf 61 = .ok (.iadd, 1) := by decide +kernel
theorem dX5_lengthOf_62 : decode cX5_lengthOf 62 = .ok (.ireturn, 1) := by decide +kernel
theorem dX5_lengthOf_63 : decode cX5_lengthOf 63 = .ok (.aload_n 0, 1) := by decide +kernel
theorem dX5_lengthOf_64 : decode cX5_lengthOf 64 = .ok (.getfield 15, 3) := by decide +kernel
theorem dX5_lengthOf_67 : decode cX5_lengthOf 67 = .ok (.aload_n 1, 1) := by decide +kernel
theorem dX5_lengthOf_68 : decode cX5_lengthOf 68 = .ok (.getfield 92, 3) := by decide +kernel
theorem dX5_lengthOf_71 : decode cX5_lengthOf 71 = .ok (.iaload, 1) := by decide +kernel
theorem dX5_lengthOf_72 : decode cX5_lengthOf 72 = .ok (.aload_n 0, 1) := by decide +kernel
theorem dX5_lengthOf_73 : decode cX5_lengthOf 73 = .ok (.getfield 15, 3) := by decide +kernel
theorem dX5_lengthOf_76 : decode cX5_lengthOf 76 = .ok (.aload_n 1, 1) := by decide +kernel
theorem dX5_lengthOf_77 : decode cX5_lengthOf 77 = .ok (.getfield 95, 3) := by decide +kernel
theorem dX5_lengthOf_80 : decode cX5_lengthOf 80 = .ok (.iaload, 1) := by decide +kernel
theorem dX5_lengthOf_81 : decode cX5_lengthOf 81 = .ok (.iadd, 1) := by decide +kernel
theorem dX5_lengthOf_82 : decode cX5_lengthOf 82 = .ok (.iconst 3, 1) := by decide +kernel
theorem dX5_lengthOf_83 : decode cX5_lengthOf 83 = .ok (.iadd, 1) := by decide +kernel
theorem dX5_lengthOf_84 : decode cX5_lengthOf 84 = .ok (.ireturn, 1) := by decide +kernel
theorem dX5_lengthOfNumber_0 : decode cX5_lengthOfNumber 0 = .ok (.aload_n 0, 1) := by decide +kernel
theorem dX5_lengthOfNumber_1 : decode cX5_lengthOfNumber 1 = .ok (.aload_n 1, 1) := by decide +kernel
theorem dX5_lengthOfNumber_2 : decode cX5_lengthOfNumber 2 = .ok (.getfield 98, 3) := by decide +kernel
theorem dX5_lengthOfNumber_5 : decode cX5_lengthOfNumber 5 = .ok (.invokevirtual 103, 3) := by decide +kernel
theorem dX5_lengthOfNumber_8 : decode cX5_lengthOfNumber 8 = .ok (.aload_n 1, 1) := by decide +kernel
theorem dX5_lengthOfNumber_9 : decode cX5_lengthOfNumber 9 = .ok (.getfield 98, 3) := by decide +kernel
theorem dX5_lengthOfNumber_12 : decode cX5_lengthOfNumber 12 = .ok (.getfield 107, 3) := by decide +kernel
theorem dX5_lengthOfNumber_15 : decode cX5_lengthOfNumber 15 = .ok (.ifCond .eq 7, 3) := by decide +kernel
theorem dX5_lengthOfNumber_18 : decode cX5_lengthOfNumber 18 = .ok (.iconst 1, 1) := by decide +kernel
theorem dX5_lengthOfNumber_19 : decode cX5_lengthOfNumber 19 = .ok (.goto 4, 3) := by decide +kernel
theorem dX5_lengthOfNumber_22 : decode cX5_lengthOfNumber 22 = .ok (.iconst 0, 1) := by decide +kernel
theorem dX5_lengthOfNumber_23 : decode cX5_lengthOfNumber 23 = .ok (.iadd, 1) := by decide +kernel
theorem dX5_lengthOfNumber_24 : decode cX5_lengthOfNumber 24 = .ok (.istore_n 2, 1) := by decide +kernel
theorem dX5_lengthOfNumber_25 : decode cX5_lengthOfNumber 25 = .ok (.aload_n 1, 1) := by decide +kernel
theorem dX5_lengthOfNumber_26 : decode cX5_lengthOfNumber 26 = .ok (.getfield 111, 3) := by decide +kernel
theorem dX5_lengthOfNumber_29 : decode cX5_lengthOfNumber 29 = .ok (.invokevirtual 114, 3) := by decide +kernel
theorem dX5_lengthOfNumber_32 : decode cX5_lengthOfNumber 32 = .ok (.ifCond .eq 7, 3) := by decide +kernel
theorem dX5_lengthOfNumber_35 : decode cX5_lengthOfNumber 35 = .ok (.iload_n 2, 1) := by decide +kernel
theorem dX5_lengthOfNumber_36 : decode cX5_lengthOfNumber 36 = .ok (.goto 15, 3) := by decide +kernel
theorem dX5_lengthOfNumber_39 : decode cX5_lengthOfNumber 39 = .ok (.iload_n 2, 1) := by decide +kernel
theorem dX5_lengthOfNumber_40 : decode cX5_lengthOfNumber 40 = .ok (.iconst 1, 1) := by decide +kernel
theorem dX5_lengthOfNumber_41 : decode cX5_lengthOfNumber 41 = .ok (.iadd, 1) := by decide +kernel
theorem dX5_lengthOfNumber_42 : decode cX5_lengthOfNumber 42 = .ok (.aload_n 0, 1) := by decide +kernel
theorem dX5_lengthOfNumber_43 : decode cX5_lengthOfNumber 43 = .ok (.aload_n 1, 1) := by decide +kernel
theorem dX5_lengthOfNumber_44 : decode cX5_lengthOfNumber 44 = .ok (.getfield 111, 3) := by decide +kernel
theorem dX5_lengthOfNumber_47 : decode cX5_lengthOfNumber 47 = .ok (.invokevirtual 103, 3) := by decide +kernel
theorem dX5_lengthOfNumber_50 : decode cX5_lengthOfNumber 50 = .ok (.iadd, 1) := by decide +kernel
theorem dX5_lengthOfNumber_51 : decode cX5_lengthOfNumber 51 = .ok (.ireturn, 1) := by decide +kernel
theorem dX5_await_0 : decode cX5_await 0 = .ok (.aload_n 0, 1) := by decide +kernel
theorem dX5_await_1 : decode cX5_await 1 = .ok (.getfield 69, 3) := by decide +kernel
theorem dX5_await_4 : decode cX5_await 4 = .ok (.sipush 250, 3) := by decide +kernel
theorem dX5_await_7 : decode cX5_await 7 = .ok (.if_icmp .ge 33, 3) := by decide +kernel
theorem dX5_await_10 : decode cX5_await 10 = .ok (.aload_n 0, 1) := by decide +kernel
theorem dX5_await_11 : decode cX5_await 11 = .ok (.getfield 19, 3) := by decide +kernel
theorem dX5_await_14 : decode cX5_await 14 = .ok (.aload_n 0, 1) := by decide +kernel
theorem dX5_await_15 : decode cX5_await 15 = .ok (.getfield 69, 3) := by decide +kernel
theorem dX5_await_18 : decode cX5_await 18 = .ok (.iload_n 1, 1) := by decide +kernel
theorem dX5_await_19 : decode cX5_await 19 = .ok (.iastore, 1) := by decide +kernel
theorem dX5_await_20 : decode cX5_await 20 = .ok (.aload_n 0, 1) := by decide +kernel
theorem dX5_await_21 : decode cX5_await 21 = .ok (.getfield 22, 3) := by decide +kernel
theorem dX5_await_24 : decode cX5_await 24 = .ok (.aload_n 0, 1) := by decide +kernel
theorem dX5_await_25 : decode cX5_await 25 = .ok (.getfield 69, 3) := by decide +kernel
theorem dX5_await_28 : decode cX5_await 28 = .ok (.iload_n 2, 1) := by decide +kernel
theorem dX5_await_29 : decode cX5_await 29 = .ok (.iastore, 1) := by decide +kernel
theorem dX5_await_30 : decode cX5_await 30 = .ok (.aload_n 0, 1) := by decide +kernel
theorem dX5_await_31 : decode cX5_await 31 = .ok (.dup, 1) := by decide +kernel
theorem dX5_await_32 : decode cX5_await 32 = .ok (.getfield 69, 3) := by decide +kernel
theorem dX5_await_35 : decode cX5_await 35 = .ok (.iconst 1, 1) := by decide +kernel
theorem dX5_await_36 : decode cX5_await 36 = .ok (.iadd, 1) := by decide +kernel
theorem dX5_await_37 : decode cX5_await 37 = .ok (.putfield 69, 3) := by decide +kernel
theorem dX5_await_40 : decode cX5_await 40 = .ok (.return_, 1) := by decide +kernel
theorem dX5_putPiece_0 : decode cX5_putPiece 0 = .ok (.aload_n 0, 1) := by decide +kernel
theorem dX5_putPiece_1 : decode cX5_putPiece 1 = .ok (.getfield 37, 3) := by decide +kernel
theorem dX5_putPiece_4 : decode cX5_putPiece 4 = .ok (.getfield 51, 3) := by decide +kernel
theorem dX5_putPiece_7 : decode cX5_putPiece 7 = .ok (.iload_n 1, 1) := by decide +kernel
theorem dX5_putPiece_8 : decode cX5_putPiece 8 = .ok (.aaload, 1) := by decide +kernel
theorem dX5_putPiece_9 : decode cX5_putPiece 9 = .ok (.astore_n 3, 1) := by decide +kernel
theorem dX5_putPiece_10 : decode cX5_putPiece 10 = .ok (.aload_n 3, 1) := by decide +kernel
theorem dX5_putPiece_11 : decode cX5_putPiece 11 = .ok (.getfield 79, 3) := by decide +kernel
theorem dX5_putPiece_14 : decode cX5_putPiece 14 = .ok (.tableswitch 112 0 4 #[34, 46, 112, 112, 62], 34) := by decide +kernel
theorem dX5_putPiece_48 : decode cX5_putPiece 48 = .ok (.aload_n 0, 1) := by decide +kernel
theorem dX5_putPiece_49 : decode cX5_putPiece 49 = .ok (.aload_n 3, 1) := by decide +kernel
theorem dX5_putPiece_50 : decode cX5_putPiece 50 = .ok (.getfield 84, 3) := by decide +kernel
theorem dX5_putPiece_53 : decode cX5_putPiece 53 = .ok (.iload_n 2, 1) := by decide +kernel
theorem dX5_putPiece_54 : decode cX5_putPiece 54 = .ok (.invokevirtual 118, 3) := by decide +kernel
theorem dX5_putPiece_57 : decode cX5_putPiece 57 = .ok (.goto 156, 3) := by decide +kernel
theorem dX5_putPiece_60 : decode cX5_putPiece 60 = .ok (.aload_n 0, 1) := by decide +kernel
theorem dX5_putPiece_61 : decode cX5_putPiece 61 = .ok (.iload_n 2, 1) := by decide +kernel
theorem dX5_putPiece_62 : decode cX5_putPiece 62 = .ok (.bipush 97, 2) := by decide +kernel
theorem dX5_putPiece_64 : decode cX5_putPiece 64 = .ok (.aload_n 3, 1) := by decide +kernel
theorem dX5_putPiece_65 : decode cX5_putPiece 65 = .ok (.getfield 92, 3) := by decide +kernel
theorem dX5_putPiece_68 : decode cX5_putPiece 68 = .ok (.iadd, 1) := by decide +kernel
theorem dX5_putPiece_69 : decode cX5_putPiece 69 = .ok (.i2c, 1) := by decide +kernel
theorem dX5_putPiece_70 : decode cX5_putPiece 70 = .ok (.invokevirtual 122, 3) := by decide +kernel
theorem dX5_putPiece_73 : decode cX5_putPiece 73 = .ok (.goto 140, 3) := by decide +kernel
theorem dX5_putPiece_76 : decode cX5_putPiece 76 = .ok (.aload_n 0, 1) := by decide +kernel
theorem dX5_putPiece_77 : decode cX5_putPiece 77 = .ok (.aload_n 3, 1) := by decide +kernel
theorem dX5_putPiece_78 : decode cX5_putPiece 78 = .ok (.getfield 92, 3) := by decide +kernel
theorem dX5_putPiece_81 : decode cX5_putPiece 81 = .ok (.iload_n 2, 1) := by decide +kernel
theorem dX5_putPiece_82 : decode cX5_putPiece 82 = .ok (.invokevirtual 72, 3) := by decide +kernel
theorem dX5_putPiece_85 : decode cX5_putPiece 85 = .ok (.aload_n 0, 1) := by decide +kernel
theorem dX5_putPiece_86 : decode cX5_putPiece 86 = .ok (.iload_n 2, 1) := by decide +kernel
theorem dX5_putPiece_87 : decode cX5_putPiece 87 = .ok (.aload_n 0, 1) := by decide +kernel
theorem dX5_putPiece_88 : decode cX5_putPiece 88 = .ok (.getfield 15, 3) := by decide +kernel
theorem dX5_putPiece_91 : decode cX5_putPiece 91 = .ok (.iload_n 1, 1) := by decide +kernel
theorem dX5_putPiece_92 : decode cX5_putPiece 92 = .ok (.iaload, 1) := by decide +kernel
theorem dX5_putPiece_93 : decode cX5_putPiece 93 = .ok (.iadd, 1) := by decide +kernel
theorem dX5_putPiece_94 : decode cX5_putPiece 94 = .ok (.iconst 2, 1) := by decide +kernel
theorem dX5_putPiece_95 : decode cX5_putPiece 95 = .ok (.isub, 1) := by decide +kernel
theorem dX5_putPiece_96 : decode cX5_putPiece 96 = .ok (.bipush 94, 2) := by decide +kernel
theorem dX5_putPiece_98 : decode cX5_putPiece 98 = .ok (.invokevirtual 122, 3) := by decide +kernel
theorem dX5_putPiece_101 : decode cX5_putPiece 101 = .ok (.aload_n 0, 1) := by decide +kernel
theorem dX5_putPiece_102 : decode cX5_putPiece 102 = .ok (.iload_n 2, 1) := by decide +kernel
theorem dX5_putPiece_103 : decode cX5_putPiece 103 = .ok (.aload_n 0, 1) := by decide +kernel
theorem dX5_putPiece_104 : decode cX5_putPiece 104 = .ok (.getfield 15, 3) := by decide +kernel
theorem dX5_putPiece_107 : decode cX5_putPiece 107 = .ok (.iload_n 1, 1) := by decide +kernel
theorem dX5_putPiece_108 : decode cX5_putPiece 108 = .ok (.iaload, 1) := by decide +kernel
theorem dX5_putPiece_109 : decode cX5_putPiece 109 = .ok (.iadd, 1) := by decide +kernel
theorem dX5_putPiece_110 : decode cX5_putPiece 110 = .ok (.iconst 1, 1) := by decide +kernel
theorem dX5_putPiece_111 : decode cX5_putPiece 111 = .ok (.isub, 1) := by decide +kernel
theorem dX5_putPiece_112 : decode cX5_putPiece 112 = .ok (.bipush 48, 2) := by decide +kernel
theorem dX5_putPiece_114 : decode cX5_putPiece 114 = .ok (.aload_n 3, 1) := by decide +kernel
theorem dX5_putPiece_115 : decode cX5_putPiece 115 = .ok (.getfield 95, 3) := by decide +kernel
theorem dX5_putPiece_118 : decode cX5_putPiece 118 = .ok (.iadd, 1) := by decide +kernel
theorem dX5_putPiece_119 : decode cX5_putPiece 119 = .ok (.i2c, 1) := by decide +kernel
theorem dX5_putPiece_120 : decode cX5_putPiece 120 = .ok (.invokevirtual 122, 3) := by decide +kernel
theorem dX5_putPiece_123 : decode cX5_putPiece 123 = .ok (.goto 90, 3) := by decide +kernel
theorem dX5_putPiece_126 : decode cX5_putPiece 126 = .ok (.aload_n 0, 1) := by decide +kernel
theorem dX5_putPiece_127 : decode cX5_putPiece 127 = .ok (.iload_n 2, 1) := by decide +kernel
theorem dX5_putPiece_128 : decode cX5_putPiece 128 = .ok (.bipush 40, 2) := by decide +kernel
theorem dX5_putPiece_130 : decode cX5_putPiece 130 = .ok (.invokevirtual 122, 3) := by decide +kernel
theorem dX5_putPiece_133 : decode cX5_putPiece 133 = .ok (.aload_n 0, 1) := by decide +kernel
theorem dX5_putPiece_134 : decode cX5_putPiece 134 = .ok (.aload_n 3, 1) := by decide +kernel
theorem dX5_putPiece_135 : decode cX5_putPiece 135 = .ok (.getfield 92, 3) := by decide +kernel
theorem dX5_putPiece_138 : decode cX5_putPiece 138 = .ok (.iload_n 2, 1) := by decide +kernel
theorem dX5_putPiece_139 : decode cX5_putPiece 139 = .ok (.iconst 1, 1) := by decide +kernel
theorem dX5_putPiece_140 : decode cX5_putPiece 140 = .ok (.iadd, 1) := by decide +kernel
theorem dX5_putPiece_141 : decode cX5_putPiece 141 = .ok (.invokevirtual 72, 3) := by decide +kernel
theorem dX5_putPiece_144 : decode cX5_putPiece 144 = .ok (.aload_n 0, 1) := by decide +kernel
theorem dX5_putPiece_145 : decode cX5_putPiece 145 = .ok (.iload_n 2, 1) := by decide +kernel
theorem dX5_putPiece_146 : decode cX5_putPiece 146 = .ok (.iconst 1, 1) := by decide +kernel
theorem dX5_putPiece_147 : decode cX5_putPiece 147 = .ok (.iadd, 1) := by decide +kernel
theorem dX5_putPiece_148 : decode cX5_putPiece 148 = .ok (.aload_n 0, 1) := by decide +kernel
theorem dX5_putPiece_149 : decode cX5_putPiece 149 = .ok (.getfield 15, 3) := by decide +kernel
theorem dX5_putPiece_152 : decode cX5_putPiece 152 = .ok (.aload_n 3, 1) := by decide +kernel
theorem dX5_putPiece_153 : decode cX5_putPiece 153 = .ok (.getfield 92, 3) := by decide +kernel
theorem dX5_putPiece_156 : decode cX5_putPiece 156 = .ok (.iaload, 1) := by decide +kernel
theorem dX5_putPiece_157 : decode cX5_putPiece 157 = .ok (.iadd, 1) := by decide +kernel
theorem dX5_putPiece_158 : decode cX5_putPiece 158 = .ok (.aload_n 3, 1) := by decide +kernel
theorem dX5_putPiece_159 : decode cX5_putPiece 159 = .ok (.getfield 79, 3) := by decide +kernel
theorem dX5_putPiece_162 : decode cX5_putPiece 162 = .ok (.iconst 2, 1) := by decide +kernel
theorem dX5_putPiece_163 : decode cX5_putPiece 163 = .ok (.if_icmp .ne 8, 3) := by decide +kernel
theorem dX5_putPiece_166 : decode cX5_putPiece 166 = .ok (.bipush 43, 2) := by decide +kernel
theorem dX5_putPiece_168 : decode cX5_putPiece 168 = .ok (.goto 5, 3) := by decide +kernel
theorem dX5_putPiece_171 : decode cX5_putPiece 171 = .ok (.bipush 42, 2) := by decide +kernel
theorem dX5_putPiece_173 : decode cX5_putPiece 173 = .ok (.invokevirtual 122, 3) := by decide +kernel
theorem dX5_putPiece_176 : decode cX5_putPiece 176 = .ok (.aload_n 0, 1) := by decide +kernel
theorem dX5_putPiece_177 : decode cX5_putPiece 177 = .ok (.aload_n 3, 1) := by decide +kernel
theorem dX5_putPiece_178 : decode cX5_putPiece 178 = .ok (.getfield 95, 3) := by decide +kernel
theorem dX5_putPiece_181 : decode cX5_putPiece 181 = .ok (.iload_n 2, 1) := by decide +kernel
theorem dX5_putPiece_182 : decode cX5_putPiece 182 = .ok (.iconst 2, 1) := by decide +kernel
theorem dX5_putPiece_183 : decode cX5_putPiece 183 = .ok (.iadd, 1) := by decide +kernel
theorem dX5_putPiece_184 : decode cX5_putPiece 184 = .ok (.aload_n 0, 1) := by decide +kernel
theorem dX5_putPiece_185 : decode cX5_putPiece 185 = .ok (.getfield 15, 3) := by decide +kernel
theorem dX5_putPiece_188 : decode cX5_putPiece 188 = .ok (.aload_n 3, 1) := by decide +kernel
theorem dX5_putPiece_189 : decode cX5_putPiece 189 = .ok (.getfield 92, 3) := by decide +kernel
theorem dX5_putPiece_192 : decode cX5_putPiece 192 = .ok (.iaload, 1) := by decide +kernel
theorem dX5_putPiece_193 : decode cX5_putPiece 193 = .ok (.iadd, 1) := by decide +kernel
theorem dX5_putPiece_194 : decode cX5_putPiece 194 = .ok (.invokevirtual 72, 3) := by decide +kernel
theorem dX5_putPiece_197 : decode cX5_putPiece 197 = .ok (.aload_n 0, 1) := by decide +kernel
theorem dX5_putPiece_198 : decode cX5_putPiece 198 = .ok (.iload_n 2, 1) := by decide +kernel
theorem dX5_putPiece_199 : decode cX5_putPiece 199 = .ok (.aload_n 0, 1) := by decide +kernel
theorem dX5_putPiece_200 : decode cX5_putPiece 200 = .ok (.getfield 15, 3) := by decide +kernel
theorem dX5_putPiece_203 : decode cX5_putPiece 203 = .ok (.iload_n 1, 1) := by decide +kernel
theorem dX5_putPiece_204 : decode cX5_putPiece 204 = .ok (.iaload, 1) := by decide +kernel
theorem dX5_putPiece_205 : decode cX5_putPiece 205 = .ok (.iadd, 1) := by decide +kernel
theorem dX5_putPiece_206 : decode cX5_putPiece 206 = .ok (.iconst 1, 1) := by decide +kernel
theorem dX5_putPiece_207 : decode cX5_putPiece 207 = .ok (.isub, 1) := by decide +kernel
theorem dX5_putPiece_208 : decode cX5_putPiece 208 = .ok (.bipush 41, 2) := by decide +kernel
theorem dX5_putPiece_210 : decode cX5_putPiece 210 = .ok (.invokevirtual 122, 3) := by decide +kernel
theorem dX5_putPiece_213 : decode cX5_putPiece 213 = .ok (.return_, 1) := by decide +kernel
theorem dX5_putNumber_0 : decode cX5_putNumber 0 = .ok (.iload_n 2, 1) := by decide +kernel
theorem dX5_putNumber_1 : decode cX5_putNumber 1 = .ok (.istore_n 3, 1) := by decide +kernel
theorem dX5_putNumber_2 : decode cX5_putNumber 2 = .ok (.aload_n 1, 1) := by decide +kernel
theorem dX5_putNumber_3 : decode cX5_putNumber 3 = .ok (.getfield 98, 3) := by decide +kernel
theorem dX5_putNumber_6 : decode cX5_putNumber 6 = .ok (.getfield 107, 3) := by decide +kernel
theorem dX5_putNumber_9 : decode cX5_putNumber 9 = .ok (.ifCond .eq 13, 3) := by decide +kernel
theorem dX5_putNumber_12 : decode cX5_putNumber 12 = .ok (.aload_n 0, 1) := by decide +kernel
theorem dX5_putNumber_13 : decode cX5_putNumber 13 = .ok (.iload_n 3, 1) := by decide +kernel
theorem dX5_putNumber_14 : decode cX5_putNumber 14 = .ok (.bipush 45, 2) := by decide +kernel
theorem dX5_putNumber_16 : decode cX5_putNumber 16 = .ok (.invokevirtual 122, 3) := by decide +kernel
theorem dX5_putNumber_19 : decode cX5_putNumber 19 = .ok (.iinc 3 1, 3) := by decide +kernel
theorem dX5_putNumber_22 : decode cX5_putNumber 22 = .ok (.aload_n 0, 1) := by decide +kernel
theorem dX5_putNumber_23 : decode cX5_putNumber 23 = .ok (.aload_n 1, 1) := by decide +kernel
theorem dX5_putNumber_24 : decode cX5_putNumber 24 = .ok (.getfield 98, 3) := by decide +kernel
theorem dX5_putNumber_27 : decode cX5_putNumber 27 = .ok (.iload_n 3, 1) := by decide +kernel
theorem dX5_putNumber_28 : decode cX5_putNumber 28 = .ok (.invokevirtual 126, 3) := by decide +kernel
theorem dX5_putNumber_31 : decode cX5_putNumber 31 = .ok (.istore_n 3, 1) := by decide +kernel
theorem dX5_putNumber_32 : decode cX5_putNumber 32 = .ok (.aload_n 1, 1) := by decide +kernel
theorem dX5_putNumber_33 : decode cX5_putNumber 33 = .ok (.getfield 111, 3) := by decide +kernel
theorem dX5_putNumber_36 : decode cX5_putNumber 36 = .ok (.invokevirtual 114, 3) := by decide +kernel
theorem dX5_putNumber_39 : decode cX5_putNumber 39 = .ok (.ifCond .ne 22, 3) := by decide +kernel
theorem dX5_putNumber_42 : decode cX5_putNumber 42 = .ok (.aload_n 0, 1) := by decide +kernel
theorem dX5_putNumber_43 : decode cX5_putNumber 43 = .ok (.iload_n 3, 1) := by decide +kernel
theorem dX5_putNumber_44 : decode cX5_putNumber 44 = .ok (.bipush 47, 2) := by decide +kernel
theorem dX5_putNumber_46 : decode cX5_putNumber 46 = .ok (.invokevirtual 122, 3) := by decide +kernel
theorem dX5_putNumber_49 : decode cX5_putNumber 49 = .ok (.aload_n 0, 1) := by decide +kernel
theorem dX5_putNumber_50 : decode cX5_putNumber 50 = .ok (.aload_n 1, 1) := by decide +kernel
theorem dX5_putNumber_51 : decode cX5_putNumber 51 = .ok (.getfield 111, 3) := by decide +kernel
theorem dX5_putNumber_54 : decode cX5_putNumber 54 = .ok (.iload_n 3, 1) := by decide +kernel
theorem dX5_putNumber_55 : decode cX5_putNumber 55 = .ok (.iconst 1, 1) := by decide +kernel
theorem dX5_putNumber_56 : decode cX5_putNumber 56 = .ok (.iadd, 1) := by decide +kernel
theorem dX5_putNumber_57 : decode cX5_putNumber 57 = .ok (.invokevirtual 126, 3) := by decide +kernel
theorem dX5_putNumber_60 : decode cX5_putNumber 60 = .ok (.pop, 1) := by decide +kernel
theorem dX5_putNumber_61 : decode cX5_putNumber 61 = .ok (.return_, 1) := by decide +kernel
theorem dX5_putDigits_0 : decode cX5_putDigits 0 = .ok (.aload_n 0, 1) := by decide +kernel
theorem dX5_putDigits_1 : decode cX5_putDigits 1 = .ok (.aload_n 1, 1) := by decide +kernel
theorem dX5_putDigits_2 : decode cX5_putDigits 2 = .ok (.invokevirtual 103, 3) := by decide +kernel
theorem dX5_putDigits_5 : decode cX5_putDigits 5 = .ok (.istore_n 3, 1) := by decide +kernel
theorem dX5_putDigits_6 : decode cX5_putDigits 6 = .ok (.iconst 0, 1) := by decide +kernel
theorem dX5_putDigits_7 : decode cX5_putDigits 7 = .ok (.istore 4, 2) := by decide +kernel
theorem dX5_putDigits_9 : decode cX5_putDigits 9 = .ok (.iload 4, 2) := by decide +kernel
theorem dX5_putDigits_11 : decode cX5_putDigits 11 = .ok (.iload_n 3, 1) := by decide +kernel
theorem dX5_putDigits_12 : decode cX5_putDigits 12 = .ok (.if_icmp .ge 28, 3) := by decide +kernel
theorem dX5_putDigits_15 : decode cX5_putDigits 15 = .ok (.aload_n 0, 1) := by decide +kernel
theorem dX5_putDigits_16 : decode cX5_putDigits 16 = .ok (.iload_n 2, 1) := by decide +kernel
theorem dX5_putDigits_17 : decode cX5_putDigits 17 = .ok (.iload 4, 2) := by decide +kernel
theorem dX5_putDigits_19 : decode cX5_putDigits 19 = .ok (.iadd, 1) := by decide +kernel
theorem dX5_putDigits_20 : decode cX5_putDigits 20 = .ok (.aload_n 0, 1) := by decide +kernel
theorem dX5_putDigits_21 : decode cX5_putDigits 21 = .ok (.getfield 25, 3) := by decide +kernel
theorem dX5_putDigits_24 : decode cX5_putDigits 24 = .ok (.iload_n 3, 1) := by decide +kernel
theorem dX5_putDigits_25 : decode cX5_putDigits 25 = .ok (.iconst 1, 1) := by decide +kernel
theorem dX5_putDigits_26 : decode cX5_putDigits 26 = .ok (.isub, 1) := by decide +kernel
theorem dX5_putDigits_27 : decode cX5_putDigits 27 = .ok (.iload 4, 2) := by decide +kernel
theorem dX5_putDigits_29 : decode cX5_putDigits 29 = .ok (.isub, 1) := by decide +kernel
theorem dX5_putDigits_30 : decode cX5_putDigits 30 = .ok (.caload, 1) := by decide +kernel
theorem dX5_putDigits_31 : decode cX5_putDigits 31 = .ok (.invokevirtual 122, 3) := by decide +kernel
theorem dX5_putDigits_34 : decode cX5_putDigits 34 = .ok (.iinc 4 1, 3) := by decide +kernel
theorem dX5_putDigits_37 : decode cX5_putDigits 37 = .ok (.goto (-28), 3) := by decide +kernel
theorem dX5_putDigits_40 : decode cX5_putDigits 40 = .ok (.iload_n 2, 1) := by decide +kernel
theorem dX5_putDigits_41 : decode cX5_putDigits 41 = .ok (.iload_n 3, 1) := by decide +kernel
theorem dX5_putDigits_42 : decode cX5_putDigits 42 = .ok (.iadd, 1) := by decide +kernel
theorem dX5_putDigits_43 : decode cX5_putDigits 43 = .ok (.ireturn, 1) := by decide +kernel
theorem dX5_findDigits_0 : decode cX5_findDigits 0 = .ok (.aload_n 0, 1) := by decide +kernel
theorem dX5_findDigits_1 : decode cX5_findDigits 1 = .ok (.getfield 33, 3) := by decide +kernel
theorem dX5_findDigits_4 : decode cX5_findDigits 4 = .ok (.aload_n 1, 1) := by decide +kernel
theorem dX5_findDigits_5 : decode cX5_findDigits 5 = .ok (.invokevirtual 130, 3) := by decide +kernel
theorem dX5_findDigits_8 : decode cX5_findDigits 8 = .ok (.iconst 0, 1) := by decide +kernel
theorem dX5_findDigits_9 : decode cX5_findDigits 9 = .ok (.istore_n 2, 1) := by decide +kernel
theorem dX5_findDigits_10 : decode cX5_findDigits 10 = .ok (.iconst 0, 1) := by decide +kernel
theorem dX5_findDigits_11 : decode cX5_findDigits 11 = .ok (.istore_n 3, 1) := by decide +kernel
theorem dX5_findDigits_12 : decode cX5_findDigits 12 = .ok (.bipush 9, 2) := by decide +kernel
theorem dX5_findDigits_14 : decode cX5_findDigits 14 = .ok (.iload_n 3, 1) := by decide +kernel
theorem dX5_findDigits_15 : decode cX5_findDigits 15 = .ok (.imul, 1) := by decide +kernel
theorem dX5_findDigits_16 : decode cX5_findDigits 16 = .ok (.bipush 9, 2) := by decide +kernel
theorem dX5_findDigits_18 : decode cX5_findDigits 18 = .ok (.iadd, 1) := by decide +kernel
theorem dX5_findDigits_19 : decode cX5_findDigits 19 = .ok (.sipush 135, 3) := by decide +kernel
theorem dX5_findDigits_22 : decode cX5_findDigits 22 = .ok (.if_icmp .gt 80, 3) := by decide +kernel
theorem dX5_findDigits_25 : decode cX5_findDigits 25 = .ok (.aload_n 0, 1) := by decide +kernel
theorem dX5_findDigits_26 : decode cX5_findDigits 26 = .ok (.getfield 33, 3) := by decide +kernel
theorem dX5_findDigits_29 : decode cX5_findDigits 29 = .ok (.getfield 134, 3) := by decide +kernel
theorem dX5_findDigits_32 : decode cX5_findDigits 32 = .ok (.ifCond .le 70, 3) := by decide +kernel
theorem dX5_findDigits_35 : decode cX5_findDigits 35 = .ok (.aload_n 0, 1) := by decide +kernel
theorem dX5_findDigits_36 : decode cX5_findDigits 36 = .ok (.getfield 33, 3) := by decide +kernel
theorem dX5_findDigits_39 : decode cX5_findDigits 39 = .ok (.invokevirtual 137, 3) := by decide +kernel
theorem dX5_findDigits_42 : decode cX5_findDigits 42 = .ok (.istore 4, 2) := by decide +kernel
theorem dX5_findDigits_44 : decode cX5_findDigits 44 = .ok (.iconst 0, 1) := by decide +kernel
theorem dX5_findDigits_45 : decode cX5_findDigits 45 = .ok (.istore 5, 2) := by decide +kernel
theorem dX5_findDigits_47 : decode cX5_findDigits 47 = .ok (.iload 5, 2) := by decide +kernel
theorem dX5_findDigits_49 : decode cX5_findDigits 49 = .ok (.bipush 9, 2) := by decide +kernel
theorem dX5_findDigits_51 : decode cX5_findDigits 51 = .ok (.if_icmp .ge 37, 3) := by decide +kernel
theorem dX5_findDigits_54 : decode cX5_findDigits 54 = .ok (.aload_n 0, 1) := by decide +kernel
theorem dX5_findDigits_55 : decode cX5_findDigits 55 = .ok (.getfield 25, 3) := by decide +kernel
theorem dX5_findDigits_58 : decode cX5_findDigits 58 = .ok (.bipush 9, 2) := by decide +kernel
theorem dX5_findDigits_60 : decode cX5_findDigits 60 = .ok (.iload_n 3, 1) := by decide +kernel
theorem dX5_findDigits_61 : decode cX5_findDigits 61 = .ok (.imul, 1) := by decide +kernel
theorem dX5_findDigits_62 : decode cX5_findDigits 62 = .ok (.iload 5, 2) := by decide +kernel
theorem dX5_findDigits_64 : decode cX5_findDigits 64 = .ok (.iadd, 1) := by decide +kernel
theorem dX5_findDigits_65 : decode cX5_findDigits 65 = .ok (.bipush 48, 2) := by decide +kernel
theorem dX5_findDigits_67 : decode cX5_findDigits 67 = .ok (.iload 4, 2) := by decide +kernel
theorem dX5_findDigits_69 : decode cX5_findDigits 69 = .ok (.bipush 10, 2) := by decide +kernel
theorem dX5_findDigits_71 : decode cX5_findDigits 71 = .ok (.irem, 1) := by decide +kernel
theorem dX5_findDigits_72 : decode cX5_findDigits 72 = .ok (.iadd, 1) := by decide +kernel
theorem dX5_findDigits_73 : decode cX5_findDigits 73 = .ok (.i2c, 1) := by decide +kernel
theorem dX5_findDigits_74 : decode cX5_findDigits 74 = .ok (.castore, 1) := by decide +kernel
theorem dX5_findDigits_75 : decode cX5_findDigits 75 = .ok (.iload 4, 2) := by decide +kernel
theorem dX5_findDigits_77 : decode cX5_findDigits 77 = .ok (.bipush 10, 2) := by decide +kernel
theorem dX5_findDigits_79 : decode cX5_findDigits 79 = .ok (.idiv, 1) := by decide +kernel
theorem dX5_findDigits_80 : decode cX5_findDigits 80 = .ok (.istore 4, 2) := by decide +kernel
theorem dX5_findDigits_82 : decode cX5_findDigits 82 = .ok (.iinc 5 1, 3) := by decide +kernel
theorem dX5_findDigits_85 : decode cX5_findDigits 85 = .ok (.goto (-38), 3) := by decide +kernel
theorem dX5_findDigits_88 : decode cX5_findDigits 88 = .ok (.bipush 9, 2) := by decide +kernel
theorem dX5_findDigits_90 : decode cX5_findDigits 90 = .ok (.iload_n 3, 1) := by decide +kernel
theorem dX5_findDigits_91 : decode cX5_findDigits 91 = .ok (.imul, 1) := by decide +kernel
theorem dX5_findDigits_92 : decode cX5_findDigits 92 = .ok (.bipush 9, 2) := by decide +kernel
theorem dX5_findDigits_94 : decode cX5_findDigits 94 = .ok (.iadd, 1) := by decide +kernel
theorem dX5_findDigits_95 : decode cX5_findDigits 95 = .ok (.istore_n 2, 1) := by decide +kernel
theorem dX5_findDigits_96 : decode cX5_findDigits 96 = .ok (.iinc 3 1, 3) := by decide +kernel
theorem dX5_findDigits_99 : decode cX5_findDigits 99 = .ok (.goto (-87), 3) := by decide +kernel
theorem dX5_findDigits_102 : decode cX5_findDigits 102 = .ok (.iload_n 2, 1) := by decide +kernel
theorem dX5_findDigits_103 : decode cX5_findDigits 103 = .ok (.iconst 1, 1) := by decide +kernel
theorem dX5_findDigits_104 : decode cX5_findDigits 104 = .ok (.if_icmp .le 22, 3) := by decide +kernel
theorem dX5_findDigits_107 : decode cX5_findDigits 107 = .ok (.aload_n 0, 1) := by decide +kernel
theorem dX5_findDigits_108 : decode cX5_findDigits 108 = .ok (.getfield 25, 3) := by decide +kernel
theorem dX5_findDigits_111 : decode cX5_findDigits 111 = .ok (.iload_n 2, 1) := by decide +kernel
theorem dX5_findDigits_112 : decode cX5_findDigits 112 = .ok (.iconst 1, 1) := by decide +kernel
theorem dX5_findDigits_113 : decode cX5_findDigits 113 = .ok (.isub, 1) := by decide +kernel
theorem dX5_findDigits_114 : decode cX5_findDigits 114 = .ok (.caload, 1) := by decide +kernel
theorem dX5_findDigits_115 : decode cX5_findDigits 115 = .ok (.bipush 48, 2) := by decide +kernel
theorem dX5_findDigits_117 : decode cX5_findDigits 117 = .ok (.if_icmp .ne 9, 3) := by decide +kernel
theorem dX5_findDigits_120 : decode cX5_findDigits 120 = .ok (.iinc 2 (-1), 3) := by decide +kernel
theorem dX5_findDigits_123 : decode cX5_findDigits 123 = .ok (.goto (-21), 3) := by decide +kernel
theorem dX5_findDigits_126 : decode cX5_findDigits 126 = .ok (.iload_n 2, 1) := by decide +kernel
theorem dX5_findDigits_127 : decode cX5_findDigits 127 = .ok (.ifCond .ne 11, 3) := by decide +kernel
theorem dX5_findDigits_130 : decode cX5_findDigits 130 = .ok (.aload_n 0, 1) := by decide +kernel
theorem dX5_findDigits_131 : decode cX5_findDigits 131 = .ok (.getfield 25, 3) := by decide +kernel
theorem dX5_findDigits_134 : decode cX5_findDigits 134 = .ok (.iconst 0, 1) := by decide +kernel
theorem dX5_findDigits_135 : decode cX5_findDigits 135 = .ok (.bipush 48, 2) := by decide +kernel
theorem dX5_findDigits_137 : decode cX5_findDigits 137 = .ok (.castore, 1) := by decide +kernel
theorem dX5_findDigits_138 : decode cX5_findDigits 138 = .ok (.iload_n 2, 1) := by decide +kernel
theorem dX5_findDigits_139 : decode cX5_findDigits 139 = .ok (.iconst 1, 1) := by decide +kernel
theorem dX5_findDigits_140 : decode cX5_findDigits 140 = .ok (.invokestatic 141, 3) := by decide +kernel
theorem dX5_findDigits_143 : decode cX5_findDigits 143 = .ok (.ireturn, 1) := by decide +kernel
theorem dX5_putLetter_0 : decode cX5_putLetter 0 = .ok (.iload_n 1, 1) := by decide +kernel
theorem dX5_putLetter_1 : decode cX5_putLetter 1 = .ok (.ifCond .lt 17, 3) := by decide +kernel
theorem dX5_putLetter_4 : decode cX5_putLetter 4 = .ok (.iload_n 1, 1) := by decide +kernel
theorem dX5_putLetter_5 : decode cX5_putLetter 5 = .ok (.sipush 250, 3) := by decide +kernel
theorem dX5_putLetter_8 : decode cX5_putLetter 8 = .ok (.if_icmp .ge 10, 3) := by decide +kernel
theorem dX5_putLetter_11 : decode cX5_putLetter 11 = .ok (.aload_n 0, 1) := by decide +kernel
theorem dX5_putLetter_12 : decode cX5_putLetter 12 = .ok (.getfield 9, 3) := by decide +kernel
theorem dX5_putLetter_15 : decode cX5_putLetter 15 = .ok (.iload_n 1, 1) := by decide +kernel
theorem dX5_putLetter_16 : decode cX5_putLetter 16 = .ok (.iload_n 2, 1) := by decide +kernel
theorem dX5_putLetter_17 : decode cX5_putLetter 17 = .ok (.castore, 1) := by decide +kernel
theorem dX5_putLetter_18 : decode cX5_putLetter 18 = .ok (.return_, 1) := by decide +kernel
theorem dX6_init_0 : decode cX6_init 0 = .ok (.aload_n 0, 1) := by decide +kernel
theorem dX6_init_1 : decode cX6_init 1 = .ok (.invokespecial 3, 3) := by decide +kernel
theorem dX6_init_4 : decode cX6_init 4 = .ok (.aload_n 0, 1) := by decide +kernel
theorem dX6_init_5 : decode cX6_init 5 = .ok (.sipush 200, 3) := by decide +kernel
theorem dX6_init_8 : decode cX6_init 8 = .ok (.anewarray 9, 3) := by decide +kernel
theorem dX6_init_11 : decode cX6_init 11 = .ok (.putfield 11, 3) := by decide +kernel
theorem dX6_init_14 : decode cX6_init 14 = .ok (.aload_n 0, 1) := by decide +kernel
theorem dX6_init_15 : decode cX6_init 15 = .ok (.sipush 200, 3) := by decide +kernel
theorem dX6_init_18 : decode cX6_init 18 = .ok (.newarray .boolean, 2) := by decide +kernel
theorem dX6_init_20 : decode cX6_init 20 = .ok (.putfield 17, 3) := by decide +kernel
theorem dX6_init_23 : decode cX6_init 23 = .ok (.aload_n 0, 1) := by decide +kernel
theorem dX6_init_24 : decode cX6_init 24 = .ok (.sipush 200, 3) := by decide +kernel
theorem dX6_init_27 : decode cX6_init 27 = .ok (.newarray .int, 2) := by decide +kernel
theorem dX6_init_29 : decode cX6_init 29 = .ok (.putfield 21, 3) := by decide +kernel
theorem dX6_init_32 : decode cX6_init 32 = .ok (.aload_n 0, 1) := by decide +kernel
theorem dX6_init_33 : decode cX6_init 33 = .ok (.new 25, 3) := by decide +kernel
theorem dX6_init_36 : decode cX6_init 36 = .ok (.dup, 1) := by decide +kernel
theorem dX6_init_37 : decode cX6_init 37 = .ok (.bipush 64, 2) := by decide +kernel
theorem dX6_init_39 : decode cX6_init 39 = .ok (.invokespecial 27, 3) := by decide +kernel
theorem dX6_init_42 : decode cX6_init 42 = .ok (.putfield 30, 3) := by decide +kernel
theorem dX6_init_45 : decode cX6_init 45 = .ok (.aload_n 0, 1) := by decide +kernel
theorem dX6_init_46 : decode cX6_init 46 = .ok (.new 34, 3) := by decide +kernel
theorem dX6_init_49 : decode cX6_init 49 = .ok (.dup, 1) := by decide +kernel
theorem dX6_init_50 : decode cX6_init 50 = .ok (.bipush 64, 2) := by decide +kernel
theorem dX6_init_52 : decode cX6_init 52 = .ok (.invokespecial 36, 3) := by decide +kernel
theorem dX6_init_55 : decode cX6_init 55 = .ok (.putfield 37, 3) := by decide +kernel
theorem dX6_init_58 : decode cX6_init 58 = .ok (.aload_n 0, 1) := by decide +kernel
theorem dX6_init_59 : decode cX6_init 59 = .ok (.aload_n 1, 1) := by decide +kernel
theorem dX6_init_60 : decode cX6_init 60 = .ok (.putfield 41, 3) := by decide +kernel
theorem dX6_init_63 : decode cX6_init 63 = .ok (.iconst 0, 1) := by decide +kernel
theorem dX6_init_64 : decode cX6_init 64 = .ok (.istore_n 2, 1) := by decide +kernel
theorem dX6_init_65 : decode cX6_init 65 = .ok (.iload_n 2, 1) := by decide +kernel
theorem dX6_init_66 : decode cX6_init 66 = .ok (.sipush 200, 3) := by decide +kernel
theorem dX6_init_69 : decode cX6_init 69 = .ok (.if_icmp .ge 22, 3) := by decide +kernel
theorem dX6_init_72 : decode cX6_init 72 = .ok (.aload_n 0, 1) := by decide +kernel
theorem dX6_init_73 : decode cX6_init 73 = .ok (.getfield 11, 3) := by decide +kernel
theorem dX6_init_76 : decode cX6_init 76 = .ok (.iload_n 2, 1) := by decide +kernel
theorem dX6_init_77 : decode cX6_init 77 = .ok (.new 9, 3) := by decide +kernel
theorem dX6_init_80 : decode cX6_init 80 = .ok (.dup, 1) := by decide +kernel
theorem dX6_init_81 : decode cX6_init 81 = .ok (.invokespecial 45, 3) := by decide +kernel
theorem dX6_init_84 : decode cX6_init 84 = .ok (.aastore, 1) := by decide +kernel
theorem dX6_init_85 : decode cX6_init 85 = .ok (.iinc 2 1, 3) := by decide +kernel
theorem dX6_init_88 : decode cX6_init 88 = .ok (.goto (-23), 3) := by decide +kernel
theorem dX6_init_91 : decode cX6_init 91 = .ok (.return_, 1) := by decide +kernel
theorem dX6_makeWhole_0 : decode cX6_makeWhole 0 = .ok (.aload_n 0, 1) := by decide +kernel
theorem dX6_makeWhole_1 : decode cX6_makeWhole 1 = .ok (.getfield 30, 3) := by decide +kernel
theorem dX6_makeWhole_4 : decode cX6_makeWhole 4 = .ok (.iload_n 1, 1) := by decide +kernel
theorem dX6_makeWhole_5 : decode cX6_makeWhole 5 = .ok (.iconst 1, 1) := by decide +kernel
theorem dX6_makeWhole_6 : decode cX6_makeWhole 6 = .ok (.invokevirtual 46, 3) := by decide +kernel
theorem dX6_makeWhole_9 : decode cX6_makeWhole 9 = .ok (.aload_n 0, 1) := by decide +kernel
theorem dX6_makeWhole_10 : decode cX6_makeWhole 10 = .ok (.invokevirtual 50, 3) := by decide +kernel
theorem dX6_makeWhole_13 : decode cX6_makeWhole 13 = .ok (.ireturn, 1) := by decide +kernel
theorem dX6_makeRatio_0 : decode cX6_makeRatio 0 = .ok (.aload_n 0, 1) := by decide +kernel
theorem dX6_makeRatio_1 : decode cX6_makeRatio 1 = .ok (.getfield 30, 3) := by decide +kernel
theorem dX6_makeRatio_4 : decode cX6_makeRatio 4 = .ok (.iload_n 1, 1) := by decide +kernel
theorem dX6_makeRatio_5 : decode cX6_makeRatio 5 = .ok (.iload_n 2, 1) := by decide +kernel
theorem dX6_makeRatio_6 : decode cX6_makeRatio 6 = .ok (.invokevirtual 46, 3) := by decide +kernel
theorem dX6_makeRatio_9 : decode cX6_makeRatio 9 = .ok (.aload_n 0, 1) := by decide +kernel
theorem dX6_makeRatio_10 : decode cX6_makeRatio 10 = .ok (.getfield 41, 3) := by decide +kernel
theorem dX6_makeRatio_13 : decode cX6_makeRatio 13 = .ok (.aload_n 0, 1) := by decide +kernel
theorem dX6_makeRatio_14 : decode cX6_makeRatio 14 = .ok (.getfield 30, 3) := by decide +kernel
theorem dX6_makeRatio_17 : decode cX6_makeRatio 17 = .ok (.invokevirtual 54, 3) := by decide +kernel
theorem dX6_makeRatio_20 : decode cX6_makeRatio 20 = .ok (.aload_n 0, 1) := by decide +kernel
theorem dX6_makeRatio_21 : decode cX6_makeRatio 21 = .ok (.invokevirtual 50, 3) := by decide +kernel
theorem dX6_makeRatio_24 : decode cX6_makeRatio 24 = .ok (.ireturn, 1) := by decide +kernel
theorem dX6_makeVariable_0 : decode cX6_makeVariable 0 = .ok (.aload_n 0, 1) := by decide +kernel
theorem dX6_makeVariable_1 : decode cX6_makeVariable 1 = .ok (.iconst 1, 1) := by decide +kernel
theorem dX6_makeVariable_2 : decode cX6_makeVariable 2 = .ok (.iload_n 1, 1) := by decide +kernel
theorem dX6_makeVariable_3 : decode cX6_makeVariable 3 = .ok (.iconst (-1), 1) := by decide +kernel
theorem dX6_makeVariable_4 : decode cX6_makeVariable 4 = .ok (.iconst 1, 1) := by decide +kernel
theorem dX6_makeVariable_5 : decode cX6_makeVariable 5 = .ok (.iconst 1, 1) := by decide +kernel
theorem dX6_makeVariable_6 : decode cX6_makeVariable 6 = .ok (.iconst 0, 1) := by decide +kernel
theorem dX6_makeVariable_7 : decode cX6_makeVariable 7 = .ok (.invokevirtual 60, 3) := by decide +kernel
theorem dX6_makeVariable_10 : decode cX6_makeVariable 10 = .ok (.ireturn, 1) := by decide +kernel
theorem dX6_makeSum_0 : decode cX6_makeSum 0 = .ok (.iload_n 1, 1) := by decide +kernel
theorem dX6_makeSum_1 : decode cX6_makeSum 1 = .ok (.ifCond .lt 7, 3) := by decide +kernel
theorem dX6_makeSum_4 : decode cX6_makeSum 4 = .ok (.iload_n 2, 1) := by decide +kernel
theorem dX6_makeSum_5 : decode cX6_makeSum 5 = .ok (.ifCond .ge 13, 3) := by decide +kernel
theorem dX6_makeSum_8 : decode cX6_makeSum 8 = .ok (.iload_n 1, 1) := by decide +kernel
theorem dX6_makeSum_9 : decode cX6_makeSum 9 = .ok (.ifCond .ge 7, 3) := by decide +kernel
theorem dX6_makeSum_12 : decode cX6_makeSum 12 = .ok (.iload_n 1, 1) := by decide +kernel
theorem dX6_makeSum_13 : decode cX6_makeSum 13 = .ok (.goto 4, 3) := by decide +kernel
theorem dX6_makeSum_16 : decode cX6_makeSum 16 = .ok (.iload_n 2, 1) := by decide +kernel
theorem dX6_makeSum_17 : decode cX6_makeSum 17 = .ok (.ireturn, 1) := by decide +kernel
theorem dX6_makeSum_18 : decode cX6_makeSum 18 = .ok (.aload_n 0, 1) := by decide +kernel
theorem dX6_makeSum_19 : decode cX6_makeSum 19 = .ok (.getfield 11, 3) := by decide +kernel
theorem dX6_makeSum_22 : decode cX6_makeSum 22 = .ok (.iload_n 1, 1) := by decide +kernel
theorem dX6_makeSum_23 : decode cX6_makeSum 23 = .ok (.aaload, 1) := by decide +kernel
theorem dX6_makeSum_24 : decode cX6_makeSum 24 = .ok (.astore_n 3, 1) := by decide +kernel
theorem dX6_makeSum_25 : decode cX6_makeSum 25 = .ok (.aload_n 0, 1) := by decide +kernel
theorem dX6_makeSum_26 : decode cX6_makeSum 26 = .ok (.getfield 11, 3) := by decide +kernel
theorem dX6_makeSum_29 : decode cX6_makeSum 29 = .ok (.iload_n 2, 1) := by decide +kernel
theorem dX6_makeSum_30 : decode cX6_makeSum 30 = .ok (.aaload, 1) := by decide +kernel
theorem dX6_makeSum_31 : decode cX6_makeSum 31 = .ok (.astore 4, 2) := by decide +kernel
theorem dX6_makeSum_33 : decode cX6_makeSum 33 = .ok (.aload_n 3, 1) := by decide +kernel
theorem dX6_makeSum_34 : decode cX6_makeSum 34 = .ok (.getfield 64, 3) := by decide +kernel
theorem dX6_makeSum_37 : decode cX6_makeSum 37 = .ok (.ifCond .ne 48, 3) := by decide +kernel
theorem dX6_makeSum_40 : decode cX6_makeSum 40 = .ok (.aload 4, 2) := by decide +kernel
theorem dX6_makeSum_42 : decode cX6_makeSum 42 = .ok (.getfield 64, 3) := by decide +kernel
theorem dX6_makeSum_45 : decode cX6_makeSum 45 = .ok (.ifCond .ne 40, 3) := by decide +kernel
theorem dX6_makeSum_48 : decode cX6_makeSum 48 = .ok (.aload_n 0, 1) := by decide +kernel
theorem dX6_makeSum_49 : decode cX6_makeSum 49 = .ok (.getfield 41, 3) := by decide +kernel
theorem dX6_makeSum_52 : decode cX6_makeSum 52 = .ok (.aload_n 3, 1) := by decide +kernel
theorem dX6_makeSum_53 : decode cX6_makeSum 53 = .ok (.getfield 68, 3) := by decide +kernel
theorem dX6_makeSum_56 : decode cX6_makeSum 56 = .ok (.aload 4, 2) := by decide +kernel
theorem dX6_makeSum_58 : decode cX6_makeSum 58 = .ok (.getfield 68, 3) := by decide +kernel
theorem dX6_makeSum_61 : decode cX6_makeSum 61 = .ok (.iconst 0, 1) := by decide +kernel
theorem dX6_makeSum_62 : decode cX6_makeSum 62 = .ok (.aload_n 0, 1) := by decide +kernel
theorem dX6_makeSum_63 : decode cX6_makeSum 63 = .ok (.getfield 30, 3) := by decide +kernel
theorem dX6_makeSum_66 : decode cX6_makeSum 66 = .ok (.invokevirtual 71, 3) := by decide +kernel
theorem dX6_makeSum_69 : decode cX6_makeSum 69 = .ok (.aload_n 0, 1) := by decide +kernel
theorem dX6_makeSum_70 : decode cX6_makeSum 70 = .ok (.getfield 41, 3) := by decide +kernel
theorem dX6_makeSum_73 : decode cX6_makeSum 73 = .ok (.aload_n 0, 1) := by decide +kernel
theorem dX6_makeSum_74 : decode cX6_makeSum 74 = .ok (.getfield 30, 3) := by decide +kernel
theorem dX6_makeSum_77 : decode cX6_makeSum 77 = .ok (.invokevirtual 54, 3) := by decide +kernel
theorem dX6_makeSum_80 : decode cX6_makeSum 80 = .ok (.aload_n 0, 1) := by decide +kernel
theorem dX6_makeSum_81 : decode cX6_makeSum 81 = .ok (.invokevirtual 50, 3) := by decide +kernel
theorem dX6_makeSum_84 : decode cX6_makeSum 84 = .ok (.ireturn, 1) := by decide +kernel
theorem dX6_makeSum_85 : decode cX6_makeSum 85 = .ok (.aload_n 3, 1) := by decide +kernel
theorem dX6_makeSum_86 : decode cX6_makeSum 86 = .ok (.invokestatic 75, 3) := by decide +kernel
theorem dX6_makeSum_89 : decode cX6_makeSum 89 = .ok (.ifCond .eq 5, 3) := by decide +kernel
theorem dX6_makeSum_92 : decode cX6_makeSum 92 = .ok (.iload_n 2, 1) := by decide +kernel
theorem dX6_makeSum_93 : decode cX6_makeSum 93 = .ok (.ireturn, 1) := by decide +kernel
theorem dX6_makeSum_94 : decode cX6_makeSum 94 = .ok (.aload 4, 2) := by decide +kernel
theorem dX6_makeSum_96 : decode cX6_makeSum 96 = .ok (.invokestatic 75, 3) := by decide +kernel
theorem dX6_makeSum_99 : decode cX6_makeSum 99 = .ok (.ifCond .eq 5, 3) := by decide +kernel
theorem dX6_makeSum_102 : decode cX6_makeSum 102 = .ok (.iload_n 1, 1) := by decide +kernel
theorem dX6_makeSum_103 : decode cX6_makeSum 103 = .ok (.ireturn, 1) := by decide +kernel
theorem dX6_makeSum_104 : decode cX6_makeSum 104 = .ok (.iconst 1, 1) := by decide +kernel
theorem dX6_makeSum_105 : decode cX6_makeSum 105 = .ok (.aload_n 3, 1) := by decide +kernel
theorem dX6_makeSum_106 : decode cX6_makeSum 106 = .ok (.getfield 79, 3) := by decide +kernel
theorem dX6_makeSum_109 : decode cX6_makeSum 109 = .ok (.aload 4, 2) := by decide +kernel
theorem dX6_makeSum_111 : decode cX6_makeSum 111 = .ok (.getfield 82, 3) := by decide +kernel
theorem dX6_makeSum_114 : decode cX6_makeSum 114 = .ok (.iadd, 1) := by decide +kernel
theorem dX6_makeSum_115 : decode cX6_makeSum 115 = .ok (.aload 4, 2) := by decide +kernel
theorem dX6_makeSum_117 : decode cX6_makeSum 117 = .ok (.getfield 79, 3) := by decide +kernel
theorem dX6_makeSum_120 : decode cX6_makeSum 120 = .ok (.aload_n 3, 1) := by decide +kernel
theorem dX6_makeSum_121 : decode cX6_makeSum 121 = .ok (.getfield 82, 3) := by decide +kernel
theorem dX6_makeSum_124 : decode cX6_makeSum 124 = .ok (.iadd, 1) := by decide +kernel
theorem dX6_makeSum_125 : decode cX6_makeSum 125 = .ok (.invokestatic 85, 3) := by decide +kernel
theorem dX6_makeSum_128 : decode cX6_makeSum 128 = .ok (.iadd, 1) := by decide +kernel
theorem dX6_makeSum_129 : decode cX6_makeSum 129 = .ok (.istore 5, 2) := by decide +kernel
theorem dX6_makeSum_131 : decode cX6_makeSum 131 = .ok (.aload_n 0, 1) := by decide +kernel
theorem dX6_makeSum_132 : decode cX6_makeSum 132 = .ok (.iconst 2, 1) := by decide +kernel
theorem dX6_makeSum_133 : decode cX6_makeSum 133 = .ok (.iload_n 1, 1) := by decide +kernel
theorem dX6_makeSum_134 : decode cX6_makeSum 134 = .ok (.iload_n 2, 1) := by decide +kernel
theorem dX6_makeSum_135 : decode cX6_makeSum 135 = .ok (.aload_n 3, 1) := by decide +kernel
theorem dX6_makeSum_136 : decode cX6_makeSum 136 = .ok (.getfield 91, 3) := by decide +kernel
theorem dX6_makeSum_139 : decode cX6_makeSum 139 = .ok (.aload 4, 2) := by decide +kernel
theorem dX6_makeSum_141 : decode cX6_makeSum 141 = .ok (.getfield 91, 3) := by decide +kernel
theorem dX6_makeSum_144 : decode cX6_makeSum 144 = .ok (.invokestatic 85, 3) := by decide +kernel
theorem dX6_makeSum_147 : decode cX6_makeSum 147 = .ok (.iload 5, 2) := by decide +kernel
theorem dX6_makeSum_149 : decode cX6_makeSum 149 = .ok (.aload_n 3, 1) := by decide +kernel
theorem dX6_makeSum_150 : decode cX6_makeSum 150 = .ok (.getfield 82, 3) := by decide +kernel
theorem dX6_makeSum_153 : decode cX6_makeSum 153 = .ok (.aload 4, 2) := by decide +kernel
theorem dX6_makeSum_155 : decode cX6_makeSum 155 = .ok (.getfield 82, 3) := by decide +kernel
theorem dX6_makeSum_158 : decode cX6_makeSum 158 = .ok (.iadd, 1) := by decide +kernel
theorem dX6_makeSum_159 : decode cX6_makeSum 159 = .ok (.invokevirtual 60, 3) := by decide +kernel
theorem dX6_makeSum_162 : decode cX6_makeSum 162 = .ok (.ireturn, 1) := by decide +kernel
theorem dX6_makeProduct_0 : decode cX6_makeProduct 0 = .ok (.iload_n 1, 1) := by decide +kernel
theorem dX6_makeProduct_1 : decode cX6_makeProduct 1 = .ok (.ifCond .lt 7, 3) := by decide +kernel
theorem dX6_makeProduct_4 : decode cX6_makeProduct 4 = .ok (.iload_n 2, 1) := by decide +kernel
theorem dX6_makeProduct_5 : decode cX6_makeProduct 5 = .ok (.ifCond .ge 13, 3) := by decide +kernel
theorem dX6_makeProduct_8 : decode cX6_makeProduct 8 = .ok (.iload_n 1, 1) := by decide +kernel
theorem dX6_makeProduct_9 : decode cX6_makeProduct 9 = .ok (.ifCond .ge 7, 3) := by decide +kernel
theorem dX6_makeProduct_12 : decode cX6_makeProduct 12 = .ok (.iload_n 1, 1) := by decide +kernel
theorem dX6_makeProduct_13 : decode cX6_makeProduct 13 = .ok (.goto 4, 3) := by decide +kernel
theorem dX6_makeProduct_16 : decode cX6_makeProduct 16 = .ok (.iload_n 2, 1) := by decide +kernel
theorem dX6_makeProduct_17 : decode cX6_makeProduct 17 = .ok (.ireturn, 1) := by decide +kernel
theorem dX6_makeProduct_18 : decode cX6_makeProduct 18 = .ok (.aload_n 0, 1) := by decide +kernel
theorem dX6_makeProduct_19 : decode cX6_makeProduct 19 = .ok (.getfield 11, 3) := by decide +kernel
theorem dX6_makeProduct_22 : decode cX6_makeProduct 22 = .ok (.iload_n 1, 1) := by decide +kernel
theorem dX6_makeProduct_23 : decode cX6_makeProduct 23 = .ok (.aaload, 1) := by decide +kernel
theorem dX6_makeProduct_24 : decode cX6_makeProduct 24 = .ok (.astore_n 3, 1) := by decide +kernel
theorem dX6_makeProduct_25 : decode cX6_makeProduct 25 = .ok (.aload_n 0, 1) := by decide +kernel
theorem dX6_makeProduct_26 : decode cX6_makeProduct 26 = .ok (.getfield 11, 3) := by decide +kernel
theorem dX6_makeProduct_29 : decode cX6_makeProduct 29 = .ok (.iload_n 2, 1) := by decide +kernel
theorem dX6_makeProduct_30 : decode cX6_makeProduct 30 = .ok (.aaload, 1) := by decide +kernel
theorem dX6_makeProduct_31 : decode cX6_makeProduct 31 = .ok (.astore 4, 2) := by decide +kernel
theorem dX6_makeProduct_33 : decode cX6_makeProduct 33 = .ok (.aload_n 3, 1) := by decide +kernel
theorem dX6_makeProduct_34 : decode cX6_makeProduct 34 = .ok (.getfield 64, 3) := by decide +kernel
theorem dX6_makeProduct_37 : decode cX6_makeProduct 37 = .ok (.ifCond .ne 47, 3) := by decide +kernel
theorem dX6_makeProduct_40 : decode cX6_makeProduct 40 = .ok (.aload 4, 2) := by decide +kernel
theorem dX6_makeProduct_42 : decode cX6_makeProduct 42 = .ok (.getfield 64, 3) := by decide +kernel
theorem dX6_makeProduct_45 : decode cX6_makeProduct 45 = .ok (.ifCond .ne 39, 3) := by decide +kernel
theorem dX6_makeProduct_48 : decode cX6_makeProduct 48 = .ok (.aload_n 0, 1) := by decide +kernel
theorem dX6_makeProduct_49 : decode cX6_makeProduct 49 = .ok (.getfield 41, 3) := by decide +kernel
theorem dX6_makeProduct_52 : decode cX6_makeProduct 52 = .ok (.aload_n 3, 1) := by decide +kernel
theorem dX6_makeProduct_53 : decode cX6_makeProduct 53 = .ok (.getfield 68, 3) := by decide +kernel
theorem dX6_makeProduct_56 : decode cX6_makeProduct 56 = .ok (.aload 4, 2) := by decide +kernel
theorem dX6_makeProduct_58 : decode cX6_makeProduct 58 = .ok (.getfield 68, 3) := by decide +kernel
theorem dX6_makeProduct_61 : decode cX6_makeProduct 61 = .ok (.aload_n 0, 1) := by decide +kernel
theorem dX6_makeProduct_62 : decode cX6_makeProduct 62 = .ok (.getfield 30, 3) := by decide +kernel
theorem dX6_makeProduct_65 : decode cX6_makeProduct 65 = .ok (.invokevirtual 94, 3) := by decide +kernel
theorem dX6_makeProduct_68 : decode cX6_makeProduct 68 = .ok (.aload_n 0, 1) := by decide +kernel
theorem dX6_makeProduct_69 : decode cX6_makeProduct 69 = .ok (.getfield 41, 3) := by decide +kernel
theorem dX6_makeProduct_72 : decode cX6_makeProduct 72 = .ok (.aload_n 0, 1) := by decide +kernel
theorem dX6_makeProduct_73 : decode cX6_makeProduct 73 = .ok (.getfield 30, 3) := by decide +kernel
theorem dX6_makeProduct_76 : decode cX6_makeProduct 76 = .ok (.invokevirtual 54, 3) := by decide +kernel
theorem dX6_makeProduct_79 : decode cX6_makeProduct 79 = .ok (.aload_n 0, 1) := by decide +kernel
theorem dX6_makeProduct_80 : decode cX6_makeProduct 80 = .ok (.invokevirtual 50, 3) := by decide +kernel
theorem dX6_makeProduct_83 : decode cX6_makeProduct 83 = .ok (.ireturn, 1) := by decide +kernel
theorem dX6_makeProduct_84 : decode cX6_makeProduct 84 = .ok (.aload_n 3, 1) := by decide +kernel
theorem dX6_makeProduct_85 : decode cX6_makeProduct 85 = .ok (.invokestatic 75, 3) := by decide +kernel
theorem dX6_makeProduct_88 : decode cX6_makeProduct 88 = .ok (.ifCond .ne 11, 3) := by decide +kernel
theorem dX6_makeProduct_91 : decode cX6_makeProduct 91 = .ok (.aload 4, 2) := by decide +kernel
theorem dX6_makeProduct_93 : decode cX6_makeProduct 93 = .ok (.invokestatic 98, 3) := by decide +kernel
theorem dX6_makeProduct_96 : decode cX6_makeProduct 96 = .ok (.ifCond .eq 5, 3) := by decide +kernel
theorem dX6_makeProduct_99 : decode cX6_makeProduct 99 = .ok (.iload_n 1, 1) := by decide +kernel
theorem dX6_makeProduct_100 : decode cX6_makeProduct 100 = .ok (.ireturn, 1) := by decide +kernel
theorem dX6_makeProduct_101 : decode cX6_makeProduct 101 = .ok (.aload 4, 2) := by decide +kernel
theorem dX6_makeProduct_103 : decode cX6_makeProduct 103 = .ok (.invokestatic 75, 3) := by decide +kernel
theorem dX6_makeProduct_106 : decode cX6_makeProduct 106 = .ok (.ifCond .ne 10, 3) := by decide +kernel
theorem dX6_makeProduct_109 : decode cX6_makeProduct 109 = .ok (.aload_n 3, 1) := by decide +kernel
theorem dX6_makeProduct_110 : decode cX6_makeProduct 110 = .ok (.invokestatic 98, 3) := by decide +kernel
theorem dX6_makeProduct_113 : decode cX6_makeProduct 113 = .ok (.ifCond .eq 5, 3) := by decide +kernel
theorem dX6_makeProduct_116 : decode cX6_makeProduct 116 = .ok (.iload_n 2, 1) := by decide +kernel
theorem dX6_makeProduct_117 : decode cX6_makeProduct 117 = .ok (.ireturn, 1) := by decide +kernel
theorem dX6_makeProduct_118 : decode cX6_makeProduct 118 = .ok (.aload_n 3, 1) := by decide +kernel
theorem dX6_makeProduct_119 : decode cX6_makeProduct 119 = .ok (.getfield 79, 3) := by decide +kernel
theorem dX6_makeProduct_122 : decode cX6_makeProduct 122 = .ok (.aload 4, 2) := by decide +kernel
theorem dX6_makeProduct_124 : decode cX6_makeProduct 124 = .ok (.getfield 79, 3) := by decide +kernel
theorem dX6_makeProduct_127 : decode cX6_makeProduct 127 = .ok (.iadd, 1) := by decide +kernel
theorem dX6_makeProduct_128 : decode cX6_makeProduct 128 = .ok (.bipush 8, 2) := by decide +kernel
theorem dX6_makeProduct_130 : decode cX6_makeProduct 130 = .ok (.iadd, 1) := by decide +kernel
theorem dX6_makeProduct_131 : decode cX6_makeProduct 131 = .ok (.istore 5, 2) := by decide +kernel
theorem dX6_makeProduct_133 : decode cX6_makeProduct 133 = .ok (.aload_n 0, 1) := by decide +kernel
theorem dX6_makeProduct_134 : decode cX6_makeProduct 134 = .ok (.iconst 3, 1) := by decide +kernel
theorem dX6_makeProduct_135 : decode cX6_makeProduct 135 = .ok (.iload_n 1, 1) := by decide +kernel
theorem dX6_makeProduct_136 : decode cX6_makeProduct 136 = .ok (.iload_n 2, 1) := by decide +kernel
theorem dX6_makeProduct_137 : decode cX6_makeProduct 137 = .ok (.aload_n 3, 1) := by decide +kernel
theorem dX6_makeProduct_138 : decode cX6_makeProduct 138 = .ok (.getfield 91, 3) := by decide +kernel
theorem dX6_makeProduct_141 : decode cX6_makeProduct 141 = .ok (.aload 4, 2) := by decide +kernel
theorem dX6_makeProduct_143 : decode cX6_makeProduct 143 = .ok (.getfield 91, 3) := by decide +kernel
theorem dX6_makeProduct_146 : decode cX6_makeProduct 146 = .ok (.iadd, 1) := by decide +kernel
theorem dX6_makeProduct_147 : decode cX6_makeProduct 147 = .ok (.iload 5, 2) := by decide +kernel
theorem dX6_makeProduct_149 : decode cX6_makeProduct 149 = .ok (.aload_n 3, 1) := by decide +kernel
theorem dX6_makeProduct_150 : decode cX6_makeProduct 150 = .ok (.getfield 82, 3) := by decide +kernel
theorem dX6_makeProduct_153 : decode cX6_makeProduct 153 = .ok (.aload 4, 2) := by decide +kernel
theorem dX6_makeProduct_155 : decode cX6_makeProduct 155 = .ok (.getfield 82, 3) := by decide +kernel
theorem dX6_makeProduct_158 : decode cX6_makeProduct 158 = .ok (.iadd, 1) := by decide +kernel
theorem dX6_makeProduct_159 : decode cX6_makeProduct 159 = .ok (.invokevirtual 60, 3) := by decide +kernel
theorem dX6_makeProduct_162 : decode cX6_makeProduct 162 = .ok (.ireturn, 1) := by decide +kernel
theorem dX6_makePower_0 : decode cX6_makePower 0 = .ok (.iload_n 1, 1) := by decide +kernel
theorem dX6_makePower_1 : decode cX6_makePower 1 = .ok (.ifCond .lt 8, 3) := by decide +kernel
theorem dX6_makePower_4 : decode cX6_makePower 4 = .ok (.iload_n 2, 1) := by decide +kernel
theorem dX6_makePower_5 : decode cX6_makePower 5 = .ok (.iconst 1, 1) := by decide +kernel
theorem dX6_makePower_6 : decode cX6_makePower 6 = .ok (.if_icmp .ne 5, 3) := by decide +kernel
theorem dX6_makePower_9 : decode cX6_makePower 9 = .ok (.iload_n 1, 1) := by decide +kernel
theorem dX6_makePower_10 : decode cX6_makePower 10 = .ok (.ireturn, 1) := by decide +kernel
theorem dX6_makePower_11 : decode cX6_makePower 11 = .ok (.iload_n 2, 1) := by decide +kernel
theorem dX6_makePower_12 : decode cX6_makePower 12 = .ok (.ifCond .ne 9, 3) := by decide +kernel
theorem dX6_makePower_15 : decode cX6_makePower 15 = .ok (.aload_n 0, 1) := by decide +kernel
theorem dX6_makePower_16 : decode cX6_makePower 16 = .ok (.iconst 1, 1) := by decide +kernel
theorem dX6_makePower_17 : decode cX6_makePower 17 = .ok (.invokevirtual 101, 3) := by decide +kernel
theorem dX6_makePower_20 : decode cX6_makePower 20 = .ok (.ireturn, 1) := by decide +kernel
theorem dX6_makePower_21 : decode cX6_makePower 21 = .ok (.aload_n 0, 1) := by decide +kernel
theorem dX6_makePower_22 : decode cX6_makePower 22 = .ok (.getfield 11, 3) := by decide +kernel
theorem dX6_makePower_25 : decode cX6_makePower 25 = .ok (.iload_n 1, 1) := by decide +kernel
theorem dX6_makePower_26 : decode cX6_makePower 26 = .ok (.aaload, 1) := by decide +kernel
theorem dX6_makePower_27 : decode cX6_makePower 27 = .ok (.astore_n 3, 1) := by decide +kernel
theorem dX6_makePower_28 : decode cX6_makePower 28 = .ok (.aload_n 3, 1) := by decide +kernel
theorem dX6_makePower_29 : decode cX6_makePower 29 = .ok (.getfield 64, 3) := by decide +kernel
theorem dX6_makePower_32 : decode cX6_makePower 32 = .ok (.ifCond .ne 13, 3) := by decide +kernel
theorem dX6_makePower_35 : decode cX6_makePower 35 = .ok (.aload_n 0, 1) := by decide +kernel
theorem dX6_makePower_36 : decode cX6_makePower 36 = .ok (.aload_n 3, 1) := by decide +kernel
theorem dX6_makePower_37 : decode cX6_makePower 37 = .ok (.getfield 68, 3) := by decide +kernel
theorem dX6_makePower_40 : decode cX6_makePower 40 = .ok (.iload_n 2, 1) := by decide +kernel
theorem dX6_makePower_41 : decode cX6_makePower 41 = .ok (.invokevirtual 105, 3) := by decide +kernel
theorem dX6_makePower_44 : decode cX6_makePower 44 = .ok (.ireturn, 1) := by decide +kernel
theorem dX6_makePower_45 : decode cX6_makePower 45 = .ok (.iload_n 2, 1) := by decide +kernel
theorem dX6_makePower_46 : decode cX6_makePower 46 = .ok (.aload_n 3, 1) := by decide +kernel
theorem dX6_makePower_47 : decode cX6_makePower 47 = .ok (.getfield 79, 3) := by decide +kernel
theorem dX6_makePower_50 : decode cX6_makePower 50 = .ok (.bipush 8, 2) := by decide +kernel
theorem dX6_makePower_52 : decode cX6_makePower 52 = .ok (.iadd, 1) := by decide +kernel
theorem dX6_makePower_53 : decode cX6_makePower 53 = .ok (.imul, 1) := by decide +kernel
theorem dX6_makePower_54 : decode cX6_makePower 54 = .ok (.istore 4, 2) := by decide +kernel
theorem dX6_makePower_56 : decode cX6_makePower 56 = .ok (.aload_n 0, 1) := by decide +kernel
theorem dX6_makePower_57 : decode cX6_makePower 57 = .ok (.iconst 4, 1) := by decide +kernel
theorem dX6_makePower_58 : decode cX6_makePower 58 = .ok (.iload_n 1, 1) := by decide +kernel
theorem dX6_makePower_59 : decode cX6_makePower 59 = .ok (.iload_n 2, 1) := by decide +kernel
theorem dX6_makePower_60 : decode cX6_makePower 60 = .ok (.iload_n 2, 1) := by decide +kernel
theorem dX6_makePower_61 : decode cX6_makePower 61 = .ok (.aload_n 3, 1) := by decide +kernel
theorem dX6_makePower_62 : decode cX6_makePower 62 = .ok (.getfield 91, 3) := by decide +kernel
theorem dX6_makePower_65 : decode cX6_makePower 65 = .ok (.imul, 1) := by decide +kernel
theorem dX6_makePower_66 : decode cX6_makePower 66 = .ok (.iload 4, 2) := by decide +kernel
theorem dX6_makePower_68 : decode cX6_makePower 68 = .ok (.iload_n 2, 1) := by decide +kernel
theorem dX6_makePower_69 : decode cX6_makePower 69 = .ok (.aload_n 3, 1) := by decide +kernel
theorem dX6_makePower_70 : decode cX6_makePower 70 = .ok (.getfield 82, 3) := by decide +kernel
theorem dX6_makePower_73 : decode cX6_makePower 73 = .ok (.imul, 1) := by decide +kernel
theorem dX6_makePower_74 : decode cX6_makePower 74 = .ok (.invokevirtual 60, 3) := by decide +kernel
theorem dX6_makePower_77 : decode cX6_makePower 77 = .ok (.ireturn, 1) := by decide +kernel
theorem dX6_makeNegative_0 : decode cX6_makeNegative 0 = .ok (.iload_n 1, 1) := by decide +kernel
theorem dX6_makeNegative_1 : decode cX6_makeNegative 1 = .ok (.ifCond .ge 5, 3) := by decide +kernel
theorem dX6_makeNegative_4 : decode cX6_makeNegative 4 = .ok (.iload_n 1, 1) := by decide +kernel
theorem dX6_makeNegative_5 : decode cX6_makeNegative 5 = .ok (.ireturn, 1) := by decide +kernel
theorem dX6_makeNegative_6 : decode cX6_makeNegative 6 = .ok (.aload_n 0, 1) := by decide +kernel
theorem dX6_makeNegative_7 : decode cX6_makeNegative 7 = .ok (.aload_n 0, 1) := by decide +kernel
theorem dX6_makeNegative_8 : decode cX6_makeNegative 8 = .ok (.iconst (-1), 1) := by decide +kernel
theorem dX6_makeNegative_9 : decode cX6_makeNegative 9 = .ok (.invokevirtual 101, 3) := by decide +kernel
theorem dX6_makeNegative_12 : decode cX6_makeNegative 12 = .ok (.iload_n 1, 1) := by decide +kernel
theorem dX6_makeNegative_13 : decode cX6_makeNegative 13 = .ok (.invokevirtual 109, 3) := by decide +kernel
theorem dX6_makeNegative_16 : decode cX6_makeNegative 16 = .ok (.ireturn, 1) := by decide +kernel
theorem dX6_makeNumberPower_0 : decode cX6_makeNumberPower 0 = .ok (.aload_n 0, 1) := by decide +kernel
theorem dX6_makeNumberPower_1 : decode cX6_makeNumberPower 1 = .ok (.getfield 30, 3) := by decide +kernel
theorem dX6_makeNumberPower_4 : decode cX6_makeNumberPower 4 = .ok (.iconst 1, 1) := by decide +kernel
theorem dX6_makeNumberPower_5 : decode cX6_makeNumberPower 5 = .ok (.iconst 1, 1) := by decide +kernel
theorem dX6_makeNumberPower_6 : decode cX6_makeNumberPower 6 = .ok (.invokevirtual 46, 3) := by decide +kernel
theorem dX6_makeNumberPower_9 : decode cX6_makeNumberPower 9 = .ok (.iconst 0, 1) := by decide +kernel
theorem dX6_makeNumberPower_10 : decode cX6_makeNumberPower 10 = .ok (.istore_n 3, 1) := by decide +kernel
theorem dX6_makeNumberPower_11 : decode cX6_makeNumberPower 11 = .ok (.iload_n 3, 1) := by decide +kernel
theorem dX6_makeNumberPower_12 : decode cX6_makeNumberPower 12 = .ok (.iload_n 2, 1) := by decide +kernel
theorem dX6_makeNumberPower_13 : decode cX6_makeNumberPower 13 = .ok (.if_icmp .ge 108, 3) := by decide +kernel
theorem dX6_makeNumberPower_16 : decode cX6_makeNumberPower 16 = .ok (.aload_n 0, 1) := by decide +kernel
theorem dX6_makeNumberPower_17 : decode cX6_makeNumberPower 17 = .ok (.getfield 37, 3) := by decide +kernel
theorem dX6_makeNumberPower_20 : decode cX6_makeNumberPower 20 = .ok (.aload_n 0, 1) := by decide +kernel
theorem dX6_makeNumberPower_21 : decode cX6_makeNumberPower 21 = .ok (.getfield 30, 3) := by decide +kernel
theorem dX6_makeNumberPower_24 : decode cX6_makeNumberPower 24 = .ok (.getfield 112, 3) := by decide +kernel
theorem dX6_makeNumberPower_27 : decode cX6_makeNumberPower 27 = .ok (.aload_n 1, 1) := by decide +kernel
theorem dX6_makeNumberPower_28 : decode cX6_makeNumberPower 28 = .ok (.getfield 112, 3) := by decide +kernel
theorem dX6_makeNumberPower_31 : decode cX6_makeNumberPower 31 = .ok (.invokevirtual 115, 3) := by decide +kernel
theorem dX6_makeNumberPower_34 : decode cX6_makeNumberPower 34 = .ok (.aload_n 0, 1) := by decide +kernel
theorem dX6_makeNumberPower_35 : decode cX6_makeNumberPower 35 = .ok (.getfield 30, 3) := by decide +kernel
theorem dX6_makeNumberPower_38 : decode cX6_makeNumberPower 38 = .ok (.getfield 112, 3) := by decide +kernel
theorem dX6_makeNumberPower_41 : decode cX6_makeNumberPower 41 = .ok (.aload_n 0, 1) := by decide +kernel
theorem dX6_makeNumberPower_42 : decode cX6_makeNumberPower 42 = .ok (.getfield 37, 3) := by decide +kernel
theorem dX6_makeNumberPower_45 : decode cX6_makeNumberPower 45 = .ok (.invokevirtual 118, 3) := by decide +kernel
theorem dX6_makeNumberPower_48 : decode cX6_makeNumberPower 48 = .ok (.aload_n 0, 1) := by decide +kernel
theorem dX6_makeNumberPower_49 : decode cX6_makeNumberPower 49 = .ok (.getfield 37, 3) := by decide +kernel
theorem dX6_makeNumberPower_52 : decode cX6_makeNumberPower 52 = .ok (.aload_n 0, 1) := by decide +kernel
theorem dX6_makeNumberPower_53 : decode cX6_makeNumberPower 53 = .ok (.getfield 30, 3) := by decide +kernel
theorem dX6_makeNumberPower_56 : decode cX6_makeNumberPower 56 = .ok (.getfield 122, 3) := by decide +kernel
theorem dX6_makeNumberPower_59 : decode cX6_makeNumberPower 59 = .ok (.aload_n 1, 1) := by decide +kernel
theorem dX6_makeNumberPower_60 : decode cX6_makeNumberPower 60 = .ok (.getfield 122, 3) := by decide +kernel
theorem dX6_makeNumberPower_63 : decode cX6_makeNumberPower 63 = .ok (.invokevirtual 115, 3) := by decide +kernel
theorem dX6_makeNumberPower_66 : decode cX6_makeNumberPower 66 = .ok (.aload_n 0, 1) := by decide +kernel
theorem dX6_makeNumberPower_67 : decode cX6_makeNumberPower 67 = .ok (.getfield 30, 3) := by decide +kernel
theorem dX6_makeNumberPower_70 : decode cX6_makeNumberPower 70 = .ok (.getfield 122, 3) := by decide +kernel
theorem dX6_makeNumberPower_73 : decode cX6_makeNumberPower 73 = .ok (.aload_n 0, 1) := by decide +kernel
theorem dX6_makeNumberPower_74 : decode cX6_makeNumberPower 74 = .ok (.getfield 37, 3) := by decide +kernel
theorem dX6_makeNumberPower_77 : decode cX6_makeNumberPower 77 = .ok (.invokevirtual 118, 3) := by decide +kernel
theorem dX6_makeNumberPower_80 : decode cX6_makeNumberPower 80 = .ok (.aload_n 0, 1) := by decide +kernel
theorem dX6_makeNumberPower_81 : decode cX6_makeNumberPower 81 = .ok (.getfield 30, 3) := by decide +kernel
theorem dX6_makeNumberPower_84 : decode cX6_makeNumberPower 84 = .ok (.getfield 112, 3) := by decide +kernel
theorem dX6_makeNumberPower_87 : decode cX6_makeNumberPower 87 = .ok (.invokevirtual 125, 3) := by decide +kernel
theorem dX6_makeNumberPower_90 : decode cX6_makeNumberPower 90 = .ok (.sipush 400, 3) := by decide +kernel
theorem dX6_makeNumberPower_93 : decode cX6_makeNumberPower 93 = .ok (.if_icmp .gt 19, 3) := by decide +kernel
theorem dX6_makeNumberPower_96 : decode cX6_makeNumberPower 96 = .ok (.aload_n 0, 1) := by decide +kernel
theorem dX6_makeNumberPower_97 : decode cX6_makeNumberPower 97 = .ok (.getfield 30, 3) := by decide +kernel
theorem dX6_makeNumberPower_100 : decode cX6_makeNumberPower 100 = .ok (.getfield 122, 3) := by decide +kernel
theorem dX6_makeNumberPower_103 : decode cX6_makeNumberPower 103 = .ok (.invokevirtual 125, 3) := by decide +kernel
theorem dX6_makeNumberPower_106 : decode cX6_makeNumberPower 106 = .ok (.sipush 400, 3) := by decide +kernel
theorem dX6_makeNumberPower_109 : decode cX6_makeNumberPower 109 = .ok (.if_icmp .le 6, 3) := by decide +kernel
theorem dX6_makeNumberPower_112 : decode cX6_makeNumberPower 112 = .ok (.bipush (-3), 2) := by decide +kernel
theorem dX6_makeNumberPower_114 : decode cX6_makeNumberPower 114 = .ok (.ireturn, 1) := by decide +kernel
theorem dX6_makeNumberPower_115 : decode cX6_makeNumberPower 115 = .ok (.iinc 3 1, 3) := by decide +kernel
theorem dX6_makeNumberPower_118 : decode cX6_makeNumberPower 118 = .ok (.goto (-107), 3) := by decide +kernel
theorem dX6_makeNumberPower_121 : decode cX6_makeNumberPower 121 = .ok (.aload_n 0, 1) := by decide +kernel
theorem dX6_makeNumberPower_122 : decode cX6_makeNumberPower 122 = .ok (.invokevirtual 50, 3) := by decide +kernel
theorem dX6_makeNumberPower_125 : decode cX6_makeNumberPower 125 = .ok (.ireturn, 1) := by decide +kernel
theorem dX6_isZero_0 : decode cX6_isZero 0 = .ok (.aload_n 0, 1) := by decide +kernel
theorem dX6_isZero_1 : decode cX6_isZero 1 = .ok (.getfield 64, 3) := by decide +kernel
theorem dX6_isZero_4 : decode cX6_isZero 4 = .ok (.ifCond .ne 17, 3) := by decide +kernel
theorem dX6_isZero_7 : decode cX6_isZero 7 = .ok (.aload_n 0, 1) := by decide +kernel
theorem dX6_isZero_8 : decode cX6_isZero 8 = .ok (.getfield 68, 3) := by decide +kernel
theorem dX6_isZero_11 : decode cX6_isZero 11 = .ok (.invokevirtual 128, 3) := by decide +kernel
theorem dX6_isZero_14 : decode cX6_isZero 14 = .ok (.ifCond .eq 7, 3) := by decide +kernel
theorem dX6_isZero_17 : decode cX6_isZero 17 = .ok (.iconst 1, 1) := by decide +kernel
theorem dX6_isZero_18 : decode cX6_isZero 18 = .ok (.goto 4, 3) := by decide +kernel
theorem dX6_isZero_21 : decode cX6_isZero 21 = .ok (.iconst 0, 1) := by decide +kernel
theorem dX6_isZero_22 : decode cX6_isZero 22 = .ok (.ireturn, 1) := by decide +kernel
theorem dX6_isUnit_0 : decode cX6_isUnit 0 = .ok (.aload_n 0, 1) := by decide +kernel
theorem dX6_isUnit_1 : decode cX6_isUnit 1 = .ok (.getfield 64, 3) := by decide +kernel
theorem dX6_isUnit_4 : decode cX6_isUnit 4 = .ok (.ifCond .ne 17, 3) := by decide +kernel
theorem dX6_isUnit_7 : decode cX6_isUnit 7 = .ok (.aload_n 0, 1) := by decide +kernel
theorem dX6_isUnit_8 : decode cX6_isUnit 8 = .ok (.getfield 68, 3) := by decide +kernel
theorem dX6_isUnit_11 : decode cX6_isUnit 11 = .ok (.invokevirtual 131, 3) := by decide +kernel
theorem dX6_isUnit_14 : decode cX6_isUnit 14 = .ok (.ifCond .eq 7, 3) := by decide +kernel
theorem dX6_isUnit_17 : decode cX6_isUnit 17 = .ok (.iconst 1, 1) := by decide +kernel
theorem dX6_isUnit_18 : decode cX6_isUnit 18 = .ok (.goto 4, 3) := by decide +kernel
theorem dX6_isUnit_21 : decode cX6_isUnit 21 = .ok (.iconst 0, 1) := by decide +kernel
theorem dX6_isUnit_22 : decode cX6_isUnit 22 = .ok (.ireturn, 1) := by decide +kernel
theorem dX6_keepNumber_0 : decode cX6_keepNumber 0 = .ok (.aload_n 0, 1) := by decide +kernel
theorem dX6_keepNumber_1 : decode cX6_keepNumber 1 = .ok (.getfield 30, 3) := by decide +kernel
theorem dX6_keepNumber_4 : decode cX6_keepNumber 4 = .ok (.getfield 112, 3) := by decide +kernel
theorem dX6_keepNumber_7 : decode cX6_keepNumber 7 = .ok (.invokevirtual 125, 3) := by decide +kernel
theorem dX6_keepNumber_10 : decode cX6_keepNumber 10 = .ok (.iconst 1, 1) := by decide +kernel
theorem dX6_keepNumber_11 : decode cX6_keepNumber 11 = .ok (.invokestatic 85, 3) := by decide +kernel
theorem dX6_keepNumber_14 : decode cX6_keepNumber 14 = .ok (.istore_n 1, 1) := by decide +kernel
theorem dX6_keepNumber_15 : decode cX6_keepNumber 15 = .ok (.aload_n 0, 1) := by decide +kernel
theorem dX6_keepNumber_16 : decode cX6_keepNumber 16 = .ok (.getfield 30, 3) := by decide +kernel
theorem dX6_keepNumber_19 : decode cX6_keepNumber 19 = .ok (.getfield 122, 3) := by decide +kernel
theorem dX6_keepNumber_22 : decode cX6_keepNumber 22 = .ok (.invokevirtual 134, 3) := by decide +kernel
theorem dX6_keepNumber_25 : decode cX6_keepNumber 25 = .ok (.ifCond .eq 7, 3) := by decide +kernel
theorem dX6_keepNumber_28 : decode cX6_keepNumber 28 = .ok (.iconst 0, 1) := by decide +kernel
theorem dX6_keepNumber_29 : decode cX6_keepNumber 29 = .ok (.goto 13, 3) := by decide +kernel
theorem dX6_keepNumber_32 : decode cX6_keepNumber 32 = .ok (.aload_n 0, 1) := by decide +kernel
theorem dX6_keepNumber_33 : decode cX6_keepNumber 33 = .ok (.getfield 30, 3) := by decide +kernel
theorem dX6_keepNumber_36 : decode cX6_keepNumber 36 = .ok (.getfield 122, 3) := by decide +kernel
theorem dX6_keepNumber_39 : decode cX6_keepNumber 39 = .ok (.invokevirtual 125, 3) := by decide +kernel
theorem dX6_keepNumber_42 : decode cX6_keepNumber 42 = .ok (.istore_n 2, 1) := by decide +kernel
theorem dX6_keepNumber_43 : decode cX6_keepNumber 43 = .ok (.iload_n 1, 1) := by decide +kernel
theorem dX6_keepNumber_44 : decode cX6_keepNumber 44 = .ok (.sipush 400, 3) := by decide +kernel
theorem dX6_keepNumber_47 : decode cX6_keepNumber 47 = .ok (.if_icmp .gt 10, 3) := by decide +kernel
theorem dX6_keepNumber_50 : decode cX6_keepNumber 50 = .ok (.iload_n 2, 1) := by decide +kernel
theorem dX6_keepNumber_51 : decode cX6_keepNumber 51 = .ok (.sipush 400, 3) := by decide +kernel
theorem dX6_keepNumber_54 : decode cX6_keepNumber 54 = .ok (.if_icmp .le 6, 3) := by decide +kernel
theorem dX6_keepNumber_57 : decode cX6_keepNumber 57 = .ok (.bipush (-3), 2) := by decide +kernel
theorem dX6_keepNumber_59 : decode cX6_keepNumber 59 = .ok (.ireturn, 1) := by decide +kernel
theorem dX6_keepNumber_60 : decode cX6_keepNumber 60 = .ok (.iconst 0, 1) := by decide +kernel
theorem dX6_keepNumber_61 : decode cX6_keepNumber 61 = .ok (.istore_n 3, 1) := by decide +kernel
theorem dX6_keepNumber_62 : decode cX6_keepNumber 62 = .ok (.iload_n 3, 1) := by decide +kernel
theorem dX6_keepNumber_63 : decode cX6_keepNumber 63 = .ok (.aload_n 0, 1) := by decide +kernel
theorem dX6_keepNumber_64 : decode cX6_keepNumber 64 = .ok (.getfield 135, 3) := by decide +kernel
theorem dX6_keepNumber_67 : decode cX6_keepNumber 67 = .ok (.if_icmp .ge 82, 3) := by decide +kernel
theorem dX6_keepNumber_70 : decode cX6_keepNumber 70 = .ok (.aload_n 0, 1) := by decide +kernel
theorem dX6_keepNumber_71 : decode cX6_keepNumber 71 = .ok (.getfield 11, 3) := by decide +kernel
theorem dX6_keepNumber_74 : decode cX6_keepNumber 74 = .ok (.iload_n 3, 1) := by decide +kernel
theorem dX6_keepNumber_75 : decode cX6_keepNumber 75 = .ok (.aaload, 1) := by decide +kernel
theorem dX6_keepNumber_76 : decode cX6_keepNumber 76 = .ok (.getfield 68, 3) := by decide +kernel
theorem dX6_keepNumber_79 : decode cX6_keepNumber 79 = .ok (.astore 4, 2) := by decide +kernel
theorem dX6_keepNumber_81 : decode cX6_keepNumber 81 = .ok (.aload 4, 2) := by decide +kernel
theorem dX6_keepNumber_83 : decode cX6_keepNumber 83 = .ok (.getfield 112, 3) := by decide +kernel
theorem dX6_keepNumber_86 : decode cX6_keepNumber 86 = .ok (.aload_n 0, 1) := by decide +kernel
theorem dX6_keepNumber_87 : decode cX6_keepNumber 87 = .ok (.getfield 30, 3) := by decide +kernel
theorem dX6_keepNumber_90 : decode cX6_keepNumber 90 = .ok (.getfield 112, 3) := by decide +kernel
theorem dX6_keepNumber_93 : decode cX6_keepNumber 93 = .ok (.invokevirtual 138, 3) := by decide +kernel
theorem dX6_keepNumber_96 : decode cX6_keepNumber 96 = .ok (.ifCond .eq 25, 3) := by decide +kernel
theorem dX6_keepNumber_99 : decode cX6_keepNumber 99 = .ok (.aload 4, 2) := by decide +kernel
theorem dX6_keepNumber_101 : decode cX6_keepNumber 101 = .ok (.getfield 122, 3) := by decide +kernel
theorem dX6_keepNumber_104 : decode cX6_keepNumber 104 = .ok (.aload_n 0, 1) := by decide +kernel
theorem dX6_keepNumber_105 : decode cX6_keepNumber 105 = .ok (.getfield 30, 3) := by decide +kernel
theorem dX6_keepNumber_108 : decode cX6_keepNumber 108 = .ok (.getfield 122, 3) := by decide +kernel
theorem dX6_keepNumber_111 : decode cX6_keepNumber 111 = .ok (.invokevirtual 138, 3) := by decide +kernel
theorem dX6_keepNumber_114 : decode cX6_keepNumber 114 = .ok (.ifCond .eq 7, 3) := by decide +kernel
theorem dX6_keepNumber_117 : decode cX6_keepNumber 117 = .ok (.iconst 1, 1) := by decide +kernel
theorem dX6_keepNumber_118 : decode cX6_keepNumber 118 = .ok (.goto 4, 3) := by decide +kernel
theorem dX6_keepNumber_121 : decode cX6_keepNumber 121 = .ok (.iconst 0, 1) := by decide +kernel
theorem dX6_keepNumber_122 : decode cX6_keepNumber 122 = .ok (.istore 5, 2) := by decide +kernel
theorem dX6_keepNumber_124 : decode cX6_keepNumber 124 = .ok (.iload 5, 2) := by decide +kernel
theorem dX6_keepNumber_126 : decode cX6_keepNumber 126 = .ok (.ifCond .eq 17, 3) := by decide +kernel
theorem dX6_keepNumber_129 : decode cX6_keepNumber 129 = .ok (.aload_n 0, 1) := by decide +kernel
theorem dX6_keepNumber_130 : decode cX6_keepNumber 130 = .ok (.getfield 11, 3) := by decide +kernel
theorem dX6_keepNumber_133 : decode cX6_keepNumber 133 = .ok (.iload_n 3, 1) := by decide +kernel
theorem dX6_keepNumber_134 : decode cX6_keepNumber 134 = .ok (.aaload, 1) := by decide +kernel
theorem dX6_keepNumber_135 : decode cX6_keepNumber 135 = .ok (.getfield 64, 3) := by decide +kernel
theorem dX6_keepNumber_138 : decode cX6_keepNumber 138 = .ok (.ifCond .ne 5, 3) := by decide +kernel
theorem dX6_keepNumber_141 : decode cX6_keepNumber 141 = .ok (.iload_n 3, 1) := by decide +kernel
theorem dX6_keepNumber_142 : decode cX6_keepNumber 142 = .ok (.ireturn, 1) := by decide +kernel
theorem dX6_keepNumber_143 : decode cX6_keepNumber 143 = .ok (.iinc 3 1, 3) := by decide +kernel
theorem dX6_keepNumber_146 : decode cX6_keepNumber 146 = .ok (.goto (-84), 3) := by decide +kernel
theorem dX6_keepNumber_149 : decode cX6_keepNumber 149 = .ok (.aload_n 0, 1) := by decide +kernel
theorem dX6_keepNumber_150 : decode cX6_keepNumber 150 = .ok (.iconst 0, 1) := by decide +kernel
theorem dX6_keepNumber_151 : decode cX6_keepNumber 151 = .ok (.iconst (-1), 1) := by decide +kernel
theorem dX6_keepNumber_152 : decode cX6_keepNumber 152 = .ok (.iconst (-1), 1) := by decide +kernel
theorem dX6_keepNumber_153 : decode cX6_keepNumber 153 = .ok (.iconst 0, 1) := by decide +kernel
theorem dX6_keepNumber_154 : decode cX6_keepNumber 154 = .ok (.iload_n 1, 1) := by decide +kernel
theorem dX6_keepNumber_155 : decode cX6_keepNumber 155 = .ok (.iload_n 2, 1) := by decide +kernel
theorem dX6_keepNumber_156 : decode cX6_keepNumber 156 = .ok (.invokevirtual 142, 3) := by decide +kernel
theorem dX6_keepNumber_159 : decode cX6_keepNumber 159 = .ok (.istore_n 3, 1) := by decide +kernel
theorem dX6_keepNumber_160 : decode cX6_keepNumber 160 = .ok (.iload_n 3, 1) := by decide +kernel
theorem dX6_keepNumber_161 : decode cX6_keepNumber 161 = .ok (.ifCond .lt 47, 3) := by decide +kernel
theorem dX6_keepNumber_164 : decode cX6_keepNumber 164 = .ok (.aload_n 0, 1) := by decide +kernel
theorem dX6_keepNumber_165 : decode cX6_keepNumber 165 = .ok (.getfield 11, 3) := by decide +kernel
theorem dX6_keepNumber_168 : decode cX6_keepNumber 168 = .ok (.iload_n 3, 1) := by decide +kernel
theorem dX6_keepNumber_169 : decode cX6_keepNumber 169 = .ok (.aaload, 1) := by decide +kernel
theorem dX6_keepNumber_170 : decode cX6_keepNumber 170 = .ok (.getfield 68, 3) := by decide +kernel
theorem dX6_keepNumber_173 : decode cX6_keepNumber 173 = .ok (.getfield 112, 3) := by decide +kernel
theorem dX6_keepNumber_176 : decode cX6_keepNumber 176 = .ok (.aload_n 0, 1) := by decide +kernel
theorem dX6_keepNumber_177 : decode cX6_keepNumber 177 = .ok (.getfield 30, 3) := by decide +kernel
theorem dX6_keepNumber_180 : decode cX6_keepNumber 180 = .ok (.getfield 112, 3) := by decide +kernel
theorem dX6_keepNumber_183 : decode cX6_keepNumber 183 = .ok (.invokevirtual 118, 3) := by decide +kernel
theorem dX6_keepNumber_186 : decode cX6_keepNumber 186 = .ok (.aload_n 0, 1) := by decide +kernel
theorem dX6_keepNumber_187 : decode cX6_keepNumber 187 = .ok (.getfield 11, 3) := by decide +kernel
theorem dX6_keepNumber_190 : decode cX6_keepNumber 190 = .ok (.iload_n 3, 1) := by decide +kernel
theorem dX6_keepNumber_191 : decode cX6_keepNumber 191 = .ok (.aaload, 1) := by decide +kernel
theorem dX6_keepNumber_192 : decode cX6_keepNumber 192 = .ok (.getfield 68, 3) := by decide +kernel
theorem dX6_keepNumber_195 : decode cX6_keepNumber 195 = .ok (.getfield 122, 3) := by decide +kernel
theorem dX6_keepNumber_198 : decode cX6_keepNumber 198 = .ok (.aload_n 0, 1) := by decide +kernel
theorem dX6_keepNumber_199 : decode cX6_keepNumber 199 = .ok (.getfield 30, 3) := by decide +kernel
theorem dX6_keepNumber_202 : decode cX6_keepNumber 202 = .ok (.getfield 122, 3) := by decide +kernel
theorem dX6_keepNumber_205 : decode cX6_keepNumber 205 = .ok (.invokevirtual 118, 3) := by decide +kernel
theorem dX6_keepNumber_208 : decode cX6_keepNumber 208 = .ok (.iload_n 3, 1) := by decide +kernel
theorem dX6_keepNumber_209 : decode cX6_keepNumber 209 = .ok (.ireturn, 1) := by decide +kernel
theorem dX6_keep_0 : decode cX6_keep 0 = .ok (.iload 4, 2) := by decide +kernel
theorem dX6_keep_2 : decode cX6_keep 2 = .ok (.bipush 8, 2) := by decide +kernel
theorem dX6_keep_4 : decode cX6_keep 4 = .ok (.if_icmp .gt 19, 3) := by decide +kernel
theorem dX6_keep_7 : decode cX6_keep 7 = .ok (.iload 5, 2) := by decide +kernel
theorem dX6_keep_9 : decode cX6_keep 9 = .ok (.sipush 400, 3) := by decide +kernel
theorem dX6_keep_12 : decode cX6_keep 12 = .ok (.if_icmp .gt 11, 3) := by decide +kernel
theorem dX6_keep_15 : decode cX6_keep 15 = .ok (.iload 6, 2) := by decide +kernel
theorem dX6_keep_17 : decode cX6_keep 17 = .ok (.sipush 400, 3) := by decide +kernel
theorem dX6_keep_20 : decode cX6_keep 20 = .ok (.if_icmp .le 6, 3) := by decide +kernel
theorem dX6_keep_23 : decode cX6_keep 23 = .ok (.bipush (-3), 2) := by decide +kernel
theorem dX6_keep_25 : decode cX6_keep 25 = .ok (.ireturn, 1) := by decide +kernel
theorem dX6_keep_26 : decode cX6_keep 26 = .ok (.iconst 0, 1) := by decide +kernel
theorem dX6_keep_27 : decode cX6_keep 27 = .ok (.istore 7, 2) := by decide +kernel
theorem dX6_keep_29 : decode cX6_keep 29 = .ok (.iload 7, 2) := by decide +kernel
theorem dX6_keep_31 : decode cX6_keep 31 = .ok (.aload_n 0, 1) := by decide +kernel
theorem dX6_keep_32 : decode cX6_keep 32 = .ok (.getfield 135, 3) := by decide +kernel
theorem dX6_keep_35 : decode cX6_keep 35 = .ok (.if_icmp .ge 28, 3) := by decide +kernel
theorem dX6_keep_38 : decode cX6_keep 38 = .ok (.aload_n 0, 1) := by decide +kernel
theorem dX6_keep_39 : decode cX6_keep 39 = .ok (.getfield 11, 3) := by decide +kernel
theorem dX6_keep_42 : decode cX6_keep 42 = .ok (.iload 7, 2) := by decide +kernel
theorem dX6_keep_44 : decode cX6_keep 44 = .ok (.aaload, 1) := by decide +kernel
theorem dX6_keep_45 : decode cX6_keep 45 = .ok (.iload_n 1, 1) := by decide +kernel
theorem dX6_keep_46 : decode cX6_keep 46 = .ok (.iload_n 2, 1) := by decide +kernel
theorem dX6_keep_47 : decode cX6_keep 47 = .ok (.iload_n 3, 1) := by decide +kernel
theorem dX6_keep_48 : decode cX6_keep 48 = .ok (.invokevirtual 145, 3) := by decide +kernel
theorem dX6_keep_51 : decode cX6_keep 51 = .ok (.ifCond .eq 6, 3) := by decide +kernel
theorem dX6_keep_54 : decode cX6_keep 54 = .ok (.iload 7, 2) := by decide +kernel
theorem dX6_keep_56 : decode cX6_keep 56 = .ok (.ireturn, 1) := by decide +kernel
theorem dX6_keep_57 : decode cX6_keep 57 = .ok (.iinc 7 1, 3) := by decide +kernel
theorem dX6_keep_60 : decode cX6_keep 60 = .ok (.goto (-31), 3) := by decide +kernel
theorem dX6_keep_63 : decode cX6_keep 63 = .ok (.aload_n 0, 1) := by decide +kernel
theorem dX6_keep_64 : decode cX6_keep 64 = .ok (.iload_n 1, 1) := by decide +kernel
theorem dX6_keep_65 : decode cX6_keep 65 = .ok (.iload_n 2, 1) := by decide +kernel
theorem dX6_keep_66 : decode cX6_keep 66 = .ok (.iload_n 3, 1) := by decide +kernel
theorem dX6_keep_67 : decode cX6_keep 67 = .ok (.iload 4, 2) := by decide +kernel
theorem dX6_keep_69 : decode cX6_keep 69 = .ok (.iload 5, 2) := by decide +kernel
theorem dX6_keep_71 : decode cX6_keep 71 = .ok (.iload 6, 2) := by decide +kernel
theorem dX6_keep_73 : decode cX6_keep 73 = .ok (.invokevirtual 142, 3) := by decide +kernel
theorem dX6_keep_76 : decode cX6_keep 76 = .ok (.ireturn, 1) := by decide +kernel
theorem dX6_lay_0 : decode cX6_lay 0 = .ok (.aload_n 0, 1) := by decide +kernel
theorem dX6_lay_1 : decode cX6_lay 1 = .ok (.getfield 135, 3) := by decide +kernel
theorem dX6_lay_4 : decode cX6_lay 4 = .ok (.sipush 200, 3) := by decide +kernel
theorem dX6_lay_7 : decode cX6_lay 7 = .ok (.if_icmp .lt 6, 3) := by decide +kernel
theorem dX6_lay_10 : decode cX6_lay 10 = .ok (.bipush (-4), 2) := by decide +kernel
theorem dX6_lay_12 : decode cX6_lay 12 = .ok (.ireturn, 1) := by decide +kernel
theorem dX6_lay_13 : decode cX6_lay 13 = .ok (.aload_n 0, 1) := by decide +kernel
theorem dX6_lay_14 : decode cX6_lay 14 = .ok (.getfield 11, 3) := by decide +kernel
theorem dX6_lay_17 : decode cX6_lay 17 = .ok (.aload_n 0, 1) := by decide +kernel
theorem dX6_lay_18 : decode cX6_lay 18 = .ok (.getfield 135, 3) := by decide +kernel
theorem dX6_lay_21 : decode cX6_lay 21 = .ok (.aaload, 1) := by decide +kernel
theorem dX6_lay_22 : decode cX6_lay 22 = .ok (.astore 7, 2) := by decide +kernel
theorem dX6_lay_24 : decode cX6_lay 24 = .ok (.aload 7, 2) := by decide +kernel
theorem dX6_lay_26 : decode cX6_lay 26 = .ok (.iload_n 1, 1) := by decide +kernel
theorem dX6_lay_27 : decode cX6_lay 27 = .ok (.putfield 64, 3) := by decide +kernel
theorem dX6_lay_30 : decode cX6_lay 30 = .ok (.aload 7, 2) := by decide +kernel
theorem dX6_lay_32 : decode cX6_lay 32 = .ok (.iload_n 2, 1) := by decide +kernel
theorem dX6_lay_33 : decode cX6_lay 33 = .ok (.putfield 149, 3) := by decide +kernel
theorem dX6_lay_36 : decode cX6_lay 36 = .ok (.aload 7, 2) := by decide +kernel
theorem dX6_lay_38 : decode cX6_lay 38 = .ok (.iload_n 3, 1) := by decide +kernel
theorem dX6_lay_39 : decode cX6_lay 39 = .ok (.putfield 152, 3) := by decide +kernel
theorem dX6_lay_42 : decode cX6_lay 42 = .ok (.aload 7, 2) := by decide +kernel
theorem dX6_lay_44 : decode cX6_lay 44 = .ok (.iload 4, 2) := by decide +kernel
theorem dX6_lay_46 : decode cX6_lay 46 = .ok (.putfield 91, 3) := by decide +kernel
theorem dX6_lay_49 : decode cX6_lay 49 = .ok (.aload 7, 2) := by decide +kernel
theorem dX6_lay_51 : decode cX6_lay 51 = .ok (.iload 5, 2) := by decide +kernel
theorem dX6_lay_53 : decode cX6_lay 53 = .ok (.putfield 79, 3) := by decide +kernel
theorem dX6_lay_56 : decode cX6_lay 56 = .ok (.aload 7, 2) := by decide +kernel
theorem dX6_lay_58 : decode cX6_lay 58 = .ok (.iload 6, 2) := by decide +kernel
theorem dX6_lay_60 : decode cX6_lay 60 = .ok (.putfield 82, 3) := by decide +kernel
theorem dX6_lay_63 : decode cX6_lay 63 = .ok (.aload_n 0, 1) := by decide +kernel
theorem dX6_lay_64 : decode cX6_lay 64 = .ok (.dup, 1) := by decide +kernel
theorem dX6_lay_65 : decode cX6_lay 65 = .ok (.getfield 135, 3) := by decide +kernel
theorem dX6_lay_68 : decode cX6_lay 68 = .ok (.iconst 1, 1) := by decide +kernel
theorem dX6_lay_69 : decode cX6_lay 69 = .ok (.iadd, 1) := by decide +kernel
theorem dX6_lay_70 : decode cX6_lay 70 = .ok (.putfield 135, 3) := by decide +kernel
theorem dX6_lay_73 : decode cX6_lay 73 = .ok (.aload_n 0, 1) := by decide +kernel
theorem dX6_lay_74 : decode cX6_lay 74 = .ok (.getfield 135, 3) := by decide +kernel
theorem dX6_lay_77 : decode cX6_lay 77 = .ok (.iconst 1, 1) := by decide +kernel
theorem dX6_lay_78 : decode cX6_lay 78 = .ok (.isub, 1) := by decide +kernel
theorem dX6_lay_79 : decode cX6_lay 79 = .ok (.ireturn, 1) := by decide +kernel
theorem dX6_mark_0 : decode cX6_mark 0 = .ok (.iconst 0, 1) := by decide +kernel
theorem dX6_mark_1 : decode cX6_mark 1 = .ok (.istore_n 2, 1) := by decide +kernel
theorem dX6_mark_2 : decode cX6_mark 2 = .ok (.iload_n 2, 1) := by decide +kernel
theorem dX6_mark_3 : decode cX6_mark 3 = .ok (.iload_n 1, 1) := by decide +kernel
theorem dX6_mark_4 : decode cX6_mark 4 = .ok (.if_icmp .ge 16, 3) := by decide +kernel
theorem dX6_mark_7 : decode cX6_mark 7 = .ok (.aload_n 0, 1) := by decide +kernel
theorem dX6_mark_8 : decode cX6_mark 8 = .ok (.getfield 17, 3) := by decide +kernel
theorem dX6_mark_11 : decode cX6_mark 11 = .ok (.iload_n 2, 1) := by decide +kernel
theorem dX6_mark_12 : decode cX6_mark 12 = .ok (.iconst 0, 1) := by decide +kernel
theorem dX6_mark_13 : decode cX6_mark 13 = .ok (.bastore, 1) := by decide +kernel
theorem dX6_mark_14 : decode cX6_mark 14 = .ok (.iinc 2 1, 3) := by decide +kernel
theorem dX6_mark_17 : decode cX6_mark 17 = .ok (.goto (-15), 3) := by decide +kernel
theorem dX6_mark_20 : decode cX6_mark 20 = .ok (.aload_n 0, 1) := by decide +kernel
theorem dX6_mark_21 : decode cX6_mark 21 = .ok (.getfield 17, 3) := by decide +kernel
theorem dX6_mark_24 : decode cX6_mark 24 = .ok (.iload_n 1, 1) := by decide +kernel
theorem dX6_mark_25 : decode cX6_mark 25 = .ok (.iconst 1, 1) := by decide +kernel
theorem dX6_mark_26 : decode cX6_mark 26 = .ok (.bastore, 1) := by decide +kernel
theorem dX6_mark_27 : decode cX6_mark 27 = .ok (.iconst 0, 1) := by decide +kernel
theorem dX6_mark_28 : decode cX6_mark 28 = .ok (.istore_n 2, 1) := by decide +kernel
theorem dX6_mark_29 : decode cX6_mark 29 = .ok (.iload_n 1, 1) := by decide +kernel
theorem dX6_mark_30 : decode cX6_mark 30 = .ok (.istore_n 3, 1) := by decide +kernel
theorem dX6_mark_31 : decode cX6_mark 31 = .ok (.iload_n 3, 1) := by decide +kernel
theorem dX6_mark_32 : decode cX6_mark 32 = .ok (.ifCond .lt 31, 3) := by decide +kernel
theorem dX6_mark_35 : decode cX6_mark 35 = .ok (.aload_n 0, 1) := by decide +kernel
theorem dX6_mark_36 : decode cX6_mark 36 = .ok (.getfield 17, 3) := by decide +kernel
theorem dX6_mark_39 : decode cX6_mark 39 = .ok (.iload_n 3, 1) := by decide +kernel
theorem dX6_mark_40 : decode cX6_mark 40 = .ok (.baload, 1) := by decide +kernel
theorem dX6_mark_41 : decode cX6_mark 41 = .ok (.ifCond .eq 16, 3) := by decide +kernel
theorem dX6_mark_44 : decode cX6_mark 44 = .ok (.iinc 2 1, 3) := by decide +kernel
theorem dX6_mark_47 : decode cX6_mark 47 = .ok (.aload_n 0, 1) := by decide +kernel
theorem dX6_mark_48 : decode cX6_mark 48 = .ok (.aload_n 0, 1) := by decide +kernel
theorem dX6_mark_49 : decode cX6_mark 49 = .ok (.getfield 11, 3) := by decide +kernel
theorem dX6_mark_52 : decode cX6_mark 52 = .ok (.iload_n 3, 1) := by decide +kernel
theorem dX6_mark_53 : decode cX6_mark 53 = .ok (.aaload, 1) := by decide +kernel
theorem dX6_mark_54 : decode cX6_mark 54 = .ok (.invokevirtual 155, 3) := by decide +kernel
theorem dX6_mark_57 : decode cX6_mark 57 = .ok (.iinc 3 (-1), 3) := by decide +kernel
theorem dX6_mark_60 : decode cX6_mark 60 = .ok (.goto (-29), 3) := by decide +kernel
theorem dX6_mark_63 : decode cX6_mark 63 = .ok (.iload_n 2, 1) := by decide +kernel
theorem dX6_mark_64 : decode cX6_mark 64 = .ok (.ireturn, 1) := by decide +kernel
theorem dX6_markOperands_0 : decode cX6_markOperands 0 = .ok (.aload_n 1, 1) := by decide +kernel
theorem dX6_markOperands_1 : decode cX6_markOperands 1 = .ok (.getfield 64, 3) := by decide +kernel
theorem dX6_markOperands_4 : decode cX6_markOperands 4 = .ok (.iconst 2, 1) := by decide +kernel
theorem dX6_markOperands_5 : decode cX6_markOperands 5 = .ok (.if_icmp .eq 11, 3) := by decide +kernel
theorem dX6_markOperands_8 : decode cX6_markOperands 8 = .ok (.aload_n 1, 1) := by decide +kernel
theorem dX6_markOperands_9 : decode cX6_markOperands 9 = .ok (.getfield 64, 3) := by decide +kernel
theorem dX6_markOperands_12 : decode cX6_markOperands 12 = .ok (.iconst 3, 1) := by decide +kernel
theorem dX6_markOperands_13 : decode cX6_markOperands 13 = .ok (.if_icmp .ne 26, 3) := by decide +kernel
theorem dX6_markOperands_16 : decode cX6_markOperands 16 = .ok (.aload_n 0, 1) := by decide +kernel
theorem dX6_markOperands_17 : decode cX6_markOperands 17 = .ok (.getfield 17, 3) := by decide +kernel
theorem dX6_markOperands_20 : decode cX6_markOperands 20 = .ok (.aload_n 1, 1) := by decide +kernel
theorem dX6_markOperands_21 : decode cX6_markOperands 21 = .ok (.getfield 149, 3) := by decide +kernel
theorem dX6_markOperands_24 : decode cX6_markOperands 24 = .ok (.iconst 1, 1) := by decide +kernel
theorem dX6_markOperands_25 : decode cX6_markOperands 25 = .ok (.bastore, 1) := by decide +kernel
theorem dX6_markOperands_26 : decode cX6_markOperands 26 = .ok (.aload_n 0, 1) := by decide +kernel
theorem dX6_markOperands_27 : decode cX6_markOperands 27 = .ok (.getfield 17, 3) := by decide +kernel
theorem dX6_markOperands_30 : decode cX6_markOperands 30 = .ok (.aload_n 1, 1) := by decide +kernel
theorem dX6_markOperands_31 : decode cX6_markOperands 31 = .ok (.getfield 152, 3) := by decide +kernel
theorem dX6_markOperands_34 : decode cX6_markOperands 34 = .ok (.iconst 1, 1) := by decide +kernel
theorem dX6_markOperands_35 : decode cX6_markOperands 35 = .ok (.bastore, 1) := by decide +kernel
theorem dX6_markOperands_36 : decode cX6_markOperands 36 = .ok (.goto 21, 3) := by decide +kernel
theorem dX6_markOperands_39 : decode cX6_markOperands 39 = .ok (.aload_n 1, 1) := by decide +kernel
theorem dX6_markOperands_40 : decode cX6_markOperands 40 = .ok (.getfield 64, 3) := by decide +kernel
theorem dX6_markOperands_43 : decode cX6_markOperands 43 = .ok (.iconst 4, 1) := by decide +kernel
theorem dX6_markOperands_44 : decode cX6_markOperands 44 = .ok (.if_icmp .ne 13, 3) := by decide +kernel
theorem dX6_markOperands_47 : decode cX6_markOperands 47 = .ok (.aload_n 0, 1) := by decide +kernel
theorem dX6_markOperands_48 : decode cX6_markOperands 48 = .ok (.getfield 17, 3) := by decide +kernel
theorem dX6_markOperands_51 : decode cX6_markOperands 51 = .ok (.aload_n 1, 1) := by decide +kernel
theorem dX6_markOperands_52 : decode cX6_markOperands 52 = .ok (.getfield 149, 3) := by decide +kernel
theorem dX6_markOperands_55 : decode cX6_markOperands 55 = .ok (.iconst 1, 1) := by decide +kernel
theorem dX6_markOperands_56 : decode cX6_markOperands 56 = .ok (.bastore, 1) := by decide +kernel
theorem dX6_markOperands_57 : decode cX6_markOperands 57 = .ok (.return_, 1) := by decide +kernel
theorem dX6_derivative_0 : decode cX6_derivative 0 = .ok (.aload_n 0, 1) := by decide +kernel
theorem dX6_derivative_1 : decode cX6_derivative 1 = .ok (.iload_n 1, 1) := by decide +kernel
theorem dX6_derivative_2 : decode cX6_derivative 2 = .ok (.invokevirtual 159, 3) := by decide +kernel
theorem dX6_derivative_5 : decode cX6_derivative 5 = .ok (.pop, 1) := by decide +kernel
theorem dX6_derivative_6 : decode cX6_derivative 6 = .ok (.iconst 0, 1) := by decide +kernel
theorem dX6_derivative_7 : decode cX6_derivative 7 = .ok (.istore_n 3, 1) := by decide +kernel
theorem dX6_derivative_8 : decode cX6_derivative 8 = .ok (.iload_n 3, 1) := by decide +kernel
theorem dX6_derivative_9 : decode cX6_derivative 9 = .ok (.iload_n 1, 1) := by decide +kernel
theorem dX6_derivative_10 : decode cX6_derivative 10 = .ok (.if_icmp .gt 184, 3) := by decide +kernel
theorem dX6_derivative_13 : decode cX6_derivative 13 = .ok (.aload_n 0, 1) := by decide +kernel
theorem dX6_derivative_14 : decode cX6_derivative 14 = .ok (.getfield 17, 3) := by decide +kernel
theorem dX6_derivative_17 : decode cX6_derivative 17 = .ok (.iload_n 3, 1) := by decide +kernel
theorem dX6_derivative_18 : decode cX6_derivative 18 = .ok (.baload, 1) := by decide +kernel
theorem dX6_derivative_19 : decode cX6_derivative 19 = .ok (.ifCond .ne 6, 3) := by decide +kernel
theorem dX6_derivative_22 : decode cX6_derivative 22 = .ok (.goto 166, 3) := by decide +kernel
theorem dX6_derivative_25 : decode cX6_derivative 25 = .ok (.aload_n 0, 1) := by decide +kernel
theorem dX6_derivative_26 : decode cX6_derivative 26 = .ok (.getfield 11, 3) := by decide +kernel
theorem dX6_derivative_29 : decode cX6_derivative 29 = .ok (.iload_n 3, 1) := by decide +kernel
theorem dX6_derivative_30 : decode cX6_derivative 30 = .ok (.aaload, 1) := by decide +kernel
theorem dX6_derivative_31 : decode cX6_derivative 31 = .ok (.astore 4, 2) := by decide +kernel
theorem dX6_derivative_33 : decode cX6_derivative 33 = .ok (.aload 4, 2) := by decide +kernel
theorem dX6_derivative_35 : decode cX6_derivative 35 = .ok (.getfield 64, 3) := by decide +kernel
theorem dX6_derivative_38 : decode cX6_derivative 38 = .ok (.iconst 2, 1) := by decide +kernel
theorem dX6_derivative_39 : decode cX6_derivative 39 = .ok (.if_icmp .ne 36, 3) := by decide +kernel
theorem dX6_derivative_42 : decode cX6_derivative 42 = .ok (.aload_n 0, 1) := by decide +kernel
theorem dX6_derivative_43 : decode cX6_derivative 43 = .ok (.getfield 21, 3) := by decide +kernel
theorem dX6_derivative_46 : decode cX6_derivative 46 = .ok (.iload_n 3, 1) := by decide +kernel
theorem dX6_derivative_47 : decode cX6_derivative 47 = .ok (.aload_n 0, 1) := by decide +kernel
theorem dX6_derivative_48 : decode cX6_derivative 48 = .ok (.aload_n 0, 1) := by decide +kernel
theorem dX6_derivative_49 : decode cX6_derivative 49 = .ok (.getfield 21, 3) := by decide +kernel
theorem dX6_derivative_52 : decode cX6_derivative 52 = .ok (.aload 4, 2) := by decide +kernel
theorem dX6_derivative_54 : decode cX6_derivative 54 = .ok (.getfield 149, 3) := by decide +kernel
theorem dX6_derivative_57 : decode cX6_derivative 57 = .ok (.iaload, 1) := by decide +kernel
theorem dX6_derivative_58 : decode cX6_derivative 58 = .ok (.aload_n 0, 1) := by decide +kernel
theorem dX6_derivative_59 : decode cX6_derivative 59 = .ok (.getfield 21, 3) := by decide +kernel
theorem dX6_derivative_62 : decode cX6_derivative 62 = .ok (.aload 4, 2) := by decide +kernel
theorem dX6_derivative_64 : decode cX6_derivative 64 = .ok (.getfield 152, 3) := by decide +kernel
theorem dX6_derivative_67 : decode cX6_derivative 67 = .ok (.iaload, 1) := by decide +kernel
theorem dX6_derivative_68 : decode cX6_derivative 68 = .ok (.invokevirtual 162, 3) := by decide +kernel
theorem dX6_derivative_71 : decode cX6_derivative 71 = .ok (.iastore, 1) := by decide +kernel
theorem dX6_derivative_72 : decode cX6_derivative 72 = .ok (.goto 100, 3) := by decide +kernel
theorem dX6_derivative_75 : decode cX6_derivative 75 = .ok (.aload 4, 2) := by decide +kernel
theorem dX6_derivative_77 : decode cX6_derivative 77 = .ok (.getfield 64, 3) := by decide +kernel
theorem dX6_derivative_80 : decode cX6_derivative 80 = .ok (.iconst 3, 1) := by decide +kernel
theorem dX6_derivative_81 : decode cX6_derivative 81 = .ok (.if_icmp .ne 26, 3) := by decide +kernel
theorem dX6_derivative_84 : decode cX6_derivative 84 = .ok (.aload_n 0, 1) := by decide +kernel
theorem dX6_derivative_85 : decode cX6_derivative 85 = .ok (.getfield 21, 3) := by decide +kernel
theorem dX6_derivative_88 : decode cX6_derivative 88 = .ok (.iload_n 3, 1) := by decide +kernel
theorem dX6_derivative_89 : decode cX6_derivative 89 = .ok (.aload_n 0, 1) := by decide +kernel
theorem dX6_derivative_90 : decode cX6_derivative 90 = .ok (.aload 4, 2) := by decide +kernel
theorem dX6_derivative_92 : decode cX6_derivative 92 = .ok (.getfield 149, 3) := by decide +kernel
theorem dX6_derivative_95 : decode cX6_derivative 95 = .ok (.aload 4, 2) := by decide +kernel
theorem dX6_derivative_97 : decode cX6_derivative 97 = .ok (.getfield 152, 3) := by decide +kernel
theorem dX6_derivative_100 : decode cX6_derivative 100 = .ok (.invokevirtual 165, 3) := by decide +kernel
theorem dX6_derivative_103 : decode cX6_derivative 103 = .ok (.iastore, 1) := by decide +kernel
theorem dX6_derivative_104 : decode cX6_derivative 104 = .ok (.goto 68, 3) := by decide +kernel
theorem dX6_derivative_107 : decode cX6_derivative 107 = .ok (.aload 4, 2) := by decide +kernel
theorem dX6_derivative_109 : decode cX6_derivative 109 = .ok (.getfield 64, 3) := by decide +kernel
theorem dX6_derivative_112 : decode cX6_derivative 112 = .ok (.iconst 4, 1) := by decide +kernel
theorem dX6_derivative_113 : decode cX6_derivative 113 = .ok (.if_icmp .ne 26, 3) := by decide +kernel
theorem dX6_derivative_116 : decode cX6_derivative 116 = .ok (.aload_n 0, 1) := by decide +kernel
theorem dX6_derivative_117 : decode cX6_derivative 117 = .ok (.getfield 21, 3) := by decide +kernel
theorem dX6_derivative_120 : decode cX6_derivative 120 = .ok (.iload_n 3, 1) := by decide +kernel
theorem dX6_derivative_121 : decode cX6_derivative 121 = .ok (.aload_n 0, 1) := by decide +kernel
theorem dX6_derivative_122 : decode cX6_derivative 122 = .ok (.aload 4, 2) := by decide +kernel
theorem dX6_derivative_124 : decode cX6_derivative 124 = .ok (.getfield 149, 3) := by decide +kernel
theorem dX6_derivative_127 : decode cX6_derivative 127 = .ok (.aload 4, 2) := by decide +kernel
theorem dX6_derivative_129 : decode cX6_derivative 129 = .ok (.getfield 152, 3) := by decide +kernel
theorem dX6_derivative_132 : decode cX6_derivative 132 = .ok (.invokevirtual 168, 3) := by decide +kernel
theorem dX6_derivative_135 : decode cX6_derivative 135 = .ok (.iastore, 1) := by decide +kernel
theorem dX6_derivative_136 : decode cX6_derivative 136 = .ok (.goto 36, 3) := by decide +kernel
theorem dX6_derivative_139 : decode cX6_derivative 139 = .ok (.aload_n 0, 1) := by decide +kernel
theorem dX6_derivative_140 : decode cX6_derivative 140 = .ok (.getfield 21, 3) := by decide +kernel
theorem dX6_derivative_143 : decode cX6_derivative 143 = .ok (.iload_n 3, 1) := by decide +kernel
theorem dX6_derivative_144 : decode cX6_derivative 144 = .ok (.aload_n 0, 1) := by decide +kernel
theorem dX6_derivative_145 : decode cX6_derivative 145 = .ok (.aload 4, 2) := by decide +kernel
theorem dX6_derivative_147 : decode cX6_derivative 147 = .ok (.getfield 64, 3) := by decide +kernel
theorem dX6_derivative_150 : decode cX6_derivative 150 = .ok (.iconst 1, 1) := by decide +kernel
theorem dX6_derivative_151 : decode cX6_derivative 151 = .ok (.if_icmp .ne 16, 3) := by decide +kernel
theorem dX6_derivative_154 : decode cX6_derivative 154 = .ok (.aload 4, 2) := by decide +kernel
theorem dX6_derivative_156 : decode cX6_derivative 156 = .ok (.getfield 149, 3) := by decide +kernel
theorem dX6_derivative_159 : decode cX6_derivative 159 = .ok (.iload_n 2, 1) := by decide +kernel
theorem dX6_derivative_160 : decode cX6_derivative 160 = .ok (.if_icmp .ne 7, 3) := by decide +kernel
theorem dX6_derivative_163 : decode cX6_derivative 163 = .ok (.iconst 1, 1) := by decide +kernel
theorem dX6_derivative_164 : decode cX6_derivative 164 = .ok (.goto 4, 3) := by decide +kernel
theorem dX6_derivative_167 : decode cX6_derivative 167 = .ok (.iconst 0, 1) := by decide +kernel
theorem dX6_derivative_168 : decode cX6_derivative 168 = .ok (.invokevirtual 101, 3) := by decide +kernel
theorem dX6_derivative_171 : decode cX6_derivative 171 = .ok (.iastore, 1) := by decide +kernel
theorem dX6_derivative_172 : decode cX6_derivative 172 = .ok (.aload_n 0, 1) := by decide +kernel
theorem dX6_derivative_173 : decode cX6_derivative 173 = .ok (.getfield 21, 3) := by decide +kernel
theorem dX6_derivative_176 : decode cX6_derivative 176 = .ok (.iload_n 3, 1) := by decide +kernel
theorem dX6_derivative_177 : decode cX6_derivative 177 = .ok (.iaload, 1) := by decide +kernel
theorem dX6_derivative_178 : decode cX6_derivative 178 = .ok (.ifCond .ge 10, 3) := by decide +kernel
theorem dX6_derivative_181 : decode cX6_derivative 181 = .ok (.aload_n 0, 1) := by decide +kernel
theorem dX6_derivative_182 : decode cX6_derivative 182 = .ok (.getfield 21, 3) := by decide +kernel
theorem dX6_derivative_185 : decode cX6_derivative 185 = .ok (.iload_n 3, 1) := by decide +kernel
theorem dX6_derivative_186 : decode cX6_derivative 186 = .ok (.iaload, 1) := by decide +kernel
theorem dX6_derivative_187 : decode cX6_derivative 187 = .ok (.ireturn, 1) := by decide +kernel
theorem dX6_derivative_188 : decode cX6_derivative 188 = .ok (.iinc 3 1, 3) := by decide +kernel
theorem dX6_derivative_191 : decode cX6_derivative 191 = .ok (.goto (-183), 3) := by decide +kernel
theorem dX6_derivative_194 : decode cX6_derivative 194 = .ok (.aload_n 0, 1) := by decide +kernel
theorem dX6_derivative_195 : decode cX6_derivative 195 = .ok (.getfield 21, 3) := by decide +kernel
theorem dX6_derivative_198 : decode cX6_derivative 198 = .ok (.iload_n 1, 1) := by decide +kernel
theorem dX6_derivative_199 : decode cX6_derivative 199 = .ok (.iaload, 1) := by decide +kernel
theorem dX6_derivative_200 : decode cX6_derivative 200 = .ok (.ireturn, 1) := by decide +kernel
theorem dX6_makeProductSlope_0 : decode cX6_makeProductSlope 0 = .ok (.aload_n 0, 1) := by decide +kernel
theorem dX6_makeProductSlope_1 : decode cX6_makeProductSlope 1 = .ok (.aload_n 0, 1) := by decide +kernel
theorem dX6_makeProductSlope_2 : decode cX6_makeProductSlope 2 = .ok (.getfield 21, 3) := by decide +kernel
theorem dX6_makeProductSlope_5 : decode cX6_makeProductSlope 5 = .ok (.iload_n 1, 1) := by decide +kernel
theorem dX6_makeProductSlope_6 : decode cX6_makeProductSlope 6 = .ok (.iaload, 1) := by decide +kernel
theorem dX6_makeProductSlope_7 : decode cX6_makeProductSlope 7 = .ok (.iload_n 2, 1) := by decide +kernel
theorem dX6_makeProductSlope_8 : decode cX6_makeProductSlope 8 = .ok (.invokevirtual 109, 3) := by decide +kernel
theorem dX6_makeProductSlope_11 : decode cX6_makeProductSlope 11 = .ok (.istore_n 3, 1) := by decide +kernel
theorem dX6_makeProductSlope_12 : decode cX6_makeProductSlope 12 = .ok (.iload_n 3, 1) := by decide +kernel
theorem dX6_makeProductSlope_13 : decode cX6_makeProductSlope 13 = .ok (.ifCond .ge 5, 3) := by decide +kernel
theorem dX6_makeProductSlope_16 : decode cX6_makeProductSlope 16 = .ok (.iload_n 3, 1) := by decide +kernel
theorem dX6_makeProductSlope_17 : decode cX6_makeProductSlope 17 = .ok (.ireturn, 1) := by decide +kernel
theorem dX6_makeProductSlope_18 : decode cX6_makeProductSlope 18 = .ok (.aload_n 0, 1) := by decide +kernel
theorem dX6_makeProductSlope_19 : decode cX6_makeProductSlope 19 = .ok (.iload_n 1, 1) := by decide +kernel
theorem dX6_makeProductSlope_20 : decode cX6_makeProductSlope 20 = .ok (.aload_n 0, 1) := by decide +kernel
theorem dX6_makeProductSlope_21 : decode cX6_makeProductSlope 21 = .ok (.getfield 21, 3) := by decide +kernel
theorem dX6_makeProductSlope_24 : decode cX6_makeProductSlope 24 = .ok (.iload_n 2, 1) := by decide +kernel
theorem dX6_makeProductSlope_25 : decode cX6_makeProductSlope 25 = .ok (.iaload, 1) := by decide +kernel
theorem dX6_makeProductSlope_26 : decode cX6_makeProductSlope 26 = .ok (.invokevirtual 109, 3) := by decide +kernel
theorem dX6_makeProductSlope_29 : decode cX6_makeProductSlope 29 = .ok (.istore 4, 2) := by decide +kernel
theorem dX6_makeProductSlope_31 : decode cX6_makeProductSlope 31 = .ok (.aload_n 0, 1) := by decide +kernel
theorem dX6_makeProductSlope_32 : decode cX6_makeProductSlope 32 = .ok (.iload_n 3, 1) := by decide +kernel
theorem dX6_makeProductSlope_33 : decode cX6_makeProductSlope 33 = .ok (.iload 4, 2) := by decide +kernel
theorem dX6_makeProductSlope_35 : decode cX6_makeProductSlope 35 = .ok (.invokevirtual 162, 3) := by decide +kernel
theorem dX6_makeProductSlope_38 : decode cX6_makeProductSlope 38 = .ok (.ireturn, 1) := by decide +kernel
theorem dX6_makePowerSlope_0 : decode cX6_makePowerSlope 0 = .ok (.aload_n 0, 1) := by decide +kernel
theorem dX6_makePowerSlope_1 : decode cX6_makePowerSlope 1 = .ok (.iload_n 2, 1) := by decide +kernel
theorem dX6_makePowerSlope_2 : decode cX6_makePowerSlope 2 = .ok (.invokevirtual 101, 3) := by decide +kernel
theorem dX6_makePowerSlope_5 : decode cX6_makePowerSlope 5 = .ok (.istore_n 3, 1) := by decide +kernel
theorem dX6_makePowerSlope_6 : decode cX6_makePowerSlope 6 = .ok (.iload_n 3, 1) := by decide +kernel
theorem dX6_makePowerSlope_7 : decode cX6_makePowerSlope 7 = .ok (.ifCond .ge 5, 3) := by decide +kernel
theorem dX6_makePowerSlope_10 : decode cX6_makePowerSlope 10 = .ok (.iload_n 3, 1) := by decide +kernel
theorem dX6_makePowerSlope_11 : decode cX6_makePowerSlope 11 = .ok (.ireturn, 1) := by decide +kernel
theorem dX6_makePowerSlope_12 : decode cX6_makePowerSlope 12 = .ok (.aload_n 0, 1) := by decide +kernel
theorem dX6_makePowerSlope_13 : decode cX6_makePowerSlope 13 = .ok (.iload_n 1, 1) := by decide +kernel
theorem dX6_makePowerSlope_14 : decode cX6_makePowerSlope 14 = .ok (.iload_n 2, 1) := by decide +kernel
theorem dX6_makePowerSlope_15 : decode cX6_makePowerSlope 15 = .ok (.iconst 1, 1) := by decide +kernel
theorem dX6_makePowerSlope_16 : decode cX6_makePowerSlope 16 = .ok (.isub, 1) := by decide +kernel
theorem dX6_makePowerSlope_17 : decode cX6_makePowerSlope 17 = .ok (.invokevirtual 171, 3) := by decide +kernel
theorem dX6_makePowerSlope_20 : decode cX6_makePowerSlope 20 = .ok (.istore 4, 2) := by decide +kernel
theorem dX6_makePowerSlope_22 : decode cX6_makePowerSlope 22 = .ok (.aload_n 0, 1) := by decide +kernel
theorem dX6_makePowerSlope_23 : decode cX6_makePowerSlope 23 = .ok (.aload_n 0, 1) := by decide +kernel
theorem dX6_makePowerSlope_24 : decode cX6_makePowerSlope 24 = .ok (.iload_n 3, 1) := by decide +kernel
theorem dX6_makePowerSlope_25 : decode cX6_makePowerSlope 25 = .ok (.iload 4, 2) := by decide +kernel
theorem dX6_makePowerSlope_27 : decode cX6_makePowerSlope 27 = .ok (.invokevirtual 109, 3) := by decide +kernel
theorem dX6_makePowerSlope_30 : decode cX6_makePowerSlope 30 = .ok (.aload_n 0, 1) := by decide +kernel
theorem dX6_makePowerSlope_31 : decode cX6_makePowerSlope 31 = .ok (.getfield 21, 3) := by decide +kernel
theorem dX6_makePowerSlope_34 : decode cX6_makePowerSlope 34 = .ok (.iload_n 1, 1) := by decide +kernel
theorem dX6_makePowerSlope_35 : decode cX6_makePowerSlope 35 = .ok (.iaload, 1) := by decide +kernel
theorem dX6_makePowerSlope_36 : decode cX6_makePowerSlope 36 = .ok (.invokevirtual 109, 3) := by decide +kernel
theorem dX6_makePowerSlope_39 : decode cX6_makePowerSlope 39 = .ok (.ireturn, 1) := by decide +kernel
