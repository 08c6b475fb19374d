theorem dX0_init_0 : decode cX0_init 0 = .ok (.aload_n 0, 1) := by decide +kernel
theorem dX0_init_1 : decode cX0_init 1 = .ok (.invokespecial 3, 3) := by decide +kernel
theorem dX0_init_4 : decode cX0_init 4 = .ok (.aload_n 0, 1) := by decide +kernel
theorem dX0_init_5 : decode cX0_init 5 = .ok (.new 9, 3) := by decide +kernel
theorem dX0_init_8 : decode cX0_init 8 = .ok (.dup, 1) := by decide +kernel
theorem dX0_init_9 : decode cX0_init 9 = .ok (.sipush 128, 3) := by decide +kernel
theorem dX0_init_12 : decode cX0_init 12 = .ok (.invokespecial 11, 3) := by decide +kernel
theorem dX0_init_15 : decode cX0_init 15 = .ok (.putfield 14, 3) := by decide +kernel
theorem dX0_init_18 : decode cX0_init 18 = .ok (.aload_n 0, 1) := by decide +kernel
theorem dX0_init_19 : decode cX0_init 19 = .ok (.new 9, 3) := by decide +kernel
theorem dX0_init_22 : decode cX0_init 22 = .ok (.dup, 1) := by decide +kernel
theorem dX0_init_23 : decode cX0_init 23 = .ok (.sipush 128, 3) := by decide +kernel
theorem dX0_init_26 : decode cX0_init 26 = .ok (.invokespecial 11, 3) := by decide +kernel
theorem dX0_init_29 : decode cX0_init 29 = .ok (.putfield 20, 3) := by decide +kernel
theorem dX0_init_32 : decode cX0_init 32 = .ok (.aload_n 0, 1) := by decide +kernel
theorem dX0_init_33 : decode cX0_init 33 = .ok (.new 9, 3) := by decide +kernel
theorem dX0_init_36 : decode cX0_init 36 = .ok (.dup, 1) := by decide +kernel
theorem dX0_init_37 : decode cX0_init 37 = .ok (.bipush 64, 2) := by decide +kernel
theorem dX0_init_39 : decode cX0_init 39 = .ok (.invokespecial 11, 3) := by decide +kernel
theorem dX0_init_42 : decode cX0_init 42 = .ok (.putfield 23, 3) := by decide +kernel
theorem dX0_init_45 : decode cX0_init 45 = .ok (.aload_n 0, 1) := by decide +kernel
theorem dX0_init_46 : decode cX0_init 46 = .ok (.new 9, 3) := by decide +kernel
theorem dX0_init_49 : decode cX0_init 49 = .ok (.dup, 1) := by decide +kernel
theorem dX0_init_50 : decode cX0_init 50 = .ok (.bipush 64, 2) := by decide +kernel
theorem dX0_init_52 : decode cX0_init 52 = .ok (.invokespecial 11, 3) := by decide +kernel
theorem dX0_init_55 : decode cX0_init 55 = .ok (.putfield 26, 3) := by decide +kernel
theorem dX0_init_58 : decode cX0_init 58 = .ok (.return_, 1) := by decide +kernel
theorem dX0_add_0 : decode cX0_add 0 = .ok (.aload_n 0, 1) := by decide +kernel
theorem dX0_add_1 : decode cX0_add 1 = .ok (.getfield 14, 3) := by decide +kernel
theorem dX0_add_4 : decode cX0_add 4 = .ok (.aload_n 1, 1) := by decide +kernel
theorem dX0_add_5 : decode cX0_add 5 = .ok (.getfield 29, 3) := by decide +kernel
theorem dX0_add_8 : decode cX0_add 8 = .ok (.aload_n 2, 1) := by decide +kernel
theorem dX0_add_9 : decode cX0_add 9 = .ok (.getfield 34, 3) := by decide +kernel
theorem dX0_add_12 : decode cX0_add 12 = .ok (.invokevirtual 37, 3) := by decide +kernel
theorem dX0_add_15 : decode cX0_add 15 = .ok (.aload_n 0, 1) := by decide +kernel
theorem dX0_add_16 : decode cX0_add 16 = .ok (.getfield 20, 3) := by decide +kernel
theorem dX0_add_19 : decode cX0_add 19 = .ok (.aload_n 2, 1) := by decide +kernel
theorem dX0_add_20 : decode cX0_add 20 = .ok (.getfield 29, 3) := by decide +kernel
theorem dX0_add_23 : decode cX0_add 23 = .ok (.aload_n 1, 1) := by decide +kernel
theorem dX0_add_24 : decode cX0_add 24 = .ok (.getfield 34, 3) := by decide +kernel
theorem dX0_add_27 : decode cX0_add 27 = .ok (.invokevirtual 37, 3) := by decide +kernel
theorem dX0_add_30 : decode cX0_add 30 = .ok (.iload_n 3, 1) := by decide +kernel
theorem dX0_add_31 : decode cX0_add 31 = .ok (.ifCond .eq 10, 3) := by decide +kernel
theorem dX0_add_34 : decode cX0_add 34 = .ok (.aload_n 0, 1) := by decide +kernel
theorem dX0_add_35 : decode cX0_add 35 = .ok (.getfield 20, 3) := by decide +kernel
theorem dX0_add_38 : decode cX0_add 38 = .ok (.invokevirtual 41, 3) := by decide +kernel
theorem dX0_add_41 : decode cX0_add 41 = .ok (.aload 4, 2) := by decide +kernel
theorem dX0_add_43 : decode cX0_add 43 = .ok (.getfield 29, 3) := by decide +kernel
theorem dX0_add_46 : decode cX0_add 46 = .ok (.aload_n 0, 1) := by decide +kernel
theorem dX0_add_47 : decode cX0_add 47 = .ok (.getfield 14, 3) := by decide +kernel
theorem dX0_add_50 : decode cX0_add 50 = .ok (.aload_n 0, 1) := by decide +kernel
theorem dX0_add_51 : decode cX0_add 51 = .ok (.getfield 20, 3) := by decide +kernel
theorem dX0_add_54 : decode cX0_add 54 = .ok (.invokevirtual 44, 3) := by decide +kernel
theorem dX0_add_57 : decode cX0_add 57 = .ok (.aload 4, 2) := by decide +kernel
theorem dX0_add_59 : decode cX0_add 59 = .ok (.getfield 34, 3) := by decide +kernel
theorem dX0_add_62 : decode cX0_add 62 = .ok (.aload_n 1, 1) := by decide +kernel
theorem dX0_add_63 : decode cX0_add 63 = .ok (.getfield 34, 3) := by decide +kernel
theorem dX0_add_66 : decode cX0_add 66 = .ok (.aload_n 2, 1) := by decide +kernel
theorem dX0_add_67 : decode cX0_add 67 = .ok (.getfield 34, 3) := by decide +kernel
theorem dX0_add_70 : decode cX0_add 70 = .ok (.invokevirtual 37, 3) := by decide +kernel
theorem dX0_add_73 : decode cX0_add 73 = .ok (.return_, 1) := by decide +kernel
theorem dX0_multiply_0 : decode cX0_multiply 0 = .ok (.aload_n 3, 1) := by decide +kernel
theorem dX0_multiply_1 : decode cX0_multiply 1 = .ok (.getfield 29, 3) := by decide +kernel
theorem dX0_multiply_4 : decode cX0_multiply 4 = .ok (.aload_n 1, 1) := by decide +kernel
theorem dX0_multiply_5 : decode cX0_multiply 5 = .ok (.getfield 29, 3) := by decide +kernel
theorem dX0_multiply_8 : decode cX0_multiply 8 = .ok (.aload_n 2, 1) := by decide +kernel
theorem dX0_multiply_9 : decode cX0_multiply 9 = .ok (.getfield 29, 3) := by decide +kernel
theorem dX0_multiply_12 : decode cX0_multiply 12 = .ok (.invokevirtual 37, 3) := by decide +kernel
theorem dX0_multiply_15 : decode cX0_multiply 15 = .ok (.aload_n 3, 1) := by decide +kernel
theorem dX0_multiply_16 : decode cX0_multiply 16 = .ok (.getfield 34, 3) := by decide +kernel
theorem dX0_multiply_19 : decode cX0_multiply 19 = .ok (.aload_n 1, 1) := by decide +kernel
theorem dX0_multiply_20 : decode cX0_multiply 20 = .ok (.getfield 34, 3) := by decide +kernel
theorem dX0_multiply_23 : decode cX0_multiply 23 = .ok (.aload_n 2, 1) := by decide +kernel
theorem dX0_multiply_24 : decode cX0_multiply 24 = .ok (.getfield 34, 3) := by decide +kernel
theorem dX0_multiply_27 : decode cX0_multiply 27 = .ok (.invokevirtual 37, 3) := by decide +kernel
theorem dX0_multiply_30 : decode cX0_multiply 30 = .ok (.return_, 1) := by decide +kernel
theorem dX0_order_0 : decode cX0_order 0 = .ok (.aload_n 0, 1) := by decide +kernel
theorem dX0_order_1 : decode cX0_order 1 = .ok (.getfield 14, 3) := by decide +kernel
theorem dX0_order_4 : decode cX0_order 4 = .ok (.aload_n 1, 1) := by decide +kernel
theorem dX0_order_5 : decode cX0_order 5 = .ok (.getfield 29, 3) := by decide +kernel
theorem dX0_order_8 : decode cX0_order 8 = .ok (.aload_n 2, 1) := by decide +kernel
theorem dX0_order_9 : decode cX0_order 9 = .ok (.getfield 34, 3) := by decide +kernel
theorem dX0_order_12 : decode cX0_order 12 = .ok (.invokevirtual 37, 3) := by decide +kernel
theorem dX0_order_15 : decode cX0_order 15 = .ok (.aload_n 0, 1) := by decide +kernel
theorem dX0_order_16 : decode cX0_order 16 = .ok (.getfield 20, 3) := by decide +kernel
theorem dX0_order_19 : decode cX0_order 19 = .ok (.aload_n 2, 1) := by decide +kernel
theorem dX0_order_20 : decode cX0_order 20 = .ok (.getfield 29, 3) := by decide +kernel
theorem dX0_order_23 : decode cX0_order 23 = .ok (.aload_n 1, 1) := by decide +kernel
theorem dX0_order_24 : decode cX0_order 24 = .ok (.getfield 34, 3) := by decide +kernel
theorem dX0_order_27 : decode cX0_order 27 = .ok (.invokevirtual 37, 3) := by decide +kernel
theorem dX0_order_30 : decode cX0_order 30 = .ok (.aload_n 0, 1) := by decide +kernel
theorem dX0_order_31 : decode cX0_order 31 = .ok (.getfield 14, 3) := by decide +kernel
theorem dX0_order_34 : decode cX0_order 34 = .ok (.aload_n 0, 1) := by decide +kernel
theorem dX0_order_35 : decode cX0_order 35 = .ok (.getfield 20, 3) := by decide +kernel
theorem dX0_order_38 : decode cX0_order 38 = .ok (.invokevirtual 47, 3) := by decide +kernel
theorem dX0_order_41 : decode cX0_order 41 = .ok (.ireturn, 1) := by decide +kernel
theorem dX0_reduce_0 : decode cX0_reduce 0 = .ok (.aload_n 1, 1) := by decide +kernel
theorem dX0_reduce_1 : decode cX0_reduce 1 = .ok (.invokevirtual 51, 3) := by decide +kernel
theorem dX0_reduce_4 : decode cX0_reduce 4 = .ok (.ifCond .eq 12, 3) := by decide +kernel
theorem dX0_reduce_7 : decode cX0_reduce 7 = .ok (.aload_n 1, 1) := by decide +kernel
theorem dX0_reduce_8 : decode cX0_reduce 8 = .ok (.getfield 34, 3) := by decide +kernel
theorem dX0_reduce_11 : decode cX0_reduce 11 = .ok (.lconst 1, 1) := by decide +kernel
theorem dX0_reduce_12 : decode cX0_reduce 12 = .ok (.invokevirtual 55, 3) := by decide +kernel
theorem dX0_reduce_15 : decode cX0_reduce 15 = .ok (.return_, 1) := by decide +kernel
theorem dX0_reduce_16 : decode cX0_reduce 16 = .ok (.aload_n 1, 1) := by decide +kernel
theorem dX0_reduce_17 : decode cX0_reduce 17 = .ok (.getfield 29, 3) := by decide +kernel
theorem dX0_reduce_20 : decode cX0_reduce 20 = .ok (.invokevirtual 59, 3) := by decide +kernel
theorem dX0_reduce_23 : decode cX0_reduce 23 = .ok (.aload_n 1, 1) := by decide +kernel
theorem dX0_reduce_24 : decode cX0_reduce 24 = .ok (.getfield 34, 3) := by decide +kernel
theorem dX0_reduce_27 : decode cX0_reduce 27 = .ok (.invokevirtual 59, 3) := by decide +kernel
theorem dX0_reduce_30 : decode cX0_reduce 30 = .ok (.invokestatic 63, 3) := by decide +kernel
theorem dX0_reduce_33 : decode cX0_reduce 33 = .ok (.istore_n 2, 1) := by decide +kernel
theorem dX0_reduce_34 : decode cX0_reduce 34 = .ok (.aload_n 1, 1) := by decide +kernel
theorem dX0_reduce_35 : decode cX0_reduce 35 = .ok (.getfield 29, 3) := by decide +kernel
theorem dX0_reduce_38 : decode cX0_reduce 38 = .ok (.iload_n 2, 1) := by decide +kernel
theorem dX0_reduce_39 : decode cX0_reduce 39 = .ok (.invokevirtual 69, 3) := by decide +kernel
theorem dX0_reduce_42 : decode cX0_reduce 42 = .ok (.aload_n 1, 1) := by decide +kernel
theorem dX0_reduce_43 : decode cX0_reduce 43 = .ok (.getfield 34, 3) := by decide +kernel
theorem dX0_reduce_46 : decode cX0_reduce 46 = .ok (.iload_n 2, 1) := by decide +kernel
theorem dX0_reduce_47 : decode cX0_reduce 47 = .ok (.invokevirtual 69, 3) := by decide +kernel
theorem dX0_reduce_50 : decode cX0_reduce 50 = .ok (.aload_n 0, 1) := by decide +kernel
theorem dX0_reduce_51 : decode cX0_reduce 51 = .ok (.aload_n 1, 1) := by decide +kernel
theorem dX0_reduce_52 : decode cX0_reduce 52 = .ok (.getfield 29, 3) := by decide +kernel
theorem dX0_reduce_55 : decode cX0_reduce 55 = .ok (.aload_n 1, 1) := by decide +kernel
theorem dX0_reduce_56 : decode cX0_reduce 56 = .ok (.getfield 34, 3) := by decide +kernel
theorem dX0_reduce_59 : decode cX0_reduce 59 = .ok (.invokevirtual 72, 3) := by decide +kernel
theorem dX0_reduce_62 : decode cX0_reduce 62 = .ok (.astore_n 3, 1) := by decide +kernel
theorem dX0_reduce_63 : decode cX0_reduce 63 = .ok (.aload_n 1, 1) := by decide +kernel
theorem dX0_reduce_64 : decode cX0_reduce 64 = .ok (.getfield 29, 3) := by decide +kernel
theorem dX0_reduce_67 : decode cX0_reduce 67 = .ok (.aload_n 3, 1) := by decide +kernel
theorem dX0_reduce_68 : decode cX0_reduce 68 = .ok (.invokevirtual 76, 3) := by decide +kernel
theorem dX0_reduce_71 : decode cX0_reduce 71 = .ok (.aload_n 1, 1) := by decide +kernel
theorem dX0_reduce_72 : decode cX0_reduce 72 = .ok (.getfield 34, 3) := by decide +kernel
theorem dX0_reduce_75 : decode cX0_reduce 75 = .ok (.aload_n 3, 1) := by decide +kernel
theorem dX0_reduce_76 : decode cX0_reduce 76 = .ok (.invokevirtual 76, 3) := by decide +kernel
theorem dX0_reduce_79 : decode cX0_reduce 79 = .ok (.return_, 1) := by decide +kernel
theorem dX1_init_0 : decode cX1_init 0 = .ok (.aload_n 0, 1) := by decide +kernel
theorem dX1_init_1 : decode cX1_init 1 = .ok (.invokespecial 3, 3) := by decide +kernel
theorem dX1_init_4 : decode cX1_init 4 = .ok (.aload_n 0, 1) := by decide +kernel
theorem dX1_init_5 : decode cX1_init 5 = .ok (.sipush 200, 3) := by decide +kernel
theorem dX1_init_8 : decode cX1_init 8 = .ok (.anewarray 9, 3) := by decide +kernel
theorem dX1_init_11 : decode cX1_init 11 = .ok (.putfield 11, 3) := by decide +kernel
theorem dX1_init_14 : decode cX1_init 14 = .ok (.aload_n 0, 1) := by decide +kernel
theorem dX1_init_15 : decode cX1_init 15 = .ok (.sipush 200, 3) := by decide +kernel
theorem dX1_init_18 : decode cX1_init 18 = .ok (.anewarray 9, 3) := by decide +kernel
theorem dX1_init_21 : decode cX1_init 21 = .ok (.putfield 17, 3) := by decide +kernel
theorem dX1_init_24 : decode cX1_init 24 = .ok (.aload_n 0, 1) := by decide +kernel
theorem dX1_init_25 : decode cX1_init 25 = .ok (.sipush 200, 3) := by decide +kernel
theorem dX1_init_28 : decode cX1_init 28 = .ok (.anewarray 9, 3) := by decide +kernel
theorem dX1_init_31 : decode cX1_init 31 = .ok (.putfield 20, 3) := by decide +kernel
theorem dX1_init_34 : decode cX1_init 34 = .ok (.aload_n 0, 1) := by decide +kernel
theorem dX1_init_35 : decode cX1_init 35 = .ok (.bipush 9, 2) := by decide +kernel
theorem dX1_init_37 : decode cX1_init 37 = .ok (.anewarray 9, 3) := by decide +kernel
theorem dX1_init_40 : decode cX1_init 40 = .ok (.putfield 23, 3) := by decide +kernel
theorem dX1_init_43 : decode cX1_init 43 = .ok (.aload_n 0, 1) := by decide +kernel
theorem dX1_init_44 : decode cX1_init 44 = .ok (.iconst 3, 1) := by decide +kernel
theorem dX1_init_45 : decode cX1_init 45 = .ok (.newarray .long, 2) := by decide +kernel
theorem dX1_init_47 : decode cX1_init 47 = .ok (.putfield 26, 3) := by decide +kernel
theorem dX1_init_50 : decode cX1_init 50 = .ok (.aload_n 0, 1) := by decide +kernel
theorem dX1_init_51 : decode cX1_init 51 = .ok (.iconst 3, 1) := by decide +kernel
theorem dX1_init_52 : decode cX1_init 52 = .ok (.newarray .int, 2) := by decide +kernel
theorem dX1_init_54 : decode cX1_init 54 = .ok (.putfield 30, 3) := by decide +kernel
theorem dX1_init_57 : decode cX1_init 57 = .ok (.aload_n 0, 1) := by decide +kernel
theorem dX1_init_58 : decode cX1_init 58 = .ok (.new 9, 3) := by decide +kernel
theorem dX1_init_61 : decode cX1_init 61 = .ok (.dup, 1) := by decide +kernel
theorem dX1_init_62 : decode cX1_init 62 = .ok (.bipush 26, 2) := by decide +kernel
theorem dX1_init_64 : decode cX1_init 64 = .ok (.invokespecial 34, 3) := by decide +kernel
theorem dX1_init_67 : decode cX1_init 67 = .ok (.putfield 37, 3) := by decide +kernel
theorem dX1_init_70 : decode cX1_init 70 = .ok (.aload_n 0, 1) := by decide +kernel
theorem dX1_init_71 : decode cX1_init 71 = .ok (.new 9, 3) := by decide +kernel
theorem dX1_init_74 : decode cX1_init 74 = .ok (.dup, 1) := by decide +kernel
theorem dX1_init_75 : decode cX1_init 75 = .ok (.bipush 26, 2) := by decide +kernel
theorem dX1_init_77 : decode cX1_init 77 = .ok (.invokespecial 34, 3) := by decide +kernel
theorem dX1_init_80 : decode cX1_init 80 = .ok (.putfield 41, 3) := by decide +kernel
theorem dX1_init_83 : decode cX1_init 83 = .ok (.aload_n 0, 1) := by decide +kernel
theorem dX1_init_84 : decode cX1_init 84 = .ok (.new 9, 3) := by decide +kernel
theorem dX1_init_87 : decode cX1_init 87 = .ok (.dup, 1) := by decide +kernel
theorem dX1_init_88 : decode cX1_init 88 = .ok (.bipush 26, 2) := by decide +kernel
theorem dX1_init_90 : decode cX1_init 90 = .ok (.invokespecial 34, 3) := by decide +kernel
theorem dX1_init_93 : decode cX1_init 93 = .ok (.putfield 44, 3) := by decide +kernel
theorem dX1_init_96 : decode cX1_init 96 = .ok (.aload_n 0, 1) := by decide +kernel
theorem dX1_init_97 : decode cX1_init 97 = .ok (.aload_n 1, 1) := by decide +kernel
theorem dX1_init_98 : decode cX1_init 98 = .ok (.putfield 47, 3) := by decide +kernel
theorem dX1_init_101 : decode cX1_init 101 = .ok (.iconst 0, 1) := by decide +kernel
theorem dX1_init_102 : decode cX1_init 102 = .ok (.istore_n 2, 1) := by decide +kernel
theorem dX1_init_103 : decode cX1_init 103 = .ok (.iload_n 2, 1) := by decide +kernel
theorem dX1_init_104 : decode cX1_init 104 = .ok (.sipush 200, 3) := by decide +kernel
theorem dX1_init_107 : decode cX1_init 107 = .ok (.if_icmp .ge 54, 3) := by decide +kernel
theorem dX1_init_110 : decode cX1_init 110 = .ok (.aload_n 0, 1) := by decide +kernel
theorem dX1_init_111 : decode cX1_init 111 = .ok (.getfield 11, 3) := by decide +kernel
theorem dX1_init_114 : decode cX1_init 114 = .ok (.iload_n 2, 1) := by decide +kernel
theorem dX1_init_115 : decode cX1_init 115 = .ok (.new 9, 3) := by decide +kernel
theorem dX1_init_118 : decode cX1_init 118 = .ok (.dup, 1) := by decide +kernel
theorem dX1_init_119 : decode cX1_init 119 = .ok (.bipush 26, 2) := by decide +kernel
theorem dX1_init_121 : decode cX1_init 121 = .ok (.invokespecial 34, 3) := by decide +kernel
theorem dX1_init_124 : decode cX1_init 124 = .ok (.aastore, 1) := by decide +kernel
theorem dX1_init_125 : decode cX1_init 125 = .ok (.aload_n 0, 1) := by decide +kernel
theorem dX1_init_126 : decode cX1_init 126 = .ok (.getfield 17, 3) := by decide +kernel
theorem dX1_init_129 : decode cX1_init 129 = .ok (.iload_n 2, 1) := by decide +kernel
theorem dX1_init_130 : decode cX1_init 130 = .ok (.new 9, 3) := by decide +kernel
theorem dX1_init_133 : decode cX1_init 133 = .ok (.dup, 1) := by decide +kernel
theorem dX1_init_134 : decode cX1_init 134 = .ok (.bipush 26, 2) := by decide +kernel
theorem dX1_init_136 : decode cX1_init 136 = .ok (.invokespecial 34, 3) := by decide +kernel
theorem dX1_init_139 : decode cX1_init 139 = .ok (.aastore, 1) := by decide +kernel
theorem dX1_init_140 : decode cX1_init 140 = .ok (.aload_n 0, 1) := by decide +kernel
theorem dX1_init_141 : decode cX1_init 141 = .ok (.getfield 20, 3) := by decide +kernel
theorem dX1_init_144 : decode cX1_init 144 = .ok (.iload_n 2, 1) := by decide +kernel
theorem dX1_init_145 : decode cX1_init 145 = .ok (.new 9, 3) := by decide +kernel
theorem dX1_init_148 : decode cX1_init 148 = .ok (.dup, 1) := by decide +kernel
theorem dX1_init_149 : decode cX1_init 149 = .ok (.bipush 13, 2) := by decide +kernel
theorem dX1_init_151 : decode cX1_init 151 = .ok (.invokespecial 34, 3) := by decide +kernel
theorem dX1_init_154 : decode cX1_init 154 = .ok (.aastore, 1) := by decide +kernel
theorem dX1_init_155 : decode cX1_init 155 = .ok (.iinc 2 1, 3) := by decide +kernel
theorem dX1_init_158 : decode cX1_init 158 = .ok (.goto (-55), 3) := by decide +kernel
theorem dX1_init_161 : decode cX1_init 161 = .ok (.iconst 0, 1) := by decide +kernel
theorem dX1_init_162 : decode cX1_init 162 = .ok (.istore_n 2, 1) := by decide +kernel
theorem dX1_init_163 : decode cX1_init 163 = .ok (.iload_n 2, 1) := by decide +kernel
theorem dX1_init_164 : decode cX1_init 164 = .ok (.bipush 8, 2) := by decide +kernel
theorem dX1_init_166 : decode cX1_init 166 = .ok (.if_icmp .gt 24, 3) := by decide +kernel
theorem dX1_init_169 : decode cX1_init 169 = .ok (.aload_n 0, 1) := by decide +kernel
theorem dX1_init_170 : decode cX1_init 170 = .ok (.getfield 23, 3) := by decide +kernel
theorem dX1_init_173 : decode cX1_init 173 = .ok (.iload_n 2, 1) := by decide +kernel
theorem dX1_init_174 : decode cX1_init 174 = .ok (.new 9, 3) := by decide +kernel
theorem dX1_init_177 : decode cX1_init 177 = .ok (.dup, 1) := by decide +kernel
theorem dX1_init_178 : decode cX1_init 178 = .ok (.bipush 13, 2) := by decide +kernel
theorem dX1_init_180 : decode cX1_init 180 = .ok (.invokespecial 34, 3) := by decide +kernel
theorem dX1_init_183 : decode cX1_init 183 = .ok (.aastore, 1) := by decide +kernel
theorem dX1_init_184 : decode cX1_init 184 = .ok (.iinc 2 1, 3) := by decide +kernel
theorem dX1_init_187 : decode cX1_init 187 = .ok (.goto (-24), 3) := by decide +kernel
theorem dX1_init_190 : decode cX1_init 190 = .ok (.return_, 1) := by decide +kernel
theorem dX2_init_0 : decode cX2_init 0 = .ok (.aload_n 0, 1) := by decide +kernel
theorem dX2_init_1 : decode cX2_init 1 = .ok (.invokespecial 1, 3) := by decide +kernel
theorem dX2_init_4 : decode cX2_init 4 = .ok (.aload_n 0, 1) := by decide +kernel
theorem dX2_init_5 : decode cX2_init 5 = .ok (.new 7, 3) := by decide +kernel
theorem dX2_init_8 : decode cX2_init 8 = .ok (.dup, 1) := by decide +kernel
theorem dX2_init_9 : decode cX2_init 9 = .ok (.iload_n 1, 1) := by decide +kernel
theorem dX2_init_10 : decode cX2_init 10 = .ok (.invokespecial 9, 3) := by decide +kernel
theorem dX2_init_13 : decode cX2_init 13 = .ok (.putfield 12, 3) := by decide +kernel
theorem dX2_init_16 : decode cX2_init 16 = .ok (.aload_n 0, 1) := by decide +kernel
theorem dX2_init_17 : decode cX2_init 17 = .ok (.new 7, 3) := by decide +kernel
theorem dX2_init_20 : decode cX2_init 20 = .ok (.dup, 1) := by decide +kernel
theorem dX2_init_21 : decode cX2_init 21 = .ok (.iload_n 1, 1) := by decide +kernel
theorem dX2_init_22 : decode cX2_init 22 = .ok (.invokespecial 9, 3) := by decide +kernel
theorem dX2_init_25 : decode cX2_init 25 = .ok (.putfield 18, 3) := by decide +kernel
theorem dX2_init_28 : decode cX2_init 28 = .ok (.aload_n 0, 1) := by decide +kernel
theorem dX2_init_29 : decode cX2_init 29 = .ok (.getfield 18, 3) := by decide +kernel
theorem dX2_init_32 : decode cX2_init 32 = .ok (.lconst 1, 1) := by decide +kernel
theorem dX2_init_33 : decode cX2_init 33 = .ok (.invokevirtual 21, 3) := by decide +kernel
theorem dX2_init_36 : decode cX2_init 36 = .ok (.return_, 1) := by decide +kernel
theorem dX2_become_0 : decode cX2_become 0 = .ok (.aload_n 0, 1) := by decide +kernel
theorem dX2_become_1 : decode cX2_become 1 = .ok (.getfield 12, 3) := by decide +kernel
theorem dX2_become_4 : decode cX2_become 4 = .ok (.aload_n 1, 1) := by decide +kernel
theorem dX2_become_5 : decode cX2_become 5 = .ok (.getfield 12, 3) := by decide +kernel
theorem dX2_become_8 : decode cX2_become 8 = .ok (.invokevirtual 25, 3) := by decide +kernel
theorem dX2_become_11 : decode cX2_become 11 = .ok (.aload_n 0, 1) := by decide +kernel
theorem dX2_become_12 : decode cX2_become 12 = .ok (.getfield 18, 3) := by decide +kernel
theorem dX2_become_15 : decode cX2_become 15 = .ok (.aload_n 1, 1) := by decide +kernel
theorem dX2_become_16 : decode cX2_become 16 = .ok (.getfield 18, 3) := by decide +kernel
theorem dX2_become_19 : decode cX2_become 19 = .ok (.invokevirtual 25, 3) := by decide +kernel
theorem dX2_become_22 : decode cX2_become 22 = .ok (.return_, 1) := by decide +kernel
theorem dX2_isZero_0 : decode cX2_isZero 0 = .ok (.aload_n 0, 1) := by decide +kernel
theorem dX2_isZero_1 : decode cX2_isZero 1 = .ok (.getfield 12, 3) := by decide +kernel
theorem dX2_isZero_4 : decode cX2_isZero 4 = .ok (.getfield 29, 3) := by decide +kernel
theorem dX2_isZero_7 : decode cX2_isZero 7 = .ok (.ifCond .ne 7, 3) := by decide +kernel
theorem dX2_isZero_10 : decode cX2_isZero 10 = .ok (.iconst 1, 1) := by decide +kernel
theorem dX2_isZero_11 : decode cX2_isZero 11 = .ok (.goto 4, 3) := by decide +kernel
theorem dX2_isZero_14 : decode cX2_isZero 14 = .ok (.iconst 0, 1) := by decide +kernel
theorem dX2_isZero_15 : decode cX2_isZero 15 = .ok (.ireturn, 1) := by decide +kernel
theorem dX3_init_0 : decode cX3_init 0 = .ok (.aload_n 0, 1) := by decide +kernel
theorem dX3_init_1 : decode cX3_init 1 = .ok (.invokespecial 3, 3) := by decide +kernel
theorem dX3_init_4 : decode cX3_init 4 = .ok (.aload_n 0, 1) := by decide +kernel
theorem dX3_init_5 : decode cX3_init 5 = .ok (.new 9, 3) := by decide +kernel
theorem dX3_init_8 : decode cX3_init 8 = .ok (.dup, 1) := by decide +kernel
theorem dX3_init_9 : decode cX3_init 9 = .ok (.bipush 13, 2) := by decide +kernel
theorem dX3_init_11 : decode cX3_init 11 = .ok (.invokespecial 11, 3) := by decide +kernel
theorem dX3_init_14 : decode cX3_init 14 = .ok (.putfield 14, 3) := by decide +kernel
theorem dX3_init_17 : decode cX3_init 17 = .ok (.return_, 1) := by decide +kernel
theorem dX4_init_0 : decode cX4_init 0 = .ok (.aload_n 0, 1) := by decide +kernel
theorem dX4_init_1 : decode cX4_init 1 = .ok (.invokespecial 3, 3) := by decide +kernel
theorem dX4_init_4 : decode cX4_init 4 = .ok (.aload_n 0, 1) := by decide +kernel
theorem dX4_init_5 : decode cX4_init 5 = .ok (.bipush 64, 2) := by decide +kernel
theorem dX4_init_7 : decode cX4_init 7 = .ok (.newarray .char, 2) := by decide +kernel
theorem dX4_init_9 : decode cX4_init 9 = .ok (.putfield 9, 3) := by decide +kernel
theorem dX4_init_12 : decode cX4_init 12 = .ok (.aload_n 0, 1) := by decide +kernel
theorem dX4_init_13 : decode cX4_init 13 = .ok (.sipush 128, 3) := by decide +kernel
theorem dX4_init_16 : decode cX4_init 16 = .ok (.newarray .int, 2) := by decide +kernel
theorem dX4_init_18 : decode cX4_init 18 = .ok (.putfield 15, 3) := by decide +kernel
theorem dX4_init_21 : decode cX4_init 21 = .ok (.aload_n 0, 1) := by decide +kernel
theorem dX4_init_22 : decode cX4_init 22 = .ok (.sipush 128, 3) := by decide +kernel
theorem dX4_init_25 : decode cX4_init 25 = .ok (.newarray .int, 2) := by decide +kernel
theorem dX4_init_27 : decode cX4_init 27 = .ok (.putfield 19, 3) := by decide +kernel
theorem dX4_init_30 : decode cX4_init 30 = .ok (.aload_n 0, 1) := by decide +kernel
theorem dX4_init_31 : decode cX4_init 31 = .ok (.sipush 128, 3) := by decide +kernel
theorem dX4_init_34 : decode cX4_init 34 = .ok (.newarray .int, 2) := by decide +kernel
theorem dX4_init_36 : decode cX4_init 36 = .ok (.putfield 22, 3) := by decide +kernel
theorem dX4_init_39 : decode cX4_init 39 = .ok (.aload_n 0, 1) := by decide +kernel
theorem dX4_init_40 : decode cX4_init 40 = .ok (.sipush 128, 3) := by decide +kernel
theorem dX4_init_43 : decode cX4_init 43 = .ok (.newarray .int, 2) := by decide +kernel
theorem dX4_init_45 : decode cX4_init 45 = .ok (.putfield 25, 3) := by decide +kernel
theorem dX4_init_48 : decode cX4_init 48 = .ok (.aload_n 0, 1) := by decide +kernel
theorem dX4_init_49 : decode cX4_init 49 = .ok (.aload_n 1, 1) := by decide +kernel
theorem dX4_init_50 : decode cX4_init 50 = .ok (.putfield 28, 3) := by decide +kernel
theorem dX4_init_53 : decode cX4_init 53 = .ok (.aload_n 0, 1) := by decide +kernel
theorem dX4_init_54 : decode cX4_init 54 = .ok (.aload_n 2, 1) := by decide +kernel
theorem dX4_init_55 : decode cX4_init 55 = .ok (.putfield 32, 3) := by decide +kernel
theorem dX4_init_58 : decode cX4_init 58 = .ok (.return_, 1) := by decide +kernel
theorem dX5_init_0 : decode cX5_init 0 = .ok (.aload_n 0, 1) := by decide +kernel
theorem dX5_init_1 : decode cX5_init 1 = .ok (.invokespecial 3, 3) := by decide +kernel
theorem dX5_init_4 : decode cX5_init 4 = .ok (.aload_n 0, 1) := by decide +kernel
theorem dX5_init_5 : decode cX5_init 5 = .ok (.sipush 250, 3) := by decide +kernel
theorem dX5_init_8 : decode cX5_init 8 = .ok (.newarray .char, 2) := by decide +kernel
theorem dX5_init_10 : decode cX5_init 10 = .ok (.putfield 9, 3) := by decide +kernel
theorem dX5_init_13 : decode cX5_init 13 = .ok (.aload_n 0, 1) := by decide +kernel
theorem dX5_init_14 : decode cX5_init 14 = .ok (.sipush 200, 3) := by decide +kernel
theorem dX5_init_17 : decode cX5_init 17 = .ok (.newarray .int, 2) := by decide +kernel
theorem dX5_init_19 : decode cX5_init 19 = .ok (.putfield 15, 3) := by decide +kernel
theorem dX5_init_22 : decode cX5_init 22 = .ok (.aload_n 0, 1) := by decide +kernel
theorem dX5_init_23 : decode cX5_init 23 = .ok (.sipush 250, 3) := by decide +kernel
theorem dX5_init_26 : decode cX5_init 26 = .ok (.newarray .int, 2) := by decide +kernel
theorem dX5_init_28 : decode cX5_init 28 = .ok (.putfield 19, 3) := by decide +kernel
theorem dX5_init_31 : decode cX5_init 31 = .ok (.aload_n 0, 1) := by decide +kernel
theorem dX5_init_32 : decode cX5_init 32 = .ok (.sipush 250, 3) := by decide +kernel
theorem dX5_init_35 : decode cX5_init 35 = .ok (.newarray .int, 2) := by decide +kernel
theorem dX5_init_37 : decode cX5_init 37 = .ok (.putfield 22, 3) := by decide +kernel
theorem dX5_init_40 : decode cX5_init 40 = .ok (.aload_n 0, 1) := by decide +kernel
theorem dX5_init_41 : decode cX5_init 41 = .ok (.sipush 135, 3) := by decide +kernel
theorem dX5_init_44 : decode cX5_init 44 = .ok (.newarray .char, 2) := by decide +kernel
theorem dX5_init_46 : decode cX5_init 46 = .ok (.putfield 25, 3) := by decide +kernel
theorem dX5_init_49 : decode cX5_init 49 = .ok (.aload_n 0, 1) := by decide +kernel
theorem dX5_init_50 : decode cX5_init 50 = .ok (.new 28, 3) := by decide +kernel
theorem dX5_init_53 : decode cX5_init 53 = .ok (.dup, 1) := by decide +kernel
theorem dX5_init_54 : decode cX5_init 54 = .ok (.bipush 13, 2) := by decide +kernel
theorem dX5_init_56 : decode cX5_init 56 = .ok (.invokespecial 30, 3) := by decide +kernel
theorem dX5_init_59 : decode cX5_init 59 = .ok (.putfield 33, 3) := by decide +kernel
theorem dX5_init_62 : decode cX5_init 62 = .ok (.aload_n 0, 1) := by decide +kernel
theorem dX5_init_63 : decode cX5_init 63 = .ok (.aload_n 1, 1) := by decide +kernel
theorem dX5_init_64 : decode cX5_init 64 = .ok (.putfield 37, 3) := by decide +kernel
theorem dX5_init_67 : decode cX5_init 67 = .ok (.return_, 1) := by decide +kernel
theorem dX6_init_0 : decode cX6_init 0 = .ok (.aload_n 0, 1) := by decide +kernel
theorem dX6_init_1 : decode cX6_init 1 = .ok (.invokespecial 3, 3) := by decide +kernel
theorem dX6_init_4 : decode cX6_init 4 = .ok (.aload_n 0, 1) := by decide +kernel
theorem dX6_init_5 : decode cX6_init 5 = .ok (.sipush 200, 3) := by decide +kernel
theorem dX6_init_8 : decode cX6_init 8 = .ok (.anewarray 9, 3) := by decide +kernel
theorem dX6_init_11 : decode cX6_init 11 = .ok (.putfield 11, 3) := by decide +kernel
theorem dX6_init_14 : decode cX6_init 14 = .ok (.aload_n 0, 1) := by decide +kernel
theorem dX6_init_15 : decode cX6_init 15 = .ok (.sipush 200, 3) := by decide +kernel
theorem dX6_init_18 : decode cX6_init 18 = .ok (.newarray .boolean, 2) := by decide +kernel
theorem dX6_init_20 : decode cX6_init 20 = .ok (.putfield 17, 3) := by decide +kernel
theorem dX6_init_23 : decode cX6_init 23 = .ok (.aload_n 0, 1) := by decide +kernel
theorem dX6_init_24 : decode cX6_init 24 = .ok (.sipush 200, 3) := by decide +kernel
theorem dX6_init_27 : decode cX6_init 27 = .ok (.newarray .int, 2) := by decide +kernel
theorem dX6_init_29 : decode cX6_init 29 = .ok (.putfield 21, 3) := by decide +kernel
theorem dX6_init_32 : decode cX6_init 32 = .ok (.aload_n 0, 1) := by decide +kernel
theorem dX6_init_33 : decode cX6_init 33 = .ok (.new 25, 3) := by decide +kernel
theorem dX6_init_36 : decode cX6_init 36 = .ok (.dup, 1) := by decide +kernel
theorem dX6_init_37 : decode cX6_init 37 = .ok (.bipush 64, 2) := by decide +kernel
theorem dX6_init_39 : decode cX6_init 39 = .ok (.invokespecial 27, 3) := by decide +kernel
theorem dX6_init_42 : decode cX6_init 42 = .ok (.putfield 30, 3) := by decide +kernel
theorem dX6_init_45 : decode cX6_init 45 = .ok (.aload_n 0, 1) := by decide +kernel
theorem dX6_init_46 : decode cX6_init 46 = .ok (.new 34, 3) := by decide +kernel
theorem dX6_init_49 : decode cX6_init 49 = .ok (.dup, 1) := by decide +kernel
theorem dX6_init_50 : decode cX6_init 50 = .ok (.bipush 64, 2) := by decide +kernel
theorem dX6_init_52 : decode cX6_init 52 = .ok (.invokespecial 36, 3) := by decide +kernel
theorem dX6_init_55 : decode cX6_init 55 = .ok (.putfield 37, 3) := by decide +kernel
theorem dX6_init_58 : decode cX6_init 58 = .ok (.aload_n 0, 1) := by decide +kernel
theorem dX6_init_59 : decode cX6_init 59 = .ok (.aload_n 1, 1) := by decide +kernel
theorem dX6_init_60 : decode cX6_init 60 = .ok (.putfield 41, 3) := by decide +kernel
theorem dX6_init_63 : decode cX6_init 63 = .ok (.iconst 0, 1) := by decide +kernel
theorem dX6_init_64 : decode cX6_init 64 = .ok (.istore_n 2, 1) := by decide +kernel
theorem dX6_init_65 : decode cX6_init 65 = .ok (.iload_n 2, 1) := by decide +kernel
theorem dX6_init_66 : decode cX6_init 66 = .ok (.sipush 200, 3) := by decide +kernel
theorem dX6_init_69 : decode cX6_init 69 = .ok (.if_icmp .ge 22, 3) := by decide +kernel
theorem dX6_init_72 : decode cX6_init 72 = .ok (.aload_n 0, 1) := by decide +kernel
theorem dX6_init_73 : decode cX6_init 73 = .ok (.getfield 11, 3) := by decide +kernel
theorem dX6_init_76 : decode cX6_init 76 = .ok (.iload_n 2, 1) := by decide +kernel
theorem dX6_init_77 : decode cX6_init 77 = .ok (.new 9, 3) := by decide +kernel
theorem dX6_init_80 : decode cX6_init 80 = .ok (.dup, 1) := by decide +kernel
theorem dX6_init_81 : decode cX6_init 81 = .ok (.invokespecial 45, 3) := by decide +kernel
theorem dX6_init_84 : decode cX6_init 84 = .ok (.aastore, 1) := by decide +kernel
theorem dX6_init_85 : decode cX6_init 85 = .ok (.iinc 2 1, 3) := by decide +kernel
theorem dX6_init_88 : decode cX6_init 88 = .ok (.goto (-23), 3) := by decide +kernel
theorem dX6_init_91 : decode cX6_init 91 = .ok (.return_, 1) := by decide +kernel
theorem dX7_init_0 : decode cX7_init 0 = .ok (.aload_n 0, 1) := by decide +kernel
theorem dX7_init_1 : decode cX7_init 1 = .ok (.invokespecial 3, 3) := by decide +kernel
theorem dX7_init_4 : decode cX7_init 4 = .ok (.aload_n 0, 1) := by decide +kernel
theorem dX7_init_5 : decode cX7_init 5 = .ok (.bipush 64, 2) := by decide +kernel
theorem dX7_init_7 : decode cX7_init 7 = .ok (.newarray .char, 2) := by decide +kernel
theorem dX7_init_9 : decode cX7_init 9 = .ok (.putfield 9, 3) := by decide +kernel
theorem dX7_init_12 : decode cX7_init 12 = .ok (.return_, 1) := by decide +kernel
theorem dX7_append_0 : decode cX7_append 0 = .ok (.aload_n 0, 1) := by decide +kernel
theorem dX7_append_1 : decode cX7_append 1 = .ok (.getfield 15, 3) := by decide +kernel
theorem dX7_append_4 : decode cX7_append 4 = .ok (.bipush 64, 2) := by decide +kernel
theorem dX7_append_6 : decode cX7_append 6 = .ok (.if_icmp .ge 23, 3) := by decide +kernel
theorem dX7_append_9 : decode cX7_append 9 = .ok (.aload_n 0, 1) := by decide +kernel
theorem dX7_append_10 : decode cX7_append 10 = .ok (.getfield 9, 3) := by decide +kernel
theorem dX7_append_13 : decode cX7_append 13 = .ok (.aload_n 0, 1) := by decide +kernel
theorem dX7_append_14 : decode cX7_append 14 = .ok (.getfield 15, 3) := by decide +kernel
theorem dX7_append_17 : decode cX7_append 17 = .ok (.iload_n 1, 1) := by decide +kernel
theorem dX7_append_18 : decode cX7_append 18 = .ok (.castore, 1) := by decide +kernel
theorem dX7_append_19 : decode cX7_append 19 = .ok (.aload_n 0, 1) := by decide +kernel
theorem dX7_append_20 : decode cX7_append 20 = .ok (.dup, 1) := by decide +kernel
theorem dX7_append_21 : decode cX7_append 21 = .ok (.getfield 15, 3) := by decide +kernel
theorem dX7_append_24 : decode cX7_append 24 = .ok (.iconst 1, 1) := by decide +kernel
theorem dX7_append_25 : decode cX7_append 25 = .ok (.iadd, 1) := by decide +kernel
theorem dX7_append_26 : decode cX7_append 26 = .ok (.putfield 15, 3) := by decide +kernel
theorem dX7_append_29 : decode cX7_append 29 = .ok (.return_, 1) := by decide +kernel
theorem dX7_findWrongPlace_0 : decode cX7_findWrongPlace 0 = .ok (.aload_n 0, 1) := by decide +kernel
theorem dX7_findWrongPlace_1 : decode cX7_findWrongPlace 1 = .ok (.iconst 0, 1) := by decide +kernel
theorem dX7_findWrongPlace_2 : decode cX7_findWrongPlace 2 = .ok (.putfield 19, 3) := by decide +kernel
theorem dX7_findWrongPlace_5 : decode cX7_findWrongPlace 5 = .ok (.aload_n 0, 1) := by decide +kernel
theorem dX7_findWrongPlace_6 : decode cX7_findWrongPlace 6 = .ok (.iconst 0, 1) := by decide +kernel
theorem dX7_findWrongPlace_7 : decode cX7_findWrongPlace 7 = .ok (.putfield 22, 3) := by decide +kernel
theorem dX7_findWrongPlace_10 : decode cX7_findWrongPlace 10 = .ok (.iconst 0, 1) := by decide +kernel
theorem dX7_findWrongPlace_11 : decode cX7_findWrongPlace 11 = .ok (.istore_n 1, 1) := by decide +kernel
theorem dX7_findWrongPlace_12 : decode cX7_findWrongPlace 12 = .ok (.iload_n 1, 1) := by decide +kernel
theorem dX7_findWrongPlace_13 : decode cX7_findWrongPlace 13 = .ok (.aload_n 0, 1) := by decide +kernel
theorem dX7_findWrongPlace_14 : decode cX7_findWrongPlace 14 = .ok (.getfield 15, 3) := by decide +kernel
theorem dX7_findWrongPlace_17 : decode cX7_findWrongPlace 17 = .ok (.if_icmp .ge 24, 3) := by decide +kernel
theorem dX7_findWrongPlace_20 : decode cX7_findWrongPlace 20 = .ok (.aload_n 0, 1) := by decide +kernel
theorem dX7_findWrongPlace_21 : decode cX7_findWrongPlace 21 = .ok (.aload_n 0, 1) := by decide +kernel
theorem dX7_findWrongPlace_22 : decode cX7_findWrongPlace 22 = .ok (.getfield 9, 3) := by decide +kernel
theorem dX7_findWrongPlace_25 : decode cX7_findWrongPlace 25 = .ok (.iload_n 1, 1) := by decide +kernel
theorem dX7_findWrongPlace_26 : decode cX7_findWrongPlace 26 = .ok (.caload, 1) := by decide +kernel
theorem dX7_findWrongPlace_27 : decode cX7_findWrongPlace 27 = .ok (.invokevirtual 25, 3) := by decide +kernel
theorem dX7_findWrongPlace_30 : decode cX7_findWrongPlace 30 = .ok (.ifCond .ne 5, 3) := by decide +kernel
theorem dX7_findWrongPlace_33 : decode cX7_findWrongPlace 33 = .ok (.iload_n 1, 1) := by decide +kernel
theorem dX7_findWrongPlace_34 : decode cX7_findWrongPlace 34 = .ok (.ireturn, 1) := by decide +kernel
theorem dX7_findWrongPlace_35 : decode cX7_findWrongPlace 35 = .ok (.iinc 1 1, 3) := by decide +kernel
theorem dX7_findWrongPlace_38 : decode cX7_findWrongPlace 38 = .ok (.goto (-26), 3) := by decide +kernel
theorem dX7_findWrongPlace_41 : decode cX7_findWrongPlace 41 = .ok (.aload_n 0, 1) := by decide +kernel
theorem dX7_findWrongPlace_42 : decode cX7_findWrongPlace 42 = .ok (.getfield 19, 3) := by decide +kernel
theorem dX7_findWrongPlace_45 : decode cX7_findWrongPlace 45 = .ok (.iconst 1, 1) := by decide +kernel
theorem dX7_findWrongPlace_46 : decode cX7_findWrongPlace 46 = .ok (.if_icmp .eq 28, 3) := by decide +kernel
theorem dX7_findWrongPlace_49 : decode cX7_findWrongPlace 49 = .ok (.aload_n 0, 1) := by decide +kernel
theorem dX7_findWrongPlace_50 : decode cX7_findWrongPlace 50 = .ok (.getfield 19, 3) := by decide +kernel
theorem dX7_findWrongPlace_53 : decode cX7_findWrongPlace 53 = .ok (.iconst 3, 1) := by decide +kernel
theorem dX7_findWrongPlace_54 : decode cX7_findWrongPlace 54 = .ok (.if_icmp .eq 20, 3) := by decide +kernel
theorem dX7_findWrongPlace_57 : decode cX7_findWrongPlace 57 = .ok (.aload_n 0, 1) := by decide +kernel
theorem dX7_findWrongPlace_58 : decode cX7_findWrongPlace 58 = .ok (.getfield 19, 3) := by decide +kernel
theorem dX7_findWrongPlace_61 : decode cX7_findWrongPlace 61 = .ok (.iconst 4, 1) := by decide +kernel
theorem dX7_findWrongPlace_62 : decode cX7_findWrongPlace 62 = .ok (.if_icmp .eq 12, 3) := by decide +kernel
theorem dX7_findWrongPlace_65 : decode cX7_findWrongPlace 65 = .ok (.aload_n 0, 1) := by decide +kernel
theorem dX7_findWrongPlace_66 : decode cX7_findWrongPlace 66 = .ok (.getfield 19, 3) := by decide +kernel
theorem dX7_findWrongPlace_69 : decode cX7_findWrongPlace 69 = .ok (.bipush 6, 2) := by decide +kernel
theorem dX7_findWrongPlace_71 : decode cX7_findWrongPlace 71 = .ok (.if_icmp .ne 7, 3) := by decide +kernel
theorem dX7_findWrongPlace_74 : decode cX7_findWrongPlace 74 = .ok (.iconst 1, 1) := by decide +kernel
theorem dX7_findWrongPlace_75 : decode cX7_findWrongPlace 75 = .ok (.goto 4, 3) := by decide +kernel
theorem dX7_findWrongPlace_78 : decode cX7_findWrongPlace 78 = .ok (.iconst 0, 1) := by decide +kernel
theorem dX7_findWrongPlace_79 : decode cX7_findWrongPlace 79 = .ok (.istore_n 1, 1) := by decide +kernel
theorem dX7_findWrongPlace_80 : decode cX7_findWrongPlace 80 = .ok (.iload_n 1, 1) := by decide +kernel
theorem dX7_findWrongPlace_81 : decode cX7_findWrongPlace 81 = .ok (.ifCond .eq 14, 3) := by decide +kernel
theorem dX7_findWrongPlace_84 : decode cX7_findWrongPlace 84 = .ok (.aload_n 0, 1) := by decide +kernel
theorem dX7_findWrongPlace_85 : decode cX7_findWrongPlace 85 = .ok (.getfield 22, 3) := by decide +kernel
theorem dX7_findWrongPlace_88 : decode cX7_findWrongPlace 88 = .ok (.ifCond .ne 7, 3) := by decide +kernel
theorem dX7_findWrongPlace_91 : decode cX7_findWrongPlace 91 = .ok (.iconst (-1), 1) := by decide +kernel
theorem dX7_findWrongPlace_92 : decode cX7_findWrongPlace 92 = .ok (.goto 7, 3) := by decide +kernel
theorem dX7_findWrongPlace_95 : decode cX7_findWrongPlace 95 = .ok (.aload_n 0, 1) := by decide +kernel
theorem dX7_findWrongPlace_96 : decode cX7_findWrongPlace 96 = .ok (.getfield 15, 3) := by decide +kernel
theorem dX7_findWrongPlace_99 : decode cX7_findWrongPlace 99 = .ok (.ireturn, 1) := by decide +kernel
theorem dX8_init_0 : decode cX8_init 0 = .ok (.aload_n 0, 1) := by decide +kernel
theorem dX8_init_1 : decode cX8_init 1 = .ok (.invokespecial 3, 3) := by decide +kernel
theorem dX8_init_4 : decode cX8_init 4 = .ok (.aload_n 0, 1) := by decide +kernel
theorem dX8_init_5 : decode cX8_init 5 = .ok (.iload_n 1, 1) := by decide +kernel
theorem dX8_init_6 : decode cX8_init 6 = .ok (.newarray .int, 2) := by decide +kernel
theorem dX8_init_8 : decode cX8_init 8 = .ok (.putfield 9, 3) := by decide +kernel
theorem dX8_init_11 : decode cX8_init 11 = .ok (.aload_n 0, 1) := by decide +kernel
theorem dX8_init_12 : decode cX8_init 12 = .ok (.iconst 0, 1) := by decide +kernel
theorem dX8_init_13 : decode cX8_init 13 = .ok (.putfield 15, 3) := by decide +kernel
theorem dX8_init_16 : decode cX8_init 16 = .ok (.aload_n 0, 1) := by decide +kernel
theorem dX8_init_17 : decode cX8_init 17 = .ok (.iconst 0, 1) := by decide +kernel
theorem dX8_init_18 : decode cX8_init 18 = .ok (.putfield 19, 3) := by decide +kernel
theorem dX8_init_21 : decode cX8_init 21 = .ok (.return_, 1) := by decide +kernel
theorem dX8_put_0 : decode cX8_put 0 = .ok (.lload_n 1, 1) := by decide +kernel
theorem dX8_put_1 : decode cX8_put 1 = .ok (.invokestatic 23, 3) := by decide +kernel
theorem dX8_put_4 : decode cX8_put 4 = .ok (.lstore_n 3, 1) := by decide +kernel
theorem dX8_put_5 : decode cX8_put 5 = .ok (.aload_n 0, 1) := by decide +kernel
theorem dX8_put_6 : decode cX8_put 6 = .ok (.lload_n 1, 1) := by decide +kernel
theorem dX8_put_7 : decode cX8_put 7 = .ok (.lconst 0, 1) := by decide +kernel
theorem dX8_put_8 : decode cX8_put 8 = .ok (.lcmp, 1) := by decide +kernel
theorem dX8_put_9 : decode cX8_put 9 = .ok (.ifCond .ge 7, 3) := by decide +kernel
theorem dX8_put_12 : decode cX8_put 12 = .ok (.iconst 1, 1) := by decide +kernel
theorem dX8_put_13 : decode cX8_put 13 = .ok (.goto 4, 3) := by decide +kernel
theorem dX8_put_16 : decode cX8_put 16 = .ok (.iconst 0, 1) := by decide +kernel
theorem dX8_put_17 : decode cX8_put 17 = .ok (.putfield 19, 3) := by decide +kernel
theorem dX8_put_20 : decode cX8_put 20 = .ok (.aload_n 0, 1) := by decide +kernel
theorem dX8_put_21 : decode cX8_put 21 = .ok (.iconst 0, 1) := by decide +kernel
theorem dX8_put_22 : decode cX8_put 22 = .ok (.putfield 15, 3) := by decide +kernel
theorem dX8_put_25 : decode cX8_put 25 = .ok (.iconst 0, 1) := by decide +kernel
theorem dX8_put_26 : decode cX8_put 26 = .ok (.istore 5, 2) := by decide +kernel
theorem dX8_put_28 : decode cX8_put 28 = .ok (.iload 5, 2) := by decide +kernel
theorem dX8_put_30 : decode cX8_put 30 = .ok (.iconst 2, 1) := by decide +kernel
theorem dX8_put_31 : decode cX8_put 31 = .ok (.if_icmp .ge 47, 3) := by decide +kernel
theorem dX8_put_34 : decode cX8_put 34 = .ok (.iload 5, 2) := by decide +kernel
theorem dX8_put_36 : decode cX8_put 36 = .ok (.aload_n 0, 1) := by decide +kernel
theorem dX8_put_37 : decode cX8_put 37 = .ok (.getfield 9, 3) := by decide +kernel
theorem dX8_put_40 : decode cX8_put 40 = .ok (.arraylength, 1) := by decide +kernel
theorem dX8_put_41 : decode cX8_put 41 = .ok (.if_icmp .ge 37, 3) := by decide +kernel
theorem dX8_put_44 : decode cX8_put 44 = .ok (.lload_n 3, 1) := by decide +kernel
theorem dX8_put_45 : decode cX8_put 45 = .ok (.lconst 0, 1) := by decide +kernel
theorem dX8_put_46 : decode cX8_put 46 = .ok (.lcmp, 1) := by decide +kernel
theorem dX8_put_47 : decode cX8_put 47 = .ok (.ifCond .eq 31, 3) := by decide +kernel
theorem dX8_put_50 : decode cX8_put 50 = .ok (.aload_n 0, 1) := by decide +kernel
theorem dX8_put_51 : decode cX8_put 51 = .ok (.getfield 9, 3) := by decide +kernel
theorem dX8_put_54 : decode cX8_put 54 = .ok (.iload 5, 2) := by decide +kernel
theorem dX8_put_56 : decode cX8_put 56 = .ok (.lload_n 3, 1) := by decide +kernel
theorem dX8_put_57 : decode cX8_put 57 = .ok (.l2i, 1) := by decide +kernel
theorem dX8_put_58 : decode cX8_put 58 = .ok (.iastore, 1) := by decide +kernel
theorem dX8_put_59 : decode cX8_put 59 = .ok (.lload_n 3, 1) := by decide +kernel
theorem dX8_put_60 : decode cX8_put 60 = .ok (.bipush 32, 2) := by decide +kernel
theorem dX8_put_62 : decode cX8_put 62 = .ok (.lushr, 1) := by decide +kernel
theorem dX8_put_63 : decode cX8_put 63 = .ok (.lstore_n 3, 1) := by decide +kernel
theorem dX8_put_64 : decode cX8_put 64 = .ok (.aload_n 0, 1) := by decide +kernel
theorem dX8_put_65 : decode cX8_put 65 = .ok (.iload 5, 2) := by decide +kernel
theorem dX8_put_67 : decode cX8_put 67 = .ok (.iconst 1, 1) := by decide +kernel
theorem dX8_put_68 : decode cX8_put 68 = .ok (.iadd, 1) := by decide +kernel
theorem dX8_put_69 : decode cX8_put 69 = .ok (.putfield 15, 3) := by decide +kernel
theorem dX8_put_72 : decode cX8_put 72 = .ok (.iinc 5 1, 3) := by decide +kernel
theorem dX8_put_75 : decode cX8_put 75 = .ok (.goto (-47), 3) := by decide +kernel
theorem dX8_put_78 : decode cX8_put 78 = .ok (.return_, 1) := by decide +kernel
theorem dX8_become_0 : decode cX8_become 0 = .ok (.aload_n 0, 1) := by decide +kernel
theorem dX8_become_1 : decode cX8_become 1 = .ok (.aload_n 1, 1) := by decide +kernel
theorem dX8_become_2 : decode cX8_become 2 = .ok (.getfield 15, 3) := by decide +kernel
theorem dX8_become_5 : decode cX8_become 5 = .ok (.aload_n 0, 1) := by decide +kernel
theorem dX8_become_6 : decode cX8_become 6 = .ok (.getfield 9, 3) := by decide +kernel
theorem dX8_become_9 : decode cX8_become 9 = .ok (.arraylength, 1) := by decide +kernel
theorem dX8_become_10 : decode cX8_become 10 = .ok (.invokestatic 29, 3) := by decide +kernel
theorem dX8_become_13 : decode cX8_become 13 = .ok (.putfield 15, 3) := by decide +kernel
theorem dX8_become_16 : decode cX8_become 16 = .ok (.aload_n 1, 1) := by decide +kernel
theorem dX8_become_17 : decode cX8_become 17 = .ok (.getfield 9, 3) := by decide +kernel
theorem dX8_become_20 : decode cX8_become 20 = .ok (.iconst 0, 1) := by decide +kernel
theorem dX8_become_21 : decode cX8_become 21 = .ok (.aload_n 0, 1) := by decide +kernel
theorem dX8_become_22 : decode cX8_become 22 = .ok (.getfield 9, 3) := by decide +kernel
theorem dX8_become_25 : decode cX8_become 25 = .ok (.iconst 0, 1) := by decide +kernel
theorem dX8_become_26 : decode cX8_become 26 = .ok (.aload_n 0, 1) := by decide +kernel
theorem dX8_become_27 : decode cX8_become 27 = .ok (.getfield 15, 3) := by decide +kernel
theorem dX8_become_30 : decode cX8_become 30 = .ok (.invokestatic 33, 3) := by decide +kernel
theorem dX8_become_33 : decode cX8_become 33 = .ok (.aload_n 0, 1) := by decide +kernel
theorem dX8_become_34 : decode cX8_become 34 = .ok (.aload_n 1, 1) := by decide +kernel
theorem dX8_become_35 : decode cX8_become 35 = .ok (.getfield 19, 3) := by decide +kernel
theorem dX8_become_38 : decode cX8_become 38 = .ok (.putfield 19, 3) := by decide +kernel
theorem dX8_become_41 : decode cX8_become 41 = .ok (.return_, 1) := by decide +kernel
theorem dX8_signum_0 : decode cX8_signum 0 = .ok (.aload_n 0, 1) := by decide +kernel
theorem dX8_signum_1 : decode cX8_signum 1 = .ok (.getfield 15, 3) := by decide +kernel
theorem dX8_signum_4 : decode cX8_signum 4 = .ok (.ifCond .ne 5, 3) := by decide +kernel
theorem dX8_signum_7 : decode cX8_signum 7 = .ok (.iconst 0, 1) := by decide +kernel
theorem dX8_signum_8 : decode cX8_signum 8 = .ok (.ireturn, 1) := by decide +kernel
theorem dX8_signum_9 : decode cX8_signum 9 = .ok (.aload_n 0, 1) := by decide +kernel
theorem dX8_signum_10 : decode cX8_signum 10 = .ok (.getfield 19, 3) := by decide +kernel
theorem dX8_signum_13 : decode cX8_signum 13 = .ok (.ifCond .eq 7, 3) := by decide +kernel
theorem dX8_signum_16 : decode cX8_signum 16 = .ok (.iconst (-1), 1) := by decide +kernel
theorem dX8_signum_17 : decode cX8_signum 17 = .ok (.goto 4, 3) := by decide +kernel
theorem dX8_signum_20 : decode cX8_signum 20 = .ok (.iconst 1, 1) := by decide +kernel
theorem dX8_signum_21 : decode cX8_signum 21 = .ok (.ireturn, 1) := by decide +kernel
theorem dX8_bitLength_0 : decode cX8_bitLength 0 = .ok (.aload_n 0, 1) := by decide +kernel
theorem dX8_bitLength_1 : decode cX8_bitLength 1 = .ok (.getfield 15, 3) := by decide +kernel
theorem dX8_bitLength_4 : decode cX8_bitLength 4 = .ok (.ifCond .ne 7, 3) := by decide +kernel
theorem dX8_bitLength_7 : decode cX8_bitLength 7 = .ok (.iconst 0, 1) := by decide +kernel
theorem dX8_bitLength_8 : decode cX8_bitLength 8 = .ok (.goto 25, 3) := by decide +kernel
theorem dX8_bitLength_11 : decode cX8_bitLength 11 = .ok (.bipush 32, 2) := by decide +kernel
theorem dX8_bitLength_13 : decode cX8_bitLength 13 = .ok (.aload_n 0, 1) := by decide +kernel
theorem dX8_bitLength_14 : decode cX8_bitLength 14 = .ok (.getfield 15, 3) := by decide +kernel
theorem dX8_bitLength_17 : decode cX8_bitLength 17 = .ok (.imul, 1) := by decide +kernel
theorem dX8_bitLength_18 : decode cX8_bitLength 18 = .ok (.aload_n 0, 1) := by decide +kernel
theorem dX8_bitLength_19 : decode cX8_bitLength 19 = .ok (.getfield 9, 3) := by decide +kernel
theorem dX8_bitLength_22 : decode cX8_bitLength 22 = .ok (.aload_n 0, 1) := by decide +kernel
theorem dX8_bitLength_23 : decode cX8_bitLength 23 = .ok (.getfield 15, 3) := by decide +kernel
theorem dX8_bitLength_26 : decode cX8_bitLength 26 = .ok (.iconst 1, 1) := by decide +kernel
theorem dX8_bitLength_27 : decode cX8_bitLength 27 = .ok (.isub, 1) := by decide +kernel
theorem dX8_bitLength_28 : decode cX8_bitLength 28 = .ok (.iaload, 1) := by decide +kernel
theorem dX8_bitLength_29 : decode cX8_bitLength 29 = .ok (.invokestatic 39, 3) := by decide +kernel
theorem dX8_bitLength_32 : decode cX8_bitLength 32 = .ok (.isub, 1) := by decide +kernel
theorem dX8_bitLength_33 : decode cX8_bitLength 33 = .ok (.ireturn, 1) := by decide +kernel
theorem dX8_orderOfSizes_0 : decode cX8_orderOfSizes 0 = .ok (.aload_n 0, 1) := by decide +kernel
theorem dX8_orderOfSizes_1 : decode cX8_orderOfSizes 1 = .ok (.getfield 15, 3) := by decide +kernel
theorem dX8_orderOfSizes_4 : decode cX8_orderOfSizes 4 = .ok (.aload_n 1, 1) := by decide +kernel
theorem dX8_orderOfSizes_5 : decode cX8_orderOfSizes 5 = .ok (.getfield 15, 3) := by decide +kernel
theorem dX8_orderOfSizes_8 : decode cX8_orderOfSizes 8 = .ok (.if_icmp .eq 20, 3) := by decide +kernel
theorem dX8_orderOfSizes_11 : decode cX8_orderOfSizes 11 = .ok (.aload_n 0, 1) := by decide +kernel
theorem dX8_orderOfSizes_12 : decode cX8_orderOfSizes 12 = .ok (.getfield 15, 3) := by decide +kernel
theorem dX8_orderOfSizes_15 : decode cX8_orderOfSizes 15 = .ok (.aload_n 1, 1) := by decide +kernel
theorem dX8_orderOfSizes_16 : decode cX8_orderOfSizes 16 = .ok (.getfield 15, 3) := by decide +kernel
theorem dX8_orderOfSizes_19 : decode cX8_orderOfSizes 19 = .ok (.if_icmp .ge 7, 3) := by decide +kernel
theorem dX8_orderOfSizes_22 : decode cX8_orderOfSizes 22 = .ok (.iconst (-1), 1) := by decide +kernel
theorem dX8_orderOfSizes_23 : decode cX8_orderOfSizes 23 = .ok (.goto 4, 3) := by decide +kernel
theorem dX8_orderOfSizes_26 : decode cX8_orderOfSizes 26 = .ok (.iconst 1, 1) := by decide +kernel
theorem dX8_orderOfSizes_27 : decode cX8_orderOfSizes 27 = .ok (.ireturn, 1) := by decide +kernel
theorem dX8_orderOfSizes_28 : decode cX8_orderOfSizes 28 = .ok (.aload_n 0, 1) := by decide +kernel
theorem dX8_orderOfSizes_29 : decode cX8_orderOfSizes 29 = .ok (.getfield 15, 3) := by decide +kernel
theorem dX8_orderOfSizes_32 : decode cX8_orderOfSizes 32 = .ok (.iconst 1, 1) := by decide +kernel
theorem dX8_orderOfSizes_33 : decode cX8_orderOfSizes 33 = .ok (.isub, 1) := by decide +kernel
theorem dX8_orderOfSizes_34 : decode cX8_orderOfSizes 34 = .ok (.istore_n 2, 1) := by decide +kernel
theorem dX8_orderOfSizes_35 : decode cX8_orderOfSizes 35 = .ok (.iload_n 2, 1) := by decide +kernel
theorem dX8_orderOfSizes_36 : decode cX8_orderOfSizes 36 = .ok (.ifCond .lt 56, 3) := by decide +kernel
theorem dX8_orderOfSizes_39 : decode cX8_orderOfSizes 39 = .ok (.aload_n 0, 1) := by decide +kernel
theorem dX8_orderOfSizes_40 : decode cX8_orderOfSizes 40 = .ok (.getfield 9, 3) := by decide +kernel
theorem dX8_orderOfSizes_43 : decode cX8_orderOfSizes 43 = .ok (.iload_n 2, 1) := by decide +kernel
theorem dX8_orderOfSizes_44 : decode cX8_orderOfSizes 44 = .ok (.iaload, 1) := by decide +kernel
theorem dX8_orderOfSizes_45 : decode cX8_orderOfSizes 45 = .ok (.aload_n 1, 1) := by decide +kernel
theorem dX8_orderOfSizes_46 : decode cX8_orderOfSizes 46 = .ok (.getfield 9, 3) := by decide +kernel
theorem dX8_orderOfSizes_49 : decode cX8_orderOfSizes 49 = .ok (.iload_n 2, 1) := by decide +kernel
theorem dX8_orderOfSizes_50 : decode cX8_orderOfSizes 50 = .ok (.iaload, 1) := by decide +kernel
theorem dX8_orderOfSizes_51 : decode cX8_orderOfSizes 51 = .ok (.if_icmp .eq 35, 3) := by decide +kernel
theorem dX8_orderOfSizes_54 : decode cX8_orderOfSizes 54 = .ok (.aload_n 0, 1) := by decide +kernel
theorem dX8_orderOfSizes_55 : decode cX8_orderOfSizes 55 = .ok (.getfield 9, 3) := by decide +kernel
theorem dX8_orderOfSizes_58 : decode cX8_orderOfSizes 58 = .ok (.iload_n 2, 1) := by decide +kernel
theorem dX8_orderOfSizes_59 : decode cX8_orderOfSizes 59 = .ok (.iaload, 1) := by decide +kernel
theorem dX8_orderOfSizes_60 : decode cX8_orderOfSizes 60 = .ok (.i2l, 1) := by decide +kernel
theorem dX8_orderOfSizes_61 : decode cX8_orderOfSizes 61 = .ok (.ldc2_w 48, 3) := by decide +kernel
theorem dX8_orderOfSizes_64 : decode cX8_orderOfSizes 64 = .ok (.land, 1) := by decide +kernel
theorem dX8_orderOfSizes_65 : decode cX8_orderOfSizes 65 = .ok (.aload_n 1, 1) := by decide +kernel
theorem dX8_orderOfSizes_66 : decode cX8_orderOfSizes 66 = .ok (.getfield 9, 3) := by decide +kernel
theorem dX8_orderOfSizes_69 : decode cX8_orderOfSizes 69 = .ok (.iload_n 2, 1) := by decide +kernel
theorem dX8_orderOfSizes_70 : decode cX8_orderOfSizes 70 = .ok (.iaload, 1) := by decide +kernel
theorem dX8_orderOfSizes_71 : decode cX8_orderOfSizes 71 = .ok (.i2l, 1) := by decide +kernel
theorem dX8_orderOfSizes_72 : decode cX8_orderOfSizes 72 = .ok (.ldc2_w 48, 3) := by decide +kernel
theorem dX8_orderOfSizes_75 : decode cX8_orderOfSizes 75 = .ok (.land, 1) := by decide +kernel
theorem dX8_orderOfSizes_76 : decode cX8_orderOfSizes 76 = .ok (.lcmp, 1) := by decide +kernel
theorem dX8_orderOfSizes_77 : decode cX8_orderOfSizes 77 = .ok (.ifCond .ge 7, 3) := by decide +kernel
theorem dX8_orderOfSizes_80 : decode cX8_orderOfSizes 80 = .ok (.iconst (-1), 1) := by decide +kernel
theorem dX8_orderOfSizes_81 : decode cX8_orderOfSizes 81 = .ok (.goto 4, 3) := by decide +kernel
theorem dX8_orderOfSizes_84 : decode cX8_orderOfSizes 84 = .ok (.iconst 1, 1) := by decide +kernel
theorem dX8_orderOfSizes_85 : decode cX8_orderOfSizes 85 = .ok (.ireturn, 1) := by decide +kernel
theorem dX8_orderOfSizes_86 : decode cX8_orderOfSizes 86 = .ok (.iinc 2 (-1), 3) := by decide +kernel
theorem dX8_orderOfSizes_89 : decode cX8_orderOfSizes 89 = .ok (.goto (-54), 3) := by decide +kernel
theorem dX8_orderOfSizes_92 : decode cX8_orderOfSizes 92 = .ok (.iconst 0, 1) := by decide +kernel
theorem dX8_orderOfSizes_93 : decode cX8_orderOfSizes 93 = .ok (.ireturn, 1) := by decide +kernel
theorem dX8_order_0 : decode cX8_order 0 = .ok (.aload_n 0, 1) := by decide +kernel
theorem dX8_order_1 : decode cX8_order 1 = .ok (.invokevirtual 50, 3) := by decide +kernel
theorem dX8_order_4 : decode cX8_order 4 = .ok (.aload_n 1, 1) := by decide +kernel
theorem dX8_order_5 : decode cX8_order 5 = .ok (.invokevirtual 50, 3) := by decide +kernel
theorem dX8_order_8 : decode cX8_order 8 = .ok (.if_icmp .eq 20, 3) := by decide +kernel
theorem dX8_order_11 : decode cX8_order 11 = .ok (.aload_n 0, 1) := by decide +kernel
theorem dX8_order_12 : decode cX8_order 12 = .ok (.invokevirtual 50, 3) := by decide +kernel
theorem dX8_order_15 : decode cX8_order 15 = .ok (.aload_n 1, 1) := by decide +kernel
theorem dX8_order_16 : decode cX8_order 16 = .ok (.invokevirtual 50, 3) := by decide +kernel
theorem dX8_order_19 : decode cX8_order 19 = .ok (.if_icmp .ge 7, 3) := by decide +kernel
theorem dX8_order_22 : decode cX8_order 22 = .ok (.iconst (-1), 1) := by decide +kernel
theorem dX8_order_23 : decode cX8_order 23 = .ok (.goto 4, 3) := by decide +kernel
theorem dX8_order_26 : decode cX8_order 26 = .ok (.iconst 1, 1) := by decide +kernel
theorem dX8_order_27 : decode cX8_order 27 = .ok (.ireturn, 1) := by decide +kernel
theorem dX8_order_28 : decode cX8_order 28 = .ok (.aload_n 0, 1) := by decide +kernel
theorem dX8_order_29 : decode cX8_order 29 = .ok (.aload_n 1, 1) := by decide +kernel
theorem dX8_order_30 : decode cX8_order 30 = .ok (.invokevirtual 54, 3) := by decide +kernel
theorem dX8_order_33 : decode cX8_order 33 = .ok (.istore_n 2, 1) := by decide +kernel
theorem dX8_order_34 : decode cX8_order 34 = .ok (.aload_n 0, 1) := by decide +kernel
theorem dX8_order_35 : decode cX8_order 35 = .ok (.getfield 19, 3) := by decide +kernel
theorem dX8_order_38 : decode cX8_order 38 = .ok (.ifCond .eq 8, 3) := by decide +kernel
theorem dX8_order_41 : decode cX8_order 41 = .ok (.iload_n 2, 1) := by decide +kernel
theorem dX8_order_42 : decode cX8_order 42 = .ok (.ineg, 1) := by decide +kernel
theorem dX8_order_43 : decode cX8_order 43 = .ok (.goto 4, 3) := by decide +kernel
theorem dX8_order_46 : decode cX8_order 46 = .ok (.iload_n 2, 1) := by decide +kernel
theorem dX8_order_47 : decode cX8_order 47 = .ok (.ireturn, 1) := by decide +kernel
theorem dX8_turn_0 : decode cX8_turn 0 = .ok (.aload_n 0, 1) := by decide +kernel
theorem dX8_turn_1 : decode cX8_turn 1 = .ok (.aload_n 0, 1) := by decide +kernel
theorem dX8_turn_2 : decode cX8_turn 2 = .ok (.getfield 15, 3) := by decide +kernel
theorem dX8_turn_5 : decode cX8_turn 5 = .ok (.ifCond .le 14, 3) := by decide +kernel
theorem dX8_turn_8 : decode cX8_turn 8 = .ok (.aload_n 0, 1) := by decide +kernel
theorem dX8_turn_9 : decode cX8_turn 9 = .ok (.getfield 19, 3) := by decide +kernel
theorem dX8_turn_12 : decode cX8_turn 12 = .ok (.ifCond .ne 7, 3) := by decide +kernel
theorem dX8_turn_15 : decode cX8_turn 15 = .ok (.iconst 1, 1) := by decide +kernel
theorem dX8_turn_16 : decode cX8_turn 16 = .ok (.goto 4, 3) := by decide +kernel
theorem dX8_turn_19 : decode cX8_turn 19 = .ok (.iconst 0, 1) := by decide +kernel
theorem dX8_turn_20 : decode cX8_turn 20 = .ok (.putfield 19, 3) := by decide +kernel
theorem dX8_turn_23 : decode cX8_turn 23 = .ok (.return_, 1) := by decide +kernel
theorem dX8_multiply_0 : decode cX8_multiply 0 = .ok (.aload_n 1, 1) := by decide +kernel
theorem dX8_multiply_1 : decode cX8_multiply 1 = .ok (.getfield 15, 3) := by decide +kernel
theorem dX8_multiply_4 : decode cX8_multiply 4 = .ok (.ifCond .eq 10, 3) := by decide +kernel
theorem dX8_multiply_7 : decode cX8_multiply 7 = .ok (.aload_n 2, 1) := by decide +kernel
theorem dX8_multiply_8 : decode cX8_multiply 8 = .ok (.getfield 15, 3) := by decide +kernel
theorem dX8_multiply_11 : decode cX8_multiply 11 = .ok (.ifCond .ne 7, 3) := by decide +kernel
theorem dX8_multiply_14 : decode cX8_multiply 14 = .ok (.iconst 0, 1) := by decide +kernel
theorem dX8_multiply_15 : decode cX8_multiply 15 = .ok (.goto 20, 3) := by decide +kernel
theorem dX8_multiply_18 : decode cX8_multiply 18 = .ok (.aload_n 0, 1) := by decide +kernel
theorem dX8_multiply_19 : decode cX8_multiply 19 = .ok (.getfield 9, 3) := by decide +kernel
theorem dX8_multiply_22 : decode cX8_multiply 22 = .ok (.arraylength, 1) := by decide +kernel
theorem dX8_multiply_23 : decode cX8_multiply 23 = .ok (.aload_n 1, 1) := by decide +kernel
theorem dX8_multiply_24 : decode cX8_multiply 24 = .ok (.getfield 15, 3) := by decide +kernel
theorem dX8_multiply_27 : decode cX8_multiply 27 = .ok (.aload_n 2, 1) := by decide +kernel
theorem dX8_multiply_28 : decode cX8_multiply 28 = .ok (.getfield 15, 3) := by decide +kernel
theorem dX8_multiply_31 : decode cX8_multiply 31 = .ok (.iadd, 1) := by decide +kernel
theorem dX8_multiply_32 : decode cX8_multiply 32 = .ok (.invokestatic 29, 3) := by decide +kernel
theorem dX8_multiply_35 : decode cX8_multiply 35 = .ok (.istore_n 3, 1) := by decide +kernel
theorem dX8_multiply_36 : decode cX8_multiply 36 = .ok (.aload_n 0, 1) := by decide +kernel
theorem dX8_multiply_37 : decode cX8_multiply 37 = .ok (.getfield 9, 3) := by decide +kernel
theorem dX8_multiply_40 : decode cX8_multiply 40 = .ok (.iconst 0, 1) := by decide +kernel
theorem dX8_multiply_41 : decode cX8_multiply 41 = .ok (.iload_n 3, 1) := by decide +kernel
theorem dX8_multiply_42 : decode cX8_multiply 42 = .ok (.iconst 0, 1) := by decide +kernel
theorem dX8_multiply_43 : decode cX8_multiply 43 = .ok (.invokestatic 58, 3) := by decide +kernel
theorem dX8_multiply_46 : decode cX8_multiply 46 = .ok (.iconst 0, 1) := by decide +kernel
theorem dX8_multiply_47 : decode cX8_multiply 47 = .ok (.istore 4, 2) := by decide +kernel
theorem dX8_multiply_49 : decode cX8_multiply 49 = .ok (.iload 4, 2) := by decide +kernel
theorem dX8_multiply_51 : decode cX8_multiply 51 = .ok (.aload_n 1, 1) := by decide +kernel
theorem dX8_multiply_52 : decode cX8_multiply 52 = .ok (.getfield 15, 3) := by decide +kernel
theorem dX8_multiply_55 : decode cX8_multiply 55 = .ok (.if_icmp .ge 141, 3) := by decide +kernel
theorem dX8_multiply_58 : decode cX8_multiply 58 = .ok (.iload 4, 2) := by decide +kernel
theorem dX8_multiply_60 : decode cX8_multiply 60 = .ok (.iload_n 3, 1) := by decide +kernel
theorem dX8_multiply_61 : decode cX8_multiply 61 = .ok (.if_icmp .ge 135, 3) := by decide +kernel
theorem dX8_multiply_64 : decode cX8_multiply 64 = .ok (.aload_n 1, 1) := by decide +kernel
theorem dX8_multiply_65 : decode cX8_multiply 65 = .ok (.getfield 9, 3) := by decide +kernel
theorem dX8_multiply_68 : decode cX8_multiply 68 = .ok (.iload 4, 2) := by decide +kernel
theorem dX8_multiply_70 : decode cX8_multiply 70 = .ok (.iaload, 1) := by decide +kernel
theorem dX8_multiply_71 : decode cX8_multiply 71 = .ok (.i2l, 1) := by decide +kernel
theorem dX8_multiply_72 : decode cX8_multiply 72 = .ok (.ldc2_w 48, 3) := by decide +kernel
theorem dX8_multiply_75 : decode cX8_multiply 75 = .ok (.land, 1) := by decide +kernel
theorem dX8_multiply_76 : decode cX8_multiply 76 = .ok (.lstore 5, 2) := by decide +kernel
theorem dX8_multiply_78 : decode cX8_multiply 78 = .ok (.lconst 0, 1) := by decide +kernel
theorem dX8_multiply_79 : decode cX8_multiply 79 = .ok (.lstore 7, 2) := by decide +kernel
theorem dX8_multiply_81 : decode cX8_multiply 81 = .ok (.iconst 0, 1) := by decide +kernel
theorem dX8_multiply_82 : decode cX8_multiply 82 = .ok (.istore 9, 2) := by decide +kernel
theorem dX8_multiply_84 : decode cX8_multiply 84 = .ok (.iload 9, 2) := by decide +kernel
theorem dX8_multiply_86 : decode cX8_multiply 86 = .ok (.aload_n 2, 1) := by decide +kernel
theorem dX8_multiply_87 : decode cX8_multiply 87 = .ok (.getfield 15, 3) := by decide +kernel
theorem dX8_multiply_90 : decode cX8_multiply 90 = .ok (.if_icmp .ge 74, 3) := by decide +kernel
theorem dX8_multiply_93 : decode cX8_multiply 93 = .ok (.iload 4, 2) := by decide +kernel
theorem dX8_multiply_95 : decode cX8_multiply 95 = .ok (.iload 9, 2) := by decide +kernel
theorem dX8_multiply_97 : decode cX8_multiply 97 = .ok (.iadd, 1) := by decide +kernel
theorem dX8_multiply_98 : decode cX8_multiply 98 = .ok (.iload_n 3, 1) := by decide +kernel
theorem dX8_multiply_99 : decode cX8_multiply 99 = .ok (.if_icmp .ge 65, 3) := by decide +kernel
theorem dX8_multiply_102 : decode cX8_multiply 102 = .ok (.lload 7, 2) := by decide +kernel
theorem dX8_multiply_104 : decode cX8_multiply 104 = .ok (.lload 5, 2) := by decide +kernel
theorem dX8_multiply_106 : decode cX8_multiply 106 = .ok (.aload_n 2, 1) := by decide +kernel
theorem dX8_multiply_107 : decode cX8_multiply 107 = .ok (.getfield 9, 3) := by decide +kernel
theorem dX8_multiply_110 : decode cX8_multiply 110 = .ok (.iload 9, 2) := by decide +kernel
theorem dX8_multiply_112 : decode cX8_multiply 112 = .ok (.iaload, 1) := by decide +kernel
theorem dX8_multiply_113 : decode cX8_multiply 113 = .ok (.i2l, 1) := by decide +kernel
theorem dX8_multiply_114 : decode cX8_multiply 114 = .ok (.ldc2_w 48, 3) := by decide +kernel
theorem dX8_multiply_117 : decode cX8_multiply 117 = .ok (.land, 1) := by decide +kernel
theorem dX8_multiply_118 : decode cX8_multiply 118 = .ok (.lmul, 1) := by decide +kernel
theorem dX8_multiply_119 : decode cX8_multiply 119 = .ok (.aload_n 0, 1) := by decide +kernel
theorem dX8_multiply_120 : decode cX8_multiply 120 = .ok (.getfield 9, 3) := by decide +kernel
theorem dX8_multiply_123 : decode cX8_multiply 123 = .ok (.iload 4, 2) := by decide +kernel
theorem dX8_multiply_125 : decode cX8_multiply 125 = .ok (.iload 9, 2) := by decide +kernel
theorem dX8_multiply_127 : decode cX8_multiply 127 = .ok (.iadd, 1) := by decide +kernel
theorem dX8_multiply_128 : decode cX8_multiply 128 = .ok (.iaload, 1) := by decide +kernel
theorem dX8_multiply_129 : decode cX8_multiply 129 = .ok (.i2l, 1) := by decide +kernel
theorem dX8_multiply_130 : decode cX8_multiply 130 = .ok (.ldc2_w 48, 3) := by decide +kernel
theorem dX8_multiply_133 : decode cX8_multiply 133 = .ok (.land, 1) := by decide +kernel
theorem dX8_multiply_134 : decode cX8_multiply 134 = .ok (.ladd, 1) := by decide +kernel
theorem dX8_multiply_135 : decode cX8_multiply 135 = .ok (.ladd, 1) := by decide +kernel
theorem dX8_multiply_136 : decode cX8_multiply 136 = .ok (.lstore 7, 2) := by decide +kernel
theorem dX8_multiply_138 : decode cX8_multiply 138 = .ok (.aload_n 0, 1) := by decide +kernel
theorem dX8_multiply_139 : decode cX8_multiply 139 = .ok (.getfield 9, 3) := by decide +kernel
theorem dX8_multiply_142 : decode cX8_multiply 142 = .ok (.iload 4, 2) := by decide +kernel
theorem dX8_multiply_144 : decode cX8_multiply 144 = .ok (.iload 9, 2) := by decide +kernel
theorem dX8_multiply_146 : decode cX8_multiply 146 = .ok (.iadd, 1) := by decide +kernel
theorem dX8_multiply_147 : decode cX8_multiply 147 = .ok (.lload 7, 2) := by decide +kernel
theorem dX8_multiply_149 : decode cX8_multiply 149 = .ok (.l2i, 1) := by decide +kernel
theorem dX8_multiply_150 : decode cX8_multiply 150 = .ok (.iastore, 1) := by decide +kernel
theorem dX8_multiply_151 : decode cX8_multiply 151 = .ok (.lload 7, 2) := by decide +kernel
theorem dX8_multiply_153 : decode cX8_multiply 153 = .ok (.bipush 32, 2) := by decide +kernel
theorem dX8_multiply_155 : decode cX8_multiply 155 = .ok (.lushr, 1) := by decide +kernel
theorem dX8_multiply_156 : decode cX8_multiply 156 = .ok (.lstore 7, 2) := by decide +kernel
theorem dX8_multiply_158 : decode cX8_multiply 158 = .ok (.iinc 9 1, 3) := by decide +kernel
theorem dX8_multiply_161 : decode cX8_multiply 161 = .ok (.goto (-77), 3) := by decide +kernel
theorem dX8_multiply_164 : decode cX8_multiply 164 = .ok (.iload 4, 2) := by decide +kernel
theorem dX8_multiply_166 : decode cX8_multiply 166 = .ok (.aload_n 2, 1) := by decide +kernel
theorem dX8_multiply_167 : decode cX8_multiply 167 = .ok (.getfield 15, 3) := by decide +kernel
theorem dX8_multiply_170 : decode cX8_multiply 170 = .ok (.iadd, 1) := by decide +kernel
theorem dX8_multiply_171 : decode cX8_multiply 171 = .ok (.iload_n 3, 1) := by decide +kernel
theorem dX8_multiply_172 : decode cX8_multiply 172 = .ok (.if_icmp .ge 18, 3) := by decide +kernel
theorem dX8_multiply_175 : decode cX8_multiply 175 = .ok (.aload_n 0, 1) := by decide +kernel
theorem dX8_multiply_176 : decode cX8_multiply 176 = .ok (.getfield 9, 3) := by decide +kernel
theorem dX8_multiply_179 : decode cX8_multiply 179 = .ok (.iload 4, 2) := by decide +kernel
theorem dX8_multiply_181 : decode cX8_multiply 181 = .ok (.aload_n 2, 1) := by decide +kernel
theorem dX8_multiply_182 : decode cX8_multiply 182 = .ok (.getfield 15, 3) := by decide +kernel
theorem dX8_multiply_185 : decode cX8_multiply 185 = .ok (.iadd, 1) := by decide +kernel
theorem dX8_multiply_186 : decode cX8_multiply 186 = .ok (.lload 7, 2) := by decide +kernel
theorem dX8_multiply_188 : decode cX8_multiply 188 = .ok (.l2i, 1) := by decide +kernel
theorem dX8_multiply_189 : decode cX8_multiply 189 = .ok (.iastore, 1) := by decide +kernel
theorem dX8_multiply_190 : decode cX8_multiply 190 = .ok (.iinc 4 1, 3) := by decide +kernel
theorem dX8_multiply_193 : decode cX8_multiply 193 = .ok (.goto (-144), 3) := by decide +kernel
theorem dX8_multiply_196 : decode cX8_multiply 196 = .ok (.aload_n 0, 1) := by decide +kernel
theorem dX8_multiply_197 : decode cX8_multiply 197 = .ok (.iload_n 3, 1) := by decide +kernel
theorem dX8_multiply_198 : decode cX8_multiply 198 = .ok (.ifCond .le 20, 3) := by decide +kernel
theorem dX8_multiply_201 : decode cX8_multiply 201 = .ok (.aload_n 0, 1) := by decide +kernel
theorem dX8_multiply_202 : decode cX8_multiply 202 = .ok (.getfield 9, 3) := by decide +kernel
theorem dX8_multiply_205 : decode cX8_multiply 205 = .ok (.iload_n 3, 1) := by decide +kernel
theorem dX8_multiply_206 : decode cX8_multiply 206 = .ok (.iconst 1, 1) := by decide +kernel
theorem dX8_multiply_207 : decode cX8_multiply 207 = .ok (.isub, 1) := by decide +kernel
theorem dX8_multiply_208 : decode cX8_multiply 208 = .ok (.iaload, 1) := by decide +kernel
theorem dX8_multiply_209 : decode cX8_multiply 209 = .ok (.ifCond .ne 9, 3) := by decide +kernel
theorem dX8_multiply_212 : decode cX8_multiply 212 = .ok (.iload_n 3, 1) := by decide +kernel
theorem dX8_multiply_213 : decode cX8_multiply 213 = .ok (.iconst 1, 1) := by decide +kernel
theorem dX8_multiply_214 : decode cX8_multiply 214 = .ok (.isub, 1) := by decide +kernel
theorem dX8_multiply_215 : decode cX8_multiply 215 = .ok (.goto 4, 3) := by decide +kernel
theorem dX8_multiply_218 : decode cX8_multiply 218 = .ok (.iload_n 3, 1) := by decide +kernel
theorem dX8_multiply_219 : decode cX8_multiply 219 = .ok (.putfield 15, 3) := by decide +kernel
theorem dX8_multiply_222 : decode cX8_multiply 222 = .ok (.aload_n 0, 1) := by decide +kernel
theorem dX8_multiply_223 : decode cX8_multiply 223 = .ok (.aload_n 0, 1) := by decide +kernel
theorem dX8_multiply_224 : decode cX8_multiply 224 = .ok (.getfield 15, 3) := by decide +kernel
theorem dX8_multiply_227 : decode cX8_multiply 227 = .ok (.ifCond .le 18, 3) := by decide +kernel
theorem dX8_multiply_230 : decode cX8_multiply 230 = .ok (.aload_n 1, 1) := by decide +kernel
theorem dX8_multiply_231 : decode cX8_multiply 231 = .ok (.getfield 19, 3) := by decide +kernel
theorem dX8_multiply_234 : decode cX8_multiply 234 = .ok (.aload_n 2, 1) := by decide +kernel
theorem dX8_multiply_235 : decode cX8_multiply 235 = .ok (.getfield 19, 3) := by decide +kernel
theorem dX8_multiply_238 : decode cX8_multiply 238 = .ok (.if_icmp .eq 7, 3) := by decide +kernel
theorem dX8_multiply_241 : decode cX8_multiply 241 = .ok (.iconst 1, 1) := by decide +kernel
theorem dX8_multiply_242 : decode cX8_multiply 242 = .ok (.goto 4, 3) := by decide +kernel
theorem dX8_multiply_245 : decode cX8_multiply 245 = .ok (.iconst 0, 1) := by decide +kernel
theorem dX8_multiply_246 : decode cX8_multiply 246 = .ok (.putfield 19, 3) := by decide +kernel
theorem dX8_multiply_249 : decode cX8_multiply 249 = .ok (.return_, 1) := by decide +kernel
theorem dX8_add_0 : decode cX8_add 0 = .ok (.aload_n 1, 1) := by decide +kernel
theorem dX8_add_1 : decode cX8_add 1 = .ok (.getfield 19, 3) := by decide +kernel
theorem dX8_add_4 : decode cX8_add 4 = .ok (.istore_n 3, 1) := by decide +kernel
theorem dX8_add_5 : decode cX8_add 5 = .ok (.aload_n 2, 1) := by decide +kernel
theorem dX8_add_6 : decode cX8_add 6 = .ok (.getfield 19, 3) := by decide +kernel
theorem dX8_add_9 : decode cX8_add 9 = .ok (.istore 4, 2) := by decide +kernel
theorem dX8_add_11 : decode cX8_add 11 = .ok (.iload_n 3, 1) := by decide +kernel
theorem dX8_add_12 : decode cX8_add 12 = .ok (.iload 4, 2) := by decide +kernel
theorem dX8_add_14 : decode cX8_add 14 = .ok (.if_icmp .ne 17, 3) := by decide +kernel
theorem dX8_add_17 : decode cX8_add 17 = .ok (.aload_n 0, 1) := by decide +kernel
theorem dX8_add_18 : decode cX8_add 18 = .ok (.aload_n 1, 1) := by decide +kernel
theorem dX8_add_19 : decode cX8_add 19 = .ok (.aload_n 2, 1) := by decide +kernel
theorem dX8_add_20 : decode cX8_add 20 = .ok (.invokevirtual 64, 3) := by decide +kernel
theorem dX8_add_23 : decode cX8_add 23 = .ok (.aload_n 0, 1) := by decide +kernel
theorem dX8_add_24 : decode cX8_add 24 = .ok (.iload_n 3, 1) := by decide +kernel
theorem dX8_add_25 : decode cX8_add 25 = .ok (.putfield 19, 3) := by decide +kernel
theorem dX8_add_28 : decode cX8_add 28 = .ok (.goto 52, 3) := by decide +kernel
theorem dX8_add_31 : decode cX8_add 31 = .ok (.aload_n 1, 1) := by decide +kernel
theorem dX8_add_32 : decode cX8_add 32 = .ok (.aload_n 2, 1) := by decide +kernel
theorem dX8_add_33 : decode cX8_add 33 = .ok (.invokevirtual 54, 3) := by decide +kernel
theorem dX8_add_36 : decode cX8_add 36 = .ok (.ifCond .lt 32, 3) := by decide +kernel
theorem dX8_add_39 : decode cX8_add 39 = .ok (.aload_n 0, 1) := by decide +kernel
theorem dX8_add_40 : decode cX8_add 40 = .ok (.aload_n 1, 1) := by decide +kernel
theorem dX8_add_41 : decode cX8_add 41 = .ok (.aload_n 2, 1) := by decide +kernel
theorem dX8_add_42 : decode cX8_add 42 = .ok (.invokevirtual 68, 3) := by decide +kernel
theorem dX8_add_45 : decode cX8_add 45 = .ok (.aload_n 0, 1) := by decide +kernel
theorem dX8_add_46 : decode cX8_add 46 = .ok (.aload_n 0, 1) := by decide +kernel
theorem dX8_add_47 : decode cX8_add 47 = .ok (.getfield 15, 3) := by decide +kernel
theorem dX8_add_50 : decode cX8_add 50 = .ok (.ifCond .le 11, 3) := by decide +kernel
theorem dX8_add_53 : decode cX8_add 53 = .ok (.iload_n 3, 1) := by decide +kernel
theorem dX8_add_54 : decode cX8_add 54 = .ok (.ifCond .eq 7, 3) := by decide +kernel
theorem dX8_add_57 : decode cX8_add 57 = .ok (.iconst 1, 1) := by decide +kernel
theorem dX8_add_58 : decode cX8_add 58 = .ok (.goto 4, 3) := by decide +kernel
theorem dX8_add_61 : decode cX8_add 61 = .ok (.iconst 0, 1) := by decide +kernel
theorem dX8_add_62 : decode cX8_add 62 = .ok (.putfield 19, 3) := by decide +kernel
theorem dX8_add_65 : decode cX8_add 65 = .ok (.goto 15, 3) := by decide +kernel
theorem dX8_add_68 : decode cX8_add 68 = .ok (.aload_n 0, 1) := by decide +kernel
theorem dX8_add_69 : decode cX8_add 69 = .ok (.aload_n 2, 1) := by decide +kernel
theorem dX8_add_70 : decode cX8_add 70 = .ok (.aload_n 1, 1) := by decide +kernel
theorem dX8_add_71 : decode cX8_add 71 = .ok (.invokevirtual 68, 3) := by decide +kernel
theorem dX8_add_74 : decode cX8_add 74 = .ok (.aload_n 0, 1) := by decide +kernel
theorem dX8_add_75 : decode cX8_add 75 = .ok (.iload 4, 2) := by decide +kernel
theorem dX8_add_77 : decode cX8_add 77 = .ok (.putfield 19, 3) := by decide +kernel
theorem dX8_add_80 : decode cX8_add 80 = .ok (.return_, 1) := by decide +kernel
theorem dX8_addSizes_0 : decode cX8_addSizes 0 = .ok (.aload_n 1, 1) := by decide +kernel
theorem dX8_addSizes_1 : decode cX8_addSizes 1 = .ok (.getfield 15, 3) := by decide +kernel
theorem dX8_addSizes_4 : decode cX8_addSizes 4 = .ok (.istore_n 3, 1) := by decide +kernel
theorem dX8_addSizes_5 : decode cX8_addSizes 5 = .ok (.aload_n 2, 1) := by decide +kernel
theorem dX8_addSizes_6 : decode cX8_addSizes 6 = .ok (.getfield 15, 3) := by decide +kernel
theorem dX8_addSizes_9 : decode cX8_addSizes 9 = .ok (.istore 4, 2) := by decide +kernel
theorem dX8_addSizes_11 : decode cX8_addSizes 11 = .ok (.aload_n 0, 1) := by decide +kernel
theorem dX8_addSizes_12 : decode cX8_addSizes 12 = .ok (.getfield 9, 3) := by decide +kernel
theorem dX8_addSizes_15 : decode cX8_addSizes 15 = .ok (.arraylength, 1) := by decide +kernel
theorem dX8_addSizes_16 : decode cX8_addSizes 16 = .ok (.iload_n 3, 1) := by decide +kernel
theorem dX8_addSizes_17 : decode cX8_addSizes 17 = .ok (.iload 4, 2) := by decide +kernel
theorem dX8_addSizes_19 : decode cX8_addSizes 19 = .ok (.invokestatic 71, 3) := by decide +kernel
theorem dX8_addSizes_22 : decode cX8_addSizes 22 = .ok (.iconst 1, 1) := by decide +kernel
theorem dX8_addSizes_23 : decode cX8_addSizes 23 = .ok (.iadd, 1) := by decide +kernel
theorem dX8_addSizes_24 : decode cX8_addSizes 24 = .ok (.invokestatic 29, 3) := by decide +kernel
theorem dX8_addSizes_27 : decode cX8_addSizes 27 = .ok (.istore 5, 2) := by decide +kernel
theorem dX8_addSizes_29 : decode cX8_addSizes 29 = .ok (.lconst 0, 1) := by decide +kernel
theorem dX8_addSizes_30 : decode cX8_addSizes 30 = .ok (.lstore 6, 2) := by decide +kernel
theorem dX8_addSizes_32 : decode cX8_addSizes 32 = .ok (.iconst 0, 1) := by decide +kernel
theorem dX8_addSizes_33 : decode cX8_addSizes 33 = .ok (.istore 8, 2) := by decide +kernel
theorem dX8_addSizes_35 : decode cX8_addSizes 35 = .ok (.iload 8, 2) := by decide +kernel
theorem dX8_addSizes_37 : decode cX8_addSizes 37 = .ok (.iload 5, 2) := by decide +kernel
theorem dX8_addSizes_39 : decode cX8_addSizes 39 = .ok (.if_icmp .ge 77, 3) := by decide +kernel
theorem dX8_addSizes_42 : decode cX8_addSizes 42 = .ok (.lload 6, 2) := by decide +kernel
theorem dX8_addSizes_44 : decode cX8_addSizes 44 = .ok (.iload 8, 2) := by decide +kernel
theorem dX8_addSizes_46 : decode cX8_addSizes 46 = .ok (.iload_n 3, 1) := by decide +kernel
theorem dX8_addSizes_47 : decode cX8_addSizes 47 = .ok (.if_icmp .ge 18, 3) := by decide +kernel
theorem dX8_addSizes_50 : decode cX8_addSizes 50 = .ok (.aload_n 1, 1) := by decide +kernel
theorem dX8_addSizes_51 : decode cX8_addSizes 51 = .ok (.getfield 9, 3) := by decide +kernel
theorem dX8_addSizes_54 : decode cX8_addSizes 54 = .ok (.iload 8, 2) := by decide +kernel
theorem dX8_addSizes_56 : decode cX8_addSizes 56 = .ok (.iaload, 1) := by decide +kernel
theorem dX8_addSizes_57 : decode cX8_addSizes 57 = .ok (.i2l, 1) := by decide +kernel
theorem dX8_addSizes_58 : decode cX8_addSizes 58 = .ok (.ldc2_w 48, 3) := by decide +kernel
theorem dX8_addSizes_61 : decode cX8_addSizes 61 = .ok (.land, 1) := by decide +kernel
theorem dX8_addSizes_62 : decode cX8_addSizes 62 = .ok (.goto 4, 3) := by decide +kernel
theorem dX8_addSizes_65 : decode cX8_addSizes 65 = .ok (.lconst 0, 1) := by decide +kernel
theorem dX8_addSizes_66 : decode cX8_addSizes 66 = .ok (.iload 8, 2) := by decide +kernel
theorem dX8_addSizes_68 : decode cX8_addSizes 68 = .ok (.iload 4, 2) := by decide +kernel
theorem dX8_addSizes_70 : decode cX8_addSizes 70 = .ok (.if_icmp .ge 18, 3) := by decide +kernel
theorem dX8_addSizes_73 : decode cX8_addSizes 73 = .ok (.aload_n 2, 1) := by decide +kernel
theorem dX8_addSizes_74 : decode cX8_addSizes 74 = .ok (.getfield 9, 3) := by decide +kernel
theorem dX8_addSizes_77 : decode cX8_addSizes 77 = .ok (.iload 8, 2) := by decide +kernel
theorem dX8_addSizes_79 : decode cX8_addSizes 79 = .ok (.iaload, 1) := by decide +kernel
theorem dX8_addSizes_80 : decode cX8_addSizes 80 = .ok (.i2l, 1) := by decide +kernel
theorem dX8_addSizes_81 : decode cX8_addSizes 81 = .ok (.ldc2_w 48, 3) := by decide +kernel
theorem dX8_addSizes_84 : decode cX8_addSizes 84 = .ok (.land, 1) := by decide +kernel
theorem dX8_addSizes_85 : decode cX8_addSizes 85 = .ok (.goto 4, 3) := by decide +kernel
theorem dX8_addSizes_88 : decode cX8_addSizes 88 = .ok (.lconst 0, 1) := by decide +kernel
theorem dX8_addSizes_89 : decode cX8_addSizes 89 = .ok (.ladd, 1) := by decide +kernel
theorem dX8_addSizes_90 : decode cX8_addSizes 90 = .ok (.ladd, 1) := by decide +kernel
theorem dX8_addSizes_91 : decode cX8_addSizes 91 = .ok (.lstore 6, 2) := by decide +kernel
theorem dX8_addSizes_93 : decode cX8_addSizes 93 = .ok (.aload_n 0, 1) := by decide +kernel
theorem dX8_addSizes_94 : decode cX8_addSizes 94 = .ok (.getfield 9, 3) := by decide +kernel
theorem dX8_addSizes_97 : decode cX8_addSizes 97 = .ok (.iload 8, 2) := by decide +kernel
theorem dX8_addSizes_99 : decode cX8_addSizes 99 = .ok (.lload 6, 2) := by decide +kernel
theorem dX8_addSizes_101 : decode cX8_addSizes 101 = .ok (.l2i, 1) := by decide +kernel
theorem dX8_addSizes_102 : decode cX8_addSizes 102 = .ok (.iastore, 1) := by decide +kernel
theorem dX8_addSizes_103 : decode cX8_addSizes 103 = .ok (.lload 6, 2) := by decide +kernel
theorem dX8_addSizes_105 : decode cX8_addSizes 105 = .ok (.bipush 32, 2) := by decide +kernel
theorem dX8_addSizes_107 : decode cX8_addSizes 107 = .ok (.lushr, 1) := by decide +kernel
theorem dX8_addSizes_108 : decode cX8_addSizes 108 = .ok (.lstore 6, 2) := by decide +kernel
theorem dX8_addSizes_110 : decode cX8_addSizes 110 = .ok (.iinc 8 1, 3) := by decide +kernel
theorem dX8_addSizes_113 : decode cX8_addSizes 113 = .ok (.goto (-78), 3) := by decide +kernel
theorem dX8_addSizes_116 : decode cX8_addSizes 116 = .ok (.aload_n 0, 1) := by decide +kernel
theorem dX8_addSizes_117 : decode cX8_addSizes 117 = .ok (.iload 5, 2) := by decide +kernel
theorem dX8_addSizes_119 : decode cX8_addSizes 119 = .ok (.ifCond .le 22, 3) := by decide +kernel
theorem dX8_addSizes_122 : decode cX8_addSizes 122 = .ok (.aload_n 0, 1) := by decide +kernel
theorem dX8_addSizes_123 : decode cX8_addSizes 123 = .ok (.getfield 9, 3) := by decide +kernel
theorem dX8_addSizes_126 : decode cX8_addSizes 126 = .ok (.iload 5, 2) := by decide +kernel
theorem dX8_addSizes_128 : decode cX8_addSizes 128 = .ok (.iconst 1, 1) := by decide +kernel
theorem dX8_addSizes_129 : decode cX8_addSizes 129 = .ok (.isub, 1) := by decide +kernel
theorem dX8_addSizes_130 : decode cX8_addSizes 130 = .ok (.iaload, 1) := by decide +kernel
theorem dX8_addSizes_131 : decode cX8_addSizes 131 = .ok (.ifCond .ne 10, 3) := by decide +kernel
theorem dX8_addSizes_134 : decode cX8_addSizes 134 = .ok (.iload 5, 2) := by decide +kernel
theorem dX8_addSizes_136 : decode cX8_addSizes 136 = .ok (.iconst 1, 1) := by decide +kernel
theorem dX8_addSizes_137 : decode cX8_addSizes 137 = .ok (.isub, 1) := by decide +kernel
theorem dX8_addSizes_138 : decode cX8_addSizes 138 = .ok (.goto 5, 3) := by decide +kernel
theorem dX8_addSizes_141 : decode cX8_addSizes 141 = .ok (.iload 5, 2) := by decide +kernel
theorem dX8_addSizes_143 : decode cX8_addSizes 143 = .ok (.putfield 15, 3) := by decide +kernel
theorem dX8_addSizes_146 : decode cX8_addSizes 146 = .ok (.return_, 1) := by decide +kernel
theorem dJ6_numberOfLeadingZeros_0f7a4_0 : decode cJ6_numberOfLeadingZeros_0f7a4 0 = .ok (.iload_n 0, 1) := by decide +kernel
theorem dJ6_numberOfLeadingZeros_0f7a4_1 : decode cJ6_numberOfLeadingZeros_0f7a4 1 = .ok (.ifCond .gt 14, 3) := by decide +kernel
theorem dJ6_numberOfLeadingZeros_0f7a4_4 : decode cJ6_numberOfLeadingZeros_0f7a4 4 = .ok (.iload_n 0, 1) := by decide +kernel
theorem dJ6_numberOfLeadingZeros_0f7a4_5 : decode cJ6_numberOfLeadingZeros_0f7a4 5 = .ok (.ifCond .ne 8, 3) := by decide +kernel
theorem dJ6_numberOfLeadingZeros_0f7a4_8 : decode cJ6_numberOfLeadingZeros_0f7a4 8 = .ok (.bipush 32, 2) := by decide +kernel
theorem dJ6_numberOfLeadingZeros_0f7a4_10 : decode cJ6_numberOfLeadingZeros_0f7a4 10 = .ok (.goto 4, 3) := by decide +kernel
theorem dJ6_numberOfLeadingZeros_0f7a4_13 : decode cJ6_numberOfLeadingZeros_0f7a4 13 = .ok (.iconst 0, 1) := by decide +kernel
theorem dJ6_numberOfLeadingZeros_0f7a4_14 : decode cJ6_numberOfLeadingZeros_0f7a4 14 = .ok (.ireturn, 1) := by decide +kernel
theorem dJ6_numberOfLeadingZeros_0f7a4_15 : decode cJ6_numberOfLeadingZeros_0f7a4 15 = .ok (.bipush 31, 2) := by decide +kernel
theorem dJ6_numberOfLeadingZeros_0f7a4_17 : decode cJ6_numberOfLeadingZeros_0f7a4 17 = .ok (.istore_n 1, 1) := by decide +kernel
theorem dJ6_numberOfLeadingZeros_0f7a4_18 : decode cJ6_numberOfLeadingZeros_0f7a4 18 = .ok (.iload_n 0, 1) := by decide +kernel
theorem dJ6_numberOfLeadingZeros_0f7a4_19 : decode cJ6_numberOfLeadingZeros_0f7a4 19 = .ok (.ldc_w 264, 3) := by decide +kernel
theorem dJ6_numberOfLeadingZeros_0f7a4_22 : decode cJ6_numberOfLeadingZeros_0f7a4 22 = .ok (.if_icmp .lt 11, 3) := by decide +kernel
theorem dJ6_numberOfLeadingZeros_0f7a4_25 : decode cJ6_numberOfLeadingZeros_0f7a4 25 = .ok (.iinc 1 (-16), 3) := by decide +kernel
theorem dJ6_numberOfLeadingZeros_0f7a4_28 : decode cJ6_numberOfLeadingZeros_0f7a4 28 = .ok (.iload_n 0, 1) := by decide +kernel
theorem dJ6_numberOfLeadingZeros_0f7a4_29 : decode cJ6_numberOfLeadingZeros_0f7a4 29 = .ok (.bipush 16, 2) := by decide +kernel
theorem dJ6_numberOfLeadingZeros_0f7a4_31 : decode cJ6_numberOfLeadingZeros_0f7a4 31 = .ok (.iushr, 1) := by decide +kernel
theorem dJ6_numberOfLeadingZeros_0f7a4_32 : decode cJ6_numberOfLeadingZeros_0f7a4 32 = .ok (.istore_n 0, 1) := by decide +kernel
theorem dJ6_numberOfLeadingZeros_0f7a4_33 : decode cJ6_numberOfLeadingZeros_0f7a4 33 = .ok (.iload_n 0, 1) := by decide +kernel
theorem dJ6_numberOfLeadingZeros_0f7a4_34 : decode cJ6_numberOfLeadingZeros_0f7a4 34 = .ok (.sipush 256, 3) := by decide +kernel
theorem dJ6_numberOfLeadingZeros_0f7a4_37 : decode cJ6_numberOfLeadingZeros_0f7a4 37 = .ok (.if_icmp .lt 11, 3) := by decide +kernel
theorem dJ6_numberOfLeadingZeros_0f7a4_40 : decode cJ6_numberOfLeadingZeros_0f7a4 40 = .ok (.iinc 1 (-8), 3) := by decide +kernel
theorem dJ6_numberOfLeadingZeros_0f7a4_43 : decode cJ6_numberOfLeadingZeros_0f7a4 43 = .ok (.iload_n 0, 1) := by decide +kernel
theorem dJ6_numberOfLeadingZeros_0f7a4_44 : decode cJ6_numberOfLeadingZeros_0f7a4 44 = .ok (.bipush 8, 2) := by decide +kernel
theorem dJ6_numberOfLeadingZeros_0f7a4_46 : decode cJ6_numberOfLeadingZeros_0f7a4 46 = .ok (.iushr, 1) := by decide +kernel
theorem dJ6_numberOfLeadingZeros_0f7a4_47 : decode cJ6_numberOfLeadingZeros_0f7a4 47 = .ok (.istore_n 0, 1) := by decide +kernel
theorem dJ6_numberOfLeadingZeros_0f7a4_48 : decode cJ6_numberOfLeadingZeros_0f7a4 48 = .ok (.iload_n 0, 1) := by decide +kernel
theorem dJ6_numberOfLeadingZeros_0f7a4_49 : decode cJ6_numberOfLeadingZeros_0f7a4 49 = .ok (.bipush 16, 2) := by decide +kernel
theorem dJ6_numberOfLeadingZeros_0f7a4_51 : decode cJ6_numberOfLeadingZeros_0f7a4 51 = .ok (.if_icmp .lt 10, 3) := by decide +kernel
theorem dJ6_numberOfLeadingZeros_0f7a4_54 : decode cJ6_numberOfLeadingZeros_0f7a4 54 = .ok (.iinc 1 (-4), 3) := by decide +kernel
theorem dJ6_numberOfLeadingZeros_0f7a4_57 : decode cJ6_numberOfLeadingZeros_0f7a4 57 = .ok (.iload_n 0, 1) := by decide +kernel
theorem dJ6_numberOfLeadingZeros_0f7a4_58 : decode cJ6_numberOfLeadingZeros_0f7a4 58 = .ok (.iconst 4, 1) := by decide +kernel
theorem dJ6_numberOfLeadingZeros_0f7a4_59 : decode cJ6_numberOfLeadingZeros_0f7a4 59 = .ok (.iushr, 1) := by decide +kernel
theorem dJ6_numberOfLeadingZeros_0f7a4_60 : decode cJ6_numberOfLeadingZeros_0f7a4 60 = .ok (.istore_n 0, 1) := by decide +kernel
theorem dJ6_numberOfLeadingZeros_0f7a4_61 : decode cJ6_numberOfLeadingZeros_0f7a4 61 = .ok (.iload_n 0, 1) := by decide +kernel
theorem dJ6_numberOfLeadingZeros_0f7a4_62 : decode cJ6_numberOfLeadingZeros_0f7a4 62 = .ok (.iconst 4, 1) := by decide +kernel
theorem dJ6_numberOfLeadingZeros_0f7a4_63 : decode cJ6_numberOfLeadingZeros_0f7a4 63 = .ok (.if_icmp .lt 10, 3) := by decide +kernel
theorem dJ6_numberOfLeadingZeros_0f7a4_66 : decode cJ6_numberOfLeadingZeros_0f7a4 66 = .ok (.iinc 1 (-2), 3) := by decide +kernel
theorem dJ6_numberOfLeadingZeros_0f7a4_69 : decode cJ6_numberOfLeadingZeros_0f7a4 69 = .ok (.iload_n 0, 1) := by decide +kernel
theorem dJ6_numberOfLeadingZeros_0f7a4_70 : decode cJ6_numberOfLeadingZeros_0f7a4 70 = .ok (.iconst 2, 1) := by decide +kernel
theorem dJ6_numberOfLeadingZeros_0f7a4_71 : decode cJ6_numberOfLeadingZeros_0f7a4 71 = .ok (.iushr, 1) := by decide +kernel
theorem dJ6_numberOfLeadingZeros_0f7a4_72 : decode cJ6_numberOfLeadingZeros_0f7a4 72 = .ok (.istore_n 0, 1) := by decide +kernel
theorem dJ6_numberOfLeadingZeros_0f7a4_73 : decode cJ6_numberOfLeadingZeros_0f7a4 73 = .ok (.iload_n 1, 1) := by decide +kernel
theorem dJ6_numberOfLeadingZeros_0f7a4_74 : decode cJ6_numberOfLeadingZeros_0f7a4 74 = .ok (.iload_n 0, 1) := by decide +kernel
theorem dJ6_numberOfLeadingZeros_0f7a4_75 : decode cJ6_numberOfLeadingZeros_0f7a4 75 = .ok (.iconst 1, 1) := by decide +kernel
theorem dJ6_numberOfLeadingZeros_0f7a4_76 : decode cJ6_numberOfLeadingZeros_0f7a4 76 = .ok (.iushr, 1) := by decide +kernel
theorem dJ6_numberOfLeadingZeros_0f7a4_77 : decode cJ6_numberOfLeadingZeros_0f7a4 77 = .ok (.isub, 1) := by decide +kernel
theorem dJ6_numberOfLeadingZeros_0f7a4_78 : decode cJ6_numberOfLeadingZeros_0f7a4 78 = .ok (.ireturn, 1) := by decide +kernel
theorem dJ7_rangeCheck_23922_0 : decode cJ7_rangeCheck_23922 0 = .ok (.iload_n 1, 1) := by decide +kernel
theorem dJ7_rangeCheck_23922_1 : decode cJ7_rangeCheck_23922 1 = .ok (.iload_n 2, 1) := by decide +kernel
theorem dJ7_rangeCheck_23922_2 : decode cJ7_rangeCheck_23922 2 = .ok (.if_icmp .le 44, 3) := by decide +kernel
theorem dJ7_rangeCheck_23922_5 : decode cJ7_rangeCheck_23922 5 = .ok (.new 43, 3) := by decide +kernel
theorem dJ7_rangeCheck_23922_8 : decode cJ7_rangeCheck_23922 8 = .ok (.dup, 1) := by decide +kernel
theorem dJ7_rangeCheck_23922_9 : decode cJ7_rangeCheck_23922 9 = .ok (.new 45, 3) := by decide +kernel
theorem dJ7_rangeCheck_23922_12 : decode cJ7_rangeCheck_23922 12 = .ok (.dup, 1) := by decide +kernel
theorem dJ7_rangeCheck_23922_13 : decode cJ7_rangeCheck_23922 13 = .ok (.invokespecial 47, 3) := by decide +kernel
theorem dJ7_rangeCheck_23922_16 : decode cJ7_rangeCheck_23922 16 = .ok (.ldc 48, 2) := by decide +kernel
theorem dJ7_rangeCheck_23922_18 : decode cJ7_rangeCheck_23922 18 = .ok (.invokevirtual 50, 3) := by decide +kernel
theorem dJ7_rangeCheck_23922_21 : decode cJ7_rangeCheck_23922 21 = .ok (.iload_n 1, 1) := by decide +kernel
theorem dJ7_rangeCheck_23922_22 : decode cJ7_rangeCheck_23922 22 = .ok (.invokevirtual 54, 3) := by decide +kernel
theorem dJ7_rangeCheck_23922_25 : decode cJ7_rangeCheck_23922 25 = .ok (.ldc 57, 2) := by decide +kernel
theorem dJ7_rangeCheck_23922_27 : decode cJ7_rangeCheck_23922 27 = .ok (.invokevirtual 50, 3) := by decide +kernel
theorem dJ7_rangeCheck_23922_30 : decode cJ7_rangeCheck_23922 30 = .ok (.iload_n 2, 1) := by decide +kernel
theorem dJ7_rangeCheck_23922_31 : decode cJ7_rangeCheck_23922 31 = .ok (.invokevirtual 54, 3) := by decide +kernel
theorem dJ7_rangeCheck_23922_34 : decode cJ7_rangeCheck_23922 34 = .ok (.ldc 59, 2) := by decide +kernel
theorem dJ7_rangeCheck_23922_36 : decode cJ7_rangeCheck_23922 36 = .ok (.invokevirtual 50, 3) := by decide +kernel
theorem dJ7_rangeCheck_23922_39 : decode cJ7_rangeCheck_23922 39 = .ok (.invokevirtual 61, 3) := by decide +kernel
theorem dJ7_rangeCheck_23922_42 : decode cJ7_rangeCheck_23922 42 = .ok (.invokespecial 65, 3) := by decide +kernel
theorem dJ7_rangeCheck_23922_45 : decode cJ7_rangeCheck_23922 45 = .ok (.athrow, 1) := by decide +kernel
theorem dJ7_rangeCheck_23922_46 : decode cJ7_rangeCheck_23922 46 = .ok (.iload_n 1, 1) := by decide +kernel
theorem dJ7_rangeCheck_23922_47 : decode cJ7_rangeCheck_23922 47 = .ok (.ifCond .ge 12, 3) := by decide +kernel
theorem dJ7_rangeCheck_23922_50 : decode cJ7_rangeCheck_23922 50 = .ok (.new 68, 3) := by decide +kernel
theorem dJ7_rangeCheck_23922_53 : decode cJ7_rangeCheck_23922 53 = .ok (.dup, 1) := by decide +kernel
theorem dJ7_rangeCheck_23922_54 : decode cJ7_rangeCheck_23922 54 = .ok (.iload_n 1, 1) := by decide +kernel
theorem dJ7_rangeCheck_23922_55 : decode cJ7_rangeCheck_23922 55 = .ok (.invokespecial 70, 3) := by decide +kernel
theorem dJ7_rangeCheck_23922_58 : decode cJ7_rangeCheck_23922 58 = .ok (.athrow, 1) := by decide +kernel
theorem dJ7_rangeCheck_23922_59 : decode cJ7_rangeCheck_23922 59 = .ok (.iload_n 2, 1) := by decide +kernel
theorem dJ7_rangeCheck_23922_60 : decode cJ7_rangeCheck_23922 60 = .ok (.iload_n 0, 1) := by decide +kernel
theorem dJ7_rangeCheck_23922_61 : decode cJ7_rangeCheck_23922 61 = .ok (.if_icmp .le 12, 3) := by decide +kernel
theorem dJ7_rangeCheck_23922_64 : decode cJ7_rangeCheck_23922 64 = .ok (.new 68, 3) := by decide +kernel
theorem dJ7_rangeCheck_23922_67 : decode cJ7_rangeCheck_23922 67 = .ok (.dup, 1) := by decide +kernel
theorem dJ7_rangeCheck_23922_68 : decode cJ7_rangeCheck_23922 68 = .ok (.iload_n 2, 1) := by decide +kernel
theorem dJ7_rangeCheck_23922_69 : decode cJ7_rangeCheck_23922 69 = .ok (.invokespecial 70, 3) := by decide +kernel
theorem dJ7_rangeCheck_23922_72 : decode cJ7_rangeCheck_23922 72 = .ok (.athrow, 1) := by decide +kernel
theorem dJ7_rangeCheck_23922_73 : decode cJ7_rangeCheck_23922 73 = .ok (.return_, 1) := by decide +kernel
theorem dJ7_fill_53178_0 : decode cJ7_fill_53178 0 = .ok (.iconst 0, 1) := by decide +kernel
theorem dJ7_fill_53178_1 : decode cJ7_fill_53178 1 = .ok (.istore_n 2, 1) := by decide +kernel
theorem dJ7_fill_53178_2 : decode cJ7_fill_53178 2 = .ok (.aload_n 0, 1) := by decide +kernel
theorem dJ7_fill_53178_3 : decode cJ7_fill_53178 3 = .ok (.arraylength, 1) := by decide +kernel
theorem dJ7_fill_53178_4 : decode cJ7_fill_53178 4 = .ok (.istore_n 3, 1) := by decide +kernel
theorem dJ7_fill_53178_5 : decode cJ7_fill_53178 5 = .ok (.iload_n 2, 1) := by decide +kernel
theorem dJ7_fill_53178_6 : decode cJ7_fill_53178 6 = .ok (.iload_n 3, 1) := by decide +kernel
theorem dJ7_fill_53178_7 : decode cJ7_fill_53178 7 = .ok (.if_icmp .ge 13, 3) := by decide +kernel
theorem dJ7_fill_53178_10 : decode cJ7_fill_53178 10 = .ok (.aload_n 0, 1) := by decide +kernel
theorem dJ7_fill_53178_11 : decode cJ7_fill_53178 11 = .ok (.iload_n 2, 1) := by decide +kernel
theorem dJ7_fill_53178_12 : decode cJ7_fill_53178 12 = .ok (.iload_n 1, 1) := by decide +kernel
theorem dJ7_fill_53178_13 : decode cJ7_fill_53178 13 = .ok (.iastore, 1) := by decide +kernel
theorem dJ7_fill_53178_14 : decode cJ7_fill_53178 14 = .ok (.iinc 2 1, 3) := by decide +kernel
theorem dJ7_fill_53178_17 : decode cJ7_fill_53178 17 = .ok (.goto (-12), 3) := by decide +kernel
theorem dJ7_fill_53178_20 : decode cJ7_fill_53178 20 = .ok (.return_, 1) := by decide +kernel
theorem dJ7_fill_fda19_0 : decode cJ7_fill_fda19 0 = .ok (.aload_n 0, 1) := by decide +kernel
theorem dJ7_fill_fda19_1 : decode cJ7_fill_fda19 1 = .ok (.arraylength, 1) := by decide +kernel
theorem dJ7_fill_fda19_2 : decode cJ7_fill_fda19 2 = .ok (.iload_n 1, 1) := by decide +kernel
theorem dJ7_fill_fda19_3 : decode cJ7_fill_fda19 3 = .ok (.iload_n 2, 1) := by decide +kernel
theorem dJ7_fill_fda19_4 : decode cJ7_fill_fda19 4 = .ok (.invokestatic 13, 3) := by decide +kernel
theorem dJ7_fill_fda19_7 : decode cJ7_fill_fda19 7 = .ok (.iload_n 1, 1) := by decide +kernel
theorem dJ7_fill_fda19_8 : decode cJ7_fill_fda19 8 = .ok (.istore 4, 2) := by decide +kernel
theorem dJ7_fill_fda19_10 : decode cJ7_fill_fda19 10 = .ok (.iload 4, 2) := by decide +kernel
theorem dJ7_fill_fda19_12 : decode cJ7_fill_fda19 12 = .ok (.iload_n 2, 1) := by decide +kernel
theorem dJ7_fill_fda19_13 : decode cJ7_fill_fda19 13 = .ok (.if_icmp .ge 14, 3) := by decide +kernel
theorem dJ7_fill_fda19_16 : decode cJ7_fill_fda19 16 = .ok (.aload_n 0, 1) := by decide +kernel
theorem dJ7_fill_fda19_17 : decode cJ7_fill_fda19 17 = .ok (.iload 4, 2) := by decide +kernel
theorem dJ7_fill_fda19_19 : decode cJ7_fill_fda19 19 = .ok (.iload_n 3, 1) := by decide +kernel
theorem dJ7_fill_fda19_20 : decode cJ7_fill_fda19 20 = .ok (.iastore, 1) := by decide +kernel
theorem dJ7_fill_fda19_21 : decode cJ7_fill_fda19 21 = .ok (.iinc 4 1, 3) := by decide +kernel
theorem dJ7_fill_fda19_24 : decode cJ7_fill_fda19 24 = .ok (.goto (-14), 3) := by decide +kernel
theorem dJ7_fill_fda19_27 : decode cJ7_fill_fda19 27 = .ok (.return_, 1) := by decide +kernel
