theorem dX0_init_0 : decode cX0_init 0 = .ok (.aload_n 0, 1) := by decide +kernel
theorem dX0_init_1 : decode cX0_init 1 = .ok (.invokespecial 3, 3) := by decide +kernel
theorem dX0_init_4 : decode cX0_init 4 = .ok (.aload_n 0, 1) := by decide +kernel
theorem dX0_init_5 : decode cX0_init 5 = .ok (.new 9, 3) := by decide +kernel
theorem dX0_init_8 : decode cX0_init 8 = .ok (.dup, 1) := by decide +kernel
theorem dX0_init_9 : decode cX0_init 9 = .ok (.sipush 128, 3) := by decide +kernel
theorem dX0_init_12 : decode cX0_init 12 = .ok (.invokespecial 11, 3) := by decide +kernel
theorem dX0_init_15 : decode cX0_init 15 = .ok (.putfield 14, 3) := by decide +kernel
theorem dX0_init_18 : decode cX0_init 18 = .ok (.aload_n 0, 1) := by decide +kernel
theorem dX0_init_19 : decode cX0_init 19 = .ok (.new 9, 3) := by decide +kernel
theorem dX0_init_22 : decode cX0_init 22 = .ok (.dup, 1) := by decide +kernel
theorem dX0_init_23 : decode cX0_init 23 = .ok (.sipush 128, 3) := by decide +kernel
theorem dX0_init_26 : decode cX0_init 26 = .ok (.invokespecial 11, 3) := by decide +kernel
theorem dX0_init_29 : decode cX0_init 29 = .ok (.putfield 20, 3) := by decide +kernel
theorem dX0_init_32 : decode cX0_init 32 = .ok (.aload_n 0, 1) := by decide +kernel
theorem dX0_init_33 : decode cX0_init 33 = .ok (.new 9, 3) := by decide +kernel
theorem dX0_init_36 : decode cX0_init 36 = .ok (.dup, 1) := by decide +kernel
theorem dX0_init_37 : decode cX0_init 37 = .ok (.bipush 64, 2) := by decide +kernel
theorem dX0_init_39 : decode cX0_init 39 = .ok (.invokespecial 11, 3) := by decide +kernel
theorem dX0_init_42 : decode cX0_init 42 = .ok (.putfield 23, 3) := by decide +kernel
theorem dX0_init_45 : decode cX0_init 45 = .ok (.aload_n 0, 1) := by decide +kernel
theorem dX0_init_46 : decode cX0_init 46 = .ok (.new 9, 3) := by decide +kernel
theorem dX0_init_49 : decode cX0_init 49 = .ok (.dup, 1) := by decide +kernel
theorem dX0_init_50 : decode cX0_init 50 = .ok (.bipush 64, 2) := by decide +kernel
theorem dX0_init_52 : decode cX0_init 52 = .ok (.invokespecial 11, 3) := by decide +kernel
theorem dX0_init_55 : decode cX0_init 55 = .ok (.putfield 26, 3) := by decide +kernel
theorem dX0_init_58 : decode cX0_init 58 = .ok (.return_, 1) := by decide +kernel
theorem dX0_add_0 : decode cX0_add 0 = .ok (.aload_n 0, 1) := by decide +kernel
theorem dX0_add_1 : decode cX0_add 1 = .ok (.getfield 14, 3) := by decide +kernel
theorem dX0_add_4 : decode cX0_add 4 = .ok (.aload_n 1, 1) := by decide +kernel
theorem dX0_add_5 : decode cX0_add 5 = .ok (.getfield 29, 3) := by decide +kernel
theorem dX0_add_8 : decode cX0_add 8 = .ok (.aload_n 2, 1) := by decide +kernel
theorem dX0_add_9 : decode cX0_add 9 = .ok (.getfield 34, 3) := by decide +kernel
theorem dX0_add_12 : decode cX0_add 12 = .ok (.invokevirtual 37, 3) := by decide +kernel
theorem dX0_add_15 : decode cX0_add 15 = .ok (.aload_n 0, 1) := by decide +kernel
theorem dX0_add_16 : decode cX0_add 16 = .ok (.getfield 20, 3) := by decide +kernel
theorem dX0_add_19 : decode cX0_add 19 = .ok (.aload_n 2, 1) := by decide +kernel
theorem dX0_add_20 : decode cX0_add 20 = .ok (.getfield 29, 3) := by decide +kernel
theorem dX0_add_23 : decode cX0_add 23 = .ok (.aload_n 1, 1) := by decide +kernel
theorem dX0_add_24 : decode cX0_add 24 = .ok (.getfield 34, 3) := by decide +kernel
theorem dX0_add_27 : decode cX0_add 27 = .ok (.invokevirtual 37, 3) := by decide +kernel
theorem dX0_add_30 : decode cX0_add 30 = .ok (.iload_n 3, 1) := by decide +kernel
theorem dX0_add_31 : decode cX0_add 31 = .ok (.ifCond .eq 10, 3) := by decide +kernel
theorem dX0_add_34 : decode cX0_add 34 = .ok (.aload_n 0, 1) := by decide +kernel
theorem dX0_add_35 : decode cX0_add 35 = .ok (.getfield 20, 3) := by decide +kernel
theorem dX0_add_38 : decode cX0_add 38 = .ok (.invokevirtual 41, 3) := by decide +kernel
theorem dX0_add_41 : decode cX0_add 41 = .ok (.aload 4, 2) := by decide +kernel
theorem dX0_add_43 : decode cX0_add 43 = .ok (.getfield 29, 3) := by decide +kernel
theorem dX0_add_46 : decode cX0_add 46 = .ok (.aload_n 0, 1) := by decide +kernel
theorem dX0_add_47 : decode cX0_add 47 = .ok (.getfield 14, 3) := by decide +kernel
theorem dX0_add_50 : decode cX0_add 50 = .ok (.aload_n 0, 1) := by decide +kernel
theorem dX0_add_51 : decode cX0_add 51 = .ok (.getfield 20, 3) := by decide +kernel
theorem dX0_add_54 : decode cX0_add 54 = .ok (.invokevirtual 44, 3) := by decide +kernel
theorem dX0_add_57 : decode cX0_add 57 = .ok (.aload 4, 2) := by decide +kernel
theorem dX0_add_59 : decode cX0_add 59 = .ok (.getfield 34, 3) := by decide +kernel
theorem dX0_add_62 : decode cX0_add 62 = .ok (.aload_n 1, 1) := by decide +kernel
theorem dX0_add_63 : decode cX0_add 63 = .ok (.getfield 34, 3) := by decide +kernel
theorem dX0_add_66 : decode cX0_add 66 = .ok (.aload_n 2, 1) := by decide +kernel
theorem dX0_add_67 : decode cX0_add 67 = .ok (.getfield 34, 3) := by decide +kernel
theorem dX0_add_70 : decode cX0_add 70 = .ok (.invokevirtual 37, 3) := by decide +kernel
theorem dX0_add_73 : decode cX0_add 73 = .ok (.return_, 1) := by decide +kernel
theorem dX0_multiply_0 : decode cX0_multiply 0 = .ok (.aload_n 3, 1) := by decide +kernel
theorem dX0_multiply_1 : decode cX0_multiply 1 = .ok (.getfield 29, 3) := by decide +kernel
theorem dX0_multiply_4 : decode cX0_multiply 4 = .ok (.aload_n 1, 1) := by decide +kernel
theorem dX0_multiply_5 : decode cX0_multiply 5 = .ok (.getfield 29, 3) := by decide +kernel
theorem dX0_multiply_8 : decode cX0_multiply 8 = .ok (.aload_n 2, 1) := by decide +kernel
theorem dX0_multiply_9 : decode cX0_multiply 9 = .ok (.getfield 29, 3) := by decide +kernel
theorem dX0_multiply_12 : decode cX0_multiply 12 = .ok (.invokevirtual 37, 3) := by decide +kernel
theorem dX0_multiply_15 : decode cX0_multiply 15 = .ok (.aload_n 3, 1) := by decide +kernel
theorem dX0_multiply_16 : decode cX0_multiply 16 = .ok (.getfield 34, 3) := by decide +kernel
theorem dX0_multiply_19 : decode cX0_multiply 19 = .ok (.aload_n 1, 1) := by decide +kernel
theorem dX0_multiply_20 : decode cX0_multiply 20 = .ok (.getfield 34, 3) := by decide +kernel
theorem dX0_multiply_23 : decode cX0_multiply 23 = .ok (.aload_n 2, 1) := by decide +kernel
theorem dX0_multiply_24 : decode cX0_multiply 24 = .ok (.getfield 34, 3) := by decide +kernel
theorem dX0_multiply_27 : decode cX0_multiply 27 = .ok (.invokevirtual 37, 3) := by decide +kernel
theorem dX0_multiply_30 : decode cX0_multiply 30 = .ok (.return_, 1) := by decide +kernel
theorem dX0_order_0 : decode cX0_order 0 = .ok (.aload_n 0, 1) := by decide +kernel
theorem dX0_order_1 : decode cX0_order 1 = .ok (.getfield 14, 3) := by decide +kernel
theorem dX0_order_4 : decode cX0_order 4 = .ok (.aload_n 1, 1) := by decide +kernel
theorem dX0_order_5 : decode cX0_order 5 = .ok (.getfield 29, 3) := by decide +kernel
theorem dX0_order_8 : decode cX0_order 8 = .ok (.aload_n 2, 1) := by decide +kernel
theorem dX0_order_9 : decode cX0_order 9 = .ok (.getfield 34, 3) := by decide +kernel
theorem dX0_order_12 : decode cX0_order 12 = .ok (.invokevirtual 37, 3) := by decide +kernel
theorem dX0_order_15 : decode cX0_order 15 = .ok (.aload_n 0, 1) := by decide +kernel
theorem dX0_order_16 : decode cX0_order 16 = .ok (.getfield 20, 3) := by decide +kernel
theorem dX0_order_19 : decode cX0_order 19 = .ok (.aload_n 2, 1) := by decide +kernel
theorem dX0_order_20 : decode cX0_order 20 = .ok (.getfield 29, 3) := by decide +kernel
theorem dX0_order_23 : decode cX0_order 23 = .ok (.aload_n 1, 1) := by decide +kernel
theorem dX0_order_24 : decode cX0_order 24 = .ok (.getfield 34, 3) := by decide +kernel
theorem dX0_order_27 : decode cX0_order 27 = .ok (.invokevirtual 37, 3) := by decide +kernel
theorem dX0_order_30 : decode cX0_order 30 = .ok (.aload_n 0, 1) := by decide +kernel
theorem dX0_order_31 : decode cX0_order 31 = .ok (.getfield 14, 3) := by decide +kernel
theorem dX0_order_34 : decode cX0_order 34 = .ok (.aload_n 0, 1) := by decide +kernel
theorem dX0_order_35 : decode cX0_order 35 = .ok (.getfield 20, 3) := by decide +kernel
theorem dX0_order_38 : decode cX0_order 38 = .ok (.invokevirtual 47, 3) := by decide +kernel
theorem dX0_order_41 : decode cX0_order 41 = .ok (.ireturn, 1) := by decide +kernel
theorem dX0_reduce_0 : decode cX0_reduce 0 = .ok (.aload_n 1, 1) := by decide +kernel
theorem dX0_reduce_1 : decode cX0_reduce 1 = .ok (.invokevirtual 51, 3) := by decide +kernel
theorem dX0_reduce_4 : decode cX0_reduce 4 = .ok (.ifCond .eq 12, 3) := by decide +kernel
theorem dX0_reduce_7 : decode cX0_reduce 7 = .ok (.aload_n 1, 1) := by decide +kernel
theorem dX0_reduce_8 : decode cX0_reduce 8 = .ok (.getfield 34, 3) := by decide +kernel
theorem dX0_reduce_11 : decode cX0_reduce 11 = .ok (.lconst 1, 1) := by decide +kernel
theorem dX0_reduce_12 : decode cX0_reduce 12 = .ok (.invokevirtual 55, 3) := by decide +kernel
theorem dX0_reduce_15 : decode cX0_reduce 15 = .ok (.return_, 1) := by decide +kernel
theorem dX0_reduce_16 : decode cX0_reduce 16 = .ok (.aload_n 1, 1) := by decide +kernel
theorem dX0_reduce_17 : decode cX0_reduce 17 = .ok (.getfield 29, 3) := by decide +kernel
theorem dX0_reduce_20 : decode cX0_reduce 20 = .ok (.invokevirtual 59, 3) := by decide +kernel
theorem dX0_reduce_23 : decode cX0_reduce 23 = .ok (.aload_n 1, 1) := by decide +kernel
theorem dX0_reduce_24 : decode cX0_reduce 24 = .ok (.getfield 34, 3) := by decide +kernel
theorem dX0_reduce_27 : decode cX0_reduce 27 = .ok (.invokevirtual 59, 3) := by decide +kernel
theorem dX0_reduce_30 : decode cX0_reduce 30 = .ok (.invokestatic 63, 3) := by decide +kernel
theorem dX0_reduce_33 : decode cX0_reduce 33 = .ok (.istore_n 2, 1) := by decide +kernel
theorem dX0_reduce_34 : decode cX0_reduce 34 = .ok (.aload_n 1, 1) := by decide +kernel
theorem dX0_reduce_35 : decode cX0_reduce 35 = .ok (.getfield 29, 3) := by decide +kernel
theorem dX0_reduce_38 : decode cX0_reduce 38 = .ok (.iload_n 2, 1) := by decide +kernel
theorem dX0_reduce_39 : decode cX0_reduce 39 = .ok (.invokevirtual 69, 3) := by decide +kernel
theorem dX0_reduce_42 : decode cX0_reduce 42 = .ok (.aload_n 1, 1) := by decide +kernel
theorem dX0_reduce_43 : decode cX0_reduce 43 = .ok (.getfield 34, 3) := by decide +kernel
theorem dX0_reduce_46 : decode cX0_reduce 46 = .ok (.iload_n 2, 1) := by decide +kernel
theorem dX0_reduce_47 : decode cX0_reduce 47 = .ok (.invokevirtual 69, 3) := by decide +kernel
theorem dX0_reduce_50 : decode cX0_reduce 50 = .ok (.aload_n 0, 1) := by decide +kernel
theorem dX0_reduce_51 : decode cX0_reduce 51 = .ok (.aload_n 1, 1) := by decide +kernel
theorem dX0_reduce_52 : decode cX0_reduce 52 = .ok (.getfield 29, 3) := by decide +kernel
theorem dX0_reduce_55 : decode cX0_reduce 55 = .ok (.aload_n 1, 1) := by decide +kernel
theorem dX0_reduce_56 : decode cX0_reduce 56 = .ok (.getfield 34, 3) := by decide +kernel
theorem dX0_reduce_59 : decode cX0_reduce 59 = .ok (.invokevirtual 72, 3) := by decide +kernel
theorem dX0_reduce_62 : decode cX0_reduce 62 = .ok (.astore_n 3, 1) := by decide +kernel
theorem dX0_reduce_63 : decode cX0_reduce 63 = .ok (.aload_n 1, 1) := by decide +kernel
theorem dX0_reduce_64 : decode cX0_reduce 64 = .ok (.getfield 29, 3) := by decide +kernel
theorem dX0_reduce_67 : decode cX0_reduce 67 = .ok (.aload_n 3, 1) := by decide +kernel
theorem dX0_reduce_68 : decode cX0_reduce 68 = .ok (.invokevirtual 76, 3) := by decide +kernel
theorem dX0_reduce_71 : decode cX0_reduce 71 = .ok (.aload_n 1, 1) := by decide +kernel
theorem dX0_reduce_72 : decode cX0_reduce 72 = .ok (.getfield 34, 3) := by decide +kernel
theorem dX0_reduce_75 : decode cX0_reduce 75 = .ok (.aload_n 3, 1) := by decide +kernel
theorem dX0_reduce_76 : decode cX0_reduce 76 = .ok (.invokevirtual 76, 3) := by decide +kernel
theorem dX0_reduce_79 : decode cX0_reduce 79 = .ok (.return_, 1) := by decide +kernel
theorem dX0_oddDivisor_0 : decode cX0_oddDivisor 0 = .ok (.aload_n 0, 1) := by decide +kernel
theorem dX0_oddDivisor_1 : decode cX0_oddDivisor 1 = .ok (.getfield 23, 3) := by decide +kernel
theorem dX0_oddDivisor_4 : decode cX0_oddDivisor 4 = .ok (.aload_n 1, 1) := by decide +kernel
theorem dX0_oddDivisor_5 : decode cX0_oddDivisor 5 = .ok (.invokevirtual 80, 3) := by decide +kernel
theorem dX0_oddDivisor_8 : decode cX0_oddDivisor 8 = .ok (.aload_n 0, 1) := by decide +kernel
theorem dX0_oddDivisor_9 : decode cX0_oddDivisor 9 = .ok (.getfield 26, 3) := by decide +kernel
theorem dX0_oddDivisor_12 : decode cX0_oddDivisor 12 = .ok (.aload_n 2, 1) := by decide +kernel
theorem dX0_oddDivisor_13 : decode cX0_oddDivisor 13 = .ok (.invokevirtual 80, 3) := by decide +kernel
theorem dX0_oddDivisor_16 : decode cX0_oddDivisor 16 = .ok (.aload_n 0, 1) := by decide +kernel
theorem dX0_oddDivisor_17 : decode cX0_oddDivisor 17 = .ok (.getfield 23, 3) := by decide +kernel
theorem dX0_oddDivisor_20 : decode cX0_oddDivisor 20 = .ok (.iconst 0, 1) := by decide +kernel
theorem dX0_oddDivisor_21 : decode cX0_oddDivisor 21 = .ok (.putfield 83, 3) := by decide +kernel
theorem dX0_oddDivisor_24 : decode cX0_oddDivisor 24 = .ok (.aload_n 0, 1) := by decide +kernel
theorem dX0_oddDivisor_25 : decode cX0_oddDivisor 25 = .ok (.getfield 23, 3) := by decide +kernel
theorem dX0_oddDivisor_28 : decode cX0_oddDivisor 28 = .ok (.aload_n 0, 1) := by decide +kernel
theorem dX0_oddDivisor_29 : decode cX0_oddDivisor 29 = .ok (.getfield 23, 3) := by decide +kernel
theorem dX0_oddDivisor_32 : decode cX0_oddDivisor 32 = .ok (.invokevirtual 59, 3) := by decide +kernel
theorem dX0_oddDivisor_35 : decode cX0_oddDivisor 35 = .ok (.invokevirtual 69, 3) := by decide +kernel
theorem dX0_oddDivisor_38 : decode cX0_oddDivisor 38 = .ok (.aload_n 0, 1) := by decide +kernel
theorem dX0_oddDivisor_39 : decode cX0_oddDivisor 39 = .ok (.getfield 26, 3) := by decide +kernel
theorem dX0_oddDivisor_42 : decode cX0_oddDivisor 42 = .ok (.aload_n 0, 1) := by decide +kernel
theorem dX0_oddDivisor_43 : decode cX0_oddDivisor 43 = .ok (.getfield 26, 3) := by decide +kernel
theorem dX0_oddDivisor_46 : decode cX0_oddDivisor 46 = .ok (.invokevirtual 59, 3) := by decide +kernel
theorem dX0_oddDivisor_49 : decode cX0_oddDivisor 49 = .ok (.invokevirtual 69, 3) := by decide +kernel
theorem dX0_oddDivisor_52 : decode cX0_oddDivisor 52 = .ok (.aload_n 0, 1) := by decide +kernel
theorem dX0_oddDivisor_53 : decode cX0_oddDivisor 53 = .ok (.getfield 23, 3) := by decide +kernel
theorem dX0_oddDivisor_56 : decode cX0_oddDivisor 56 = .ok (.astore_n 3, 1) := by decide +kernel
theorem dX0_oddDivisor_57 : decode cX0_oddDivisor 57 = .ok (.aload_n 0, 1) := by decide +kernel
theorem dX0_oddDivisor_58 : decode cX0_oddDivisor 58 = .ok (.getfield 26, 3) := by decide +kernel
theorem dX0_oddDivisor_61 : decode cX0_oddDivisor 61 = .ok (.astore 4, 2) := by decide +kernel
theorem dX0_oddDivisor_63 : decode cX0_oddDivisor 63 = .ok (.aload_n 0, 1) := by decide +kernel
theorem dX0_oddDivisor_64 : decode cX0_oddDivisor 64 = .ok (.getfield 23, 3) := by decide +kernel
theorem dX0_oddDivisor_67 : decode cX0_oddDivisor 67 = .ok (.invokevirtual 87, 3) := by decide +kernel
theorem dX0_oddDivisor_70 : decode cX0_oddDivisor 70 = .ok (.aload_n 0, 1) := by decide +kernel
theorem dX0_oddDivisor_71 : decode cX0_oddDivisor 71 = .ok (.getfield 26, 3) := by decide +kernel
theorem dX0_oddDivisor_74 : decode cX0_oddDivisor 74 = .ok (.invokevirtual 87, 3) := by decide +kernel
theorem dX0_oddDivisor_77 : decode cX0_oddDivisor 77 = .ok (.iadd, 1) := by decide +kernel
theorem dX0_oddDivisor_78 : decode cX0_oddDivisor 78 = .ok (.istore 5, 2) := by decide +kernel
theorem dX0_oddDivisor_80 : decode cX0_oddDivisor 80 = .ok (.iconst 0, 1) := by decide +kernel
theorem dX0_oddDivisor_81 : decode cX0_oddDivisor 81 = .ok (.istore 6, 2) := by decide +kernel
theorem dX0_oddDivisor_83 : decode cX0_oddDivisor 83 = .ok (.iload 6, 2) := by decide +kernel
theorem dX0_oddDivisor_85 : decode cX0_oddDivisor 85 = .ok (.iload 5, 2) := by decide +kernel
theorem dX0_oddDivisor_87 : decode cX0_oddDivisor 87 = .ok (.if_icmp .ge 63, 3) := by decide +kernel
theorem dX0_oddDivisor_90 : decode cX0_oddDivisor 90 = .ok (.aload_n 3, 1) := by decide +kernel
theorem dX0_oddDivisor_91 : decode cX0_oddDivisor 91 = .ok (.aload 4, 2) := by decide +kernel
theorem dX0_oddDivisor_93 : decode cX0_oddDivisor 93 = .ok (.invokevirtual 90, 3) := by decide +kernel
theorem dX0_oddDivisor_96 : decode cX0_oddDivisor 96 = .ok (.istore 7, 2) := by decide +kernel
theorem dX0_oddDivisor_98 : decode cX0_oddDivisor 98 = .ok (.iload 7, 2) := by decide +kernel
theorem dX0_oddDivisor_100 : decode cX0_oddDivisor 100 = .ok (.ifCond .eq 11, 3) := by decide +kernel
theorem dX0_oddDivisor_103 : decode cX0_oddDivisor 103 = .ok (.aload 4, 2) := by decide +kernel
theorem dX0_oddDivisor_105 : decode cX0_oddDivisor 105 = .ok (.invokevirtual 93, 3) := by decide +kernel
theorem dX0_oddDivisor_108 : decode cX0_oddDivisor 108 = .ok (.ifCond .eq 6, 3) := by decide +kernel
theorem dX0_oddDivisor_111 : decode cX0_oddDivisor 111 = .ok (.aload 4, 2) := by decide +kernel
theorem dX0_oddDivisor_113 : decode cX0_oddDivisor 113 = .ok (.areturn, 1) := by decide +kernel
theorem dX0_oddDivisor_114 : decode cX0_oddDivisor 114 = .ok (.iload 7, 2) := by decide +kernel
theorem dX0_oddDivisor_116 : decode cX0_oddDivisor 116 = .ok (.ifCond .ge 13, 3) := by decide +kernel
theorem dX0_oddDivisor_119 : decode cX0_oddDivisor 119 = .ok (.aload_n 3, 1) := by decide +kernel
theorem dX0_oddDivisor_120 : decode cX0_oddDivisor 120 = .ok (.astore 8, 2) := by decide +kernel
theorem dX0_oddDivisor_122 : decode cX0_oddDivisor 122 = .ok (.aload 4, 2) := by decide +kernel
theorem dX0_oddDivisor_124 : decode cX0_oddDivisor 124 = .ok (.astore_n 3, 1) := by decide +kernel
theorem dX0_oddDivisor_125 : decode cX0_oddDivisor 125 = .ok (.aload 8, 2) := by decide +kernel
theorem dX0_oddDivisor_127 : decode cX0_oddDivisor 127 = .ok (.astore 4, 2) := by decide +kernel
theorem dX0_oddDivisor_129 : decode cX0_oddDivisor 129 = .ok (.aload_n 3, 1) := by decide +kernel
theorem dX0_oddDivisor_130 : decode cX0_oddDivisor 130 = .ok (.aload_n 3, 1) := by decide +kernel
theorem dX0_oddDivisor_131 : decode cX0_oddDivisor 131 = .ok (.aload 4, 2) := by decide +kernel
theorem dX0_oddDivisor_133 : decode cX0_oddDivisor 133 = .ok (.invokevirtual 96, 3) := by decide +kernel
theorem dX0_oddDivisor_136 : decode cX0_oddDivisor 136 = .ok (.aload_n 3, 1) := by decide +kernel
theorem dX0_oddDivisor_137 : decode cX0_oddDivisor 137 = .ok (.aload_n 3, 1) := by decide +kernel
theorem dX0_oddDivisor_138 : decode cX0_oddDivisor 138 = .ok (.invokevirtual 59, 3) := by decide +kernel
theorem dX0_oddDivisor_141 : decode cX0_oddDivisor 141 = .ok (.invokevirtual 69, 3) := by decide +kernel
theorem dX0_oddDivisor_144 : decode cX0_oddDivisor 144 = .ok (.iinc 6 1, 3) := by decide +kernel
theorem dX0_oddDivisor_147 : decode cX0_oddDivisor 147 = .ok (.goto (-64), 3) := by decide +kernel
theorem dX0_oddDivisor_150 : decode cX0_oddDivisor 150 = .ok (.aload 4, 2) := by decide +kernel
theorem dX0_oddDivisor_152 : decode cX0_oddDivisor 152 = .ok (.areturn, 1) := by decide +kernel
theorem dX1_init_0 : decode cX1_init 0 = .ok (.aload_n 0, 1) := by decide +kernel
theorem dX1_init_1 : decode cX1_init 1 = .ok (.invokespecial 3, 3) := by decide +kernel
theorem dX1_init_4 : decode cX1_init 4 = .ok (.aload_n 0, 1) := by decide +kernel
theorem dX1_init_5 : decode cX1_init 5 = .ok (.sipush 200, 3) := by decide +kernel
theorem dX1_init_8 : decode cX1_init 8 = .ok (.anewarray 9, 3) := by decide +kernel
theorem dX1_init_11 : decode cX1_init 11 = .ok (.putfield 11, 3) := by decide +kernel
theorem dX1_init_14 : decode cX1_init 14 = .ok (.aload_n 0, 1) := by decide +kernel
theorem dX1_init_15 : decode cX1_init 15 = .ok (.sipush 200, 3) := by decide +kernel
theorem dX1_init_18 : decode cX1_init 18 = .ok (.anewarray 9, 3) := by decide +kernel
theorem dX1_init_21 : decode cX1_init 21 = .ok (.putfield 17, 3) := by decide +kernel
theorem dX1_init_24 : decode cX1_init 24 = .ok (.aload_n 0, 1) := by decide +kernel
theorem dX1_init_25 : decode cX1_init 25 = .ok (.sipush 200, 3) := by decide +kernel
theorem dX1_init_28 : decode cX1_init 28 = .ok (.anewarray 9, 3) := by decide +kernel
theorem dX1_init_31 : decode cX1_init 31 = .ok (.putfield 20, 3) := by decide +kernel
theorem dX1_init_34 : decode cX1_init 34 = .ok (.aload_n 0, 1) := by decide +kernel
theorem dX1_init_35 : decode cX1_init 35 = .ok (.bipush 9, 2) := by decide +kernel
theorem dX1_init_37 : decode cX1_init 37 = .ok (.anewarray 9, 3) := by decide +kernel
theorem dX1_init_40 : decode cX1_init 40 = .ok (.putfield 23, 3) := by decide +kernel
theorem dX1_init_43 : decode cX1_init 43 = .ok (.aload_n 0, 1) := by decide +kernel
theorem dX1_init_44 : decode cX1_init 44 = .ok (.iconst 3, 1) := by decide +kernel
theorem dX1_init_45 : decode cX1_init 45 = .ok (.newarray .long, 2) := by decide +kernel
theorem dX1_init_47 : decode cX1_init 47 = .ok (.putfield 26, 3) := by decide +kernel
theorem dX1_init_50 : decode cX1_init 50 = .ok (.aload_n 0, 1) := by decide +kernel
theorem dX1_init_51 : decode cX1_init 51 = .ok (.iconst 3, 1) := by decide +kernel
theorem dX1_init_52 : decode cX1_init 52 = .ok (.newarray .int, 2) := by decide +kernel
theorem dX1_init_54 : decode cX1_init 54 = .ok (.putfield 30, 3) := by decide +kernel
theorem dX1_init_57 : decode cX1_init 57 = .ok (.aload_n 0, 1) := by decide +kernel
theorem dX1_init_58 : decode cX1_init 58 = .ok (.new 9, 3) := by decide +kernel
theorem dX1_init_61 : decode cX1_init 61 = .ok (.dup, 1) := by decide +kernel
theorem dX1_init_62 : decode cX1_init 62 = .ok (.bipush 26, 2) := by decide +kernel
theorem dX1_init_64 : decode cX1_init 64 = .ok (.invokespecial 34, 3) := by decide +kernel
theorem dX1_init_67 : decode cX1_init 67 = .ok (.putfield 37, 3) := by decide +kernel
theorem dX1_init_70 : decode cX1_init 70 = .ok (.aload_n 0, 1) := by decide +kernel
theorem dX1_init_71 : decode cX1_init 71 = .ok (.new 9, 3) := by decide +kernel
theorem dX1_init_74 : decode cX1_init 74 = .ok (.dup, 1) := by decide +kernel
theorem dX1_init_75 : decode cX1_init 75 = .ok (.bipush 26, 2) := by decide +kernel
theorem dX1_init_77 : decode cX1_init 77 = .ok (.invokespecial 34, 3) := by decide +kernel
theorem dX1_init_80 : decode cX1_init 80 = .ok (.putfield 41, 3) := by decide +kernel
theorem dX1_init_83 : decode cX1_init 83 = .ok (.aload_n 0, 1) := by decide +kernel
theorem dX1_init_84 : decode cX1_init 84 = .ok (.new 9, 3) := by decide +kernel
theorem dX1_init_87 : decode cX1_init 87 = .ok (.dup, 1) := by decide +kernel
theorem dX1_init_88 : decode cX1_init 88 = .ok (.bipush 26, 2) := by decide +kernel
theorem dX1_init_90 : decode cX1_init 90 = .ok (.invokespecial 34, 3) := by decide +kernel
theorem dX1_init_93 : decode cX1_init 93 = .ok (.putfield 44, 3) := by decide +kernel
theorem dX1_init_96 : decode cX1_init 96 = .ok (.aload_n 0, 1) := by decide +kernel
theorem dX1_init_97 : decode cX1_init 97 = .ok (.aload_n 1, 1) := by decide +kernel
theorem dX1_init_98 : decode cX1_init 98 = .ok (.putfield 47, 3) := by decide +kernel
theorem dX1_init_101 : decode cX1_init 101 = .ok (.iconst 0, 1) := by decide +kernel
theorem dX1_init_102 : decode cX1_init 102 = .ok (.istore_n 2, 1) := by decide +kernel
theorem dX1_init_103 : decode cX1_init 103 = .ok (.iload_n 2, 1) := by decide +kernel
theorem dX1_init_104 : decode cX1_init 104 = .ok (.sipush 200, 3) := by decide +kernel
theorem dX1_init_107 : decode cX1_init 107 = .ok (.if_icmp .ge 54, 3) := by decide +kernel
theorem dX1_init_110 : decode cX1_init 110 = .ok (.aload_n 0, 1) := by decide +kernel
theorem dX1_init_111 : decode cX1_init 111 = .ok (.getfield 11, 3) := by decide +kernel
theorem dX1_init_114 : decode cX1_init 114 = .ok (.iload_n 2, 1) := by decide +kernel
theorem dX1_init_115 : decode cX1_init 115 = .ok (.new 9, 3) := by decide +kernel
theorem dX1_init_118 : decode cX1_init 118 = .ok (.dup, 1) := by decide +kernel
theorem dX1_init_119 : decode cX1_init 119 = .ok (.bipush 26, 2) := by decide +kernel
theorem dX1_init_121 : decode cX1_init 121 = .ok (.invokespecial 34, 3) := by decide +kernel
theorem dX1_init_124 : decode cX1_init 124 = .ok (.aastore, 1) := by decide +kernel
theorem dX1_init_125 : decode cX1_init 125 = .ok (.aload_n 0, 1) := by decide +kernel
theorem dX1_init_126 : decode cX1_init 126 = .ok (.getfield 17, 3) := by decide +kernel
theorem dX1_init_129 : decode cX1_init 129 = .ok (.iload_n 2, 1) := by decide +kernel
theorem dX1_init_130 : decode cX1_init 130 = .ok (.new 9, 3) := by decide +kernel
theorem dX1_init_133 : decode cX1_init 133 = .ok (.dup, 1) := by decide +kernel
theorem dX1_init_134 : decode cX1_init 134 = .ok (.bipush 26, 2) := by decide +kernel
theorem dX1_init_136 : decode cX1_init 136 = .ok (.invokespecial 34, 3) := by decide +kernel
theorem dX1_init_139 : decode cX1_init 139 = .ok (.aastore, 1) := by decide +kernel
theorem dX1_init_140 : decode cX1_init 140 = .ok (.aload_n 0, 1) := by decide +kernel
theorem dX1_init_141 : decode cX1_init 141 = .ok (.getfield 20, 3) := by decide +kernel
theorem dX1_init_144 : decode cX1_init 144 = .ok (.iload_n 2, 1) := by decide +kernel
theorem dX1_init_145 : decode cX1_init 145 = .ok (.new 9, 3) := by decide +kernel
theorem dX1_init_148 : decode cX1_init 148 = .ok (.dup, 1) := by decide +kernel
theorem dX1_init_149 : decode cX1_init 149 = .ok (.bipush 13, 2) := by decide +kernel
theorem dX1_init_151 : decode cX1_init 151 = .ok (.invokespecial 34, 3) := by decide +kernel
theorem dX1_init_154 : decode cX1_init 154 = .ok (.aastore, 1) := by decide +kernel
theorem dX1_init_155 : decode cX1_init 155 = .ok (.iinc 2 1, 3) := by decide +kernel
theorem dX1_init_158 : decode cX1_init 158 = .ok (.goto (-55), 3) := by decide +kernel
theorem dX1_init_161 : decode cX1_init 161 = .ok (.iconst 0, 1) := by decide +kernel
theorem dX1_init_162 : decode cX1_init 162 = .ok (.istore_n 2, 1) := by decide +kernel
theorem dX1_init_163 : decode cX1_init 163 = .ok (.iload_n 2, 1) := by decide +kernel
theorem dX1_init_164 : decode cX1_init 164 = .ok (.bipush 8, 2) := by decide +kernel
theorem dX1_init_166 : decode cX1_init 166 = .ok (.if_icmp .gt 24, 3) := by decide +kernel
theorem dX1_init_169 : decode cX1_init 169 = .ok (.aload_n 0, 1) := by decide +kernel
theorem dX1_init_170 : decode cX1_init 170 = .ok (.getfield 23, 3) := by decide +kernel
theorem dX1_init_173 : decode cX1_init 173 = .ok (.iload_n 2, 1) := by decide +kernel
theorem dX1_init_174 : decode cX1_init 174 = .ok (.new 9, 3) := by decide +kernel
theorem dX1_init_177 : decode cX1_init 177 = .ok (.dup, 1) := by decide +kernel
theorem dX1_init_178 : decode cX1_init 178 = .ok (.bipush 13, 2) := by decide +kernel
theorem dX1_init_180 : decode cX1_init 180 = .ok (.invokespecial 34, 3) := by decide +kernel
theorem dX1_init_183 : decode cX1_init 183 = .ok (.aastore, 1) := by decide +kernel
theorem dX1_init_184 : decode cX1_init 184 = .ok (.iinc 2 1, 3) := by decide +kernel
theorem dX1_init_187 : decode cX1_init 187 = .ok (.goto (-24), 3) := by decide +kernel
theorem dX1_init_190 : decode cX1_init 190 = .ok (.return_, 1) := by decide +kernel
theorem dX1_goTo_0 : decode cX1_goTo 0 = .ok (.lconst 1, 1) := by decide +kernel
theorem dX1_goTo_1 : decode cX1_goTo 1 = .ok (.lstore_n 3, 1) := by decide +kernel
theorem dX1_goTo_2 : decode cX1_goTo 2 = .ok (.iconst 0, 1) := by decide +kernel
theorem dX1_goTo_3 : decode cX1_goTo 3 = .ok (.istore 5, 2) := by decide +kernel
theorem dX1_goTo_5 : decode cX1_goTo 5 = .ok (.iload 5, 2) := by decide +kernel
theorem dX1_goTo_7 : decode cX1_goTo 7 = .ok (.iconst 3, 1) := by decide +kernel
theorem dX1_goTo_8 : decode cX1_goTo 8 = .ok (.if_icmp .ge 70, 3) := by decide +kernel
theorem dX1_goTo_11 : decode cX1_goTo 11 = .ok (.lload_n 3, 1) := by decide +kernel
theorem dX1_goTo_12 : decode cX1_goTo 12 = .ok (.aload_n 2, 1) := by decide +kernel
theorem dX1_goTo_13 : decode cX1_goTo 13 = .ok (.iload 5, 2) := by decide +kernel
theorem dX1_goTo_15 : decode cX1_goTo 15 = .ok (.iaload, 1) := by decide +kernel
theorem dX1_goTo_16 : decode cX1_goTo 16 = .ok (.i2l, 1) := by decide +kernel
theorem dX1_goTo_17 : decode cX1_goTo 17 = .ok (.lmul, 1) := by decide +kernel
theorem dX1_goTo_18 : decode cX1_goTo 18 = .ok (.lstore_n 3, 1) := by decide +kernel
theorem dX1_goTo_19 : decode cX1_goTo 19 = .ok (.aload_n 0, 1) := by decide +kernel
theorem dX1_goTo_20 : decode cX1_goTo 20 = .ok (.getfield 26, 3) := by decide +kernel
theorem dX1_goTo_23 : decode cX1_goTo 23 = .ok (.iload 5, 2) := by decide +kernel
theorem dX1_goTo_25 : decode cX1_goTo 25 = .ok (.aload_n 1, 1) := by decide +kernel
theorem dX1_goTo_26 : decode cX1_goTo 26 = .ok (.iload 5, 2) := by decide +kernel
theorem dX1_goTo_28 : decode cX1_goTo 28 = .ok (.iaload, 1) := by decide +kernel
theorem dX1_goTo_29 : decode cX1_goTo 29 = .ok (.i2l, 1) := by decide +kernel
theorem dX1_goTo_30 : decode cX1_goTo 30 = .ok (.lastore, 1) := by decide +kernel
theorem dX1_goTo_31 : decode cX1_goTo 31 = .ok (.iconst 0, 1) := by decide +kernel
theorem dX1_goTo_32 : decode cX1_goTo 32 = .ok (.istore 6, 2) := by decide +kernel
theorem dX1_goTo_34 : decode cX1_goTo 34 = .ok (.iload 6, 2) := by decide +kernel
theorem dX1_goTo_36 : decode cX1_goTo 36 = .ok (.iconst 3, 1) := by decide +kernel
theorem dX1_goTo_37 : decode cX1_goTo 37 = .ok (.if_icmp .ge 35, 3) := by decide +kernel
theorem dX1_goTo_40 : decode cX1_goTo 40 = .ok (.aload_n 0, 1) := by decide +kernel
theorem dX1_goTo_41 : decode cX1_goTo 41 = .ok (.getfield 26, 3) := by decide +kernel
theorem dX1_goTo_44 : decode cX1_goTo 44 = .ok (.iload 5, 2) := by decide +kernel
theorem dX1_goTo_46 : decode cX1_goTo 46 = .ok (.dup2, 1) := by decide +kernel
theorem dX1_goTo_47 : decode cX1_goTo 47 = .ok (.laload, 1) := by decide +kernel
theorem dX1_goTo_48 : decode cX1_goTo 48 = .ok (.iload 6, 2) := by decide +kernel
theorem dX1_goTo_50 : decode cX1_goTo 50 = .ok (.iload 5, 2) := by decide +kernel
theorem dX1_goTo_52 : decode cX1_goTo 52 = .ok (.if_icmp .ne 7, 3) := by decide +kernel
theorem dX1_goTo_55 : decode cX1_goTo 55 = .ok (.lconst 1, 1) := by decide +kernel
theorem dX1_goTo_56 : decode cX1_goTo 56 = .ok (.goto 8, 3) := by decide +kernel
theorem dX1_goTo_59 : decode cX1_goTo 59 = .ok (.aload_n 2, 1) := by decide +kernel
theorem dX1_goTo_60 : decode cX1_goTo 60 = .ok (.iload 6, 2) := by decide +kernel
theorem dX1_goTo_62 : decode cX1_goTo 62 = .ok (.iaload, 1) := by decide +kernel
theorem dX1_goTo_63 : decode cX1_goTo 63 = .ok (.i2l, 1) := by decide +kernel
theorem dX1_goTo_64 : decode cX1_goTo 64 = .ok (.lmul, 1) := by decide +kernel
theorem dX1_goTo_65 : decode cX1_goTo 65 = .ok (.lastore, 1) := by decide +kernel
theorem dX1_goTo_66 : decode cX1_goTo 66 = .ok (.iinc 6 1, 3) := by decide +kernel
theorem dX1_goTo_69 : decode cX1_goTo 69 = .ok (.goto (-35), 3) := by decide +kernel
theorem dX1_goTo_72 : decode cX1_goTo 72 = .ok (.iinc 5 1, 3) := by decide +kernel
theorem dX1_goTo_75 : decode cX1_goTo 75 = .ok (.goto (-70), 3) := by decide +kernel
theorem dX1_goTo_78 : decode cX1_goTo 78 = .ok (.aload_n 0, 1) := by decide +kernel
theorem dX1_goTo_79 : decode cX1_goTo 79 = .ok (.getfield 44, 3) := by decide +kernel
theorem dX1_goTo_82 : decode cX1_goTo 82 = .ok (.lload_n 3, 1) := by decide +kernel
theorem dX1_goTo_83 : decode cX1_goTo 83 = .ok (.invokevirtual 51, 3) := by decide +kernel
theorem dX1_goTo_86 : decode cX1_goTo 86 = .ok (.aload_n 0, 1) := by decide +kernel
theorem dX1_goTo_87 : decode cX1_goTo 87 = .ok (.getfield 23, 3) := by decide +kernel
theorem dX1_goTo_90 : decode cX1_goTo 90 = .ok (.iconst 0, 1) := by decide +kernel
theorem dX1_goTo_91 : decode cX1_goTo 91 = .ok (.aaload, 1) := by decide +kernel
theorem dX1_goTo_92 : decode cX1_goTo 92 = .ok (.lconst 1, 1) := by decide +kernel
theorem dX1_goTo_93 : decode cX1_goTo 93 = .ok (.invokevirtual 51, 3) := by decide +kernel
theorem dX1_goTo_96 : decode cX1_goTo 96 = .ok (.iconst 1, 1) := by decide +kernel
theorem dX1_goTo_97 : decode cX1_goTo 97 = .ok (.istore 5, 2) := by decide +kernel
theorem dX1_goTo_99 : decode cX1_goTo 99 = .ok (.iload 5, 2) := by decide +kernel
theorem dX1_goTo_101 : decode cX1_goTo 101 = .ok (.bipush 8, 2) := by decide +kernel
theorem dX1_goTo_103 : decode cX1_goTo 103 = .ok (.if_icmp .gt 32, 3) := by decide +kernel
theorem dX1_goTo_106 : decode cX1_goTo 106 = .ok (.aload_n 0, 1) := by decide +kernel
theorem dX1_goTo_107 : decode cX1_goTo 107 = .ok (.getfield 23, 3) := by decide +kernel
theorem dX1_goTo_110 : decode cX1_goTo 110 = .ok (.iload 5, 2) := by decide +kernel
theorem dX1_goTo_112 : decode cX1_goTo 112 = .ok (.aaload, 1) := by decide +kernel
theorem dX1_goTo_113 : decode cX1_goTo 113 = .ok (.aload_n 0, 1) := by decide +kernel
theorem dX1_goTo_114 : decode cX1_goTo 114 = .ok (.getfield 23, 3) := by decide +kernel
theorem dX1_goTo_117 : decode cX1_goTo 117 = .ok (.iload 5, 2) := by decide +kernel
theorem dX1_goTo_119 : decode cX1_goTo 119 = .ok (.iconst 1, 1) := by decide +kernel
theorem dX1_goTo_120 : decode cX1_goTo 120 = .ok (.isub, 1) := by decide +kernel
theorem dX1_goTo_121 : decode cX1_goTo 121 = .ok (.aaload, 1) := by decide +kernel
theorem dX1_goTo_122 : decode cX1_goTo 122 = .ok (.aload_n 0, 1) := by decide +kernel
theorem dX1_goTo_123 : decode cX1_goTo 123 = .ok (.getfield 44, 3) := by decide +kernel
theorem dX1_goTo_126 : decode cX1_goTo 126 = .ok (.invokevirtual 55, 3) := by decide +kernel
theorem dX1_goTo_129 : decode cX1_goTo 129 = .ok (.iinc 5 1, 3) := by decide +kernel
theorem dX1_goTo_132 : decode cX1_goTo 132 = .ok (.goto (-33), 3) := by decide +kernel
theorem dX1_goTo_135 : decode cX1_goTo 135 = .ok (.return_, 1) := by decide +kernel
theorem dX1_head_0 : decode cX1_head 0 = .ok (.aload_n 0, 1) := by decide +kernel
theorem dX1_head_1 : decode cX1_head 1 = .ok (.getfield 30, 3) := by decide +kernel
theorem dX1_head_4 : decode cX1_head 4 = .ok (.iconst 0, 1) := by decide +kernel
theorem dX1_head_5 : decode cX1_head 5 = .ok (.iload_n 1, 1) := by decide +kernel
theorem dX1_head_6 : decode cX1_head 6 = .ok (.iastore, 1) := by decide +kernel
theorem dX1_head_7 : decode cX1_head 7 = .ok (.aload_n 0, 1) := by decide +kernel
theorem dX1_head_8 : decode cX1_head 8 = .ok (.getfield 30, 3) := by decide +kernel
theorem dX1_head_11 : decode cX1_head 11 = .ok (.iconst 1, 1) := by decide +kernel
theorem dX1_head_12 : decode cX1_head 12 = .ok (.iload_n 2, 1) := by decide +kernel
theorem dX1_head_13 : decode cX1_head 13 = .ok (.iastore, 1) := by decide +kernel
theorem dX1_head_14 : decode cX1_head 14 = .ok (.aload_n 0, 1) := by decide +kernel
theorem dX1_head_15 : decode cX1_head 15 = .ok (.getfield 30, 3) := by decide +kernel
theorem dX1_head_18 : decode cX1_head 18 = .ok (.iconst 2, 1) := by decide +kernel
theorem dX1_head_19 : decode cX1_head 19 = .ok (.iload_n 3, 1) := by decide +kernel
theorem dX1_head_20 : decode cX1_head 20 = .ok (.iastore, 1) := by decide +kernel
theorem dX1_head_21 : decode cX1_head 21 = .ok (.return_, 1) := by decide +kernel
theorem dX1_followValues_0 : decode cX1_followValues 0 = .ok (.aload_n 0, 1) := by decide +kernel
theorem dX1_followValues_1 : decode cX1_followValues 1 = .ok (.getfield 47, 3) := by decide +kernel
theorem dX1_followValues_4 : decode cX1_followValues 4 = .ok (.iload_n 1, 1) := by decide +kernel
theorem dX1_followValues_5 : decode cX1_followValues 5 = .ok (.invokevirtual 59, 3) := by decide +kernel
theorem dX1_followValues_8 : decode cX1_followValues 8 = .ok (.pop, 1) := by decide +kernel
theorem dX1_followValues_9 : decode cX1_followValues 9 = .ok (.iconst 0, 1) := by decide +kernel
theorem dX1_followValues_10 : decode cX1_followValues 10 = .ok (.istore_n 2, 1) := by decide +kernel
theorem dX1_followValues_11 : decode cX1_followValues 11 = .ok (.iload_n 2, 1) := by decide +kernel
theorem dX1_followValues_12 : decode cX1_followValues 12 = .ok (.iload_n 1, 1) := by decide +kernel
theorem dX1_followValues_13 : decode cX1_followValues 13 = .ok (.if_icmp .gt 59, 3) := by decide +kernel
theorem dX1_followValues_16 : decode cX1_followValues 16 = .ok (.aload_n 0, 1) := by decide +kernel
theorem dX1_followValues_17 : decode cX1_followValues 17 = .ok (.getfield 47, 3) := by decide +kernel
theorem dX1_followValues_20 : decode cX1_followValues 20 = .ok (.getfield 65, 3) := by decide +kernel
theorem dX1_followValues_23 : decode cX1_followValues 23 = .ok (.iload_n 2, 1) := by decide +kernel
theorem dX1_followValues_24 : decode cX1_followValues 24 = .ok (.baload, 1) := by decide +kernel
theorem dX1_followValues_25 : decode cX1_followValues 25 = .ok (.ifCond .eq 41, 3) := by decide +kernel
theorem dX1_followValues_28 : decode cX1_followValues 28 = .ok (.aload_n 0, 1) := by decide +kernel
theorem dX1_followValues_29 : decode cX1_followValues 29 = .ok (.aload_n 0, 1) := by decide +kernel
theorem dX1_followValues_30 : decode cX1_followValues 30 = .ok (.getfield 47, 3) := by decide +kernel
theorem dX1_followValues_33 : decode cX1_followValues 33 = .ok (.getfield 69, 3) := by decide +kernel
theorem dX1_followValues_36 : decode cX1_followValues 36 = .ok (.iload_n 2, 1) := by decide +kernel
theorem dX1_followValues_37 : decode cX1_followValues 37 = .ok (.aaload, 1) := by decide +kernel
theorem dX1_followValues_38 : decode cX1_followValues 38 = .ok (.aload_n 0, 1) := by decide +kernel
theorem dX1_followValues_39 : decode cX1_followValues 39 = .ok (.getfield 20, 3) := by decide +kernel
theorem dX1_followValues_42 : decode cX1_followValues 42 = .ok (.iload_n 2, 1) := by decide +kernel
theorem dX1_followValues_43 : decode cX1_followValues 43 = .ok (.aaload, 1) := by decide +kernel
theorem dX1_followValues_44 : decode cX1_followValues 44 = .ok (.invokevirtual 73, 3) := by decide +kernel
theorem dX1_followValues_47 : decode cX1_followValues 47 = .ok (.aload_n 0, 1) := by decide +kernel
theorem dX1_followValues_48 : decode cX1_followValues 48 = .ok (.aload_n 0, 1) := by decide +kernel
theorem dX1_followValues_49 : decode cX1_followValues 49 = .ok (.getfield 47, 3) := by decide +kernel
theorem dX1_followValues_52 : decode cX1_followValues 52 = .ok (.getfield 69, 3) := by decide +kernel
theorem dX1_followValues_55 : decode cX1_followValues 55 = .ok (.iload_n 2, 1) := by decide +kernel
theorem dX1_followValues_56 : decode cX1_followValues 56 = .ok (.aaload, 1) := by decide +kernel
theorem dX1_followValues_57 : decode cX1_followValues 57 = .ok (.aload_n 0, 1) := by decide +kernel
theorem dX1_followValues_58 : decode cX1_followValues 58 = .ok (.getfield 11, 3) := by decide +kernel
theorem dX1_followValues_61 : decode cX1_followValues 61 = .ok (.iload_n 2, 1) := by decide +kernel
theorem dX1_followValues_62 : decode cX1_followValues 62 = .ok (.aaload, 1) := by decide +kernel
theorem dX1_followValues_63 : decode cX1_followValues 63 = .ok (.invokevirtual 77, 3) := by decide +kernel
theorem dX1_followValues_66 : decode cX1_followValues 66 = .ok (.iinc 2 1, 3) := by decide +kernel
theorem dX1_followValues_69 : decode cX1_followValues 69 = .ok (.goto (-58), 3) := by decide +kernel
theorem dX1_followValues_72 : decode cX1_followValues 72 = .ok (.return_, 1) := by decide +kernel
theorem dX1_followSlopes_0 : decode cX1_followSlopes 0 = .ok (.aload_n 0, 1) := by decide +kernel
theorem dX1_followSlopes_1 : decode cX1_followSlopes 1 = .ok (.getfield 47, 3) := by decide +kernel
theorem dX1_followSlopes_4 : decode cX1_followSlopes 4 = .ok (.iload_n 1, 1) := by decide +kernel
theorem dX1_followSlopes_5 : decode cX1_followSlopes 5 = .ok (.invokevirtual 59, 3) := by decide +kernel
theorem dX1_followSlopes_8 : decode cX1_followSlopes 8 = .ok (.pop, 1) := by decide +kernel
theorem dX1_followSlopes_9 : decode cX1_followSlopes 9 = .ok (.iconst 0, 1) := by decide +kernel
theorem dX1_followSlopes_10 : decode cX1_followSlopes 10 = .ok (.istore_n 2, 1) := by decide +kernel
theorem dX1_followSlopes_11 : decode cX1_followSlopes 11 = .ok (.iload_n 2, 1) := by decide +kernel
theorem dX1_followSlopes_12 : decode cX1_followSlopes 12 = .ok (.iload_n 1, 1) := by decide +kernel
theorem dX1_followSlopes_13 : decode cX1_followSlopes 13 = .ok (.if_icmp .gt 40, 3) := by decide +kernel
theorem dX1_followSlopes_16 : decode cX1_followSlopes 16 = .ok (.aload_n 0, 1) := by decide +kernel
theorem dX1_followSlopes_17 : decode cX1_followSlopes 17 = .ok (.getfield 47, 3) := by decide +kernel
theorem dX1_followSlopes_20 : decode cX1_followSlopes 20 = .ok (.getfield 65, 3) := by decide +kernel
theorem dX1_followSlopes_23 : decode cX1_followSlopes 23 = .ok (.iload_n 2, 1) := by decide +kernel
theorem dX1_followSlopes_24 : decode cX1_followSlopes 24 = .ok (.baload, 1) := by decide +kernel
theorem dX1_followSlopes_25 : decode cX1_followSlopes 25 = .ok (.ifCond .eq 22, 3) := by decide +kernel
theorem dX1_followSlopes_28 : decode cX1_followSlopes 28 = .ok (.aload_n 0, 1) := by decide +kernel
theorem dX1_followSlopes_29 : decode cX1_followSlopes 29 = .ok (.aload_n 0, 1) := by decide +kernel
theorem dX1_followSlopes_30 : decode cX1_followSlopes 30 = .ok (.getfield 47, 3) := by decide +kernel
theorem dX1_followSlopes_33 : decode cX1_followSlopes 33 = .ok (.getfield 69, 3) := by decide +kernel
theorem dX1_followSlopes_36 : decode cX1_followSlopes 36 = .ok (.iload_n 2, 1) := by decide +kernel
theorem dX1_followSlopes_37 : decode cX1_followSlopes 37 = .ok (.aaload, 1) := by decide +kernel
theorem dX1_followSlopes_38 : decode cX1_followSlopes 38 = .ok (.aload_n 0, 1) := by decide +kernel
theorem dX1_followSlopes_39 : decode cX1_followSlopes 39 = .ok (.getfield 17, 3) := by decide +kernel
theorem dX1_followSlopes_42 : decode cX1_followSlopes 42 = .ok (.iload_n 2, 1) := by decide +kernel
theorem dX1_followSlopes_43 : decode cX1_followSlopes 43 = .ok (.aaload, 1) := by decide +kernel
theorem dX1_followSlopes_44 : decode cX1_followSlopes 44 = .ok (.invokevirtual 80, 3) := by decide +kernel
theorem dX1_followSlopes_47 : decode cX1_followSlopes 47 = .ok (.iinc 2 1, 3) := by decide +kernel
theorem dX1_followSlopes_50 : decode cX1_followSlopes 50 = .ok (.goto (-39), 3) := by decide +kernel
theorem dX1_followSlopes_53 : decode cX1_followSlopes 53 = .ok (.return_, 1) := by decide +kernel
theorem dX1_showValue_0 : decode cX1_showValue 0 = .ok (.aload_n 2, 1) := by decide +kernel
theorem dX1_showValue_1 : decode cX1_showValue 1 = .ok (.getfield 83, 3) := by decide +kernel
theorem dX1_showValue_4 : decode cX1_showValue 4 = .ok (.aload_n 0, 1) := by decide +kernel
theorem dX1_showValue_5 : decode cX1_showValue 5 = .ok (.getfield 11, 3) := by decide +kernel
theorem dX1_showValue_8 : decode cX1_showValue 8 = .ok (.iload_n 1, 1) := by decide +kernel
theorem dX1_showValue_9 : decode cX1_showValue 9 = .ok (.aaload, 1) := by decide +kernel
theorem dX1_showValue_10 : decode cX1_showValue 10 = .ok (.invokevirtual 88, 3) := by decide +kernel
theorem dX1_showValue_13 : decode cX1_showValue 13 = .ok (.aload_n 2, 1) := by decide +kernel
theorem dX1_showValue_14 : decode cX1_showValue 14 = .ok (.getfield 92, 3) := by decide +kernel
theorem dX1_showValue_17 : decode cX1_showValue 17 = .ok (.aload_n 0, 1) := by decide +kernel
theorem dX1_showValue_18 : decode cX1_showValue 18 = .ok (.getfield 20, 3) := by decide +kernel
theorem dX1_showValue_21 : decode cX1_showValue 21 = .ok (.iload_n 1, 1) := by decide +kernel
theorem dX1_showValue_22 : decode cX1_showValue 22 = .ok (.aaload, 1) := by decide +kernel
theorem dX1_showValue_23 : decode cX1_showValue 23 = .ok (.aload_n 0, 1) := by decide +kernel
theorem dX1_showValue_24 : decode cX1_showValue 24 = .ok (.getfield 23, 3) := by decide +kernel
theorem dX1_showValue_27 : decode cX1_showValue 27 = .ok (.aload_n 0, 1) := by decide +kernel
theorem dX1_showValue_28 : decode cX1_showValue 28 = .ok (.getfield 47, 3) := by decide +kernel
theorem dX1_showValue_31 : decode cX1_showValue 31 = .ok (.getfield 69, 3) := by decide +kernel
theorem dX1_showValue_34 : decode cX1_showValue 34 = .ok (.iload_n 1, 1) := by decide +kernel
theorem dX1_showValue_35 : decode cX1_showValue 35 = .ok (.aaload, 1) := by decide +kernel
theorem dX1_showValue_36 : decode cX1_showValue 36 = .ok (.getfield 95, 3) := by decide +kernel
theorem dX1_showValue_39 : decode cX1_showValue 39 = .ok (.aaload, 1) := by decide +kernel
theorem dX1_showValue_40 : decode cX1_showValue 40 = .ok (.invokevirtual 55, 3) := by decide +kernel
theorem dX1_showValue_43 : decode cX1_showValue 43 = .ok (.return_, 1) := by decide +kernel
theorem dX1_showSlope_0 : decode cX1_showSlope 0 = .ok (.aload_n 0, 1) := by decide +kernel
theorem dX1_showSlope_1 : decode cX1_showSlope 1 = .ok (.getfield 47, 3) := by decide +kernel
theorem dX1_showSlope_4 : decode cX1_showSlope 4 = .ok (.getfield 69, 3) := by decide +kernel
theorem dX1_showSlope_7 : decode cX1_showSlope 7 = .ok (.iload_n 1, 1) := by decide +kernel
theorem dX1_showSlope_8 : decode cX1_showSlope 8 = .ok (.aaload, 1) := by decide +kernel
theorem dX1_showSlope_9 : decode cX1_showSlope 9 = .ok (.getfield 95, 3) := by decide +kernel
theorem dX1_showSlope_12 : decode cX1_showSlope 12 = .ok (.istore_n 3, 1) := by decide +kernel
theorem dX1_showSlope_13 : decode cX1_showSlope 13 = .ok (.aload_n 2, 1) := by decide +kernel
theorem dX1_showSlope_14 : decode cX1_showSlope 14 = .ok (.getfield 83, 3) := by decide +kernel
theorem dX1_showSlope_17 : decode cX1_showSlope 17 = .ok (.aload_n 0, 1) := by decide +kernel
theorem dX1_showSlope_18 : decode cX1_showSlope 18 = .ok (.getfield 17, 3) := by decide +kernel
theorem dX1_showSlope_21 : decode cX1_showSlope 21 = .ok (.iload_n 1, 1) := by decide +kernel
theorem dX1_showSlope_22 : decode cX1_showSlope 22 = .ok (.aaload, 1) := by decide +kernel
theorem dX1_showSlope_23 : decode cX1_showSlope 23 = .ok (.invokevirtual 88, 3) := by decide +kernel
theorem dX1_showSlope_26 : decode cX1_showSlope 26 = .ok (.aload_n 2, 1) := by decide +kernel
theorem dX1_showSlope_27 : decode cX1_showSlope 27 = .ok (.getfield 92, 3) := by decide +kernel
theorem dX1_showSlope_30 : decode cX1_showSlope 30 = .ok (.aload_n 0, 1) := by decide +kernel
theorem dX1_showSlope_31 : decode cX1_showSlope 31 = .ok (.getfield 20, 3) := by decide +kernel
theorem dX1_showSlope_34 : decode cX1_showSlope 34 = .ok (.iload_n 1, 1) := by decide +kernel
theorem dX1_showSlope_35 : decode cX1_showSlope 35 = .ok (.aaload, 1) := by decide +kernel
theorem dX1_showSlope_36 : decode cX1_showSlope 36 = .ok (.aload_n 0, 1) := by decide +kernel
theorem dX1_showSlope_37 : decode cX1_showSlope 37 = .ok (.getfield 23, 3) := by decide +kernel
theorem dX1_showSlope_40 : decode cX1_showSlope 40 = .ok (.iload_n 3, 1) := by decide +kernel
theorem dX1_showSlope_41 : decode cX1_showSlope 41 = .ok (.iconst 1, 1) := by decide +kernel
theorem dX1_showSlope_42 : decode cX1_showSlope 42 = .ok (.isub, 1) := by decide +kernel
theorem dX1_showSlope_43 : decode cX1_showSlope 43 = .ok (.iconst 0, 1) := by decide +kernel
theorem dX1_showSlope_44 : decode cX1_showSlope 44 = .ok (.invokestatic 101, 3) := by decide +kernel
theorem dX1_showSlope_47 : decode cX1_showSlope 47 = .ok (.aaload, 1) := by decide +kernel
theorem dX1_showSlope_48 : decode cX1_showSlope 48 = .ok (.invokevirtual 55, 3) := by decide +kernel
theorem dX1_showSlope_51 : decode cX1_showSlope 51 = .ok (.return_, 1) := by decide +kernel
theorem dX1_findBase_0 : decode cX1_findBase 0 = .ok (.aload_n 1, 1) := by decide +kernel
theorem dX1_findBase_1 : decode cX1_findBase 1 = .ok (.getfield 107, 3) := by decide +kernel
theorem dX1_findBase_4 : decode cX1_findBase 4 = .ok (.tableswitch 86 0 4 #[36, 50, 86, 86, 58], 36) := by decide +kernel
theorem dX1_findBase_40 : decode cX1_findBase 40 = .ok (.aload_n 2, 1) := by decide +kernel
theorem dX1_findBase_41 : decode cX1_findBase 41 = .ok (.aload_n 1, 1) := by decide +kernel
theorem dX1_findBase_42 : decode cX1_findBase 42 = .ok (.getfield 110, 3) := by decide +kernel
theorem dX1_findBase_45 : decode cX1_findBase 45 = .ok (.getfield 92, 3) := by decide +kernel
theorem dX1_findBase_48 : decode cX1_findBase 48 = .ok (.invokevirtual 88, 3) := by decide +kernel
theorem dX1_findBase_51 : decode cX1_findBase 51 = .ok (.goto 61, 3) := by decide +kernel
theorem dX1_findBase_54 : decode cX1_findBase 54 = .ok (.aload_n 2, 1) := by decide +kernel
theorem dX1_findBase_55 : decode cX1_findBase 55 = .ok (.lconst 1, 1) := by decide +kernel
theorem dX1_findBase_56 : decode cX1_findBase 56 = .ok (.invokevirtual 51, 3) := by decide +kernel
theorem dX1_findBase_59 : decode cX1_findBase 59 = .ok (.goto 53, 3) := by decide +kernel
theorem dX1_findBase_62 : decode cX1_findBase 62 = .ok (.aload_n 0, 1) := by decide +kernel
theorem dX1_findBase_63 : decode cX1_findBase 63 = .ok (.aload_n 0, 1) := by decide +kernel
theorem dX1_findBase_64 : decode cX1_findBase 64 = .ok (.getfield 20, 3) := by decide +kernel
theorem dX1_findBase_67 : decode cX1_findBase 67 = .ok (.aload_n 1, 1) := by decide +kernel
theorem dX1_findBase_68 : decode cX1_findBase 68 = .ok (.getfield 114, 3) := by decide +kernel
theorem dX1_findBase_71 : decode cX1_findBase 71 = .ok (.aaload, 1) := by decide +kernel
theorem dX1_findBase_72 : decode cX1_findBase 72 = .ok (.aload_n 1, 1) := by decide +kernel
theorem dX1_findBase_73 : decode cX1_findBase 73 = .ok (.getfield 117, 3) := by decide +kernel
theorem dX1_findBase_76 : decode cX1_findBase 76 = .ok (.invokevirtual 120, 3) := by decide +kernel
theorem dX1_findBase_79 : decode cX1_findBase 79 = .ok (.aload_n 2, 1) := by decide +kernel
theorem dX1_findBase_80 : decode cX1_findBase 80 = .ok (.aload_n 0, 1) := by decide +kernel
theorem dX1_findBase_81 : decode cX1_findBase 81 = .ok (.getfield 37, 3) := by decide +kernel
theorem dX1_findBase_84 : decode cX1_findBase 84 = .ok (.invokevirtual 88, 3) := by decide +kernel
theorem dX1_findBase_87 : decode cX1_findBase 87 = .ok (.goto 25, 3) := by decide +kernel
theorem dX1_findBase_90 : decode cX1_findBase 90 = .ok (.aload_n 2, 1) := by decide +kernel
theorem dX1_findBase_91 : decode cX1_findBase 91 = .ok (.aload_n 0, 1) := by decide +kernel
theorem dX1_findBase_92 : decode cX1_findBase 92 = .ok (.getfield 20, 3) := by decide +kernel
theorem dX1_findBase_95 : decode cX1_findBase 95 = .ok (.aload_n 1, 1) := by decide +kernel
theorem dX1_findBase_96 : decode cX1_findBase 96 = .ok (.getfield 114, 3) := by decide +kernel
theorem dX1_findBase_99 : decode cX1_findBase 99 = .ok (.aaload, 1) := by decide +kernel
theorem dX1_findBase_100 : decode cX1_findBase 100 = .ok (.aload_n 0, 1) := by decide +kernel
theorem dX1_findBase_101 : decode cX1_findBase 101 = .ok (.getfield 20, 3) := by decide +kernel
theorem dX1_findBase_104 : decode cX1_findBase 104 = .ok (.aload_n 1, 1) := by decide +kernel
theorem dX1_findBase_105 : decode cX1_findBase 105 = .ok (.getfield 117, 3) := by decide +kernel
theorem dX1_findBase_108 : decode cX1_findBase 108 = .ok (.aaload, 1) := by decide +kernel
theorem dX1_findBase_109 : decode cX1_findBase 109 = .ok (.invokevirtual 55, 3) := by decide +kernel
theorem dX1_findBase_112 : decode cX1_findBase 112 = .ok (.return_, 1) := by decide +kernel
theorem dX1_findValue_0 : decode cX1_findValue 0 = .ok (.aload_n 1, 1) := by decide +kernel
theorem dX1_findValue_1 : decode cX1_findValue 1 = .ok (.getfield 107, 3) := by decide +kernel
theorem dX1_findValue_4 : decode cX1_findValue 4 = .ok (.tableswitch 100 0 3 #[32, 46, 62, 75], 32) := by decide +kernel
theorem dX1_findValue_36 : decode cX1_findValue 36 = .ok (.aload_n 2, 1) := by decide +kernel
theorem dX1_findValue_37 : decode cX1_findValue 37 = .ok (.aload_n 1, 1) := by decide +kernel
theorem dX1_findValue_38 : decode cX1_findValue 38 = .ok (.getfield 110, 3) := by decide +kernel
theorem dX1_findValue_41 : decode cX1_findValue 41 = .ok (.getfield 83, 3) := by decide +kernel
theorem dX1_findValue_44 : decode cX1_findValue 44 = .ok (.invokevirtual 88, 3) := by decide +kernel
theorem dX1_findValue_47 : decode cX1_findValue 47 = .ok (.goto 82, 3) := by decide +kernel
theorem dX1_findValue_50 : decode cX1_findValue 50 = .ok (.aload_n 2, 1) := by decide +kernel
theorem dX1_findValue_51 : decode cX1_findValue 51 = .ok (.aload_n 0, 1) := by decide +kernel
theorem dX1_findValue_52 : decode cX1_findValue 52 = .ok (.getfield 26, 3) := by decide +kernel
theorem dX1_findValue_55 : decode cX1_findValue 55 = .ok (.aload_n 1, 1) := by decide +kernel
theorem dX1_findValue_56 : decode cX1_findValue 56 = .ok (.getfield 114, 3) := by decide +kernel
theorem dX1_findValue_59 : decode cX1_findValue 59 = .ok (.laload, 1) := by decide +kernel
theorem dX1_findValue_60 : decode cX1_findValue 60 = .ok (.invokevirtual 51, 3) := by decide +kernel
theorem dX1_findValue_63 : decode cX1_findValue 63 = .ok (.goto 66, 3) := by decide +kernel
theorem dX1_findValue_66 : decode cX1_findValue 66 = .ok (.aload_n 0, 1) := by decide +kernel
theorem dX1_findValue_67 : decode cX1_findValue 67 = .ok (.aload_n 0, 1) := by decide +kernel
theorem dX1_findValue_68 : decode cX1_findValue 68 = .ok (.getfield 11, 3) := by decide +kernel
theorem dX1_findValue_71 : decode cX1_findValue 71 = .ok (.aload_n 1, 1) := by decide +kernel
theorem dX1_findValue_72 : decode cX1_findValue 72 = .ok (.aload_n 2, 1) := by decide +kernel
theorem dX1_findValue_73 : decode cX1_findValue 73 = .ok (.invokevirtual 124, 3) := by decide +kernel
theorem dX1_findValue_76 : decode cX1_findValue 76 = .ok (.goto 53, 3) := by decide +kernel
theorem dX1_findValue_79 : decode cX1_findValue 79 = .ok (.aload_n 2, 1) := by decide +kernel
theorem dX1_findValue_80 : decode cX1_findValue 80 = .ok (.aload_n 0, 1) := by decide +kernel
theorem dX1_findValue_81 : decode cX1_findValue 81 = .ok (.getfield 11, 3) := by decide +kernel
theorem dX1_findValue_84 : decode cX1_findValue 84 = .ok (.aload_n 1, 1) := by decide +kernel
theorem dX1_findValue_85 : decode cX1_findValue 85 = .ok (.getfield 114, 3) := by decide +kernel
theorem dX1_findValue_88 : decode cX1_findValue 88 = .ok (.aaload, 1) := by decide +kernel
theorem dX1_findValue_89 : decode cX1_findValue 89 = .ok (.aload_n 0, 1) := by decide +kernel
theorem dX1_findValue_90 : decode cX1_findValue 90 = .ok (.getfield 11, 3) := by decide +kernel
theorem dX1_findValue_93 : decode cX1_findValue 93 = .ok (.aload_n 1, 1) := by decide +kernel
theorem dX1_findValue_94 : decode cX1_findValue 94 = .ok (.getfield 117, 3) := by decide +kernel
theorem dX1_findValue_97 : decode cX1_findValue 97 = .ok (.aaload, 1) := by decide +kernel
theorem dX1_findValue_98 : decode cX1_findValue 98 = .ok (.invokevirtual 55, 3) := by decide +kernel
theorem dX1_findValue_101 : decode cX1_findValue 101 = .ok (.goto 28, 3) := by decide +kernel
theorem dX1_findValue_104 : decode cX1_findValue 104 = .ok (.aload_n 0, 1) := by decide +kernel
theorem dX1_findValue_105 : decode cX1_findValue 105 = .ok (.aload_n 0, 1) := by decide +kernel
theorem dX1_findValue_106 : decode cX1_findValue 106 = .ok (.getfield 11, 3) := by decide +kernel
theorem dX1_findValue_109 : decode cX1_findValue 109 = .ok (.aload_n 1, 1) := by decide +kernel
theorem dX1_findValue_110 : decode cX1_findValue 110 = .ok (.getfield 114, 3) := by decide +kernel
theorem dX1_findValue_113 : decode cX1_findValue 113 = .ok (.aaload, 1) := by decide +kernel
theorem dX1_findValue_114 : decode cX1_findValue 114 = .ok (.aload_n 1, 1) := by decide +kernel
theorem dX1_findValue_115 : decode cX1_findValue 115 = .ok (.getfield 117, 3) := by decide +kernel
theorem dX1_findValue_118 : decode cX1_findValue 118 = .ok (.invokevirtual 120, 3) := by decide +kernel
theorem dX1_findValue_121 : decode cX1_findValue 121 = .ok (.aload_n 2, 1) := by decide +kernel
theorem dX1_findValue_122 : decode cX1_findValue 122 = .ok (.aload_n 0, 1) := by decide +kernel
theorem dX1_findValue_123 : decode cX1_findValue 123 = .ok (.getfield 37, 3) := by decide +kernel
theorem dX1_findValue_126 : decode cX1_findValue 126 = .ok (.invokevirtual 88, 3) := by decide +kernel
theorem dX1_findValue_129 : decode cX1_findValue 129 = .ok (.return_, 1) := by decide +kernel
theorem dX1_findSlope_0 : decode cX1_findSlope 0 = .ok (.aload_n 1, 1) := by decide +kernel
theorem dX1_findSlope_1 : decode cX1_findSlope 1 = .ok (.getfield 107, 3) := by decide +kernel
theorem dX1_findSlope_4 : decode cX1_findSlope 4 = .ok (.tableswitch 135 0 3 #[32, 40, 57, 70], 32) := by decide +kernel
theorem dX1_findSlope_36 : decode cX1_findSlope 36 = .ok (.aload_n 2, 1) := by decide +kernel
theorem dX1_findSlope_37 : decode cX1_findSlope 37 = .ok (.lconst 0, 1) := by decide +kernel
theorem dX1_findSlope_38 : decode cX1_findSlope 38 = .ok (.invokevirtual 51, 3) := by decide +kernel
theorem dX1_findSlope_41 : decode cX1_findSlope 41 = .ok (.goto 161, 3) := by decide +kernel
theorem dX1_findSlope_44 : decode cX1_findSlope 44 = .ok (.aload_n 2, 1) := by decide +kernel
theorem dX1_findSlope_45 : decode cX1_findSlope 45 = .ok (.aload_n 0, 1) := by decide +kernel
theorem dX1_findSlope_46 : decode cX1_findSlope 46 = .ok (.getfield 30, 3) := by decide +kernel
theorem dX1_findSlope_49 : decode cX1_findSlope 49 = .ok (.aload_n 1, 1) := by decide +kernel
theorem dX1_findSlope_50 : decode cX1_findSlope 50 = .ok (.getfield 114, 3) := by decide +kernel
theorem dX1_findSlope_53 : decode cX1_findSlope 53 = .ok (.iaload, 1) := by decide +kernel
theorem dX1_findSlope_54 : decode cX1_findSlope 54 = .ok (.i2l, 1) := by decide +kernel
theorem dX1_findSlope_55 : decode cX1_findSlope 55 = .ok (.invokevirtual 51, 3) := by decide +kernel
theorem dX1_findSlope_58 : decode cX1_findSlope 58 = .ok (.goto 144, 3) := by decide +kernel
theorem dX1_findSlope_61 : decode cX1_findSlope 61 = .ok (.aload_n 0, 1) := by decide +kernel
theorem dX1_findSlope_62 : decode cX1_findSlope 62 = .ok (.aload_n 0, 1) := by decide +kernel
theorem dX1_findSlope_63 : decode cX1_findSlope 63 = .ok (.getfield 17, 3) := by decide +kernel
theorem dX1_findSlope_66 : decode cX1_findSlope 66 = .ok (.aload_n 1, 1) := by decide +kernel
theorem dX1_findSlope_67 : decode cX1_findSlope 67 = .ok (.aload_n 2, 1) := by decide +kernel
theorem dX1_findSlope_68 : decode cX1_findSlope 68 = .ok (.invokevirtual 124, 3) := by decide +kernel
theorem dX1_findSlope_71 : decode cX1_findSlope 71 = .ok (.goto 131, 3) := by decide +kernel
theorem dX1_findSlope_74 : decode cX1_findSlope 74 = .ok (.aload_n 0, 1) := by decide +kernel
theorem dX1_findSlope_75 : decode cX1_findSlope 75 = .ok (.getfield 37, 3) := by decide +kernel
theorem dX1_findSlope_78 : decode cX1_findSlope 78 = .ok (.aload_n 0, 1) := by decide +kernel
theorem dX1_findSlope_79 : decode cX1_findSlope 79 = .ok (.getfield 17, 3) := by decide +kernel
theorem dX1_findSlope_82 : decode cX1_findSlope 82 = .ok (.aload_n 1, 1) := by decide +kernel
theorem dX1_findSlope_83 : decode cX1_findSlope 83 = .ok (.getfield 114, 3) := by decide +kernel
theorem dX1_findSlope_86 : decode cX1_findSlope 86 = .ok (.aaload, 1) := by decide +kernel
theorem dX1_findSlope_87 : decode cX1_findSlope 87 = .ok (.aload_n 0, 1) := by decide +kernel
theorem dX1_findSlope_88 : decode cX1_findSlope 88 = .ok (.getfield 11, 3) := by decide +kernel
theorem dX1_findSlope_91 : decode cX1_findSlope 91 = .ok (.aload_n 1, 1) := by decide +kernel
theorem dX1_findSlope_92 : decode cX1_findSlope 92 = .ok (.getfield 117, 3) := by decide +kernel
theorem dX1_findSlope_95 : decode cX1_findSlope 95 = .ok (.aaload, 1) := by decide +kernel
theorem dX1_findSlope_96 : decode cX1_findSlope 96 = .ok (.invokevirtual 55, 3) := by decide +kernel
theorem dX1_findSlope_99 : decode cX1_findSlope 99 = .ok (.aload_n 0, 1) := by decide +kernel
theorem dX1_findSlope_100 : decode cX1_findSlope 100 = .ok (.getfield 41, 3) := by decide +kernel
theorem dX1_findSlope_103 : decode cX1_findSlope 103 = .ok (.aload_n 0, 1) := by decide +kernel
theorem dX1_findSlope_104 : decode cX1_findSlope 104 = .ok (.getfield 11, 3) := by decide +kernel
theorem dX1_findSlope_107 : decode cX1_findSlope 107 = .ok (.aload_n 1, 1) := by decide +kernel
theorem dX1_findSlope_108 : decode cX1_findSlope 108 = .ok (.getfield 114, 3) := by decide +kernel
theorem dX1_findSlope_111 : decode cX1_findSlope 111 = .ok (.aaload, 1) := by decide +kernel
theorem dX1_findSlope_112 : decode cX1_findSlope 112 = .ok (.aload_n 0, 1) := by decide +kernel
theorem dX1_findSlope_113 : decode cX1_findSlope 113 = .ok (.getfield 17, 3) := by decide +kernel
theorem dX1_findSlope_116 : decode cX1_findSlope 116 = .ok (.aload_n 1, 1) := by decide +kernel
theorem dX1_findSlope_117 : decode cX1_findSlope 117 = .ok (.getfield 117, 3) := by decide +kernel
theorem dX1_findSlope_120 : decode cX1_findSlope 120 = .ok (.aaload, 1) := by decide +kernel
theorem dX1_findSlope_121 : decode cX1_findSlope 121 = .ok (.invokevirtual 55, 3) := by decide +kernel
theorem dX1_findSlope_124 : decode cX1_findSlope 124 = .ok (.aload_n 2, 1) := by decide +kernel
theorem dX1_findSlope_125 : decode cX1_findSlope 125 = .ok (.aload_n 0, 1) := by decide +kernel
theorem dX1_findSlope_126 : decode cX1_findSlope 126 = .ok (.getfield 37, 3) := by decide +kernel
theorem dX1_findSlope_129 : decode cX1_findSlope 129 = .ok (.aload_n 0, 1) := by decide +kernel
theorem dX1_findSlope_130 : decode cX1_findSlope 130 = .ok (.getfield 41, 3) := by decide +kernel
theorem dX1_findSlope_133 : decode cX1_findSlope 133 = .ok (.invokevirtual 128, 3) := by decide +kernel
theorem dX1_findSlope_136 : decode cX1_findSlope 136 = .ok (.goto 66, 3) := by decide +kernel
theorem dX1_findSlope_139 : decode cX1_findSlope 139 = .ok (.aload_n 0, 1) := by decide +kernel
theorem dX1_findSlope_140 : decode cX1_findSlope 140 = .ok (.aload_n 0, 1) := by decide +kernel
theorem dX1_findSlope_141 : decode cX1_findSlope 141 = .ok (.getfield 11, 3) := by decide +kernel
theorem dX1_findSlope_144 : decode cX1_findSlope 144 = .ok (.aload_n 1, 1) := by decide +kernel
theorem dX1_findSlope_145 : decode cX1_findSlope 145 = .ok (.getfield 114, 3) := by decide +kernel
theorem dX1_findSlope_148 : decode cX1_findSlope 148 = .ok (.aaload, 1) := by decide +kernel
theorem dX1_findSlope_149 : decode cX1_findSlope 149 = .ok (.aload_n 1, 1) := by decide +kernel
theorem dX1_findSlope_150 : decode cX1_findSlope 150 = .ok (.getfield 117, 3) := by decide +kernel
theorem dX1_findSlope_153 : decode cX1_findSlope 153 = .ok (.iconst 1, 1) := by decide +kernel
theorem dX1_findSlope_154 : decode cX1_findSlope 154 = .ok (.isub, 1) := by decide +kernel
theorem dX1_findSlope_155 : decode cX1_findSlope 155 = .ok (.invokevirtual 120, 3) := by decide +kernel
theorem dX1_findSlope_158 : decode cX1_findSlope 158 = .ok (.aload_n 0, 1) := by decide +kernel
theorem dX1_findSlope_159 : decode cX1_findSlope 159 = .ok (.getfield 41, 3) := by decide +kernel
theorem dX1_findSlope_162 : decode cX1_findSlope 162 = .ok (.aload_n 0, 1) := by decide +kernel
theorem dX1_findSlope_163 : decode cX1_findSlope 163 = .ok (.getfield 37, 3) := by decide +kernel
theorem dX1_findSlope_166 : decode cX1_findSlope 166 = .ok (.aload_n 0, 1) := by decide +kernel
theorem dX1_findSlope_167 : decode cX1_findSlope 167 = .ok (.getfield 17, 3) := by decide +kernel
theorem dX1_findSlope_170 : decode cX1_findSlope 170 = .ok (.aload_n 1, 1) := by decide +kernel
theorem dX1_findSlope_171 : decode cX1_findSlope 171 = .ok (.getfield 114, 3) := by decide +kernel
theorem dX1_findSlope_174 : decode cX1_findSlope 174 = .ok (.aaload, 1) := by decide +kernel
theorem dX1_findSlope_175 : decode cX1_findSlope 175 = .ok (.invokevirtual 55, 3) := by decide +kernel
theorem dX1_findSlope_178 : decode cX1_findSlope 178 = .ok (.aload_n 0, 1) := by decide +kernel
theorem dX1_findSlope_179 : decode cX1_findSlope 179 = .ok (.getfield 44, 3) := by decide +kernel
theorem dX1_findSlope_182 : decode cX1_findSlope 182 = .ok (.aload_n 1, 1) := by decide +kernel
theorem dX1_findSlope_183 : decode cX1_findSlope 183 = .ok (.getfield 117, 3) := by decide +kernel
theorem dX1_findSlope_186 : decode cX1_findSlope 186 = .ok (.i2l, 1) := by decide +kernel
theorem dX1_findSlope_187 : decode cX1_findSlope 187 = .ok (.invokevirtual 51, 3) := by decide +kernel
theorem dX1_findSlope_190 : decode cX1_findSlope 190 = .ok (.aload_n 2, 1) := by decide +kernel
theorem dX1_findSlope_191 : decode cX1_findSlope 191 = .ok (.aload_n 0, 1) := by decide +kernel
theorem dX1_findSlope_192 : decode cX1_findSlope 192 = .ok (.getfield 41, 3) := by decide +kernel
theorem dX1_findSlope_195 : decode cX1_findSlope 195 = .ok (.aload_n 0, 1) := by decide +kernel
theorem dX1_findSlope_196 : decode cX1_findSlope 196 = .ok (.getfield 44, 3) := by decide +kernel
theorem dX1_findSlope_199 : decode cX1_findSlope 199 = .ok (.invokevirtual 55, 3) := by decide +kernel
theorem dX1_findSlope_202 : decode cX1_findSlope 202 = .ok (.return_, 1) := by decide +kernel
theorem dX1_addWidened_0 : decode cX1_addWidened 0 = .ok (.aload_n 0, 1) := by decide +kernel
theorem dX1_addWidened_1 : decode cX1_addWidened 1 = .ok (.aload_n 1, 1) := by decide +kernel
theorem dX1_addWidened_2 : decode cX1_addWidened 2 = .ok (.aload_n 2, 1) := by decide +kernel
theorem dX1_addWidened_3 : decode cX1_addWidened 3 = .ok (.getfield 114, 3) := by decide +kernel
theorem dX1_addWidened_6 : decode cX1_addWidened 6 = .ok (.aload_n 2, 1) := by decide +kernel
theorem dX1_addWidened_7 : decode cX1_addWidened 7 = .ok (.getfield 117, 3) := by decide +kernel
theorem dX1_addWidened_10 : decode cX1_addWidened 10 = .ok (.aload_n 2, 1) := by decide +kernel
theorem dX1_addWidened_11 : decode cX1_addWidened 11 = .ok (.getfield 95, 3) := by decide +kernel
theorem dX1_addWidened_14 : decode cX1_addWidened 14 = .ok (.aload_n 0, 1) := by decide +kernel
theorem dX1_addWidened_15 : decode cX1_addWidened 15 = .ok (.getfield 37, 3) := by decide +kernel
theorem dX1_addWidened_18 : decode cX1_addWidened 18 = .ok (.invokevirtual 131, 3) := by decide +kernel
theorem dX1_addWidened_21 : decode cX1_addWidened 21 = .ok (.aload_n 0, 1) := by decide +kernel
theorem dX1_addWidened_22 : decode cX1_addWidened 22 = .ok (.aload_n 1, 1) := by decide +kernel
theorem dX1_addWidened_23 : decode cX1_addWidened 23 = .ok (.aload_n 2, 1) := by decide +kernel
theorem dX1_addWidened_24 : decode cX1_addWidened 24 = .ok (.getfield 117, 3) := by decide +kernel
theorem dX1_addWidened_27 : decode cX1_addWidened 27 = .ok (.aload_n 2, 1) := by decide +kernel
theorem dX1_addWidened_28 : decode cX1_addWidened 28 = .ok (.getfield 114, 3) := by decide +kernel
theorem dX1_addWidened_31 : decode cX1_addWidened 31 = .ok (.aload_n 2, 1) := by decide +kernel
theorem dX1_addWidened_32 : decode cX1_addWidened 32 = .ok (.getfield 95, 3) := by decide +kernel
theorem dX1_addWidened_35 : decode cX1_addWidened 35 = .ok (.aload_n 0, 1) := by decide +kernel
theorem dX1_addWidened_36 : decode cX1_addWidened 36 = .ok (.getfield 41, 3) := by decide +kernel
theorem dX1_addWidened_39 : decode cX1_addWidened 39 = .ok (.invokevirtual 131, 3) := by decide +kernel
theorem dX1_addWidened_42 : decode cX1_addWidened 42 = .ok (.aload_n 3, 1) := by decide +kernel
theorem dX1_addWidened_43 : decode cX1_addWidened 43 = .ok (.aload_n 0, 1) := by decide +kernel
theorem dX1_addWidened_44 : decode cX1_addWidened 44 = .ok (.getfield 37, 3) := by decide +kernel
theorem dX1_addWidened_47 : decode cX1_addWidened 47 = .ok (.aload_n 0, 1) := by decide +kernel
theorem dX1_addWidened_48 : decode cX1_addWidened 48 = .ok (.getfield 41, 3) := by decide +kernel
theorem dX1_addWidened_51 : decode cX1_addWidened 51 = .ok (.invokevirtual 128, 3) := by decide +kernel
theorem dX1_addWidened_54 : decode cX1_addWidened 54 = .ok (.return_, 1) := by decide +kernel
theorem dX1_widen_0 : decode cX1_widen 0 = .ok (.aload_n 0, 1) := by decide +kernel
theorem dX1_widen_1 : decode cX1_widen 1 = .ok (.getfield 44, 3) := by decide +kernel
theorem dX1_widen_4 : decode cX1_widen 4 = .ok (.aload_n 1, 1) := by decide +kernel
theorem dX1_widen_5 : decode cX1_widen 5 = .ok (.iload_n 2, 1) := by decide +kernel
theorem dX1_widen_6 : decode cX1_widen 6 = .ok (.aaload, 1) := by decide +kernel
theorem dX1_widen_7 : decode cX1_widen 7 = .ok (.aload_n 0, 1) := by decide +kernel
theorem dX1_widen_8 : decode cX1_widen 8 = .ok (.getfield 20, 3) := by decide +kernel
theorem dX1_widen_11 : decode cX1_widen 11 = .ok (.iload_n 3, 1) := by decide +kernel
theorem dX1_widen_12 : decode cX1_widen 12 = .ok (.aaload, 1) := by decide +kernel
theorem dX1_widen_13 : decode cX1_widen 13 = .ok (.invokevirtual 55, 3) := by decide +kernel
theorem dX1_widen_16 : decode cX1_widen 16 = .ok (.aload 5, 2) := by decide +kernel
theorem dX1_widen_18 : decode cX1_widen 18 = .ok (.aload_n 0, 1) := by decide +kernel
theorem dX1_widen_19 : decode cX1_widen 19 = .ok (.getfield 44, 3) := by decide +kernel
theorem dX1_widen_22 : decode cX1_widen 22 = .ok (.aload_n 0, 1) := by decide +kernel
theorem dX1_widen_23 : decode cX1_widen 23 = .ok (.getfield 23, 3) := by decide +kernel
theorem dX1_widen_26 : decode cX1_widen 26 = .ok (.iload 4, 2) := by decide +kernel
theorem dX1_widen_28 : decode cX1_widen 28 = .ok (.aload_n 0, 1) := by decide +kernel
theorem dX1_widen_29 : decode cX1_widen 29 = .ok (.getfield 47, 3) := by decide +kernel
theorem dX1_widen_32 : decode cX1_widen 32 = .ok (.getfield 69, 3) := by decide +kernel
theorem dX1_widen_35 : decode cX1_widen 35 = .ok (.iload_n 2, 1) := by decide +kernel
theorem dX1_widen_36 : decode cX1_widen 36 = .ok (.aaload, 1) := by decide +kernel
theorem dX1_widen_37 : decode cX1_widen 37 = .ok (.getfield 95, 3) := by decide +kernel
theorem dX1_widen_40 : decode cX1_widen 40 = .ok (.isub, 1) := by decide +kernel
theorem dX1_widen_41 : decode cX1_widen 41 = .ok (.aaload, 1) := by decide +kernel
theorem dX1_widen_42 : decode cX1_widen 42 = .ok (.invokevirtual 55, 3) := by decide +kernel
theorem dX1_widen_45 : decode cX1_widen 45 = .ok (.return_, 1) := by decide +kernel
theorem dX1_raise_0 : decode cX1_raise 0 = .ok (.aload_n 0, 1) := by decide +kernel
theorem dX1_raise_1 : decode cX1_raise 1 = .ok (.getfield 37, 3) := by decide +kernel
theorem dX1_raise_4 : decode cX1_raise 4 = .ok (.lconst 1, 1) := by decide +kernel
theorem dX1_raise_5 : decode cX1_raise 5 = .ok (.invokevirtual 51, 3) := by decide +kernel
theorem dX1_raise_8 : decode cX1_raise 8 = .ok (.iconst 0, 1) := by decide +kernel
theorem dX1_raise_9 : decode cX1_raise 9 = .ok (.istore_n 3, 1) := by decide +kernel
theorem dX1_raise_10 : decode cX1_raise 10 = .ok (.iload_n 3, 1) := by decide +kernel
theorem dX1_raise_11 : decode cX1_raise 11 = .ok (.iload_n 2, 1) := by decide +kernel
theorem dX1_raise_12 : decode cX1_raise 12 = .ok (.if_icmp .ge 32, 3) := by decide +kernel
theorem dX1_raise_15 : decode cX1_raise 15 = .ok (.aload_n 0, 1) := by decide +kernel
theorem dX1_raise_16 : decode cX1_raise 16 = .ok (.getfield 44, 3) := by decide +kernel
theorem dX1_raise_19 : decode cX1_raise 19 = .ok (.aload_n 0, 1) := by decide +kernel
theorem dX1_raise_20 : decode cX1_raise 20 = .ok (.getfield 37, 3) := by decide +kernel
theorem dX1_raise_23 : decode cX1_raise 23 = .ok (.aload_n 1, 1) := by decide +kernel
theorem dX1_raise_24 : decode cX1_raise 24 = .ok (.invokevirtual 55, 3) := by decide +kernel
theorem dX1_raise_27 : decode cX1_raise 27 = .ok (.aload_n 0, 1) := by decide +kernel
theorem dX1_raise_28 : decode cX1_raise 28 = .ok (.getfield 37, 3) := by decide +kernel
theorem dX1_raise_31 : decode cX1_raise 31 = .ok (.aload_n 0, 1) := by decide +kernel
theorem dX1_raise_32 : decode cX1_raise 32 = .ok (.getfield 44, 3) := by decide +kernel
theorem dX1_raise_35 : decode cX1_raise 35 = .ok (.invokevirtual 88, 3) := by decide +kernel
theorem dX1_raise_38 : decode cX1_raise 38 = .ok (.iinc 3 1, 3) := by decide +kernel
theorem dX1_raise_41 : decode cX1_raise 41 = .ok (.goto (-31), 3) := by decide +kernel
theorem dX1_raise_44 : decode cX1_raise 44 = .ok (.return_, 1) := by decide +kernel
theorem dX3_init_0 : decode cX3_init 0 = .ok (.aload_n 0, 1) := by decide +kernel
theorem dX3_init_1 : decode cX3_init 1 = .ok (.invokespecial 3, 3) := by decide +kernel
theorem dX3_init_4 : decode cX3_init 4 = .ok (.aload_n 0, 1) := by decide +kernel
theorem dX3_init_5 : decode cX3_init 5 = .ok (.new 9, 3) := by decide +kernel
theorem dX3_init_8 : decode cX3_init 8 = .ok (.dup, 1) := by decide +kernel
theorem dX3_init_9 : decode cX3_init 9 = .ok (.bipush 13, 2) := by decide +kernel
theorem dX3_init_11 : decode cX3_init 11 = .ok (.invokespecial 11, 3) := by decide +kernel
theorem dX3_init_14 : decode cX3_init 14 = .ok (.putfield 14, 3) := by decide +kernel
theorem dX3_init_17 : decode cX3_init 17 = .ok (.return_, 1) := by decide +kernel
theorem dX3_says_0 : decode cX3_says 0 = .ok (.aload_n 0, 1) := by decide +kernel
theorem dX3_says_1 : decode cX3_says 1 = .ok (.getfield 20, 3) := by decide +kernel
theorem dX3_says_4 : decode cX3_says 4 = .ok (.iload_n 1, 1) := by decide +kernel
theorem dX3_says_5 : decode cX3_says 5 = .ok (.if_icmp .ne 23, 3) := by decide +kernel
theorem dX3_says_8 : decode cX3_says 8 = .ok (.aload_n 0, 1) := by decide +kernel
theorem dX3_says_9 : decode cX3_says 9 = .ok (.getfield 24, 3) := by decide +kernel
theorem dX3_says_12 : decode cX3_says 12 = .ok (.iload_n 2, 1) := by decide +kernel
theorem dX3_says_13 : decode cX3_says 13 = .ok (.if_icmp .ne 15, 3) := by decide +kernel
theorem dX3_says_16 : decode cX3_says 16 = .ok (.aload_n 0, 1) := by decide +kernel
theorem dX3_says_17 : decode cX3_says 17 = .ok (.getfield 27, 3) := by decide +kernel
theorem dX3_says_20 : decode cX3_says 20 = .ok (.iload_n 3, 1) := by decide +kernel
theorem dX3_says_21 : decode cX3_says 21 = .ok (.if_icmp .ne 7, 3) := by decide +kernel
theorem dX3_says_24 : decode cX3_says 24 = .ok (.iconst 1, 1) := by decide +kernel
theorem dX3_says_25 : decode cX3_says 25 = .ok (.goto 4, 3) := by decide +kernel
theorem dX3_says_28 : decode cX3_says 28 = .ok (.iconst 0, 1) := by decide +kernel
theorem dX3_says_29 : decode cX3_says 29 = .ok (.ireturn, 1) := by decide +kernel
theorem dX7_init_0 : decode cX7_init 0 = .ok (.aload_n 0, 1) := by decide +kernel
theorem dX7_init_1 : decode cX7_init 1 = .ok (.invokespecial 3, 3) := by decide +kernel
theorem dX7_init_4 : decode cX7_init 4 = .ok (.aload_n 0, 1) := by decide +kernel
theorem dX7_init_5 : decode cX7_init 5 = .ok (.bipush 64, 2) := by decide +kernel
theorem dX7_init_7 : decode cX7_init 7 = .ok (.newarray .char, 2) := by decide +kernel
theorem dX7_init_9 : decode cX7_init 9 = .ok (.putfield 9, 3) := by decide +kernel
theorem dX7_init_12 : decode cX7_init 12 = .ok (.return_, 1) := by decide +kernel
theorem dX7_append_0 : decode cX7_append 0 = .ok (.aload_n 0, 1) := by decide +kernel
theorem dX7_append_1 : decode cX7_append 1 = .ok (.getfield 15, 3) := by decide +kernel
theorem dX7_append_4 : decode cX7_append 4 = .ok (.bipush 64, 2) := by decide +kernel
theorem dX7_append_6 : decode cX7_append 6 = .ok (.if_icmp .ge 23, 3) := by decide +kernel
theorem dX7_append_9 : decode cX7_append 9 = .ok (.aload_n 0, 1) := by decide +kernel
theorem dX7_append_10 : decode cX7_append 10 = .ok (.getfield 9, 3) := by decide +kernel
theorem dX7_append_13 : decode cX7_append 13 = .ok (.aload_n 0, 1) := by decide +kernel
theorem dX7_append_14 : decode cX7_append 14 = .ok (.getfield 15, 3) := by decide +kernel
theorem dX7_append_17 : decode cX7_append 17 = .ok (.iload_n 1, 1) := by decide +kernel
theorem dX7_append_18 : decode cX7_append 18 = .ok (.castore, 1) := by decide +kernel
theorem dX7_append_19 : decode cX7_append 19 = .ok (.aload_n 0, 1) := by decide +kernel
theorem dX7_append_20 : decode cX7_append 20 = .ok (.dup, 1) := by decide +kernel
theorem dX7_append_21 : decode cX7_append 21 = .ok (.getfield 15, 3) := by decide +kernel
theorem dX7_append_24 : decode cX7_append 24 = .ok (.iconst 1, 1) := by decide +kernel
theorem dX7_append_25 : decode cX7_append 25 = .ok (.iadd, 1) := by decide +kernel
theorem dX7_append_26 : decode cX7_append 26 = .ok (.putfield 15, 3) := by decide +kernel
theorem dX7_append_29 : decode cX7_append 29 = .ok (.return_, 1) := by decide +kernel
theorem dX7_at_0 : decode cX7_at 0 = .ok (.iload_n 1, 1) := by decide +kernel
theorem dX7_at_1 : decode cX7_at 1 = .ok (.aload_n 0, 1) := by decide +kernel
theorem dX7_at_2 : decode cX7_at 2 = .ok (.getfield 15, 3) := by decide +kernel
theorem dX7_at_5 : decode cX7_at 5 = .ok (.if_icmp .ge 12, 3) := by decide +kernel
theorem dX7_at_8 : decode cX7_at 8 = .ok (.aload_n 0, 1) := by decide +kernel
theorem dX7_at_9 : decode cX7_at 9 = .ok (.getfield 9, 3) := by decide +kernel
theorem dX7_at_12 : decode cX7_at 12 = .ok (.iload_n 1, 1) := by decide +kernel
theorem dX7_at_13 : decode cX7_at 13 = .ok (.caload, 1) := by decide +kernel
theorem dX7_at_14 : decode cX7_at 14 = .ok (.goto 5, 3) := by decide +kernel
theorem dX7_at_17 : decode cX7_at 17 = .ok (.bipush 32, 2) := by decide +kernel
theorem dX7_at_19 : decode cX7_at 19 = .ok (.ireturn, 1) := by decide +kernel
theorem dX7_isDigit_0 : decode cX7_isDigit 0 = .ok (.iload_n 0, 1) := by decide +kernel
theorem dX7_isDigit_1 : decode cX7_isDigit 1 = .ok (.bipush 48, 2) := by decide +kernel
theorem dX7_isDigit_3 : decode cX7_isDigit 3 = .ok (.if_icmp .lt 13, 3) := by decide +kernel
theorem dX7_isDigit_6 : decode cX7_isDigit 6 = .ok (.iload_n 0, 1) := by decide +kernel
theorem dX7_isDigit_7 : decode cX7_isDigit 7 = .ok (.bipush 57, 2) := by decide +kernel
theorem dX7_isDigit_9 : decode cX7_isDigit 9 = .ok (.if_icmp .gt 7, 3) := by decide +kernel
theorem dX7_isDigit_12 : decode cX7_isDigit 12 = .ok (.iconst 1, 1) := by decide +kernel
theorem dX7_isDigit_13 : decode cX7_isDigit 13 = .ok (.goto 4, 3) := by decide +kernel
theorem dX7_isDigit_16 : decode cX7_isDigit 16 = .ok (.iconst 0, 1) := by decide +kernel
theorem dX7_isDigit_17 : decode cX7_isDigit 17 = .ok (.ireturn, 1) := by decide +kernel
theorem dX7_isVariable_0 : decode cX7_isVariable 0 = .ok (.iload_n 0, 1) := by decide +kernel
theorem dX7_isVariable_1 : decode cX7_isVariable 1 = .ok (.bipush 97, 2) := by decide +kernel
theorem dX7_isVariable_3 : decode cX7_isVariable 3 = .ok (.if_icmp .lt 13, 3) := by decide +kernel
theorem dX7_isVariable_6 : decode cX7_isVariable 6 = .ok (.iload_n 0, 1) := by decide +kernel
theorem dX7_isVariable_7 : decode cX7_isVariable 7 = .ok (.bipush 99, 2) := by decide +kernel
theorem dX7_isVariable_9 : decode cX7_isVariable 9 = .ok (.if_icmp .gt 7, 3) := by decide +kernel
theorem dX7_isVariable_12 : decode cX7_isVariable 12 = .ok (.iconst 1, 1) := by decide +kernel
theorem dX7_isVariable_13 : decode cX7_isVariable 13 = .ok (.goto 4, 3) := by decide +kernel
theorem dX7_isVariable_16 : decode cX7_isVariable 16 = .ok (.iconst 0, 1) := by decide +kernel
theorem dX7_isVariable_17 : decode cX7_isVariable 17 = .ok (.ireturn, 1) := by decide +kernel
theorem dX7_isName_0 : decode cX7_isName 0 = .ok (.iload_n 0, 1) := by decide +kernel
theorem dX7_isName_1 : decode cX7_isName 1 = .ok (.bipush 65, 2) := by decide +kernel
theorem dX7_isName_3 : decode cX7_isName 3 = .ok (.if_icmp .lt 13, 3) := by decide +kernel
theorem dX7_isName_6 : decode cX7_isName 6 = .ok (.iload_n 0, 1) := by decide +kernel
theorem dX7_isName_7 : decode cX7_isName 7 = .ok (.bipush 72, 2) := by decide +kernel
theorem dX7_isName_9 : decode cX7_isName 9 = .ok (.if_icmp .gt 7, 3) := by decide +kernel
theorem dX7_isName_12 : decode cX7_isName 12 = .ok (.iconst 1, 1) := by decide +kernel
theorem dX7_isName_13 : decode cX7_isName 13 = .ok (.goto 4, 3) := by decide +kernel
theorem dX7_isName_16 : decode cX7_isName 16 = .ok (.iconst 0, 1) := by decide +kernel
theorem dX7_isName_17 : decode cX7_isName 17 = .ok (.ireturn, 1) := by decide +kernel
theorem dX7_findWrongPlace_0 : decode cX7_findWrongPlace 0 = .ok (.aload_n 0, 1) := by decide +kernel
theorem dX7_findWrongPlace_1 : decode cX7_findWrongPlace 1 = .ok (.iconst 0, 1) := by decide +kernel
theorem dX7_findWrongPlace_2 : decode cX7_findWrongPlace 2 = .ok (.putfield 19, 3) := by decide +kernel
theorem dX7_findWrongPlace_5 : decode cX7_findWrongPlace 5 = .ok (.aload_n 0, 1) := by decide +kernel
theorem dX7_findWrongPlace_6 : decode cX7_findWrongPlace 6 = .ok (.iconst 0, 1) := by decide +kernel
theorem dX7_findWrongPlace_7 : decode cX7_findWrongPlace 7 = .ok (.putfield 22, 3) := by decide +kernel
theorem dX7_findWrongPlace_10 : decode cX7_findWrongPlace 10 = .ok (.iconst 0, 1) := by decide +kernel
theorem dX7_findWrongPlace_11 : decode cX7_findWrongPlace 11 = .ok (.istore_n 1, 1) := by decide +kernel
theorem dX7_findWrongPlace_12 : decode cX7_findWrongPlace 12 = .ok (.iload_n 1, 1) := by decide +kernel
theorem dX7_findWrongPlace_13 : decode cX7_findWrongPlace 13 = .ok (.aload_n 0, 1) := by decide +kernel
theorem dX7_findWrongPlace_14 : decode cX7_findWrongPlace 14 = .ok (.getfield 15, 3) := by decide +kernel
theorem dX7_findWrongPlace_17 : decode cX7_findWrongPlace 17 = .ok (.if_icmp .ge 24, 3) := by decide +kernel
theorem dX7_findWrongPlace_20 : decode cX7_findWrongPlace 20 = .ok (.aload_n 0, 1) := by decide +kernel
theorem dX7_findWrongPlace_21 : decode cX7_findWrongPlace 21 = .ok (.aload_n 0, 1) := by decide +kernel
theorem dX7_findWrongPlace_22 : decode cX7_findWrongPlace 22 = .ok (.getfield 9, 3) := by decide +kernel
theorem dX7_findWrongPlace_25 : decode cX7_findWrongPlace 25 = .ok (.iload_n 1, 1) := by decide +kernel
theorem dX7_findWrongPlace_26 : decode cX7_findWrongPlace 26 = .ok (.caload, 1) := by decide +kernel
theorem dX7_findWrongPlace_27 : decode cX7_findWrongPlace 27 = .ok (.invokevirtual 25, 3) := by decide +kernel
theorem dX7_findWrongPlace_30 : decode cX7_findWrongPlace 30 = .ok (.ifCond .ne 5, 3) := by decide +kernel
theorem dX7_findWrongPlace_33 : decode cX7_findWrongPlace 33 = .ok (.iload_n 1, 1) := by decide +kernel
theorem dX7_findWrongPlace_34 : decode cX7_findWrongPlace 34 = .ok (.ireturn, 1) := by decide +kernel
theorem dX7_findWrongPlace_35 : decode cX7_findWrongPlace 35 = .ok (.iinc 1 1, 3) := by decide +kernel
theorem dX7_findWrongPlace_38 : decode cX7_findWrongPlace 38 = .ok (.goto (-26), 3) := by decide +kernel
theorem dX7_findWrongPlace_41 : decode cX7_findWrongPlace 41 = .ok (.aload_n 0, 1) := by decide +kernel
theorem dX7_findWrongPlace_42 : decode cX7_findWrongPlace 42 = .ok (.getfield 19, 3) := by decide +kernel
theorem dX7_findWrongPlace_45 : decode cX7_findWrongPlace 45 = .ok (.iconst 1, 1) := by decide +kernel
theorem dX7_findWrongPlace_46 : decode cX7_findWrongPlace 46 = .ok (.if_icmp .eq 28, 3) := by decide +kernel
theorem dX7_findWrongPlace_49 : decode cX7_findWrongPlace 49 = .ok (.aload_n 0, 1) := by decide +kernel
theorem dX7_findWrongPlace_50 : decode cX7_findWrongPlace 50 = .ok (.getfield 19, 3) := by decide +kernel
theorem dX7_findWrongPlace_53 : decode cX7_findWrongPlace 53 = .ok (.iconst 3, 1) := by decide +kernel
theorem dX7_findWrongPlace_54 : decode cX7_findWrongPlace 54 = .ok (.if_icmp .eq 20, 3) := by decide +kernel
theorem dX7_findWrongPlace_57 : decode cX7_findWrongPlace 57 = .ok (.aload_n 0, 1) := by decide +kernel
theorem dX7_findWrongPlace_58 : decode cX7_findWrongPlace 58 = .ok (.getfield 19, 3) := by decide +kernel
theorem dX7_findWrongPlace_61 : decode cX7_findWrongPlace 61 = .ok (.iconst 4, 1) := by decide +kernel
theorem dX7_findWrongPlace_62 : decode cX7_findWrongPlace 62 = .ok (.if_icmp .eq 12, 3) := by decide +kernel
theorem dX7_findWrongPlace_65 : decode cX7_findWrongPlace 65 = .ok (.aload_n 0, 1) := by decide +kernel
theorem dX7_findWrongPlace_66 : decode cX7_findWrongPlace 66 = .ok (.getfield 19, 3) := by decide +kernel
theorem dX7_findWrongPlace_69 : decode cX7_findWrongPlace 69 = .ok (.bipush 6, 2) := by decide +kernel
theorem dX7_findWrongPlace_71 : decode cX7_findWrongPlace 71 = .ok (.if_icmp .ne 7, 3) := by decide +kernel
theorem dX7_findWrongPlace_74 : decode cX7_findWrongPlace 74 = .ok (.iconst 1, 1) := by decide +kernel
theorem dX7_findWrongPlace_75 : decode cX7_findWrongPlace 75 = .ok (.goto 4, 3) := by decide +kernel
theorem dX7_findWrongPlace_78 : decode cX7_findWrongPlace 78 = .ok (.iconst 0, 1) := by decide +kernel
theorem dX7_findWrongPlace_79 : decode cX7_findWrongPlace 79 = .ok (.istore_n 1, 1) := by decide +kernel
theorem dX7_findWrongPlace_80 : decode cX7_findWrongPlace 80 = .ok (.iload_n 1, 1) := by decide +kernel
theorem dX7_findWrongPlace_81 : decode cX7_findWrongPlace 81 = .ok (.ifCond .eq 14, 3) := by decide +kernel
theorem dX7_findWrongPlace_84 : decode cX7_findWrongPlace 84 = .ok (.aload_n 0, 1) := by decide +kernel
theorem dX7_findWrongPlace_85 : decode cX7_findWrongPlace 85 = .ok (.getfield 22, 3) := by decide +kernel
theorem dX7_findWrongPlace_88 : decode cX7_findWrongPlace 88 = .ok (.ifCond .ne 7, 3) := by decide +kernel
theorem dX7_findWrongPlace_91 : decode cX7_findWrongPlace 91 = .ok (.iconst (-1), 1) := by decide +kernel
theorem dX7_findWrongPlace_92 : decode cX7_findWrongPlace 92 = .ok (.goto 7, 3) := by decide +kernel
theorem dX7_findWrongPlace_95 : decode cX7_findWrongPlace 95 = .ok (.aload_n 0, 1) := by decide +kernel
theorem dX7_findWrongPlace_96 : decode cX7_findWrongPlace 96 = .ok (.getfield 15, 3) := by decide +kernel
theorem dX7_findWrongPlace_99 : decode cX7_findWrongPlace 99 = .ok (.ireturn, 1) := by decide +kernel
theorem dX7_takes_0 : decode cX7_takes 0 = .ok (.aload_n 0, 1) := by decide +kernel
theorem dX7_takes_1 : decode cX7_takes 1 = .ok (.getfield 19, 3) := by decide +kernel
theorem dX7_takes_4 : decode cX7_takes 4 = .ok (.tableswitch 89 0 5 #[40, 46, 52, 58, 89, 78], 40) := by decide +kernel
theorem dX7_takes_44 : decode cX7_takes 44 = .ok (.aload_n 0, 1) := by decide +kernel
theorem dX7_takes_45 : decode cX7_takes 45 = .ok (.iload_n 1, 1) := by decide +kernel
theorem dX7_takes_46 : decode cX7_takes 46 = .ok (.invokevirtual 29, 3) := by decide +kernel
theorem dX7_takes_49 : decode cX7_takes 49 = .ok (.ireturn, 1) := by decide +kernel
theorem dX7_takes_50 : decode cX7_takes 50 = .ok (.aload_n 0, 1) := by decide +kernel
theorem dX7_takes_51 : decode cX7_takes 51 = .ok (.iload_n 1, 1) := by decide +kernel
theorem dX7_takes_52 : decode cX7_takes 52 = .ok (.invokevirtual 32, 3) := by decide +kernel
theorem dX7_takes_55 : decode cX7_takes 55 = .ok (.ireturn, 1) := by decide +kernel
theorem dX7_takes_56 : decode cX7_takes 56 = .ok (.aload_n 0, 1) := by decide +kernel
theorem dX7_takes_57 : decode cX7_takes 57 = .ok (.iload_n 1, 1) := by decide +kernel
theorem dX7_takes_58 : decode cX7_takes 58 = .ok (.invokevirtual 35, 3) := by decide +kernel
theorem dX7_takes_61 : decode cX7_takes 61 = .ok (.ireturn, 1) := by decide +kernel
theorem dX7_takes_62 : decode cX7_takes 62 = .ok (.iload_n 1, 1) := by decide +kernel
theorem dX7_takes_63 : decode cX7_takes 63 = .ok (.invokestatic 38, 3) := by decide +kernel
theorem dX7_takes_66 : decode cX7_takes 66 = .ok (.ifCond .eq 10, 3) := by decide +kernel
theorem dX7_takes_69 : decode cX7_takes 69 = .ok (.aload_n 0, 1) := by decide +kernel
theorem dX7_takes_70 : decode cX7_takes 70 = .ok (.invokevirtual 41, 3) := by decide +kernel
theorem dX7_takes_73 : decode cX7_takes 73 = .ok (.goto 8, 3) := by decide +kernel
theorem dX7_takes_76 : decode cX7_takes 76 = .ok (.aload_n 0, 1) := by decide +kernel
theorem dX7_takes_77 : decode cX7_takes 77 = .ok (.iload_n 1, 1) := by decide +kernel
theorem dX7_takes_78 : decode cX7_takes 78 = .ok (.invokevirtual 45, 3) := by decide +kernel
theorem dX7_takes_81 : decode cX7_takes 81 = .ok (.ireturn, 1) := by decide +kernel
theorem dX7_takes_82 : decode cX7_takes 82 = .ok (.aload_n 0, 1) := by decide +kernel
theorem dX7_takes_83 : decode cX7_takes 83 = .ok (.bipush 6, 2) := by decide +kernel
theorem dX7_takes_85 : decode cX7_takes 85 = .ok (.putfield 19, 3) := by decide +kernel
theorem dX7_takes_88 : decode cX7_takes 88 = .ok (.iload_n 1, 1) := by decide +kernel
theorem dX7_takes_89 : decode cX7_takes 89 = .ok (.invokestatic 38, 3) := by decide +kernel
theorem dX7_takes_92 : decode cX7_takes 92 = .ok (.ireturn, 1) := by decide +kernel
theorem dX7_takes_93 : decode cX7_takes 93 = .ok (.aload_n 0, 1) := by decide +kernel
theorem dX7_takes_94 : decode cX7_takes 94 = .ok (.iload_n 1, 1) := by decide +kernel
theorem dX7_takes_95 : decode cX7_takes 95 = .ok (.invokevirtual 45, 3) := by decide +kernel
theorem dX7_takes_98 : decode cX7_takes 98 = .ok (.ireturn, 1) := by decide +kernel
theorem dX7_takesFirst_0 : decode cX7_takesFirst 0 = .ok (.iload_n 1, 1) := by decide +kernel
theorem dX7_takesFirst_1 : decode cX7_takesFirst 1 = .ok (.invokestatic 38, 3) := by decide +kernel
theorem dX7_takesFirst_4 : decode cX7_takesFirst 4 = .ok (.ifCond .eq 15, 3) := by decide +kernel
theorem dX7_takesFirst_7 : decode cX7_takesFirst 7 = .ok (.aload_n 0, 1) := by decide +kernel
theorem dX7_takesFirst_8 : decode cX7_takesFirst 8 = .ok (.iconst 1, 1) := by decide +kernel
theorem dX7_takesFirst_9 : decode cX7_takesFirst 9 = .ok (.putfield 19, 3) := by decide +kernel
theorem dX7_takesFirst_12 : decode cX7_takesFirst 12 = .ok (.aload_n 0, 1) := by decide +kernel
theorem dX7_takesFirst_13 : decode cX7_takesFirst 13 = .ok (.iconst 1, 1) := by decide +kernel
theorem dX7_takesFirst_14 : decode cX7_takesFirst 14 = .ok (.putfield 48, 3) := by decide +kernel
theorem dX7_takesFirst_17 : decode cX7_takesFirst 17 = .ok (.iconst 1, 1) := by decide +kernel
theorem dX7_takesFirst_18 : decode cX7_takesFirst 18 = .ok (.ireturn, 1) := by decide +kernel
theorem dX7_takesFirst_19 : decode cX7_takesFirst 19 = .ok (.iload_n 1, 1) := by decide +kernel
theorem dX7_takesFirst_20 : decode cX7_takesFirst 20 = .ok (.invokestatic 51, 3) := by decide +kernel
theorem dX7_takesFirst_23 : decode cX7_takesFirst 23 = .ok (.ifCond .ne 10, 3) := by decide +kernel
theorem dX7_takesFirst_26 : decode cX7_takesFirst 26 = .ok (.iload_n 1, 1) := by decide +kernel
theorem dX7_takesFirst_27 : decode cX7_takesFirst 27 = .ok (.invokestatic 54, 3) := by decide +kernel
theorem dX7_takesFirst_30 : decode cX7_takesFirst 30 = .ok (.ifCond .eq 10, 3) := by decide +kernel
theorem dX7_takesFirst_33 : decode cX7_takesFirst 33 = .ok (.aload_n 0, 1) := by decide +kernel
theorem dX7_takesFirst_34 : decode cX7_takesFirst 34 = .ok (.iconst 4, 1) := by decide +kernel
theorem dX7_takesFirst_35 : decode cX7_takesFirst 35 = .ok (.putfield 19, 3) := by decide +kernel
theorem dX7_takesFirst_38 : decode cX7_takesFirst 38 = .ok (.iconst 1, 1) := by decide +kernel
theorem dX7_takesFirst_39 : decode cX7_takesFirst 39 = .ok (.ireturn, 1) := by decide +kernel
theorem dX7_takesFirst_40 : decode cX7_takesFirst 40 = .ok (.iload_n 1, 1) := by decide +kernel
theorem dX7_takesFirst_41 : decode cX7_takesFirst 41 = .ok (.bipush 40, 2) := by decide +kernel
theorem dX7_takesFirst_43 : decode cX7_takesFirst 43 = .ok (.if_icmp .ne 15, 3) := by decide +kernel
theorem dX7_takesFirst_46 : decode cX7_takesFirst 46 = .ok (.aload_n 0, 1) := by decide +kernel
theorem dX7_takesFirst_47 : decode cX7_takesFirst 47 = .ok (.dup, 1) := by decide +kernel
theorem dX7_takesFirst_48 : decode cX7_takesFirst 48 = .ok (.getfield 22, 3) := by decide +kernel
theorem dX7_takesFirst_51 : decode cX7_takesFirst 51 = .ok (.iconst 1, 1) := by decide +kernel
theorem dX7_takesFirst_52 : decode cX7_takesFirst 52 = .ok (.iadd, 1) := by decide +kernel
theorem dX7_takesFirst_53 : decode cX7_takesFirst 53 = .ok (.putfield 22, 3) := by decide +kernel
theorem dX7_takesFirst_56 : decode cX7_takesFirst 56 = .ok (.iconst 1, 1) := by decide +kernel
theorem dX7_takesFirst_57 : decode cX7_takesFirst 57 = .ok (.ireturn, 1) := by decide +kernel
theorem dX7_takesFirst_58 : decode cX7_takesFirst 58 = .ok (.iload_n 1, 1) := by decide +kernel
theorem dX7_takesFirst_59 : decode cX7_takesFirst 59 = .ok (.bipush 45, 2) := by decide +kernel
theorem dX7_takesFirst_61 : decode cX7_takesFirst 61 = .ok (.if_icmp .ne 7, 3) := by decide +kernel
theorem dX7_takesFirst_64 : decode cX7_takesFirst 64 = .ok (.iconst 1, 1) := by decide +kernel
theorem dX7_takesFirst_65 : decode cX7_takesFirst 65 = .ok (.goto 4, 3) := by decide +kernel
theorem dX7_takesFirst_68 : decode cX7_takesFirst 68 = .ok (.iconst 0, 1) := by decide +kernel
theorem dX7_takesFirst_69 : decode cX7_takesFirst 69 = .ok (.ireturn, 1) := by decide +kernel
theorem dX7_takesInTop_0 : decode cX7_takesInTop 0 = .ok (.iload_n 1, 1) := by decide +kernel
theorem dX7_takesInTop_1 : decode cX7_takesInTop 1 = .ok (.bipush 47, 2) := by decide +kernel
theorem dX7_takesInTop_3 : decode cX7_takesInTop 3 = .ok (.if_icmp .ne 15, 3) := by decide +kernel
theorem dX7_takesInTop_6 : decode cX7_takesInTop 6 = .ok (.aload_n 0, 1) := by decide +kernel
theorem dX7_takesInTop_7 : decode cX7_takesInTop 7 = .ok (.iconst 2, 1) := by decide +kernel
theorem dX7_takesInTop_8 : decode cX7_takesInTop 8 = .ok (.putfield 19, 3) := by decide +kernel
theorem dX7_takesInTop_11 : decode cX7_takesInTop 11 = .ok (.aload_n 0, 1) := by decide +kernel
theorem dX7_takesInTop_12 : decode cX7_takesInTop 12 = .ok (.iconst 0, 1) := by decide +kernel
theorem dX7_takesInTop_13 : decode cX7_takesInTop 13 = .ok (.putfield 48, 3) := by decide +kernel
theorem dX7_takesInTop_16 : decode cX7_takesInTop 16 = .ok (.iconst 1, 1) := by decide +kernel
theorem dX7_takesInTop_17 : decode cX7_takesInTop 17 = .ok (.ireturn, 1) := by decide +kernel
theorem dX7_takesInTop_18 : decode cX7_takesInTop 18 = .ok (.iload_n 1, 1) := by decide +kernel
theorem dX7_takesInTop_19 : decode cX7_takesInTop 19 = .ok (.invokestatic 38, 3) := by decide +kernel
theorem dX7_takesInTop_22 : decode cX7_takesInTop 22 = .ok (.ifCond .eq 10, 3) := by decide +kernel
theorem dX7_takesInTop_25 : decode cX7_takesInTop 25 = .ok (.aload_n 0, 1) := by decide +kernel
theorem dX7_takesInTop_26 : decode cX7_takesInTop 26 = .ok (.invokevirtual 41, 3) := by decide +kernel
theorem dX7_takesInTop_29 : decode cX7_takesInTop 29 = .ok (.goto 8, 3) := by decide +kernel
theorem dX7_takesInTop_32 : decode cX7_takesInTop 32 = .ok (.aload_n 0, 1) := by decide +kernel
theorem dX7_takesInTop_33 : decode cX7_takesInTop 33 = .ok (.iload_n 1, 1) := by decide +kernel
theorem dX7_takesInTop_34 : decode cX7_takesInTop 34 = .ok (.invokevirtual 45, 3) := by decide +kernel
theorem dX7_takesInTop_37 : decode cX7_takesInTop 37 = .ok (.ireturn, 1) := by decide +kernel
theorem dX7_takesInZeros_0 : decode cX7_takesInZeros 0 = .ok (.iload_n 1, 1) := by decide +kernel
theorem dX7_takesInZeros_1 : decode cX7_takesInZeros 1 = .ok (.bipush 48, 2) := by decide +kernel
theorem dX7_takesInZeros_3 : decode cX7_takesInZeros 3 = .ok (.if_icmp .ne 27, 3) := by decide +kernel
theorem dX7_takesInZeros_6 : decode cX7_takesInZeros 6 = .ok (.aload_n 0, 1) := by decide +kernel
theorem dX7_takesInZeros_7 : decode cX7_takesInZeros 7 = .ok (.dup, 1) := by decide +kernel
theorem dX7_takesInZeros_8 : decode cX7_takesInZeros 8 = .ok (.getfield 48, 3) := by decide +kernel
theorem dX7_takesInZeros_11 : decode cX7_takesInZeros 11 = .ok (.iconst 1, 1) := by decide +kernel
theorem dX7_takesInZeros_12 : decode cX7_takesInZeros 12 = .ok (.iadd, 1) := by decide +kernel
theorem dX7_takesInZeros_13 : decode cX7_takesInZeros 13 = .ok (.putfield 48, 3) := by decide +kernel
theorem dX7_takesInZeros_16 : decode cX7_takesInZeros 16 = .ok (.aload_n 0, 1) := by decide +kernel
theorem dX7_takesInZeros_17 : decode cX7_takesInZeros 17 = .ok (.getfield 48, 3) := by decide +kernel
theorem dX7_takesInZeros_20 : decode cX7_takesInZeros 20 = .ok (.iconst 4, 1) := by decide +kernel
theorem dX7_takesInZeros_21 : decode cX7_takesInZeros 21 = .ok (.if_icmp .ge 7, 3) := by decide +kernel
theorem dX7_takesInZeros_24 : decode cX7_takesInZeros 24 = .ok (.iconst 1, 1) := by decide +kernel
theorem dX7_takesInZeros_25 : decode cX7_takesInZeros 25 = .ok (.goto 4, 3) := by decide +kernel
theorem dX7_takesInZeros_28 : decode cX7_takesInZeros 28 = .ok (.iconst 0, 1) := by decide +kernel
theorem dX7_takesInZeros_29 : decode cX7_takesInZeros 29 = .ok (.ireturn, 1) := by decide +kernel
theorem dX7_takesInZeros_30 : decode cX7_takesInZeros 30 = .ok (.aload_n 0, 1) := by decide +kernel
theorem dX7_takesInZeros_31 : decode cX7_takesInZeros 31 = .ok (.iconst 3, 1) := by decide +kernel
theorem dX7_takesInZeros_32 : decode cX7_takesInZeros 32 = .ok (.putfield 19, 3) := by decide +kernel
theorem dX7_takesInZeros_35 : decode cX7_takesInZeros 35 = .ok (.iload_n 1, 1) := by decide +kernel
theorem dX7_takesInZeros_36 : decode cX7_takesInZeros 36 = .ok (.invokestatic 38, 3) := by decide +kernel
theorem dX7_takesInZeros_39 : decode cX7_takesInZeros 39 = .ok (.ifCond .eq 14, 3) := by decide +kernel
theorem dX7_takesInZeros_42 : decode cX7_takesInZeros 42 = .ok (.aload_n 0, 1) := by decide +kernel
theorem dX7_takesInZeros_43 : decode cX7_takesInZeros 43 = .ok (.invokevirtual 41, 3) := by decide +kernel
theorem dX7_takesInZeros_46 : decode cX7_takesInZeros 46 = .ok (.ifCond .eq 7, 3) := by decide +kernel
theorem dX7_takesInZeros_49 : decode cX7_takesInZeros 49 = .ok (.iconst 1, 1) := by decide +kernel
theorem dX7_takesInZeros_50 : decode cX7_takesInZeros 50 = .ok (.goto 4, 3) := by decide +kernel
theorem dX7_takesInZeros_53 : decode cX7_takesInZeros 53 = .ok (.iconst 0, 1) := by decide +kernel
theorem dX7_takesInZeros_54 : decode cX7_takesInZeros 54 = .ok (.ireturn, 1) := by decide +kernel
theorem dX7_takesDigit_0 : decode cX7_takesDigit 0 = .ok (.aload_n 0, 1) := by decide +kernel
theorem dX7_takesDigit_1 : decode cX7_takesDigit 1 = .ok (.dup, 1) := by decide +kernel
theorem dX7_takesDigit_2 : decode cX7_takesDigit 2 = .ok (.getfield 48, 3) := by decide +kernel
theorem dX7_takesDigit_5 : decode cX7_takesDigit 5 = .ok (.iconst 1, 1) := by decide +kernel
theorem dX7_takesDigit_6 : decode cX7_takesDigit 6 = .ok (.iadd, 1) := by decide +kernel
theorem dX7_takesDigit_7 : decode cX7_takesDigit 7 = .ok (.putfield 48, 3) := by decide +kernel
theorem dX7_takesDigit_10 : decode cX7_takesDigit 10 = .ok (.aload_n 0, 1) := by decide +kernel
theorem dX7_takesDigit_11 : decode cX7_takesDigit 11 = .ok (.getfield 48, 3) := by decide +kernel
theorem dX7_takesDigit_14 : decode cX7_takesDigit 14 = .ok (.iconst 4, 1) := by decide +kernel
theorem dX7_takesDigit_15 : decode cX7_takesDigit 15 = .ok (.if_icmp .gt 7, 3) := by decide +kernel
theorem dX7_takesDigit_18 : decode cX7_takesDigit 18 = .ok (.iconst 1, 1) := by decide +kernel
theorem dX7_takesDigit_19 : decode cX7_takesDigit 19 = .ok (.goto 4, 3) := by decide +kernel
theorem dX7_takesDigit_22 : decode cX7_takesDigit 22 = .ok (.iconst 0, 1) := by decide +kernel
theorem dX7_takesDigit_23 : decode cX7_takesDigit 23 = .ok (.ireturn, 1) := by decide +kernel
theorem dX7_takesNext_0 : decode cX7_takesNext 0 = .ok (.iload_n 1, 1) := by decide +kernel
theorem dX7_takesNext_1 : decode cX7_takesNext 1 = .ok (.bipush 94, 2) := by decide +kernel
theorem dX7_takesNext_3 : decode cX7_takesNext 3 = .ok (.if_icmp .ne 25, 3) := by decide +kernel
theorem dX7_takesNext_6 : decode cX7_takesNext 6 = .ok (.aload_n 0, 1) := by decide +kernel
theorem dX7_takesNext_7 : decode cX7_takesNext 7 = .ok (.getfield 19, 3) := by decide +kernel
theorem dX7_takesNext_10 : decode cX7_takesNext 10 = .ok (.bipush 6, 2) := by decide +kernel
theorem dX7_takesNext_12 : decode cX7_takesNext 12 = .ok (.if_icmp .eq 7, 3) := by decide +kernel
theorem dX7_takesNext_15 : decode cX7_takesNext 15 = .ok (.iconst 1, 1) := by decide +kernel
theorem dX7_takesNext_16 : decode cX7_takesNext 16 = .ok (.goto 4, 3) := by decide +kernel
theorem dX7_takesNext_19 : decode cX7_takesNext 19 = .ok (.iconst 0, 1) := by decide +kernel
theorem dX7_takesNext_20 : decode cX7_takesNext 20 = .ok (.istore_n 2, 1) := by decide +kernel
theorem dX7_takesNext_21 : decode cX7_takesNext 21 = .ok (.aload_n 0, 1) := by decide +kernel
theorem dX7_takesNext_22 : decode cX7_takesNext 22 = .ok (.iconst 5, 1) := by decide +kernel
theorem dX7_takesNext_23 : decode cX7_takesNext 23 = .ok (.putfield 19, 3) := by decide +kernel
theorem dX7_takesNext_26 : decode cX7_takesNext 26 = .ok (.iload_n 2, 1) := by decide +kernel
theorem dX7_takesNext_27 : decode cX7_takesNext 27 = .ok (.ireturn, 1) := by decide +kernel
theorem dX7_takesNext_28 : decode cX7_takesNext 28 = .ok (.iload_n 1, 1) := by decide +kernel
theorem dX7_takesNext_29 : decode cX7_takesNext 29 = .ok (.bipush 41, 2) := by decide +kernel
theorem dX7_takesNext_31 : decode cX7_takesNext 31 = .ok (.if_icmp .ne 31, 3) := by decide +kernel
theorem dX7_takesNext_34 : decode cX7_takesNext 34 = .ok (.aload_n 0, 1) := by decide +kernel
theorem dX7_takesNext_35 : decode cX7_takesNext 35 = .ok (.iconst 4, 1) := by decide +kernel
theorem dX7_takesNext_36 : decode cX7_takesNext 36 = .ok (.putfield 19, 3) := by decide +kernel
theorem dX7_takesNext_39 : decode cX7_takesNext 39 = .ok (.aload_n 0, 1) := by decide +kernel
theorem dX7_takesNext_40 : decode cX7_takesNext 40 = .ok (.dup, 1) := by decide +kernel
theorem dX7_takesNext_41 : decode cX7_takesNext 41 = .ok (.getfield 22, 3) := by decide +kernel
theorem dX7_takesNext_44 : decode cX7_takesNext 44 = .ok (.iconst 1, 1) := by decide +kernel
theorem dX7_takesNext_45 : decode cX7_takesNext 45 = .ok (.isub, 1) := by decide +kernel
theorem dX7_takesNext_46 : decode cX7_takesNext 46 = .ok (.putfield 22, 3) := by decide +kernel
theorem dX7_takesNext_49 : decode cX7_takesNext 49 = .ok (.aload_n 0, 1) := by decide +kernel
theorem dX7_takesNext_50 : decode cX7_takesNext 50 = .ok (.getfield 22, 3) := by decide +kernel
theorem dX7_takesNext_53 : decode cX7_takesNext 53 = .ok (.ifCond .lt 7, 3) := by decide +kernel
theorem dX7_takesNext_56 : decode cX7_takesNext 56 = .ok (.iconst 1, 1) := by decide +kernel
theorem dX7_takesNext_57 : decode cX7_takesNext 57 = .ok (.goto 4, 3) := by decide +kernel
theorem dX7_takesNext_60 : decode cX7_takesNext 60 = .ok (.iconst 0, 1) := by decide +kernel
theorem dX7_takesNext_61 : decode cX7_takesNext 61 = .ok (.ireturn, 1) := by decide +kernel
theorem dX7_takesNext_62 : decode cX7_takesNext 62 = .ok (.aload_n 0, 1) := by decide +kernel
theorem dX7_takesNext_63 : decode cX7_takesNext 63 = .ok (.iconst 0, 1) := by decide +kernel
theorem dX7_takesNext_64 : decode cX7_takesNext 64 = .ok (.putfield 19, 3) := by decide +kernel
theorem dX7_takesNext_67 : decode cX7_takesNext 67 = .ok (.iload_n 1, 1) := by decide +kernel
theorem dX7_takesNext_68 : decode cX7_takesNext 68 = .ok (.bipush 43, 2) := by decide +kernel
theorem dX7_takesNext_70 : decode cX7_takesNext 70 = .ok (.if_icmp .eq 15, 3) := by decide +kernel
theorem dX7_takesNext_73 : decode cX7_takesNext 73 = .ok (.iload_n 1, 1) := by decide +kernel
theorem dX7_takesNext_74 : decode cX7_takesNext 74 = .ok (.bipush 45, 2) := by decide +kernel
theorem dX7_takesNext_76 : decode cX7_takesNext 76 = .ok (.if_icmp .eq 9, 3) := by decide +kernel
theorem dX7_takesNext_79 : decode cX7_takesNext 79 = .ok (.iload_n 1, 1) := by decide +kernel
theorem dX7_takesNext_80 : decode cX7_takesNext 80 = .ok (.bipush 42, 2) := by decide +kernel
theorem dX7_takesNext_82 : decode cX7_takesNext 82 = .ok (.if_icmp .ne 7, 3) := by decide +kernel
theorem dX7_takesNext_85 : decode cX7_takesNext 85 = .ok (.iconst 1, 1) := by decide +kernel
theorem dX7_takesNext_86 : decode cX7_takesNext 86 = .ok (.goto 4, 3) := by decide +kernel
theorem dX7_takesNext_89 : decode cX7_takesNext 89 = .ok (.iconst 0, 1) := by decide +kernel
theorem dX7_takesNext_90 : decode cX7_takesNext 90 = .ok (.ireturn, 1) := by decide +kernel
