theorem dX10_assign_0 : decode cX10_assign 0 = .ok (.lload_n 2, 1) := by decide +kernel
theorem dX10_assign_1 : decode cX10_assign 1 = .ok (.lconst 0, 1) := by decide +kernel
theorem dX10_assign_2 : decode cX10_assign 2 = .ok (.lcmp, 1) := by decide +kernel
theorem dX10_assign_3 : decode cX10_assign 3 = .ok (.ifCond .ge 8, 3) := by decide +kernel
theorem dX10_assign_6 : decode cX10_assign 6 = .ok (.lload_n 2, 1) := by decide +kernel
theorem dX10_assign_7 : decode cX10_assign 7 = .ok (.lneg, 1) := by decide +kernel
theorem dX10_assign_8 : decode cX10_assign 8 = .ok (.goto 4, 3) := by decide +kernel
theorem dX10_assign_11 : decode cX10_assign 11 = .ok (.lload_n 2, 1) := by decide +kernel
theorem dX10_assign_12 : decode cX10_assign 12 = .ok (.lstore 4, 2) := by decide +kernel
theorem dX10_assign_14 : decode cX10_assign 14 = .ok (.aload_n 0, 1) := by decide +kernel
theorem dX10_assign_15 : decode cX10_assign 15 = .ok (.getfield 8, 3) := by decide +kernel
theorem dX10_assign_18 : decode cX10_assign 18 = .ok (.bipush 80, 2) := by decide +kernel
theorem dX10_assign_20 : decode cX10_assign 20 = .ok (.iload_n 1, 1) := by decide +kernel
theorem dX10_assign_21 : decode cX10_assign 21 = .ok (.imul, 1) := by decide +kernel
theorem dX10_assign_22 : decode cX10_assign 22 = .ok (.lload 4, 2) := by decide +kernel
theorem dX10_assign_24 : decode cX10_assign 24 = .ok (.ldc2_w 81, 3) := by decide +kernel
theorem dX10_assign_27 : decode cX10_assign 27 = .ok (.land, 1) := by decide +kernel
theorem dX10_assign_28 : decode cX10_assign 28 = .ok (.lastore, 1) := by decide +kernel
theorem dX10_assign_29 : decode cX10_assign 29 = .ok (.aload_n 0, 1) := by decide +kernel
theorem dX10_assign_30 : decode cX10_assign 30 = .ok (.getfield 8, 3) := by decide +kernel
theorem dX10_assign_33 : decode cX10_assign 33 = .ok (.bipush 80, 2) := by decide +kernel
theorem dX10_assign_35 : decode cX10_assign 35 = .ok (.iload_n 1, 1) := by decide +kernel
theorem dX10_assign_36 : decode cX10_assign 36 = .ok (.imul, 1) := by decide +kernel
theorem dX10_assign_37 : decode cX10_assign 37 = .ok (.iconst 1, 1) := by decide +kernel
theorem dX10_assign_38 : decode cX10_assign 38 = .ok (.iadd, 1) := by decide +kernel
theorem dX10_assign_39 : decode cX10_assign 39 = .ok (.lload 4, 2) := by decide +kernel
theorem dX10_assign_41 : decode cX10_assign 41 = .ok (.bipush 32, 2) := by decide +kernel
theorem dX10_assign_43 : decode cX10_assign 43 = .ok (.lushr, 1) := by decide +kernel
theorem dX10_assign_44 : decode cX10_assign 44 = .ok (.lastore, 1) := by decide +kernel
theorem dX10_assign_45 : decode cX10_assign 45 = .ok (.aload_n 0, 1) := by decide +kernel
theorem dX10_assign_46 : decode cX10_assign 46 = .ok (.getfield 14, 3) := by decide +kernel
theorem dX10_assign_49 : decode cX10_assign 49 = .ok (.iload_n 1, 1) := by decide +kernel
theorem dX10_assign_50 : decode cX10_assign 50 = .ok (.iconst 2, 1) := by decide +kernel
theorem dX10_assign_51 : decode cX10_assign 51 = .ok (.iastore, 1) := by decide +kernel
theorem dX10_assign_52 : decode cX10_assign 52 = .ok (.aload_n 0, 1) := by decide +kernel
theorem dX10_assign_53 : decode cX10_assign 53 = .ok (.getfield 18, 3) := by decide +kernel
theorem dX10_assign_56 : decode cX10_assign 56 = .ok (.iload_n 1, 1) := by decide +kernel
theorem dX10_assign_57 : decode cX10_assign 57 = .ok (.lload_n 2, 1) := by decide +kernel
theorem dX10_assign_58 : decode cX10_assign 58 = .ok (.lconst 0, 1) := by decide +kernel
theorem dX10_assign_59 : decode cX10_assign 59 = .ok (.lcmp, 1) := by decide +kernel
theorem dX10_assign_60 : decode cX10_assign 60 = .ok (.ifCond .ge 7, 3) := by decide +kernel
theorem dX10_assign_63 : decode cX10_assign 63 = .ok (.iconst 1, 1) := by decide +kernel
theorem dX10_assign_64 : decode cX10_assign 64 = .ok (.goto 4, 3) := by decide +kernel
theorem dX10_assign_67 : decode cX10_assign 67 = .ok (.iconst 0, 1) := by decide +kernel
theorem dX10_assign_68 : decode cX10_assign 68 = .ok (.bastore, 1) := by decide +kernel
theorem dX10_assign_69 : decode cX10_assign 69 = .ok (.aload_n 0, 1) := by decide +kernel
theorem dX10_assign_70 : decode cX10_assign 70 = .ok (.iload_n 1, 1) := by decide +kernel
theorem dX10_assign_71 : decode cX10_assign 71 = .ok (.invokevirtual 83, 3) := by decide +kernel
theorem dX10_assign_74 : decode cX10_assign 74 = .ok (.return_, 1) := by decide +kernel
theorem dX10_copy_0 : decode cX10_copy 0 = .ok (.iconst 0, 1) := by decide +kernel
theorem dX10_copy_1 : decode cX10_copy 1 = .ok (.istore_n 3, 1) := by decide +kernel
theorem dX10_copy_2 : decode cX10_copy 2 = .ok (.iload_n 3, 1) := by decide +kernel
theorem dX10_copy_3 : decode cX10_copy 3 = .ok (.aload_n 0, 1) := by decide +kernel
theorem dX10_copy_4 : decode cX10_copy 4 = .ok (.getfield 14, 3) := by decide +kernel
theorem dX10_copy_7 : decode cX10_copy 7 = .ok (.iload_n 2, 1) := by decide +kernel
theorem dX10_copy_8 : decode cX10_copy 8 = .ok (.iaload, 1) := by decide +kernel
theorem dX10_copy_9 : decode cX10_copy 9 = .ok (.if_icmp .ge 31, 3) := by decide +kernel
theorem dX10_copy_12 : decode cX10_copy 12 = .ok (.aload_n 0, 1) := by decide +kernel
theorem dX10_copy_13 : decode cX10_copy 13 = .ok (.getfield 8, 3) := by decide +kernel
theorem dX10_copy_16 : decode cX10_copy 16 = .ok (.bipush 80, 2) := by decide +kernel
theorem dX10_copy_18 : decode cX10_copy 18 = .ok (.iload_n 1, 1) := by decide +kernel
theorem dX10_copy_19 : decode cX10_copy 19 = .ok (.imul, 1) := by decide +kernel
theorem dX10_copy_20 : decode cX10_copy 20 = .ok (.iload_n 3, 1) := by decide +kernel
theorem dX10_copy_21 : decode cX10_copy 21 = .ok (.iadd, 1) := by decide +kernel
theorem dX10_copy_22 : decode cX10_copy 22 = .ok (.aload_n 0, 1) := by decide +kernel
theorem dX10_copy_23 : decode cX10_copy 23 = .ok (.getfield 8, 3) := by decide +kernel
theorem dX10_copy_26 : decode cX10_copy 26 = .ok (.bipush 80, 2) := by decide +kernel
theorem dX10_copy_28 : decode cX10_copy 28 = .ok (.iload_n 2, 1) := by decide +kernel
theorem dX10_copy_29 : decode cX10_copy 29 = .ok (.imul, 1) := by decide +kernel
theorem dX10_copy_30 : decode cX10_copy 30 = .ok (.iload_n 3, 1) := by decide +kernel
theorem dX10_copy_31 : decode cX10_copy 31 = .ok (.iadd, 1) := by decide +kernel
theorem dX10_copy_32 : decode cX10_copy 32 = .ok (.laload, 1) := by decide +kernel
theorem dX10_copy_33 : decode cX10_copy 33 = .ok (.lastore, 1) := by decide +kernel
theorem dX10_copy_34 : decode cX10_copy 34 = .ok (.iinc 3 1, 3) := by decide +kernel
theorem dX10_copy_37 : decode cX10_copy 37 = .ok (.goto (-35), 3) := by decide +kernel
theorem dX10_copy_40 : decode cX10_copy 40 = .ok (.aload_n 0, 1) := by decide +kernel
theorem dX10_copy_41 : decode cX10_copy 41 = .ok (.getfield 14, 3) := by decide +kernel
theorem dX10_copy_44 : decode cX10_copy 44 = .ok (.iload_n 1, 1) := by decide +kernel
theorem dX10_copy_45 : decode cX10_copy 45 = .ok (.aload_n 0, 1) := by decide +kernel
theorem dX10_copy_46 : decode cX10_copy 46 = .ok (.getfield 14, 3) := by decide +kernel
theorem dX10_copy_49 : decode cX10_copy 49 = .ok (.iload_n 2, 1) := by decide +kernel
theorem dX10_copy_50 : decode cX10_copy 50 = .ok (.iaload, 1) := by decide +kernel
theorem dX10_copy_51 : decode cX10_copy 51 = .ok (.iastore, 1) := by decide +kernel
theorem dX10_copy_52 : decode cX10_copy 52 = .ok (.aload_n 0, 1) := by decide +kernel
theorem dX10_copy_53 : decode cX10_copy 53 = .ok (.getfield 18, 3) := by decide +kernel
theorem dX10_copy_56 : decode cX10_copy 56 = .ok (.iload_n 1, 1) := by decide +kernel
theorem dX10_copy_57 : decode cX10_copy 57 = .ok (.aload_n 0, 1) := by decide +kernel
theorem dX10_copy_58 : decode cX10_copy 58 = .ok (.getfield 18, 3) := by decide +kernel
theorem dX10_copy_61 : decode cX10_copy 61 = .ok (.iload_n 2, 1) := by decide +kernel
theorem dX10_copy_62 : decode cX10_copy 62 = .ok (.baload, 1) := by decide +kernel
theorem dX10_copy_63 : decode cX10_copy 63 = .ok (.bastore, 1) := by decide +kernel
theorem dX10_copy_64 : decode cX10_copy 64 = .ok (.return_, 1) := by decide +kernel
theorem dX10_compareSizes_0 : decode cX10_compareSizes 0 = .ok (.aload_n 0, 1) := by decide +kernel
theorem dX10_compareSizes_1 : decode cX10_compareSizes 1 = .ok (.getfield 14, 3) := by decide +kernel
theorem dX10_compareSizes_4 : decode cX10_compareSizes 4 = .ok (.iload_n 1, 1) := by decide +kernel
theorem dX10_compareSizes_5 : decode cX10_compareSizes 5 = .ok (.iaload, 1) := by decide +kernel
theorem dX10_compareSizes_6 : decode cX10_compareSizes 6 = .ok (.aload_n 0, 1) := by decide +kernel
theorem dX10_compareSizes_7 : decode cX10_compareSizes 7 = .ok (.getfield 14, 3) := by decide +kernel
theorem dX10_compareSizes_10 : decode cX10_compareSizes 10 = .ok (.iload_n 2, 1) := by decide +kernel
theorem dX10_compareSizes_11 : decode cX10_compareSizes 11 = .ok (.iaload, 1) := by decide +kernel
theorem dX10_compareSizes_12 : decode cX10_compareSizes 12 = .ok (.if_icmp .le 12, 3) := by decide +kernel
theorem dX10_compareSizes_15 : decode cX10_compareSizes 15 = .ok (.aload_n 0, 1) := by decide +kernel
theorem dX10_compareSizes_16 : decode cX10_compareSizes 16 = .ok (.getfield 14, 3) := by decide +kernel
theorem dX10_compareSizes_19 : decode cX10_compareSizes 19 = .ok (.iload_n 1, 1) := by decide +kernel
theorem dX10_compareSizes_20 : decode cX10_compareSizes 20 = .ok (.iaload, 1) := by decide +kernel
theorem dX10_compareSizes_21 : decode cX10_compareSizes 21 = .ok (.goto 9, 3) := by decide +kernel
theorem dX10_compareSizes_24 : decode cX10_compareSizes 24 = .ok (.aload_n 0, 1) := by decide +kernel
theorem dX10_compareSizes_25 : decode cX10_compareSizes 25 = .ok (.getfield 14, 3) := by decide +kernel
theorem dX10_compareSizes_28 : decode cX10_compareSizes 28 = .ok (.iload_n 2, 1) := by decide +kernel
theorem dX10_compareSizes_29 : decode cX10_compareSizes 29 = .ok (.iaload, 1) := by decide +kernel
theorem dX10_compareSizes_30 : decode cX10_compareSizes 30 = .ok (.istore_n 3, 1) := by decide +kernel
theorem dX10_compareSizes_31 : decode cX10_compareSizes 31 = .ok (.iload_n 3, 1) := by decide +kernel
theorem dX10_compareSizes_32 : decode cX10_compareSizes 32 = .ok (.iconst 1, 1) := by decide +kernel
theorem dX10_compareSizes_33 : decode cX10_compareSizes 33 = .ok (.isub, 1) := by decide +kernel
theorem dX10_compareSizes_34 : decode cX10_compareSizes 34 = .ok (.istore 4, 2) := by decide +kernel
theorem dX10_compareSizes_36 : decode cX10_compareSizes 36 = .ok (.iload 4, 2) := by decide +kernel
theorem dX10_compareSizes_38 : decode cX10_compareSizes 38 = .ok (.ifCond .lt 51, 3) := by decide +kernel
theorem dX10_compareSizes_41 : decode cX10_compareSizes 41 = .ok (.aload_n 0, 1) := by decide +kernel
theorem dX10_compareSizes_42 : decode cX10_compareSizes 42 = .ok (.iload_n 1, 1) := by decide +kernel
theorem dX10_compareSizes_43 : decode cX10_compareSizes 43 = .ok (.iload 4, 2) := by decide +kernel
theorem dX10_compareSizes_45 : decode cX10_compareSizes 45 = .ok (.invokevirtual 87, 3) := by decide +kernel
theorem dX10_compareSizes_48 : decode cX10_compareSizes 48 = .ok (.aload_n 0, 1) := by decide +kernel
theorem dX10_compareSizes_49 : decode cX10_compareSizes 49 = .ok (.iload_n 2, 1) := by decide +kernel
theorem dX10_compareSizes_50 : decode cX10_compareSizes 50 = .ok (.iload 4, 2) := by decide +kernel
theorem dX10_compareSizes_52 : decode cX10_compareSizes 52 = .ok (.invokevirtual 87, 3) := by decide +kernel
theorem dX10_compareSizes_55 : decode cX10_compareSizes 55 = .ok (.lcmp, 1) := by decide +kernel
theorem dX10_compareSizes_56 : decode cX10_compareSizes 56 = .ok (.ifCond .eq 27, 3) := by decide +kernel
theorem dX10_compareSizes_59 : decode cX10_compareSizes 59 = .ok (.aload_n 0, 1) := by decide +kernel
theorem dX10_compareSizes_60 : decode cX10_compareSizes 60 = .ok (.iload_n 1, 1) := by decide +kernel
theorem dX10_compareSizes_61 : decode cX10_compareSizes 61 = .ok (.iload 4, 2) := by decide +kernel
theorem dX10_compareSizes_63 : decode cX10_compareSizes 63 = .ok (.invokevirtual 87, 3) := by decide +kernel
theorem dX10_compareSizes_66 : decode cX10_compareSizes 66 = .ok (.aload_n 0, 1) := by decide +kernel
theorem dX10_compareSizes_67 : decode cX10_compareSizes 67 = .ok (.iload_n 2, 1) := by decide +kernel
theorem dX10_compareSizes_68 : decode cX10_compareSizes 68 = .ok (.iload 4, 2) := by decide +kernel
theorem dX10_compareSizes_70 : decode cX10_compareSizes 70 = .ok (.invokevirtual 87, 3) := by decide +kernel
theorem dX10_compareSizes_73 : decode cX10_compareSizes 73 = .ok (.lcmp, 1) := by decide +kernel
theorem dX10_compareSizes_74 : decode cX10_compareSizes 74 = .ok (.ifCond .ge 7, 3) := by decide +kernel
theorem dX10_compareSizes_77 : decode cX10_compareSizes 77 = .ok (.iconst (-1), 1) := by decide +kernel
theorem dX10_compareSizes_78 : decode cX10_compareSizes 78 = .ok (.goto 4, 3) := by decide +kernel
theorem dX10_compareSizes_81 : decode cX10_compareSizes 81 = .ok (.iconst 1, 1) := by decide +kernel
theorem dX10_compareSizes_82 : decode cX10_compareSizes 82 = .ok (.ireturn, 1) := by decide +kernel
theorem dX10_compareSizes_83 : decode cX10_compareSizes 83 = .ok (.iinc 4 (-1), 3) := by decide +kernel
theorem dX10_compareSizes_86 : decode cX10_compareSizes 86 = .ok (.goto (-50), 3) := by decide +kernel
theorem dX10_compareSizes_89 : decode cX10_compareSizes 89 = .ok (.iconst 0, 1) := by decide +kernel
theorem dX10_compareSizes_90 : decode cX10_compareSizes 90 = .ok (.ireturn, 1) := by decide +kernel
theorem dX10_addSizes_0 : decode cX10_addSizes 0 = .ok (.aload_n 0, 1) := by decide +kernel
theorem dX10_addSizes_1 : decode cX10_addSizes 1 = .ok (.getfield 14, 3) := by decide +kernel
theorem dX10_addSizes_4 : decode cX10_addSizes 4 = .ok (.iload_n 2, 1) := by decide +kernel
theorem dX10_addSizes_5 : decode cX10_addSizes 5 = .ok (.iaload, 1) := by decide +kernel
theorem dX10_addSizes_6 : decode cX10_addSizes 6 = .ok (.aload_n 0, 1) := by decide +kernel
theorem dX10_addSizes_7 : decode cX10_addSizes 7 = .ok (.getfield 14, 3) := by decide +kernel
theorem dX10_addSizes_10 : decode cX10_addSizes 10 = .ok (.iload_n 3, 1) := by decide +kernel
theorem dX10_addSizes_11 : decode cX10_addSizes 11 = .ok (.iaload, 1) := by decide +kernel
theorem dX10_addSizes_12 : decode cX10_addSizes 12 = .ok (.if_icmp .le 12, 3) := by decide +kernel
theorem dX10_addSizes_15 : decode cX10_addSizes 15 = .ok (.aload_n 0, 1) := by decide +kernel
theorem dX10_addSizes_16 : decode cX10_addSizes 16 = .ok (.getfield 14, 3) := by decide +kernel
theorem dX10_addSizes_19 : decode cX10_addSizes 19 = .ok (.iload_n 2, 1) := by decide +kernel
theorem dX10_addSizes_20 : decode cX10_addSizes 20 = .ok (.iaload, 1) := by decide +kernel
theorem dX10_addSizes_21 : decode cX10_addSizes 21 = .ok (.goto 9, 3) := by decide +kernel
theorem dX10_addSizes_24 : decode cX10_addSizes 24 = .ok (.aload_n 0, 1) := by decide +kernel
theorem dX10_addSizes_25 : decode cX10_addSizes 25 = .ok (.getfield 14, 3) := by decide +kernel
theorem dX10_addSizes_28 : decode cX10_addSizes 28 = .ok (.iload_n 3, 1) := by decide +kernel
theorem dX10_addSizes_29 : decode cX10_addSizes 29 = .ok (.iaload, 1) := by decide +kernel
theorem dX10_addSizes_30 : decode cX10_addSizes 30 = .ok (.istore 4, 2) := by decide +kernel
theorem dX10_addSizes_32 : decode cX10_addSizes 32 = .ok (.lconst 0, 1) := by decide +kernel
theorem dX10_addSizes_33 : decode cX10_addSizes 33 = .ok (.lstore 5, 2) := by decide +kernel
theorem dX10_addSizes_35 : decode cX10_addSizes 35 = .ok (.iconst 0, 1) := by decide +kernel
theorem dX10_addSizes_36 : decode cX10_addSizes 36 = .ok (.istore 7, 2) := by decide +kernel
theorem dX10_addSizes_38 : decode cX10_addSizes 38 = .ok (.iload 7, 2) := by decide +kernel
theorem dX10_addSizes_40 : decode cX10_addSizes 40 = .ok (.iload 4, 2) := by decide +kernel
theorem dX10_addSizes_42 : decode cX10_addSizes 42 = .ok (.if_icmp .gt 52, 3) := by decide +kernel
theorem dX10_addSizes_45 : decode cX10_addSizes 45 = .ok (.aload_n 0, 1) := by decide +kernel
theorem dX10_addSizes_46 : decode cX10_addSizes 46 = .ok (.iload_n 2, 1) := by decide +kernel
theorem dX10_addSizes_47 : decode cX10_addSizes 47 = .ok (.iload 7, 2) := by decide +kernel
theorem dX10_addSizes_49 : decode cX10_addSizes 49 = .ok (.invokevirtual 87, 3) := by decide +kernel
theorem dX10_addSizes_52 : decode cX10_addSizes 52 = .ok (.aload_n 0, 1) := by decide +kernel
theorem dX10_addSizes_53 : decode cX10_addSizes 53 = .ok (.iload_n 3, 1) := by decide +kernel
theorem dX10_addSizes_54 : decode cX10_addSizes 54 = .ok (.iload 7, 2) := by decide +kernel
theorem dX10_addSizes_56 : decode cX10_addSizes 56 = .ok (.invokevirtual 87, 3) := by decide +kernel
theorem dX10_addSizes_59 : decode cX10_addSizes 59 = .ok (.ladd, 1) := by decide +kernel
theorem dX10_addSizes_60 : decode cX10_addSizes 60 = .ok (.lload 5, 2) := by decide +kernel
theorem dX10_addSizes_62 : decode cX10_addSizes 62 = .ok (.ladd, 1) := by decide +kernel
theorem dX10_addSizes_63 : decode cX10_addSizes 63 = .ok (.lstore 8, 2) := by decide +kernel
theorem dX10_addSizes_65 : decode cX10_addSizes 65 = .ok (.aload_n 0, 1) := by decide +kernel
theorem dX10_addSizes_66 : decode cX10_addSizes 66 = .ok (.getfield 8, 3) := by decide +kernel
theorem dX10_addSizes_69 : decode cX10_addSizes 69 = .ok (.ldc 91, 2) := by decide +kernel
theorem dX10_addSizes_71 : decode cX10_addSizes 71 = .ok (.iload 7, 2) := by decide +kernel
theorem dX10_addSizes_73 : decode cX10_addSizes 73 = .ok (.iadd, 1) := by decide +kernel
theorem dX10_addSizes_74 : decode cX10_addSizes 74 = .ok (.lload 8, 2) := by decide +kernel
theorem dX10_addSizes_76 : decode cX10_addSizes 76 = .ok (.ldc2_w 81, 3) := by decide +kernel
theorem dX10_addSizes_79 : decode cX10_addSizes 79 = .ok (.land, 1) := by decide +kernel
theorem dX10_addSizes_80 : decode cX10_addSizes 80 = .ok (.lastore, 1) := by decide +kernel
theorem dX10_addSizes_81 : decode cX10_addSizes 81 = .ok (.lload 8, 2) := by decide +kernel
theorem dX10_addSizes_83 : decode cX10_addSizes 83 = .ok (.bipush 32, 2) := by decide +kernel
theorem dX10_addSizes_85 : decode cX10_addSizes 85 = .ok (.lushr, 1) := by decide +kernel
theorem dX10_addSizes_86 : decode cX10_addSizes 86 = .ok (.lstore 5, 2) := by decide +kernel
theorem dX10_addSizes_88 : decode cX10_addSizes 88 = .ok (.iinc 7 1, 3) := by decide +kernel
theorem dX10_addSizes_91 : decode cX10_addSizes 91 = .ok (.goto (-53), 3) := by decide +kernel
theorem dX10_addSizes_94 : decode cX10_addSizes 94 = .ok (.aload_n 0, 1) := by decide +kernel
theorem dX10_addSizes_95 : decode cX10_addSizes 95 = .ok (.getfield 14, 3) := by decide +kernel
theorem dX10_addSizes_98 : decode cX10_addSizes 98 = .ok (.sipush 2066, 3) := by decide +kernel
theorem dX10_addSizes_101 : decode cX10_addSizes 101 = .ok (.iload 4, 2) := by decide +kernel
theorem dX10_addSizes_103 : decode cX10_addSizes 103 = .ok (.iconst 1, 1) := by decide +kernel
theorem dX10_addSizes_104 : decode cX10_addSizes 104 = .ok (.iadd, 1) := by decide +kernel
theorem dX10_addSizes_105 : decode cX10_addSizes 105 = .ok (.iastore, 1) := by decide +kernel
theorem dX10_addSizes_106 : decode cX10_addSizes 106 = .ok (.aload_n 0, 1) := by decide +kernel
theorem dX10_addSizes_107 : decode cX10_addSizes 107 = .ok (.getfield 18, 3) := by decide +kernel
theorem dX10_addSizes_110 : decode cX10_addSizes 110 = .ok (.sipush 2066, 3) := by decide +kernel
theorem dX10_addSizes_113 : decode cX10_addSizes 113 = .ok (.iconst 0, 1) := by decide +kernel
theorem dX10_addSizes_114 : decode cX10_addSizes 114 = .ok (.bastore, 1) := by decide +kernel
theorem dX10_addSizes_115 : decode cX10_addSizes 115 = .ok (.aload_n 0, 1) := by decide +kernel
theorem dX10_addSizes_116 : decode cX10_addSizes 116 = .ok (.sipush 2066, 3) := by decide +kernel
theorem dX10_addSizes_119 : decode cX10_addSizes 119 = .ok (.invokevirtual 83, 3) := by decide +kernel
theorem dX10_addSizes_122 : decode cX10_addSizes 122 = .ok (.aload_n 0, 1) := by decide +kernel
theorem dX10_addSizes_123 : decode cX10_addSizes 123 = .ok (.iload_n 1, 1) := by decide +kernel
theorem dX10_addSizes_124 : decode cX10_addSizes 124 = .ok (.sipush 2066, 3) := by decide +kernel
theorem dX10_addSizes_127 : decode cX10_addSizes 127 = .ok (.invokevirtual 92, 3) := by decide +kernel
theorem dX10_addSizes_130 : decode cX10_addSizes 130 = .ok (.return_, 1) := by decide +kernel
theorem dX10_add_0 : decode cX10_add 0 = .ok (.aload_n 0, 1) := by decide +kernel
theorem dX10_add_1 : decode cX10_add 1 = .ok (.getfield 18, 3) := by decide +kernel
theorem dX10_add_4 : decode cX10_add 4 = .ok (.iload_n 2, 1) := by decide +kernel
theorem dX10_add_5 : decode cX10_add 5 = .ok (.baload, 1) := by decide +kernel
theorem dX10_add_6 : decode cX10_add 6 = .ok (.istore 4, 2) := by decide +kernel
theorem dX10_add_8 : decode cX10_add 8 = .ok (.aload_n 0, 1) := by decide +kernel
theorem dX10_add_9 : decode cX10_add 9 = .ok (.getfield 18, 3) := by decide +kernel
theorem dX10_add_12 : decode cX10_add 12 = .ok (.iload_n 3, 1) := by decide +kernel
theorem dX10_add_13 : decode cX10_add 13 = .ok (.baload, 1) := by decide +kernel
theorem dX10_add_14 : decode cX10_add 14 = .ok (.istore 5, 2) := by decide +kernel
theorem dX10_add_16 : decode cX10_add 16 = .ok (.iload 4, 2) := by decide +kernel
theorem dX10_add_18 : decode cX10_add 18 = .ok (.iload 5, 2) := by decide +kernel
theorem dX10_add_20 : decode cX10_add 20 = .ok (.if_icmp .ne 21, 3) := by decide +kernel
theorem dX10_add_23 : decode cX10_add 23 = .ok (.aload_n 0, 1) := by decide +kernel
theorem dX10_add_24 : decode cX10_add 24 = .ok (.iload_n 1, 1) := by decide +kernel
theorem dX10_add_25 : decode cX10_add 25 = .ok (.iload_n 2, 1) := by decide +kernel
theorem dX10_add_26 : decode cX10_add 26 = .ok (.iload_n 3, 1) := by decide +kernel
theorem dX10_add_27 : decode cX10_add 27 = .ok (.invokevirtual 96, 3) := by decide +kernel
theorem dX10_add_30 : decode cX10_add 30 = .ok (.aload_n 0, 1) := by decide +kernel
theorem dX10_add_31 : decode cX10_add 31 = .ok (.getfield 18, 3) := by decide +kernel
theorem dX10_add_34 : decode cX10_add 34 = .ok (.iload_n 1, 1) := by decide +kernel
theorem dX10_add_35 : decode cX10_add 35 = .ok (.iload 4, 2) := by decide +kernel
theorem dX10_add_37 : decode cX10_add 37 = .ok (.bastore, 1) := by decide +kernel
theorem dX10_add_38 : decode cX10_add 38 = .ok (.goto 45, 3) := by decide +kernel
theorem dX10_add_41 : decode cX10_add 41 = .ok (.aload_n 0, 1) := by decide +kernel
theorem dX10_add_42 : decode cX10_add 42 = .ok (.iload_n 2, 1) := by decide +kernel
theorem dX10_add_43 : decode cX10_add 43 = .ok (.iload_n 3, 1) := by decide +kernel
theorem dX10_add_44 : decode cX10_add 44 = .ok (.invokevirtual 100, 3) := by decide +kernel
theorem dX10_add_47 : decode cX10_add 47 = .ok (.ifCond .lt 21, 3) := by decide +kernel
theorem dX10_add_50 : decode cX10_add 50 = .ok (.aload_n 0, 1) := by decide +kernel
theorem dX10_add_51 : decode cX10_add 51 = .ok (.iload_n 1, 1) := by decide +kernel
theorem dX10_add_52 : decode cX10_add 52 = .ok (.iload_n 2, 1) := by decide +kernel
theorem dX10_add_53 : decode cX10_add 53 = .ok (.iload_n 3, 1) := by decide +kernel
theorem dX10_add_54 : decode cX10_add 54 = .ok (.invokevirtual 104, 3) := by decide +kernel
theorem dX10_add_57 : decode cX10_add 57 = .ok (.aload_n 0, 1) := by decide +kernel
theorem dX10_add_58 : decode cX10_add 58 = .ok (.getfield 18, 3) := by decide +kernel
theorem dX10_add_61 : decode cX10_add 61 = .ok (.iload_n 1, 1) := by decide +kernel
theorem dX10_add_62 : decode cX10_add 62 = .ok (.iload 4, 2) := by decide +kernel
theorem dX10_add_64 : decode cX10_add 64 = .ok (.bastore, 1) := by decide +kernel
theorem dX10_add_65 : decode cX10_add 65 = .ok (.goto 18, 3) := by decide +kernel
theorem dX10_add_68 : decode cX10_add 68 = .ok (.aload_n 0, 1) := by decide +kernel
theorem dX10_add_69 : decode cX10_add 69 = .ok (.iload_n 1, 1) := by decide +kernel
theorem dX10_add_70 : decode cX10_add 70 = .ok (.iload_n 3, 1) := by decide +kernel
theorem dX10_add_71 : decode cX10_add 71 = .ok (.iload_n 2, 1) := by decide +kernel
theorem dX10_add_72 : decode cX10_add 72 = .ok (.invokevirtual 104, 3) := by decide +kernel
theorem dX10_add_75 : decode cX10_add 75 = .ok (.aload_n 0, 1) := by decide +kernel
theorem dX10_add_76 : decode cX10_add 76 = .ok (.getfield 18, 3) := by decide +kernel
theorem dX10_add_79 : decode cX10_add 79 = .ok (.iload_n 1, 1) := by decide +kernel
theorem dX10_add_80 : decode cX10_add 80 = .ok (.iload 5, 2) := by decide +kernel
theorem dX10_add_82 : decode cX10_add 82 = .ok (.bastore, 1) := by decide +kernel
theorem dX10_add_83 : decode cX10_add 83 = .ok (.aload_n 0, 1) := by decide +kernel
theorem dX10_add_84 : decode cX10_add 84 = .ok (.iload_n 1, 1) := by decide +kernel
theorem dX10_add_85 : decode cX10_add 85 = .ok (.invokevirtual 83, 3) := by decide +kernel
theorem dX10_add_88 : decode cX10_add 88 = .ok (.return_, 1) := by decide +kernel
theorem dX10_bitsOf_0 : decode cX10_bitsOf 0 = .ok (.iconst 0, 1) := by decide +kernel
theorem dX10_bitsOf_1 : decode cX10_bitsOf 1 = .ok (.istore_n 2, 1) := by decide +kernel
theorem dX10_bitsOf_2 : decode cX10_bitsOf 2 = .ok (.aload_n 0, 1) := by decide +kernel
theorem dX10_bitsOf_3 : decode cX10_bitsOf 3 = .ok (.getfield 14, 3) := by decide +kernel
theorem dX10_bitsOf_6 : decode cX10_bitsOf 6 = .ok (.iload_n 1, 1) := by decide +kernel
theorem dX10_bitsOf_7 : decode cX10_bitsOf 7 = .ok (.iaload, 1) := by decide +kernel
theorem dX10_bitsOf_8 : decode cX10_bitsOf 8 = .ok (.ifCond .ne 7, 3) := by decide +kernel
theorem dX10_bitsOf_11 : decode cX10_bitsOf 11 = .ok (.lconst 0, 1) := by decide +kernel
theorem dX10_bitsOf_12 : decode cX10_bitsOf 12 = .ok (.goto 21, 3) := by decide +kernel
theorem dX10_bitsOf_15 : decode cX10_bitsOf 15 = .ok (.aload_n 0, 1) := by decide +kernel
theorem dX10_bitsOf_16 : decode cX10_bitsOf 16 = .ok (.getfield 8, 3) := by decide +kernel
theorem dX10_bitsOf_19 : decode cX10_bitsOf 19 = .ok (.bipush 80, 2) := by decide +kernel
theorem dX10_bitsOf_21 : decode cX10_bitsOf 21 = .ok (.iload_n 1, 1) := by decide +kernel
theorem dX10_bitsOf_22 : decode cX10_bitsOf 22 = .ok (.imul, 1) := by decide +kernel
theorem dX10_bitsOf_23 : decode cX10_bitsOf 23 = .ok (.aload_n 0, 1) := by decide +kernel
theorem dX10_bitsOf_24 : decode cX10_bitsOf 24 = .ok (.getfield 14, 3) := by decide +kernel
theorem dX10_bitsOf_27 : decode cX10_bitsOf 27 = .ok (.iload_n 1, 1) := by decide +kernel
theorem dX10_bitsOf_28 : decode cX10_bitsOf 28 = .ok (.iaload, 1) := by decide +kernel
theorem dX10_bitsOf_29 : decode cX10_bitsOf 29 = .ok (.iadd, 1) := by decide +kernel
theorem dX10_bitsOf_30 : decode cX10_bitsOf 30 = .ok (.iconst 1, 1) := by decide +kernel
theorem dX10_bitsOf_31 : decode cX10_bitsOf 31 = .ok (.isub, 1) := by decide +kernel
theorem dX10_bitsOf_32 : decode cX10_bitsOf 32 = .ok (.laload, 1) := by decide +kernel
theorem dX10_bitsOf_33 : decode cX10_bitsOf 33 = .ok (.lstore_n 3, 1) := by decide +kernel
theorem dX10_bitsOf_34 : decode cX10_bitsOf 34 = .ok (.lload_n 3, 1) := by decide +kernel
theorem dX10_bitsOf_35 : decode cX10_bitsOf 35 = .ok (.iload_n 2, 1) := by decide +kernel
theorem dX10_bitsOf_36 : decode cX10_bitsOf 36 = .ok (.lshr, 1) := by decide +kernel
theorem dX10_bitsOf_37 : decode cX10_bitsOf 37 = .ok (.lconst 0, 1) := by decide +kernel
theorem dX10_bitsOf_38 : decode cX10_bitsOf 38 = .ok (.lcmp, 1) := by decide +kernel
theorem dX10_bitsOf_39 : decode cX10_bitsOf 39 = .ok (.ifCond .le 9, 3) := by decide +kernel
theorem dX10_bitsOf_42 : decode cX10_bitsOf 42 = .ok (.iinc 2 1, 3) := by decide +kernel
theorem dX10_bitsOf_45 : decode cX10_bitsOf 45 = .ok (.goto (-11), 3) := by decide +kernel
theorem dX10_bitsOf_48 : decode cX10_bitsOf 48 = .ok (.aload_n 0, 1) := by decide +kernel
theorem dX10_bitsOf_49 : decode cX10_bitsOf 49 = .ok (.getfield 14, 3) := by decide +kernel
theorem dX10_bitsOf_52 : decode cX10_bitsOf 52 = .ok (.iload_n 1, 1) := by decide +kernel
theorem dX10_bitsOf_53 : decode cX10_bitsOf 53 = .ok (.iaload, 1) := by decide +kernel
theorem dX10_bitsOf_54 : decode cX10_bitsOf 54 = .ok (.ifCond .ne 7, 3) := by decide +kernel
theorem dX10_bitsOf_57 : decode cX10_bitsOf 57 = .ok (.iconst 0, 1) := by decide +kernel
theorem dX10_bitsOf_58 : decode cX10_bitsOf 58 = .ok (.goto 16, 3) := by decide +kernel
theorem dX10_bitsOf_61 : decode cX10_bitsOf 61 = .ok (.bipush 32, 2) := by decide +kernel
theorem dX10_bitsOf_63 : decode cX10_bitsOf 63 = .ok (.aload_n 0, 1) := by decide +kernel
theorem dX10_bitsOf_64 : decode cX10_bitsOf 64 = .ok (.getfield 14, 3) := by decide +kernel
theorem dX10_bitsOf_67 : decode cX10_bitsOf 67 = .ok (.iload_n 1, 1) := by decide +kernel
theorem dX10_bitsOf_68 : decode cX10_bitsOf 68 = .ok (.iaload, 1) := by decide +kernel
theorem dX10_bitsOf_69 : decode cX10_bitsOf 69 = .ok (.iconst 1, 1) := by decide +kernel
theorem dX10_bitsOf_70 : decode cX10_bitsOf 70 = .ok (.isub, 1) := by decide +kernel
theorem dX10_bitsOf_71 : decode cX10_bitsOf 71 = .ok (.imul, 1) := by decide +kernel
theorem dX10_bitsOf_72 : decode cX10_bitsOf 72 = .ok (.iload_n 2, 1) := by decide +kernel
theorem dX10_bitsOf_73 : decode cX10_bitsOf 73 = .ok (.iadd, 1) := by decide +kernel
theorem dX10_bitsOf_74 : decode cX10_bitsOf 74 = .ok (.ireturn, 1) := by decide +kernel
theorem dX10_divisor_0 : decode cX10_divisor 0 = .ok (.aload_n 0, 1) := by decide +kernel
theorem dX10_divisor_1 : decode cX10_divisor 1 = .ok (.sipush 2060, 3) := by decide +kernel
theorem dX10_divisor_4 : decode cX10_divisor 4 = .ok (.iload_n 1, 1) := by decide +kernel
theorem dX10_divisor_5 : decode cX10_divisor 5 = .ok (.invokevirtual 92, 3) := by decide +kernel
theorem dX10_divisor_8 : decode cX10_divisor 8 = .ok (.aload_n 0, 1) := by decide +kernel
theorem dX10_divisor_9 : decode cX10_divisor 9 = .ok (.sipush 2061, 3) := by decide +kernel
theorem dX10_divisor_12 : decode cX10_divisor 12 = .ok (.iload_n 2, 1) := by decide +kernel
theorem dX10_divisor_13 : decode cX10_divisor 13 = .ok (.invokevirtual 92, 3) := by decide +kernel
theorem dX10_divisor_16 : decode cX10_divisor 16 = .ok (.aload_n 0, 1) := by decide +kernel
theorem dX10_divisor_17 : decode cX10_divisor 17 = .ok (.getfield 18, 3) := by decide +kernel
theorem dX10_divisor_20 : decode cX10_divisor 20 = .ok (.sipush 2060, 3) := by decide +kernel
theorem dX10_divisor_23 : decode cX10_divisor 23 = .ok (.iconst 0, 1) := by decide +kernel
theorem dX10_divisor_24 : decode cX10_divisor 24 = .ok (.bastore, 1) := by decide +kernel
theorem dX10_divisor_25 : decode cX10_divisor 25 = .ok (.aload_n 0, 1) := by decide +kernel
theorem dX10_divisor_26 : decode cX10_divisor 26 = .ok (.getfield 18, 3) := by decide +kernel
theorem dX10_divisor_29 : decode cX10_divisor 29 = .ok (.sipush 2061, 3) := by decide +kernel
theorem dX10_divisor_32 : decode cX10_divisor 32 = .ok (.iconst 0, 1) := by decide +kernel
theorem dX10_divisor_33 : decode cX10_divisor 33 = .ok (.bastore, 1) := by decide +kernel
theorem dX10_divisor_34 : decode cX10_divisor 34 = .ok (.iconst 0, 1) := by decide +kernel
theorem dX10_divisor_35 : decode cX10_divisor 35 = .ok (.istore_n 3, 1) := by decide +kernel
theorem dX10_divisor_36 : decode cX10_divisor 36 = .ok (.aload_n 0, 1) := by decide +kernel
theorem dX10_divisor_37 : decode cX10_divisor 37 = .ok (.sipush 2060, 3) := by decide +kernel
theorem dX10_divisor_40 : decode cX10_divisor 40 = .ok (.invokevirtual 107, 3) := by decide +kernel
theorem dX10_divisor_43 : decode cX10_divisor 43 = .ok (.ifCond .eq 33, 3) := by decide +kernel
theorem dX10_divisor_46 : decode cX10_divisor 46 = .ok (.aload_n 0, 1) := by decide +kernel
theorem dX10_divisor_47 : decode cX10_divisor 47 = .ok (.sipush 2061, 3) := by decide +kernel
theorem dX10_divisor_50 : decode cX10_divisor 50 = .ok (.invokevirtual 107, 3) := by decide +kernel
theorem dX10_divisor_53 : decode cX10_divisor 53 = .ok (.ifCond .eq 23, 3) := by decide +kernel
theorem dX10_divisor_56 : decode cX10_divisor 56 = .ok (.aload_n 0, 1) := by decide +kernel
theorem dX10_divisor_57 : decode cX10_divisor 57 = .ok (.sipush 2060, 3) := by decide +kernel
theorem dX10_divisor_60 : decode cX10_divisor 60 = .ok (.invokevirtual 111, 3) := by decide +kernel
theorem dX10_divisor_63 : decode cX10_divisor 63 = .ok (.aload_n 0, 1) := by decide +kernel
theorem dX10_divisor_64 : decode cX10_divisor 64 = .ok (.sipush 2061, 3) := by decide +kernel
theorem dX10_divisor_67 : decode cX10_divisor 67 = .ok (.invokevirtual 111, 3) := by decide +kernel
theorem dX10_divisor_70 : decode cX10_divisor 70 = .ok (.iinc 3 1, 3) := by decide +kernel
theorem dX10_divisor_73 : decode cX10_divisor 73 = .ok (.goto (-37), 3) := by decide +kernel
theorem dX10_divisor_76 : decode cX10_divisor 76 = .ok (.aload_n 0, 1) := by decide +kernel
theorem dX10_divisor_77 : decode cX10_divisor 77 = .ok (.getfield 14, 3) := by decide +kernel
theorem dX10_divisor_80 : decode cX10_divisor 80 = .ok (.sipush 2061, 3) := by decide +kernel
theorem dX10_divisor_83 : decode cX10_divisor 83 = .ok (.iaload, 1) := by decide +kernel
theorem dX10_divisor_84 : decode cX10_divisor 84 = .ok (.ifCond .le 118, 3) := by decide +kernel
theorem dX10_divisor_87 : decode cX10_divisor 87 = .ok (.aload_n 0, 1) := by decide +kernel
theorem dX10_divisor_88 : decode cX10_divisor 88 = .ok (.sipush 2060, 3) := by decide +kernel
theorem dX10_divisor_91 : decode cX10_divisor 91 = .ok (.invokevirtual 107, 3) := by decide +kernel
theorem dX10_divisor_94 : decode cX10_divisor 94 = .ok (.ifCond .eq 13, 3) := by decide +kernel
theorem dX10_divisor_97 : decode cX10_divisor 97 = .ok (.aload_n 0, 1) := by decide +kernel
theorem dX10_divisor_98 : decode cX10_divisor 98 = .ok (.sipush 2060, 3) := by decide +kernel
theorem dX10_divisor_101 : decode cX10_divisor 101 = .ok (.invokevirtual 111, 3) := by decide +kernel
theorem dX10_divisor_104 : decode cX10_divisor 104 = .ok (.goto (-17), 3) := by decide +kernel
theorem dX10_divisor_107 : decode cX10_divisor 107 = .ok (.aload_n 0, 1) := by decide +kernel
theorem dX10_divisor_108 : decode cX10_divisor 108 = .ok (.sipush 2061, 3) := by decide +kernel
theorem dX10_divisor_111 : decode cX10_divisor 111 = .ok (.invokevirtual 107, 3) := by decide +kernel
theorem dX10_divisor_114 : decode cX10_divisor 114 = .ok (.ifCond .eq 13, 3) := by decide +kernel
theorem dX10_divisor_117 : decode cX10_divisor 117 = .ok (.aload_n 0, 1) := by decide +kernel
theorem dX10_divisor_118 : decode cX10_divisor 118 = .ok (.sipush 2061, 3) := by decide +kernel
theorem dX10_divisor_121 : decode cX10_divisor 121 = .ok (.invokevirtual 111, 3) := by decide +kernel
theorem dX10_divisor_124 : decode cX10_divisor 124 = .ok (.goto (-17), 3) := by decide +kernel
theorem dX10_divisor_127 : decode cX10_divisor 127 = .ok (.aload_n 0, 1) := by decide +kernel
theorem dX10_divisor_128 : decode cX10_divisor 128 = .ok (.sipush 2060, 3) := by decide +kernel
theorem dX10_divisor_131 : decode cX10_divisor 131 = .ok (.sipush 2061, 3) := by decide +kernel
theorem dX10_divisor_134 : decode cX10_divisor 134 = .ok (.invokevirtual 100, 3) := by decide +kernel
theorem dX10_divisor_137 : decode cX10_divisor 137 = .ok (.ifCond .le 19, 3) := by decide +kernel
theorem dX10_divisor_140 : decode cX10_divisor 140 = .ok (.aload_n 0, 1) := by decide +kernel
theorem dX10_divisor_141 : decode cX10_divisor 141 = .ok (.sipush 2060, 3) := by decide +kernel
theorem dX10_divisor_144 : decode cX10_divisor 144 = .ok (.sipush 2060, 3) := by decide +kernel
theorem dX10_divisor_147 : decode cX10_divisor 147 = .ok (.sipush 2061, 3) := by decide +kernel
theorem dX10_divisor_150 : decode cX10_divisor 150 = .ok (.invokevirtual 104, 3) := by decide +kernel
theorem dX10_divisor_153 : decode cX10_divisor 153 = .ok (.goto 16, 3) := by decide +kernel
theorem dX10_divisor_156 : decode cX10_divisor 156 = .ok (.aload_n 0, 1) := by decide +kernel
theorem dX10_divisor_157 : decode cX10_divisor 157 = .ok (.sipush 2061, 3) := by decide +kernel
theorem dX10_divisor_160 : decode cX10_divisor 160 = .ok (.sipush 2061, 3) := by decide +kernel
theorem dX10_divisor_163 : decode cX10_divisor 163 = .ok (.sipush 2060, 3) := by decide +kernel
theorem dX10_divisor_166 : decode cX10_divisor 166 = .ok (.invokevirtual 104, 3) := by decide +kernel
theorem dX10_divisor_169 : decode cX10_divisor 169 = .ok (.aload_n 0, 1) := by decide +kernel
theorem dX10_divisor_170 : decode cX10_divisor 170 = .ok (.getfield 14, 3) := by decide +kernel
theorem dX10_divisor_173 : decode cX10_divisor 173 = .ok (.sipush 2060, 3) := by decide +kernel
theorem dX10_divisor_176 : decode cX10_divisor 176 = .ok (.iaload, 1) := by decide +kernel
theorem dX10_divisor_177 : decode cX10_divisor 177 = .ok (.ifCond .ne (-101), 3) := by decide +kernel
theorem dX10_divisor_180 : decode cX10_divisor 180 = .ok (.aload_n 0, 1) := by decide +kernel
theorem dX10_divisor_181 : decode cX10_divisor 181 = .ok (.sipush 2060, 3) := by decide +kernel
theorem dX10_divisor_184 : decode cX10_divisor 184 = .ok (.sipush 2061, 3) := by decide +kernel
theorem dX10_divisor_187 : decode cX10_divisor 187 = .ok (.invokevirtual 92, 3) := by decide +kernel
theorem dX10_divisor_190 : decode cX10_divisor 190 = .ok (.aload_n 0, 1) := by decide +kernel
theorem dX10_divisor_191 : decode cX10_divisor 191 = .ok (.getfield 14, 3) := by decide +kernel
theorem dX10_divisor_194 : decode cX10_divisor 194 = .ok (.sipush 2061, 3) := by decide +kernel
theorem dX10_divisor_197 : decode cX10_divisor 197 = .ok (.iconst 0, 1) := by decide +kernel
theorem dX10_divisor_198 : decode cX10_divisor 198 = .ok (.iastore, 1) := by decide +kernel
theorem dX10_divisor_199 : decode cX10_divisor 199 = .ok (.goto (-123), 3) := by decide +kernel
theorem dX10_divisor_202 : decode cX10_divisor 202 = .ok (.iconst 0, 1) := by decide +kernel
theorem dX10_divisor_203 : decode cX10_divisor 203 = .ok (.istore 4, 2) := by decide +kernel
theorem dX10_divisor_205 : decode cX10_divisor 205 = .ok (.iload 4, 2) := by decide +kernel
theorem dX10_divisor_207 : decode cX10_divisor 207 = .ok (.iload_n 3, 1) := by decide +kernel
theorem dX10_divisor_208 : decode cX10_divisor 208 = .ok (.if_icmp .ge 17, 3) := by decide +kernel
theorem dX10_divisor_211 : decode cX10_divisor 211 = .ok (.aload_n 0, 1) := by decide +kernel
theorem dX10_divisor_212 : decode cX10_divisor 212 = .ok (.sipush 2060, 3) := by decide +kernel
theorem dX10_divisor_215 : decode cX10_divisor 215 = .ok (.iconst 0, 1) := by decide +kernel
theorem dX10_divisor_216 : decode cX10_divisor 216 = .ok (.invokevirtual 114, 3) := by decide +kernel
theorem dX10_divisor_219 : decode cX10_divisor 219 = .ok (.iinc 4 1, 3) := by decide +kernel
theorem dX10_divisor_222 : decode cX10_divisor 222 = .ok (.goto (-17), 3) := by decide +kernel
theorem dX10_divisor_225 : decode cX10_divisor 225 = .ok (.return_, 1) := by decide +kernel
theorem dX10_divideByG_0 : decode cX10_divideByG 0 = .ok (.aload_n 0, 1) := by decide +kernel
theorem dX10_divideByG_1 : decode cX10_divideByG 1 = .ok (.getfield 18, 3) := by decide +kernel
theorem dX10_divideByG_4 : decode cX10_divideByG 4 = .ok (.iload_n 1, 1) := by decide +kernel
theorem dX10_divideByG_5 : decode cX10_divideByG 5 = .ok (.baload, 1) := by decide +kernel
theorem dX10_divideByG_6 : decode cX10_divideByG 6 = .ok (.istore_n 2, 1) := by decide +kernel
theorem dX10_divideByG_7 : decode cX10_divideByG 7 = .ok (.aload_n 0, 1) := by decide +kernel
theorem dX10_divideByG_8 : decode cX10_divideByG 8 = .ok (.sipush 2062, 3) := by decide +kernel
theorem dX10_divideByG_11 : decode cX10_divideByG 11 = .ok (.lconst 0, 1) := by decide +kernel
theorem dX10_divideByG_12 : decode cX10_divideByG 12 = .ok (.invokevirtual 74, 3) := by decide +kernel
theorem dX10_divideByG_15 : decode cX10_divideByG 15 = .ok (.aload_n 0, 1) := by decide +kernel
theorem dX10_divideByG_16 : decode cX10_divideByG 16 = .ok (.sipush 2063, 3) := by decide +kernel
theorem dX10_divideByG_19 : decode cX10_divideByG 19 = .ok (.lconst 0, 1) := by decide +kernel
theorem dX10_divideByG_20 : decode cX10_divideByG 20 = .ok (.invokevirtual 74, 3) := by decide +kernel
theorem dX10_divideByG_23 : decode cX10_divideByG 23 = .ok (.aload_n 0, 1) := by decide +kernel
theorem dX10_divideByG_24 : decode cX10_divideByG 24 = .ok (.iload_n 1, 1) := by decide +kernel
theorem dX10_divideByG_25 : decode cX10_divideByG 25 = .ok (.invokevirtual 117, 3) := by decide +kernel
theorem dX10_divideByG_28 : decode cX10_divideByG 28 = .ok (.iconst 1, 1) := by decide +kernel
theorem dX10_divideByG_29 : decode cX10_divideByG 29 = .ok (.isub, 1) := by decide +kernel
theorem dX10_divideByG_30 : decode cX10_divideByG 30 = .ok (.istore_n 3, 1) := by decide +kernel
theorem dX10_divideByG_31 : decode cX10_divideByG 31 = .ok (.iload_n 3, 1) := by decide +kernel
theorem dX10_divideByG_32 : decode cX10_divideByG 32 = .ok (.ifCond .lt 88, 3) := by decide +kernel
theorem dX10_divideByG_35 : decode cX10_divideByG 35 = .ok (.aload_n 0, 1) := by decide +kernel
theorem dX10_divideByG_36 : decode cX10_divideByG 36 = .ok (.sipush 2062, 3) := by decide +kernel
theorem dX10_divideByG_39 : decode cX10_divideByG 39 = .ok (.aload_n 0, 1) := by decide +kernel
theorem dX10_divideByG_40 : decode cX10_divideByG 40 = .ok (.iload_n 1, 1) := by decide +kernel
theorem dX10_divideByG_41 : decode cX10_divideByG 41 = .ok (.iload_n 3, 1) := by decide +kernel
theorem dX10_divideByG_42 : decode cX10_divideByG 42 = .ok (.bipush 32, 2) := by decide +kernel
theorem dX10_divideByG_44 : decode cX10_divideByG 44 = .ok (.idiv, 1) := by decide +kernel
theorem dX10_divideByG_45 : decode cX10_divideByG 45 = .ok (.invokevirtual 87, 3) := by decide +kernel
theorem dX10_divideByG_48 : decode cX10_divideByG 48 = .ok (.iload_n 3, 1) := by decide +kernel
theorem dX10_divideByG_49 : decode cX10_divideByG 49 = .ok (.bipush 32, 2) := by decide +kernel
theorem dX10_divideByG_51 : decode cX10_divideByG 51 = .ok (.irem, 1) := by decide +kernel
theorem dX10_divideByG_52 : decode cX10_divideByG 52 = .ok (.lshr, 1) := by decide +kernel
theorem dX10_divideByG_53 : decode cX10_divideByG 53 = .ok (.lconst 1, 1) := by decide +kernel
theorem dX10_divideByG_54 : decode cX10_divideByG 54 = .ok (.land, 1) := by decide +kernel
theorem dX10_divideByG_55 : decode cX10_divideByG 55 = .ok (.l2i, 1) := by decide +kernel
theorem dX10_divideByG_56 : decode cX10_divideByG 56 = .ok (.invokevirtual 114, 3) := by decide +kernel
theorem dX10_divideByG_59 : decode cX10_divideByG 59 = .ok (.aload_n 0, 1) := by decide +kernel
theorem dX10_divideByG_60 : decode cX10_divideByG 60 = .ok (.sipush 2062, 3) := by decide +kernel
theorem dX10_divideByG_63 : decode cX10_divideByG 63 = .ok (.sipush 2060, 3) := by decide +kernel
theorem dX10_divideByG_66 : decode cX10_divideByG 66 = .ok (.invokevirtual 100, 3) := by decide +kernel
theorem dX10_divideByG_69 : decode cX10_divideByG 69 = .ok (.ifCond .lt 7, 3) := by decide +kernel
theorem dX10_divideByG_72 : decode cX10_divideByG 72 = .ok (.iconst 1, 1) := by decide +kernel
theorem dX10_divideByG_73 : decode cX10_divideByG 73 = .ok (.goto 4, 3) := by decide +kernel
theorem dX10_divideByG_76 : decode cX10_divideByG 76 = .ok (.iconst 0, 1) := by decide +kernel
theorem dX10_divideByG_77 : decode cX10_divideByG 77 = .ok (.istore 4, 2) := by decide +kernel
theorem dX10_divideByG_79 : decode cX10_divideByG 79 = .ok (.iload 4, 2) := by decide +kernel
theorem dX10_divideByG_81 : decode cX10_divideByG 81 = .ok (.ifCond .eq 16, 3) := by decide +kernel
theorem dX10_divideByG_84 : decode cX10_divideByG 84 = .ok (.aload_n 0, 1) := by decide +kernel
theorem dX10_divideByG_85 : decode cX10_divideByG 85 = .ok (.sipush 2062, 3) := by decide +kernel
theorem dX10_divideByG_88 : decode cX10_divideByG 88 = .ok (.sipush 2062, 3) := by decide +kernel
theorem dX10_divideByG_91 : decode cX10_divideByG 91 = .ok (.sipush 2060, 3) := by decide +kernel
theorem dX10_divideByG_94 : decode cX10_divideByG 94 = .ok (.invokevirtual 104, 3) := by decide +kernel
theorem dX10_divideByG_97 : decode cX10_divideByG 97 = .ok (.aload_n 0, 1) := by decide +kernel
theorem dX10_divideByG_98 : decode cX10_divideByG 98 = .ok (.sipush 2063, 3) := by decide +kernel
theorem dX10_divideByG_101 : decode cX10_divideByG 101 = .ok (.iload 4, 2) := by decide +kernel
theorem dX10_divideByG_103 : decode cX10_divideByG 103 = .ok (.ifCond .eq 7, 3) := by decide +kernel
theorem dX10_divideByG_106 : decode cX10_divideByG 106 = .ok (.iconst 1, 1) := by decide +kernel
theorem dX10_divideByG_107 : decode cX10_divideByG 107 = .ok (.goto 4, 3) := by decide +kernel
theorem dX10_divideByG_110 : decode cX10_divideByG 110 = .ok (.iconst 0, 1) := by decide +kernel
theorem dX10_divideByG_111 : decode cX10_divideByG 111 = .ok (.invokevirtual 114, 3) := by decide +kernel
theorem dX10_divideByG_114 : decode cX10_divideByG 114 = .ok (.iinc 3 (-1), 3) := by decide +kernel
theorem dX10_divideByG_117 : decode cX10_divideByG 117 = .ok (.goto (-86), 3) := by decide +kernel
theorem dX10_divideByG_120 : decode cX10_divideByG 120 = .ok (.aload_n 0, 1) := by decide +kernel
theorem dX10_divideByG_121 : decode cX10_divideByG 121 = .ok (.iload_n 1, 1) := by decide +kernel
theorem dX10_divideByG_122 : decode cX10_divideByG 122 = .ok (.sipush 2063, 3) := by decide +kernel
theorem dX10_divideByG_125 : decode cX10_divideByG 125 = .ok (.invokevirtual 92, 3) := by decide +kernel
theorem dX10_divideByG_128 : decode cX10_divideByG 128 = .ok (.aload_n 0, 1) := by decide +kernel
theorem dX10_divideByG_129 : decode cX10_divideByG 129 = .ok (.getfield 18, 3) := by decide +kernel
theorem dX10_divideByG_132 : decode cX10_divideByG 132 = .ok (.iload_n 1, 1) := by decide +kernel
theorem dX10_divideByG_133 : decode cX10_divideByG 133 = .ok (.iload_n 2, 1) := by decide +kernel
theorem dX10_divideByG_134 : decode cX10_divideByG 134 = .ok (.bastore, 1) := by decide +kernel
theorem dX10_divideByG_135 : decode cX10_divideByG 135 = .ok (.return_, 1) := by decide +kernel
theorem dX10_copyFraction_0 : decode cX10_copyFraction 0 = .ok (.aload_n 0, 1) := by decide +kernel
theorem dX10_copyFraction_1 : decode cX10_copyFraction 1 = .ok (.iconst 2, 1) := by decide +kernel
theorem dX10_copyFraction_2 : decode cX10_copyFraction 2 = .ok (.iload_n 1, 1) := by decide +kernel
theorem dX10_copyFraction_3 : decode cX10_copyFraction 3 = .ok (.imul, 1) := by decide +kernel
theorem dX10_copyFraction_4 : decode cX10_copyFraction 4 = .ok (.iconst 2, 1) := by decide +kernel
theorem dX10_copyFraction_5 : decode cX10_copyFraction 5 = .ok (.iload_n 2, 1) := by decide +kernel
theorem dX10_copyFraction_6 : decode cX10_copyFraction 6 = .ok (.imul, 1) := by decide +kernel
theorem dX10_copyFraction_7 : decode cX10_copyFraction 7 = .ok (.invokevirtual 92, 3) := by decide +kernel
theorem dX10_copyFraction_10 : decode cX10_copyFraction 10 = .ok (.aload_n 0, 1) := by decide +kernel
theorem dX10_copyFraction_11 : decode cX10_copyFraction 11 = .ok (.iconst 2, 1) := by decide +kernel
theorem dX10_copyFraction_12 : decode cX10_copyFraction 12 = .ok (.iload_n 1, 1) := by decide +kernel
theorem dX10_copyFraction_13 : decode cX10_copyFraction 13 = .ok (.imul, 1) := by decide +kernel
theorem dX10_copyFraction_14 : decode cX10_copyFraction 14 = .ok (.iconst 1, 1) := by decide +kernel
theorem dX10_copyFraction_15 : decode cX10_copyFraction 15 = .ok (.iadd, 1) := by decide +kernel
theorem dX10_copyFraction_16 : decode cX10_copyFraction 16 = .ok (.iconst 2, 1) := by decide +kernel
theorem dX10_copyFraction_17 : decode cX10_copyFraction 17 = .ok (.iload_n 2, 1) := by decide +kernel
theorem dX10_copyFraction_18 : decode cX10_copyFraction 18 = .ok (.imul, 1) := by decide +kernel
theorem dX10_copyFraction_19 : decode cX10_copyFraction 19 = .ok (.iconst 1, 1) := by decide +kernel
theorem dX10_copyFraction_20 : decode cX10_copyFraction 20 = .ok (.iadd, 1) := by decide +kernel
theorem dX10_copyFraction_21 : decode cX10_copyFraction 21 = .ok (.invokevirtual 92, 3) := by decide +kernel
theorem dX10_copyFraction_24 : decode cX10_copyFraction 24 = .ok (.return_, 1) := by decide +kernel
theorem dX10_addFractions_0 : decode cX10_addFractions 0 = .ok (.aload_n 0, 1) := by decide +kernel
theorem dX10_addFractions_1 : decode cX10_addFractions 1 = .ok (.sipush 2064, 3) := by decide +kernel
theorem dX10_addFractions_4 : decode cX10_addFractions 4 = .ok (.iconst 2, 1) := by decide +kernel
theorem dX10_addFractions_5 : decode cX10_addFractions 5 = .ok (.iload_n 2, 1) := by decide +kernel
theorem dX10_addFractions_6 : decode cX10_addFractions 6 = .ok (.imul, 1) := by decide +kernel
theorem dX10_addFractions_7 : decode cX10_addFractions 7 = .ok (.iconst 2, 1) := by decide +kernel
theorem dX10_addFractions_8 : decode cX10_addFractions 8 = .ok (.iload_n 3, 1) := by decide +kernel
theorem dX10_addFractions_9 : decode cX10_addFractions 9 = .ok (.imul, 1) := by decide +kernel
theorem dX10_addFractions_10 : decode cX10_addFractions 10 = .ok (.iconst 1, 1) := by decide +kernel
theorem dX10_addFractions_11 : decode cX10_addFractions 11 = .ok (.iadd, 1) := by decide +kernel
theorem dX10_addFractions_12 : decode cX10_addFractions 12 = .ok (.invokevirtual 130, 3) := by decide +kernel
theorem dX10_addFractions_15 : decode cX10_addFractions 15 = .ok (.aload_n 0, 1) := by decide +kernel
theorem dX10_addFractions_16 : decode cX10_addFractions 16 = .ok (.sipush 2065, 3) := by decide +kernel
theorem dX10_addFractions_19 : decode cX10_addFractions 19 = .ok (.iconst 2, 1) := by decide +kernel
theorem dX10_addFractions_20 : decode cX10_addFractions 20 = .ok (.iload_n 3, 1) := by decide +kernel
theorem dX10_addFractions_21 : decode cX10_addFractions 21 = .ok (.imul, 1) := by decide +kernel
theorem dX10_addFractions_22 : decode cX10_addFractions 22 = .ok (.iconst 2, 1) := by decide +kernel
theorem dX10_addFractions_23 : decode cX10_addFractions 23 = .ok (.iload_n 2, 1) := by decide +kernel
theorem dX10_addFractions_24 : decode cX10_addFractions 24 = .ok (.imul, 1) := by decide +kernel
theorem dX10_addFractions_25 : decode cX10_addFractions 25 = .ok (.iconst 1, 1) := by decide +kernel
theorem dX10_addFractions_26 : decode cX10_addFractions 26 = .ok (.iadd, 1) := by decide +kernel
theorem dX10_addFractions_27 : decode cX10_addFractions 27 = .ok (.invokevirtual 130, 3) := by decide +kernel
theorem dX10_addFractions_30 : decode cX10_addFractions 30 = .ok (.aload_n 0, 1) := by decide +kernel
theorem dX10_addFractions_31 : decode cX10_addFractions 31 = .ok (.sipush 2033, 3) := by decide +kernel
theorem dX10_addFractions_34 : decode cX10_addFractions 34 = .ok (.iconst 2, 1) := by decide +kernel
theorem dX10_addFractions_35 : decode cX10_addFractions 35 = .ok (.iload_n 2, 1) := by decide +kernel
theorem dX10_addFractions_36 : decode cX10_addFractions 36 = .ok (.imul, 1) := by decide +kernel
theorem dX10_addFractions_37 : decode cX10_addFractions 37 = .ok (.iconst 1, 1) := by decide +kernel
theorem dX10_addFractions_38 : decode cX10_addFractions 38 = .ok (.iadd, 1) := by decide +kernel
theorem dX10_addFractions_39 : decode cX10_addFractions 39 = .ok (.iconst 2, 1) := by decide +kernel
theorem dX10_addFractions_40 : decode cX10_addFractions 40 = .ok (.iload_n 3, 1) := by decide +kernel
theorem dX10_addFractions_41 : decode cX10_addFractions 41 = .ok (.imul, 1) := by decide +kernel
theorem dX10_addFractions_42 : decode cX10_addFractions 42 = .ok (.iconst 1, 1) := by decide +kernel
theorem dX10_addFractions_43 : decode cX10_addFractions 43 = .ok (.iadd, 1) := by decide +kernel
theorem dX10_addFractions_44 : decode cX10_addFractions 44 = .ok (.invokevirtual 130, 3) := by decide +kernel
theorem dX10_addFractions_47 : decode cX10_addFractions 47 = .ok (.aload_n 0, 1) := by decide +kernel
theorem dX10_addFractions_48 : decode cX10_addFractions 48 = .ok (.sipush 2032, 3) := by decide +kernel
theorem dX10_addFractions_51 : decode cX10_addFractions 51 = .ok (.sipush 2064, 3) := by decide +kernel
theorem dX10_addFractions_54 : decode cX10_addFractions 54 = .ok (.sipush 2065, 3) := by decide +kernel
theorem dX10_addFractions_57 : decode cX10_addFractions 57 = .ok (.invokevirtual 133, 3) := by decide +kernel
theorem dX10_addFractions_60 : decode cX10_addFractions 60 = .ok (.aload_n 0, 1) := by decide +kernel
theorem dX10_addFractions_61 : decode cX10_addFractions 61 = .ok (.sipush 1016, 3) := by decide +kernel
theorem dX10_addFractions_64 : decode cX10_addFractions 64 = .ok (.invokevirtual 121, 3) := by decide +kernel
theorem dX10_addFractions_67 : decode cX10_addFractions 67 = .ok (.aload_n 0, 1) := by decide +kernel
theorem dX10_addFractions_68 : decode cX10_addFractions 68 = .ok (.iload_n 1, 1) := by decide +kernel
theorem dX10_addFractions_69 : decode cX10_addFractions 69 = .ok (.sipush 1016, 3) := by decide +kernel
theorem dX10_addFractions_72 : decode cX10_addFractions 72 = .ok (.invokevirtual 136, 3) := by decide +kernel
theorem dX10_addFractions_75 : decode cX10_addFractions 75 = .ok (.return_, 1) := by decide +kernel
theorem dX10_areSame_0 : decode cX10_areSame 0 = .ok (.aload_n 0, 1) := by decide +kernel
theorem dX10_areSame_1 : decode cX10_areSame 1 = .ok (.getfield 18, 3) := by decide +kernel
theorem dX10_areSame_4 : decode cX10_areSame 4 = .ok (.iconst 2, 1) := by decide +kernel
theorem dX10_areSame_5 : decode cX10_areSame 5 = .ok (.iload_n 1, 1) := by decide +kernel
theorem dX10_areSame_6 : decode cX10_areSame 6 = .ok (.imul, 1) := by decide +kernel
theorem dX10_areSame_7 : decode cX10_areSame 7 = .ok (.baload, 1) := by decide +kernel
theorem dX10_areSame_8 : decode cX10_areSame 8 = .ok (.aload_n 0, 1) := by decide +kernel
theorem dX10_areSame_9 : decode cX10_areSame 9 = .ok (.getfield 18, 3) := by decide +kernel
theorem dX10_areSame_12 : decode cX10_areSame 12 = .ok (.iconst 2, 1) := by decide +kernel
theorem dX10_areSame_13 : decode cX10_areSame 13 = .ok (.iload_n 2, 1) := by decide +kernel
theorem dX10_areSame_14 : decode cX10_areSame 14 = .ok (.imul, 1) := by decide +kernel
theorem dX10_areSame_15 : decode cX10_areSame 15 = .ok (.baload, 1) := by decide +kernel
theorem dX10_areSame_16 : decode cX10_areSame 16 = .ok (.if_icmp .ne 37, 3) := by decide +kernel
theorem dX10_areSame_19 : decode cX10_areSame 19 = .ok (.aload_n 0, 1) := by decide +kernel
theorem dX10_areSame_20 : decode cX10_areSame 20 = .ok (.iconst 2, 1) := by decide +kernel
theorem dX10_areSame_21 : decode cX10_areSame 21 = .ok (.iload_n 1, 1) := by decide +kernel
theorem dX10_areSame_22 : decode cX10_areSame 22 = .ok (.imul, 1) := by decide +kernel
theorem dX10_areSame_23 : decode cX10_areSame 23 = .ok (.iconst 2, 1) := by decide +kernel
theorem dX10_areSame_24 : decode cX10_areSame 24 = .ok (.iload_n 2, 1) := by decide +kernel
theorem dX10_areSame_25 : decode cX10_areSame 25 = .ok (.imul, 1) := by decide +kernel
theorem dX10_areSame_26 : decode cX10_areSame 26 = .ok (.invokevirtual 100, 3) := by decide +kernel
theorem dX10_areSame_29 : decode cX10_areSame 29 = .ok (.ifCond .ne 24, 3) := by decide +kernel
theorem dX10_areSame_32 : decode cX10_areSame 32 = .ok (.aload_n 0, 1) := by decide +kernel
theorem dX10_areSame_33 : decode cX10_areSame 33 = .ok (.iconst 2, 1) := by decide +kernel
theorem dX10_areSame_34 : decode cX10_areSame 34 = .ok (.iload_n 1, 1) := by decide +kernel
theorem dX10_areSame_35 : decode cX10_areSame 35 = .ok (.imul, 1) := by decide +kernel
theorem dX10_areSame_36 : decode cX10_areSame 36 = .ok (.iconst 1, 1) := by decide +kernel
theorem dX10_areSame_37 : decode cX10_areSame 37 = .ok (.iadd, 1) := by decide +kernel
theorem dX10_areSame_38 : decode cX10_areSame 38 = .ok (.iconst 2, 1) := by decide +kernel
theorem dX10_areSame_39 : decode cX10_areSame 39 = .ok (.iload_n 2, 1) := by decide +kernel
theorem dX10_areSame_40 : decode cX10_areSame 40 = .ok (.imul, 1) := by decide +kernel
theorem dX10_areSame_41 : decode cX10_areSame 41 = .ok (.iconst 1, 1) := by decide +kernel
theorem dX10_areSame_42 : decode cX10_areSame 42 = .ok (.iadd, 1) := by decide +kernel
theorem dX10_areSame_43 : decode cX10_areSame 43 = .ok (.invokevirtual 100, 3) := by decide +kernel
theorem dX10_areSame_46 : decode cX10_areSame 46 = .ok (.ifCond .ne 7, 3) := by decide +kernel
theorem dX10_areSame_49 : decode cX10_areSame 49 = .ok (.iconst 1, 1) := by decide +kernel
theorem dX10_areSame_50 : decode cX10_areSame 50 = .ok (.goto 4, 3) := by decide +kernel
theorem dX10_areSame_53 : decode cX10_areSame 53 = .ok (.iconst 0, 1) := by decide +kernel
theorem dX10_areSame_54 : decode cX10_areSame 54 = .ok (.ireturn, 1) := by decide +kernel
theorem dX10_describe_0 : decode cX10_describe 0 = .ok (.aload_n 0, 1) := by decide +kernel
theorem dX10_describe_1 : decode cX10_describe 1 = .ok (.getfield 146, 3) := by decide +kernel
theorem dX10_describe_4 : decode cX10_describe 4 = .ok (.ifCond .ge 5, 3) := by decide +kernel
theorem dX10_describe_7 : decode cX10_describe 7 = .ok (.iconst (-1), 1) := by decide +kernel
theorem dX10_describe_8 : decode cX10_describe 8 = .ok (.ireturn, 1) := by decide +kernel
theorem dX10_describe_9 : decode cX10_describe 9 = .ok (.aload_n 0, 1) := by decide +kernel
theorem dX10_describe_10 : decode cX10_describe 10 = .ok (.getfield 29, 3) := by decide +kernel
theorem dX10_describe_13 : decode cX10_describe 13 = .ok (.aload_n 0, 1) := by decide +kernel
theorem dX10_describe_14 : decode cX10_describe 14 = .ok (.getfield 149, 3) := by decide +kernel
theorem dX10_describe_17 : decode cX10_describe 17 = .ok (.iload_n 1, 1) := by decide +kernel
theorem dX10_describe_18 : decode cX10_describe 18 = .ok (.iastore, 1) := by decide +kernel
theorem dX10_describe_19 : decode cX10_describe 19 = .ok (.aload_n 0, 1) := by decide +kernel
theorem dX10_describe_20 : decode cX10_describe 20 = .ok (.getfield 32, 3) := by decide +kernel
theorem dX10_describe_23 : decode cX10_describe 23 = .ok (.aload_n 0, 1) := by decide +kernel
theorem dX10_describe_24 : decode cX10_describe 24 = .ok (.getfield 149, 3) := by decide +kernel
theorem dX10_describe_27 : decode cX10_describe 27 = .ok (.iload_n 2, 1) := by decide +kernel
theorem dX10_describe_28 : decode cX10_describe 28 = .ok (.iastore, 1) := by decide +kernel
theorem dX10_describe_29 : decode cX10_describe 29 = .ok (.aload_n 0, 1) := by decide +kernel
theorem dX10_describe_30 : decode cX10_describe 30 = .ok (.getfield 35, 3) := by decide +kernel
theorem dX10_describe_33 : decode cX10_describe 33 = .ok (.aload_n 0, 1) := by decide +kernel
theorem dX10_describe_34 : decode cX10_describe 34 = .ok (.getfield 149, 3) := by decide +kernel
theorem dX10_describe_37 : decode cX10_describe 37 = .ok (.iload_n 3, 1) := by decide +kernel
theorem dX10_describe_38 : decode cX10_describe 38 = .ok (.iastore, 1) := by decide +kernel
theorem dX10_describe_39 : decode cX10_describe 39 = .ok (.aload_n 0, 1) := by decide +kernel
theorem dX10_describe_40 : decode cX10_describe 40 = .ok (.getfield 38, 3) := by decide +kernel
theorem dX10_describe_43 : decode cX10_describe 43 = .ok (.aload_n 0, 1) := by decide +kernel
theorem dX10_describe_44 : decode cX10_describe 44 = .ok (.getfield 149, 3) := by decide +kernel
theorem dX10_describe_47 : decode cX10_describe 47 = .ok (.iload 4, 2) := by decide +kernel
theorem dX10_describe_49 : decode cX10_describe 49 = .ok (.iastore, 1) := by decide +kernel
theorem dX10_describe_50 : decode cX10_describe 50 = .ok (.aload_n 0, 1) := by decide +kernel
theorem dX10_describe_51 : decode cX10_describe 51 = .ok (.getfield 41, 3) := by decide +kernel
theorem dX10_describe_54 : decode cX10_describe 54 = .ok (.aload_n 0, 1) := by decide +kernel
theorem dX10_describe_55 : decode cX10_describe 55 = .ok (.getfield 149, 3) := by decide +kernel
theorem dX10_describe_58 : decode cX10_describe 58 = .ok (.iload 5, 2) := by decide +kernel
theorem dX10_describe_60 : decode cX10_describe 60 = .ok (.iastore, 1) := by decide +kernel
theorem dX10_describe_61 : decode cX10_describe 61 = .ok (.aload_n 0, 1) := by decide +kernel
theorem dX10_describe_62 : decode cX10_describe 62 = .ok (.getfield 44, 3) := by decide +kernel
theorem dX10_describe_65 : decode cX10_describe 65 = .ok (.aload_n 0, 1) := by decide +kernel
theorem dX10_describe_66 : decode cX10_describe 66 = .ok (.getfield 149, 3) := by decide +kernel
theorem dX10_describe_69 : decode cX10_describe 69 = .ok (.iload 6, 2) := by decide +kernel
theorem dX10_describe_71 : decode cX10_describe 71 = .ok (.iastore, 1) := by decide +kernel
theorem dX10_describe_72 : decode cX10_describe 72 = .ok (.aload_n 0, 1) := by decide +kernel
theorem dX10_describe_73 : decode cX10_describe 73 = .ok (.invokevirtual 156, 3) := by decide +kernel
theorem dX10_describe_76 : decode cX10_describe 76 = .ok (.ireturn, 1) := by decide +kernel
theorem dX10_areNamesKnown_0 : decode cX10_areNamesKnown 0 = .ok (.iconst 1, 1) := by decide +kernel
theorem dX10_areNamesKnown_1 : decode cX10_areNamesKnown 1 = .ok (.istore_n 1, 1) := by decide +kernel
theorem dX10_areNamesKnown_2 : decode cX10_areNamesKnown 2 = .ok (.iconst 0, 1) := by decide +kernel
theorem dX10_areNamesKnown_3 : decode cX10_areNamesKnown 3 = .ok (.istore_n 2, 1) := by decide +kernel
theorem dX10_areNamesKnown_4 : decode cX10_areNamesKnown 4 = .ok (.iload_n 2, 1) := by decide +kernel
theorem dX10_areNamesKnown_5 : decode cX10_areNamesKnown 5 = .ok (.aload_n 0, 1) := by decide +kernel
theorem dX10_areNamesKnown_6 : decode cX10_areNamesKnown 6 = .ok (.getfield 187, 3) := by decide +kernel
theorem dX10_areNamesKnown_9 : decode cX10_areNamesKnown 9 = .ok (.if_icmp .ge 58, 3) := by decide +kernel
theorem dX10_areNamesKnown_12 : decode cX10_areNamesKnown 12 = .ok (.iload_n 1, 1) := by decide +kernel
theorem dX10_areNamesKnown_13 : decode cX10_areNamesKnown 13 = .ok (.ifCond .eq 46, 3) := by decide +kernel
theorem dX10_areNamesKnown_16 : decode cX10_areNamesKnown 16 = .ok (.aload_n 0, 1) := by decide +kernel
theorem dX10_areNamesKnown_17 : decode cX10_areNamesKnown 17 = .ok (.getfield 22, 3) := by decide +kernel
theorem dX10_areNamesKnown_20 : decode cX10_areNamesKnown 20 = .ok (.iload_n 2, 1) := by decide +kernel
theorem dX10_areNamesKnown_21 : decode cX10_areNamesKnown 21 = .ok (.iaload, 1) := by decide +kernel
theorem dX10_areNamesKnown_22 : decode cX10_areNamesKnown 22 = .ok (.bipush 65, 2) := by decide +kernel
theorem dX10_areNamesKnown_24 : decode cX10_areNamesKnown 24 = .ok (.if_icmp .lt 31, 3) := by decide +kernel
theorem dX10_areNamesKnown_27 : decode cX10_areNamesKnown 27 = .ok (.aload_n 0, 1) := by decide +kernel
theorem dX10_areNamesKnown_28 : decode cX10_areNamesKnown 28 = .ok (.getfield 22, 3) := by decide +kernel
theorem dX10_areNamesKnown_31 : decode cX10_areNamesKnown 31 = .ok (.iload_n 2, 1) := by decide +kernel
theorem dX10_areNamesKnown_32 : decode cX10_areNamesKnown 32 = .ok (.iaload, 1) := by decide +kernel
theorem dX10_areNamesKnown_33 : decode cX10_areNamesKnown 33 = .ok (.bipush 72, 2) := by decide +kernel
theorem dX10_areNamesKnown_35 : decode cX10_areNamesKnown 35 = .ok (.if_icmp .gt 20, 3) := by decide +kernel
theorem dX10_areNamesKnown_38 : decode cX10_areNamesKnown 38 = .ok (.aload_n 0, 1) := by decide +kernel
theorem dX10_areNamesKnown_39 : decode cX10_areNamesKnown 39 = .ok (.getfield 47, 3) := by decide +kernel
theorem dX10_areNamesKnown_42 : decode cX10_areNamesKnown 42 = .ok (.aload_n 0, 1) := by decide +kernel
theorem dX10_areNamesKnown_43 : decode cX10_areNamesKnown 43 = .ok (.getfield 22, 3) := by decide +kernel
theorem dX10_areNamesKnown_46 : decode cX10_areNamesKnown 46 = .ok (.iload_n 2, 1) := by decide +kernel
theorem dX10_areNamesKnown_47 : decode cX10_areNamesKnown 47 = .ok (.iaload, 1) := by decide +kernel
theorem dX10_areNamesKnown_48 : decode cX10_areNamesKnown 48 = .ok (.bipush 65, 2) := by decide +kernel
theorem dX10_areNamesKnown_50 : decode cX10_areNamesKnown 50 = .ok (.isub, 1) := by decide +kernel
theorem dX10_areNamesKnown_51 : decode cX10_areNamesKnown 51 = .ok (.iaload, 1) := by decide +kernel
theorem dX10_areNamesKnown_52 : decode cX10_areNamesKnown 52 = .ok (.ifCond .lt 7, 3) := by decide +kernel
theorem dX10_areNamesKnown_55 : decode cX10_areNamesKnown 55 = .ok (.iconst 1, 1) := by decide +kernel
theorem dX10_areNamesKnown_56 : decode cX10_areNamesKnown 56 = .ok (.goto 4, 3) := by decide +kernel
theorem dX10_areNamesKnown_59 : decode cX10_areNamesKnown 59 = .ok (.iconst 0, 1) := by decide +kernel
theorem dX10_areNamesKnown_60 : decode cX10_areNamesKnown 60 = .ok (.istore_n 1, 1) := by decide +kernel
theorem dX10_areNamesKnown_61 : decode cX10_areNamesKnown 61 = .ok (.iinc 2 1, 3) := by decide +kernel
theorem dX10_areNamesKnown_64 : decode cX10_areNamesKnown 64 = .ok (.goto (-60), 3) := by decide +kernel
theorem dX10_areNamesKnown_67 : decode cX10_areNamesKnown 67 = .ok (.iload_n 1, 1) := by decide +kernel
theorem dX10_areNamesKnown_68 : decode cX10_areNamesKnown 68 = .ok (.ireturn, 1) := by decide +kernel
theorem dX10_finishFactor_0 : decode cX10_finishFactor 0 = .ok (.iload_n 1, 1) := by decide +kernel
theorem dX10_finishFactor_1 : decode cX10_finishFactor 1 = .ok (.istore_n 2, 1) := by decide +kernel
theorem dX10_finishFactor_2 : decode cX10_finishFactor 2 = .ok (.aload_n 0, 1) := by decide +kernel
theorem dX10_finishFactor_3 : decode cX10_finishFactor 3 = .ok (.invokevirtual 190, 3) := by decide +kernel
theorem dX10_finishFactor_6 : decode cX10_finishFactor 6 = .ok (.bipush 94, 2) := by decide +kernel
theorem dX10_finishFactor_8 : decode cX10_finishFactor 8 = .ok (.if_icmp .ne 33, 3) := by decide +kernel
theorem dX10_finishFactor_11 : decode cX10_finishFactor 11 = .ok (.aload_n 0, 1) := by decide +kernel
theorem dX10_finishFactor_12 : decode cX10_finishFactor 12 = .ok (.iload_n 2, 1) := by decide +kernel
theorem dX10_finishFactor_13 : decode cX10_finishFactor 13 = .ok (.aload_n 0, 1) := by decide +kernel
theorem dX10_finishFactor_14 : decode cX10_finishFactor 14 = .ok (.getfield 22, 3) := by decide +kernel
theorem dX10_finishFactor_17 : decode cX10_finishFactor 17 = .ok (.aload_n 0, 1) := by decide +kernel
theorem dX10_finishFactor_18 : decode cX10_finishFactor 18 = .ok (.getfield 184, 3) := by decide +kernel
theorem dX10_finishFactor_21 : decode cX10_finishFactor 21 = .ok (.iconst 1, 1) := by decide +kernel
theorem dX10_finishFactor_22 : decode cX10_finishFactor 22 = .ok (.iadd, 1) := by decide +kernel
theorem dX10_finishFactor_23 : decode cX10_finishFactor 23 = .ok (.iaload, 1) := by decide +kernel
theorem dX10_finishFactor_24 : decode cX10_finishFactor 24 = .ok (.bipush 48, 2) := by decide +kernel
theorem dX10_finishFactor_26 : decode cX10_finishFactor 26 = .ok (.isub, 1) := by decide +kernel
theorem dX10_finishFactor_27 : decode cX10_finishFactor 27 = .ok (.invokevirtual 218, 3) := by decide +kernel
theorem dX10_finishFactor_30 : decode cX10_finishFactor 30 = .ok (.istore_n 2, 1) := by decide +kernel
theorem dX10_finishFactor_31 : decode cX10_finishFactor 31 = .ok (.aload_n 0, 1) := by decide +kernel
theorem dX10_finishFactor_32 : decode cX10_finishFactor 32 = .ok (.dup, 1) := by decide +kernel
theorem dX10_finishFactor_33 : decode cX10_finishFactor 33 = .ok (.getfield 184, 3) := by decide +kernel
theorem dX10_finishFactor_36 : decode cX10_finishFactor 36 = .ok (.iconst 2, 1) := by decide +kernel
theorem dX10_finishFactor_37 : decode cX10_finishFactor 37 = .ok (.iadd, 1) := by decide +kernel
theorem dX10_finishFactor_38 : decode cX10_finishFactor 38 = .ok (.putfield 184, 3) := by decide +kernel
theorem dX10_finishFactor_41 : decode cX10_finishFactor 41 = .ok (.aload_n 0, 1) := by decide +kernel
theorem dX10_finishFactor_42 : decode cX10_finishFactor 42 = .ok (.invokevirtual 221, 3) := by decide +kernel
theorem dX10_finishFactor_45 : decode cX10_finishFactor 45 = .ok (.bipush 110, 2) := by decide +kernel
theorem dX10_finishFactor_47 : decode cX10_finishFactor 47 = .ok (.if_icmp .ne 22, 3) := by decide +kernel
theorem dX10_finishFactor_50 : decode cX10_finishFactor 50 = .ok (.aload_n 0, 1) := by decide +kernel
theorem dX10_finishFactor_51 : decode cX10_finishFactor 51 = .ok (.dup, 1) := by decide +kernel
theorem dX10_finishFactor_52 : decode cX10_finishFactor 52 = .ok (.getfield 210, 3) := by decide +kernel
theorem dX10_finishFactor_55 : decode cX10_finishFactor 55 = .ok (.iconst 1, 1) := by decide +kernel
theorem dX10_finishFactor_56 : decode cX10_finishFactor 56 = .ok (.isub, 1) := by decide +kernel
theorem dX10_finishFactor_57 : decode cX10_finishFactor 57 = .ok (.putfield 210, 3) := by decide +kernel
theorem dX10_finishFactor_60 : decode cX10_finishFactor 60 = .ok (.aload_n 0, 1) := by decide +kernel
theorem dX10_finishFactor_61 : decode cX10_finishFactor 61 = .ok (.iload_n 2, 1) := by decide +kernel
theorem dX10_finishFactor_62 : decode cX10_finishFactor 62 = .ok (.invokevirtual 224, 3) := by decide +kernel
theorem dX10_finishFactor_65 : decode cX10_finishFactor 65 = .ok (.istore_n 2, 1) := by decide +kernel
theorem dX10_finishFactor_66 : decode cX10_finishFactor 66 = .ok (.goto (-25), 3) := by decide +kernel
theorem dX10_finishFactor_69 : decode cX10_finishFactor 69 = .ok (.aload_n 0, 1) := by decide +kernel
theorem dX10_finishFactor_70 : decode cX10_finishFactor 70 = .ok (.invokevirtual 221, 3) := by decide +kernel
theorem dX10_finishFactor_73 : decode cX10_finishFactor 73 = .ok (.bipush 42, 2) := by decide +kernel
theorem dX10_finishFactor_75 : decode cX10_finishFactor 75 = .ok (.if_icmp .ne 38, 3) := by decide +kernel
theorem dX10_finishFactor_78 : decode cX10_finishFactor 78 = .ok (.aload_n 0, 1) := by decide +kernel
theorem dX10_finishFactor_79 : decode cX10_finishFactor 79 = .ok (.dup, 1) := by decide +kernel
theorem dX10_finishFactor_80 : decode cX10_finishFactor 80 = .ok (.getfield 210, 3) := by decide +kernel
theorem dX10_finishFactor_83 : decode cX10_finishFactor 83 = .ok (.iconst 1, 1) := by decide +kernel
theorem dX10_finishFactor_84 : decode cX10_finishFactor 84 = .ok (.isub, 1) := by decide +kernel
theorem dX10_finishFactor_85 : decode cX10_finishFactor 85 = .ok (.putfield 210, 3) := by decide +kernel
theorem dX10_finishFactor_88 : decode cX10_finishFactor 88 = .ok (.aload_n 0, 1) := by decide +kernel
theorem dX10_finishFactor_89 : decode cX10_finishFactor 89 = .ok (.dup, 1) := by decide +kernel
theorem dX10_finishFactor_90 : decode cX10_finishFactor 90 = .ok (.getfield 227, 3) := by decide +kernel
theorem dX10_finishFactor_93 : decode cX10_finishFactor 93 = .ok (.iconst 1, 1) := by decide +kernel
theorem dX10_finishFactor_94 : decode cX10_finishFactor 94 = .ok (.isub, 1) := by decide +kernel
theorem dX10_finishFactor_95 : decode cX10_finishFactor 95 = .ok (.putfield 227, 3) := by decide +kernel
theorem dX10_finishFactor_98 : decode cX10_finishFactor 98 = .ok (.aload_n 0, 1) := by decide +kernel
theorem dX10_finishFactor_99 : decode cX10_finishFactor 99 = .ok (.aload_n 0, 1) := by decide +kernel
theorem dX10_finishFactor_100 : decode cX10_finishFactor 100 = .ok (.getfield 56, 3) := by decide +kernel
theorem dX10_finishFactor_103 : decode cX10_finishFactor 103 = .ok (.aload_n 0, 1) := by decide +kernel
theorem dX10_finishFactor_104 : decode cX10_finishFactor 104 = .ok (.getfield 227, 3) := by decide +kernel
theorem dX10_finishFactor_107 : decode cX10_finishFactor 107 = .ok (.iaload, 1) := by decide +kernel
theorem dX10_finishFactor_108 : decode cX10_finishFactor 108 = .ok (.iload_n 2, 1) := by decide +kernel
theorem dX10_finishFactor_109 : decode cX10_finishFactor 109 = .ok (.invokevirtual 215, 3) := by decide +kernel
theorem dX10_finishFactor_112 : decode cX10_finishFactor 112 = .ok (.istore_n 2, 1) := by decide +kernel
theorem dX10_finishFactor_113 : decode cX10_finishFactor 113 = .ok (.aload_n 0, 1) := by decide +kernel
theorem dX10_finishFactor_114 : decode cX10_finishFactor 114 = .ok (.getfield 56, 3) := by decide +kernel
theorem dX10_finishFactor_117 : decode cX10_finishFactor 117 = .ok (.aload_n 0, 1) := by decide +kernel
theorem dX10_finishFactor_118 : decode cX10_finishFactor 118 = .ok (.getfield 227, 3) := by decide +kernel
theorem dX10_finishFactor_121 : decode cX10_finishFactor 121 = .ok (.iload_n 2, 1) := by decide +kernel
theorem dX10_finishFactor_122 : decode cX10_finishFactor 122 = .ok (.iastore, 1) := by decide +kernel
theorem dX10_finishFactor_123 : decode cX10_finishFactor 123 = .ok (.aload_n 0, 1) := by decide +kernel
theorem dX10_finishFactor_124 : decode cX10_finishFactor 124 = .ok (.dup, 1) := by decide +kernel
theorem dX10_finishFactor_125 : decode cX10_finishFactor 125 = .ok (.getfield 227, 3) := by decide +kernel
theorem dX10_finishFactor_128 : decode cX10_finishFactor 128 = .ok (.iconst 1, 1) := by decide +kernel
theorem dX10_finishFactor_129 : decode cX10_finishFactor 129 = .ok (.iadd, 1) := by decide +kernel
theorem dX10_finishFactor_130 : decode cX10_finishFactor 130 = .ok (.putfield 227, 3) := by decide +kernel
theorem dX10_finishFactor_133 : decode cX10_finishFactor 133 = .ok (.return_, 1) := by decide +kernel
theorem dX10_finishTerm_0 : decode cX10_finishTerm 0 = .ok (.aload_n 0, 1) := by decide +kernel
theorem dX10_finishTerm_1 : decode cX10_finishTerm 1 = .ok (.invokevirtual 221, 3) := by decide +kernel
theorem dX10_finishTerm_4 : decode cX10_finishTerm 4 = .ok (.bipush 43, 2) := by decide +kernel
theorem dX10_finishTerm_6 : decode cX10_finishTerm 6 = .ok (.if_icmp .eq 13, 3) := by decide +kernel
theorem dX10_finishTerm_9 : decode cX10_finishTerm 9 = .ok (.aload_n 0, 1) := by decide +kernel
theorem dX10_finishTerm_10 : decode cX10_finishTerm 10 = .ok (.invokevirtual 221, 3) := by decide +kernel
theorem dX10_finishTerm_13 : decode cX10_finishTerm 13 = .ok (.bipush 45, 2) := by decide +kernel
theorem dX10_finishTerm_15 : decode cX10_finishTerm 15 = .ok (.if_icmp .eq 4, 3) := by decide +kernel
theorem dX10_finishTerm_18 : decode cX10_finishTerm 18 = .ok (.return_, 1) := by decide +kernel
theorem dX10_finishTerm_19 : decode cX10_finishTerm 19 = .ok (.aload_n 0, 1) := by decide +kernel
theorem dX10_finishTerm_20 : decode cX10_finishTerm 20 = .ok (.invokevirtual 221, 3) := by decide +kernel
theorem dX10_finishTerm_23 : decode cX10_finishTerm 23 = .ok (.istore_n 1, 1) := by decide +kernel
theorem dX10_finishTerm_24 : decode cX10_finishTerm 24 = .ok (.aload_n 0, 1) := by decide +kernel
theorem dX10_finishTerm_25 : decode cX10_finishTerm 25 = .ok (.dup, 1) := by decide +kernel
theorem dX10_finishTerm_26 : decode cX10_finishTerm 26 = .ok (.getfield 210, 3) := by decide +kernel
theorem dX10_finishTerm_29 : decode cX10_finishTerm 29 = .ok (.iconst 1, 1) := by decide +kernel
theorem dX10_finishTerm_30 : decode cX10_finishTerm 30 = .ok (.isub, 1) := by decide +kernel
theorem dX10_finishTerm_31 : decode cX10_finishTerm 31 = .ok (.putfield 210, 3) := by decide +kernel
theorem dX10_finishTerm_34 : decode cX10_finishTerm 34 = .ok (.aload_n 0, 1) := by decide +kernel
theorem dX10_finishTerm_35 : decode cX10_finishTerm 35 = .ok (.dup, 1) := by decide +kernel
theorem dX10_finishTerm_36 : decode cX10_finishTerm 36 = .ok (.getfield 227, 3) := by decide +kernel
theorem dX10_finishTerm_39 : decode cX10_finishTerm 39 = .ok (.iconst 1, 1) := by decide +kernel
theorem dX10_finishTerm_40 : decode cX10_finishTerm 40 = .ok (.isub, 1) := by decide +kernel
theorem dX10_finishTerm_41 : decode cX10_finishTerm 41 = .ok (.putfield 227, 3) := by decide +kernel
theorem dX10_finishTerm_44 : decode cX10_finishTerm 44 = .ok (.aload_n 0, 1) := by decide +kernel
theorem dX10_finishTerm_45 : decode cX10_finishTerm 45 = .ok (.getfield 56, 3) := by decide +kernel
theorem dX10_finishTerm_48 : decode cX10_finishTerm 48 = .ok (.aload_n 0, 1) := by decide +kernel
theorem dX10_finishTerm_49 : decode cX10_finishTerm 49 = .ok (.getfield 227, 3) := by decide +kernel
theorem dX10_finishTerm_52 : decode cX10_finishTerm 52 = .ok (.iaload, 1) := by decide +kernel
theorem dX10_finishTerm_53 : decode cX10_finishTerm 53 = .ok (.istore_n 2, 1) := by decide +kernel
theorem dX10_finishTerm_54 : decode cX10_finishTerm 54 = .ok (.iload_n 1, 1) := by decide +kernel
theorem dX10_finishTerm_55 : decode cX10_finishTerm 55 = .ok (.bipush 45, 2) := by decide +kernel
theorem dX10_finishTerm_57 : decode cX10_finishTerm 57 = .ok (.if_icmp .ne 11, 3) := by decide +kernel
theorem dX10_finishTerm_60 : decode cX10_finishTerm 60 = .ok (.aload_n 0, 1) := by decide +kernel
theorem dX10_finishTerm_61 : decode cX10_finishTerm 61 = .ok (.iload_n 2, 1) := by decide +kernel
theorem dX10_finishTerm_62 : decode cX10_finishTerm 62 = .ok (.invokevirtual 224, 3) := by decide +kernel
theorem dX10_finishTerm_65 : decode cX10_finishTerm 65 = .ok (.goto 4, 3) := by decide +kernel
theorem dX10_finishTerm_68 : decode cX10_finishTerm 68 = .ok (.iload_n 2, 1) := by decide +kernel
theorem dX10_finishTerm_69 : decode cX10_finishTerm 69 = .ok (.istore_n 2, 1) := by decide +kernel
theorem dX10_finishTerm_70 : decode cX10_finishTerm 70 = .ok (.aload_n 0, 1) := by decide +kernel
theorem dX10_finishTerm_71 : decode cX10_finishTerm 71 = .ok (.getfield 56, 3) := by decide +kernel
theorem dX10_finishTerm_74 : decode cX10_finishTerm 74 = .ok (.aload_n 0, 1) := by decide +kernel
theorem dX10_finishTerm_75 : decode cX10_finishTerm 75 = .ok (.getfield 227, 3) := by decide +kernel
theorem dX10_finishTerm_78 : decode cX10_finishTerm 78 = .ok (.iconst 1, 1) := by decide +kernel
theorem dX10_finishTerm_79 : decode cX10_finishTerm 79 = .ok (.isub, 1) := by decide +kernel
theorem dX10_finishTerm_80 : decode cX10_finishTerm 80 = .ok (.aload_n 0, 1) := by decide +kernel
theorem dX10_finishTerm_81 : decode cX10_finishTerm 81 = .ok (.aload_n 0, 1) := by decide +kernel
theorem dX10_finishTerm_82 : decode cX10_finishTerm 82 = .ok (.getfield 56, 3) := by decide +kernel
theorem dX10_finishTerm_85 : decode cX10_finishTerm 85 = .ok (.aload_n 0, 1) := by decide +kernel
theorem dX10_finishTerm_86 : decode cX10_finishTerm 86 = .ok (.getfield 227, 3) := by decide +kernel
theorem dX10_finishTerm_89 : decode cX10_finishTerm 89 = .ok (.iconst 1, 1) := by decide +kernel
theorem dX10_finishTerm_90 : decode cX10_finishTerm 90 = .ok (.isub, 1) := by decide +kernel
theorem dX10_finishTerm_91 : decode cX10_finishTerm 91 = .ok (.iaload, 1) := by decide +kernel
theorem dX10_finishTerm_92 : decode cX10_finishTerm 92 = .ok (.iload_n 2, 1) := by decide +kernel
theorem dX10_finishTerm_93 : decode cX10_finishTerm 93 = .ok (.invokevirtual 230, 3) := by decide +kernel
theorem dX10_finishTerm_96 : decode cX10_finishTerm 96 = .ok (.iastore, 1) := by decide +kernel
theorem dX10_finishTerm_97 : decode cX10_finishTerm 97 = .ok (.return_, 1) := by decide +kernel
theorem dX10_define_0 : decode cX10_define 0 = .ok (.aload_n 0, 1) := by decide +kernel
theorem dX10_define_1 : decode cX10_define 1 = .ok (.iload_n 1, 1) := by decide +kernel
theorem dX10_define_2 : decode cX10_define 2 = .ok (.ifCond .lt 9, 3) := by decide +kernel
theorem dX10_define_5 : decode cX10_define 5 = .ok (.iload_n 1, 1) := by decide +kernel
theorem dX10_define_6 : decode cX10_define 6 = .ok (.bipush 7, 2) := by decide +kernel
theorem dX10_define_8 : decode cX10_define 8 = .ok (.if_icmp .le 7, 3) := by decide +kernel
theorem dX10_define_11 : decode cX10_define 11 = .ok (.iconst 1, 1) := by decide +kernel
theorem dX10_define_12 : decode cX10_define 12 = .ok (.goto 4, 3) := by decide +kernel
theorem dX10_define_15 : decode cX10_define 15 = .ok (.iconst 0, 1) := by decide +kernel
theorem dX10_define_16 : decode cX10_define 16 = .ok (.putfield 78, 3) := by decide +kernel
theorem dX10_define_19 : decode cX10_define 19 = .ok (.aload_n 0, 1) := by decide +kernel
theorem dX10_define_20 : decode cX10_define 20 = .ok (.getfield 78, 3) := by decide +kernel
theorem dX10_define_23 : decode cX10_define 23 = .ok (.ifCond .le 5, 3) := by decide +kernel
theorem dX10_define_26 : decode cX10_define 26 = .ok (.iconst 0, 1) := by decide +kernel
theorem dX10_define_27 : decode cX10_define 27 = .ok (.ireturn, 1) := by decide +kernel
theorem dX10_define_28 : decode cX10_define 28 = .ok (.aload_n 0, 1) := by decide +kernel
theorem dX10_define_29 : decode cX10_define 29 = .ok (.iconst (-1), 1) := by decide +kernel
theorem dX10_define_30 : decode cX10_define 30 = .ok (.putfield 25, 3) := by decide +kernel
theorem dX10_define_33 : decode cX10_define 33 = .ok (.aload_n 0, 1) := by decide +kernel
theorem dX10_define_34 : decode cX10_define 34 = .ok (.invokevirtual 248, 3) := by decide +kernel
theorem dX10_define_37 : decode cX10_define 37 = .ok (.ifCond .ne 16, 3) := by decide +kernel
theorem dX10_define_40 : decode cX10_define 40 = .ok (.aload_n 0, 1) := by decide +kernel
theorem dX10_define_41 : decode cX10_define 41 = .ok (.aload_n 0, 1) := by decide +kernel
theorem dX10_define_42 : decode cX10_define 42 = .ok (.getfield 184, 3) := by decide +kernel
theorem dX10_define_45 : decode cX10_define 45 = .ok (.putfield 25, 3) := by decide +kernel
theorem dX10_define_48 : decode cX10_define 48 = .ok (.iconst (-1), 1) := by decide +kernel
theorem dX10_define_49 : decode cX10_define 49 = .ok (.istore_n 2, 1) := by decide +kernel
theorem dX10_define_50 : decode cX10_define 50 = .ok (.goto 67, 3) := by decide +kernel
theorem dX10_define_53 : decode cX10_define 53 = .ok (.aload_n 0, 1) := by decide +kernel
theorem dX10_define_54 : decode cX10_define 54 = .ok (.invokevirtual 251, 3) := by decide +kernel
theorem dX10_define_57 : decode cX10_define 57 = .ok (.ifCond .ne 9, 3) := by decide +kernel
theorem dX10_define_60 : decode cX10_define 60 = .ok (.bipush (-2), 2) := by decide +kernel
theorem dX10_define_62 : decode cX10_define 62 = .ok (.istore_n 2, 1) := by decide +kernel
theorem dX10_define_63 : decode cX10_define 63 = .ok (.goto 54, 3) := by decide +kernel
theorem dX10_define_66 : decode cX10_define 66 = .ok (.aload_n 0, 1) := by decide +kernel
theorem dX10_define_67 : decode cX10_define 67 = .ok (.getfield 149, 3) := by decide +kernel
theorem dX10_define_70 : decode cX10_define 70 = .ok (.istore_n 3, 1) := by decide +kernel
theorem dX10_define_71 : decode cX10_define 71 = .ok (.aload_n 0, 1) := by decide +kernel
theorem dX10_define_72 : decode cX10_define 72 = .ok (.iconst 0, 1) := by decide +kernel
theorem dX10_define_73 : decode cX10_define 73 = .ok (.putfield 146, 3) := by decide +kernel
theorem dX10_define_76 : decode cX10_define 76 = .ok (.aload_n 0, 1) := by decide +kernel
theorem dX10_define_77 : decode cX10_define 77 = .ok (.invokevirtual 254, 3) := by decide +kernel
theorem dX10_define_80 : decode cX10_define 80 = .ok (.istore_n 2, 1) := by decide +kernel
theorem dX10_define_81 : decode cX10_define 81 = .ok (.aload_n 0, 1) := by decide +kernel
theorem dX10_define_82 : decode cX10_define 82 = .ok (.iload_n 2, 1) := by decide +kernel
theorem dX10_define_83 : decode cX10_define 83 = .ok (.ifCond .ge 7, 3) := by decide +kernel
theorem dX10_define_86 : decode cX10_define 86 = .ok (.iload_n 3, 1) := by decide +kernel
theorem dX10_define_87 : decode cX10_define 87 = .ok (.goto 7, 3) := by decide +kernel
theorem dX10_define_90 : decode cX10_define 90 = .ok (.aload_n 0, 1) := by decide +kernel
theorem dX10_define_91 : decode cX10_define 91 = .ok (.getfield 149, 3) := by decide +kernel
theorem dX10_define_94 : decode cX10_define 94 = .ok (.putfield 149, 3) := by decide +kernel
theorem dX10_define_97 : decode cX10_define 97 = .ok (.aload_n 0, 1) := by decide +kernel
theorem dX10_define_98 : decode cX10_define 98 = .ok (.getfield 47, 3) := by decide +kernel
theorem dX10_define_101 : decode cX10_define 101 = .ok (.iload_n 1, 1) := by decide +kernel
theorem dX10_define_102 : decode cX10_define 102 = .ok (.iload_n 2, 1) := by decide +kernel
theorem dX10_define_103 : decode cX10_define 103 = .ok (.ifCond .ge 12, 3) := by decide +kernel
theorem dX10_define_106 : decode cX10_define 106 = .ok (.aload_n 0, 1) := by decide +kernel
theorem dX10_define_107 : decode cX10_define 107 = .ok (.getfield 47, 3) := by decide +kernel
theorem dX10_define_110 : decode cX10_define 110 = .ok (.iload_n 1, 1) := by decide +kernel
theorem dX10_define_111 : decode cX10_define 111 = .ok (.iaload, 1) := by decide +kernel
theorem dX10_define_112 : decode cX10_define 112 = .ok (.goto 4, 3) := by decide +kernel
theorem dX10_define_115 : decode cX10_define 115 = .ok (.iload_n 2, 1) := by decide +kernel
theorem dX10_define_116 : decode cX10_define 116 = .ok (.iastore, 1) := by decide +kernel
theorem dX10_define_117 : decode cX10_define 117 = .ok (.aload_n 0, 1) := by decide +kernel
theorem dX10_define_118 : decode cX10_define 118 = .ok (.iconst 0, 1) := by decide +kernel
theorem dX10_define_119 : decode cX10_define 119 = .ok (.putfield 187, 3) := by decide +kernel
theorem dX10_define_122 : decode cX10_define 122 = .ok (.iload_n 2, 1) := by decide +kernel
theorem dX10_define_123 : decode cX10_define 123 = .ok (.ireturn, 1) := by decide +kernel
theorem dX10_derivativeOf_0 : decode cX10_derivativeOf 0 = .ok (.aload_n 0, 1) := by decide +kernel
theorem dX10_derivativeOf_1 : decode cX10_derivativeOf 1 = .ok (.getfield 32, 3) := by decide +kernel
theorem dX10_derivativeOf_4 : decode cX10_derivativeOf 4 = .ok (.iload_n 1, 1) := by decide +kernel
theorem dX10_derivativeOf_5 : decode cX10_derivativeOf 5 = .ok (.iaload, 1) := by decide +kernel
theorem dX10_derivativeOf_6 : decode cX10_derivativeOf 6 = .ok (.istore_n 3, 1) := by decide +kernel
theorem dX10_derivativeOf_7 : decode cX10_derivativeOf 7 = .ok (.aload_n 0, 1) := by decide +kernel
theorem dX10_derivativeOf_8 : decode cX10_derivativeOf 8 = .ok (.getfield 35, 3) := by decide +kernel
theorem dX10_derivativeOf_11 : decode cX10_derivativeOf 11 = .ok (.iload_n 1, 1) := by decide +kernel
theorem dX10_derivativeOf_12 : decode cX10_derivativeOf 12 = .ok (.iaload, 1) := by decide +kernel
theorem dX10_derivativeOf_13 : decode cX10_derivativeOf 13 = .ok (.istore 4, 2) := by decide +kernel
theorem dX10_derivativeOf_15 : decode cX10_derivativeOf 15 = .ok (.aload_n 0, 1) := by decide +kernel
theorem dX10_derivativeOf_16 : decode cX10_derivativeOf 16 = .ok (.getfield 29, 3) := by decide +kernel
theorem dX10_derivativeOf_19 : decode cX10_derivativeOf 19 = .ok (.iload_n 1, 1) := by decide +kernel
theorem dX10_derivativeOf_20 : decode cX10_derivativeOf 20 = .ok (.iaload, 1) := by decide +kernel
theorem dX10_derivativeOf_21 : decode cX10_derivativeOf 21 = .ok (.ifCond .ne 10, 3) := by decide +kernel
theorem dX10_derivativeOf_24 : decode cX10_derivativeOf 24 = .ok (.aload_n 0, 1) := by decide +kernel
theorem dX10_derivativeOf_25 : decode cX10_derivativeOf 25 = .ok (.lconst 0, 1) := by decide +kernel
theorem dX10_derivativeOf_26 : decode cX10_derivativeOf 26 = .ok (.lconst 1, 1) := by decide +kernel
theorem dX10_derivativeOf_27 : decode cX10_derivativeOf 27 = .ok (.invokevirtual 177, 3) := by decide +kernel
theorem dX10_derivativeOf_30 : decode cX10_derivativeOf 30 = .ok (.ireturn, 1) := by decide +kernel
theorem dX10_derivativeOf_31 : decode cX10_derivativeOf 31 = .ok (.aload_n 0, 1) := by decide +kernel
theorem dX10_derivativeOf_32 : decode cX10_derivativeOf 32 = .ok (.getfield 29, 3) := by decide +kernel
theorem dX10_derivativeOf_35 : decode cX10_derivativeOf 35 = .ok (.iload_n 1, 1) := by decide +kernel
theorem dX10_derivativeOf_36 : decode cX10_derivativeOf 36 = .ok (.iaload, 1) := by decide +kernel
theorem dX10_derivativeOf_37 : decode cX10_derivativeOf 37 = .ok (.iconst 1, 1) := by decide +kernel
theorem dX10_derivativeOf_38 : decode cX10_derivativeOf 38 = .ok (.if_icmp .ne 19, 3) := by decide +kernel
theorem dX10_derivativeOf_41 : decode cX10_derivativeOf 41 = .ok (.aload_n 0, 1) := by decide +kernel
theorem dX10_derivativeOf_42 : decode cX10_derivativeOf 42 = .ok (.iload_n 3, 1) := by decide +kernel
theorem dX10_derivativeOf_43 : decode cX10_derivativeOf 43 = .ok (.iload_n 2, 1) := by decide +kernel
theorem dX10_derivativeOf_44 : decode cX10_derivativeOf 44 = .ok (.if_icmp .ne 7, 3) := by decide +kernel
theorem dX10_derivativeOf_47 : decode cX10_derivativeOf 47 = .ok (.lconst 1, 1) := by decide +kernel
theorem dX10_derivativeOf_48 : decode cX10_derivativeOf 48 = .ok (.goto 4, 3) := by decide +kernel
theorem dX10_derivativeOf_51 : decode cX10_derivativeOf 51 = .ok (.lconst 0, 1) := by decide +kernel
theorem dX10_derivativeOf_52 : decode cX10_derivativeOf 52 = .ok (.lconst 1, 1) := by decide +kernel
theorem dX10_derivativeOf_53 : decode cX10_derivativeOf 53 = .ok (.invokevirtual 177, 3) := by decide +kernel
theorem dX10_derivativeOf_56 : decode cX10_derivativeOf 56 = .ok (.ireturn, 1) := by decide +kernel
theorem dX10_derivativeOf_57 : decode cX10_derivativeOf 57 = .ok (.aload_n 0, 1) := by decide +kernel
theorem dX10_derivativeOf_58 : decode cX10_derivativeOf 58 = .ok (.getfield 29, 3) := by decide +kernel
theorem dX10_derivativeOf_61 : decode cX10_derivativeOf 61 = .ok (.iload_n 1, 1) := by decide +kernel
theorem dX10_derivativeOf_62 : decode cX10_derivativeOf 62 = .ok (.iaload, 1) := by decide +kernel
theorem dX10_derivativeOf_63 : decode cX10_derivativeOf 63 = .ok (.iconst 2, 1) := by decide +kernel
theorem dX10_derivativeOf_64 : decode cX10_derivativeOf 64 = .ok (.if_icmp .ne 21, 3) := by decide +kernel
theorem dX10_derivativeOf_67 : decode cX10_derivativeOf 67 = .ok (.aload_n 0, 1) := by decide +kernel
theorem dX10_derivativeOf_68 : decode cX10_derivativeOf 68 = .ok (.aload_n 0, 1) := by decide +kernel
theorem dX10_derivativeOf_69 : decode cX10_derivativeOf 69 = .ok (.getfield 53, 3) := by decide +kernel
theorem dX10_derivativeOf_72 : decode cX10_derivativeOf 72 = .ok (.iload_n 3, 1) := by decide +kernel
theorem dX10_derivativeOf_73 : decode cX10_derivativeOf 73 = .ok (.iaload, 1) := by decide +kernel
theorem dX10_derivativeOf_74 : decode cX10_derivativeOf 74 = .ok (.aload_n 0, 1) := by decide +kernel
theorem dX10_derivativeOf_75 : decode cX10_derivativeOf 75 = .ok (.getfield 53, 3) := by decide +kernel
theorem dX10_derivativeOf_78 : decode cX10_derivativeOf 78 = .ok (.iload 4, 2) := by decide +kernel
theorem dX10_derivativeOf_80 : decode cX10_derivativeOf 80 = .ok (.iaload, 1) := by decide +kernel
theorem dX10_derivativeOf_81 : decode cX10_derivativeOf 81 = .ok (.invokevirtual 230, 3) := by decide +kernel
theorem dX10_derivativeOf_84 : decode cX10_derivativeOf 84 = .ok (.ireturn, 1) := by decide +kernel
theorem dX10_derivativeOf_85 : decode cX10_derivativeOf 85 = .ok (.aload_n 0, 1) := by decide +kernel
theorem dX10_derivativeOf_86 : decode cX10_derivativeOf 86 = .ok (.getfield 29, 3) := by decide +kernel
theorem dX10_derivativeOf_89 : decode cX10_derivativeOf 89 = .ok (.iload_n 1, 1) := by decide +kernel
theorem dX10_derivativeOf_90 : decode cX10_derivativeOf 90 = .ok (.iaload, 1) := by decide +kernel
theorem dX10_derivativeOf_91 : decode cX10_derivativeOf 91 = .ok (.iconst 3, 1) := by decide +kernel
theorem dX10_derivativeOf_92 : decode cX10_derivativeOf 92 = .ok (.if_icmp .ne 51, 3) := by decide +kernel
theorem dX10_derivativeOf_95 : decode cX10_derivativeOf 95 = .ok (.aload_n 0, 1) := by decide +kernel
theorem dX10_derivativeOf_96 : decode cX10_derivativeOf 96 = .ok (.aload_n 0, 1) := by decide +kernel
theorem dX10_derivativeOf_97 : decode cX10_derivativeOf 97 = .ok (.getfield 53, 3) := by decide +kernel
theorem dX10_derivativeOf_100 : decode cX10_derivativeOf 100 = .ok (.iload_n 3, 1) := by decide +kernel
theorem dX10_derivativeOf_101 : decode cX10_derivativeOf 101 = .ok (.iaload, 1) := by decide +kernel
theorem dX10_derivativeOf_102 : decode cX10_derivativeOf 102 = .ok (.iload 4, 2) := by decide +kernel
theorem dX10_derivativeOf_104 : decode cX10_derivativeOf 104 = .ok (.invokevirtual 215, 3) := by decide +kernel
theorem dX10_derivativeOf_107 : decode cX10_derivativeOf 107 = .ok (.istore 5, 2) := by decide +kernel
theorem dX10_derivativeOf_109 : decode cX10_derivativeOf 109 = .ok (.aload_n 0, 1) := by decide +kernel
theorem dX10_derivativeOf_110 : decode cX10_derivativeOf 110 = .ok (.getfield 146, 3) := by decide +kernel
theorem dX10_derivativeOf_113 : decode cX10_derivativeOf 113 = .ok (.ifCond .ge 7, 3) := by decide +kernel
theorem dX10_derivativeOf_116 : decode cX10_derivativeOf 116 = .ok (.iconst (-1), 1) := by decide +kernel
theorem dX10_derivativeOf_117 : decode cX10_derivativeOf 117 = .ok (.goto 15, 3) := by decide +kernel
theorem dX10_derivativeOf_120 : decode cX10_derivativeOf 120 = .ok (.aload_n 0, 1) := by decide +kernel
theorem dX10_derivativeOf_121 : decode cX10_derivativeOf 121 = .ok (.iload_n 3, 1) := by decide +kernel
theorem dX10_derivativeOf_122 : decode cX10_derivativeOf 122 = .ok (.aload_n 0, 1) := by decide +kernel
theorem dX10_derivativeOf_123 : decode cX10_derivativeOf 123 = .ok (.getfield 53, 3) := by decide +kernel
theorem dX10_derivativeOf_126 : decode cX10_derivativeOf 126 = .ok (.iload 4, 2) := by decide +kernel
theorem dX10_derivativeOf_128 : decode cX10_derivativeOf 128 = .ok (.iaload, 1) := by decide +kernel
theorem dX10_derivativeOf_129 : decode cX10_derivativeOf 129 = .ok (.invokevirtual 215, 3) := by decide +kernel
theorem dX10_derivativeOf_132 : decode cX10_derivativeOf 132 = .ok (.istore 6, 2) := by decide +kernel
theorem dX10_derivativeOf_134 : decode cX10_derivativeOf 134 = .ok (.aload_n 0, 1) := by decide +kernel
theorem dX10_derivativeOf_135 : decode cX10_derivativeOf 135 = .ok (.iload 5, 2) := by decide +kernel
theorem dX10_derivativeOf_137 : decode cX10_derivativeOf 137 = .ok (.iload 6, 2) := by decide +kernel
theorem dX10_derivativeOf_139 : decode cX10_derivativeOf 139 = .ok (.invokevirtual 230, 3) := by decide +kernel
theorem dX10_derivativeOf_142 : decode cX10_derivativeOf 142 = .ok (.ireturn, 1) := by decide +kernel
theorem dX10_derivativeOf_143 : decode cX10_derivativeOf 143 = .ok (.aload_n 0, 1) := by decide +kernel
theorem dX10_derivativeOf_144 : decode cX10_derivativeOf 144 = .ok (.iload 4, 2) := by decide +kernel
theorem dX10_derivativeOf_146 : decode cX10_derivativeOf 146 = .ok (.i2l, 1) := by decide +kernel
theorem dX10_derivativeOf_147 : decode cX10_derivativeOf 147 = .ok (.lconst 1, 1) := by decide +kernel
theorem dX10_derivativeOf_148 : decode cX10_derivativeOf 148 = .ok (.invokevirtual 177, 3) := by decide +kernel
theorem dX10_derivativeOf_151 : decode cX10_derivativeOf 151 = .ok (.istore 5, 2) := by decide +kernel
theorem dX10_derivativeOf_153 : decode cX10_derivativeOf 153 = .ok (.aload_n 0, 1) := by decide +kernel
theorem dX10_derivativeOf_154 : decode cX10_derivativeOf 154 = .ok (.iload_n 3, 1) := by decide +kernel
theorem dX10_derivativeOf_155 : decode cX10_derivativeOf 155 = .ok (.iload 4, 2) := by decide +kernel
theorem dX10_derivativeOf_157 : decode cX10_derivativeOf 157 = .ok (.iconst 1, 1) := by decide +kernel
theorem dX10_derivativeOf_158 : decode cX10_derivativeOf 158 = .ok (.isub, 1) := by decide +kernel
theorem dX10_derivativeOf_159 : decode cX10_derivativeOf 159 = .ok (.invokevirtual 218, 3) := by decide +kernel
theorem dX10_derivativeOf_162 : decode cX10_derivativeOf 162 = .ok (.istore 6, 2) := by decide +kernel
theorem dX10_derivativeOf_164 : decode cX10_derivativeOf 164 = .ok (.aload_n 0, 1) := by decide +kernel
theorem dX10_derivativeOf_165 : decode cX10_derivativeOf 165 = .ok (.iload 5, 2) := by decide +kernel
theorem dX10_derivativeOf_167 : decode cX10_derivativeOf 167 = .ok (.iload 6, 2) := by decide +kernel
theorem dX10_derivativeOf_169 : decode cX10_derivativeOf 169 = .ok (.invokevirtual 215, 3) := by decide +kernel
theorem dX10_derivativeOf_172 : decode cX10_derivativeOf 172 = .ok (.istore 7, 2) := by decide +kernel
theorem dX10_derivativeOf_174 : decode cX10_derivativeOf 174 = .ok (.aload_n 0, 1) := by decide +kernel
theorem dX10_derivativeOf_175 : decode cX10_derivativeOf 175 = .ok (.iload 7, 2) := by decide +kernel
theorem dX10_derivativeOf_177 : decode cX10_derivativeOf 177 = .ok (.aload_n 0, 1) := by decide +kernel
theorem dX10_derivativeOf_178 : decode cX10_derivativeOf 178 = .ok (.getfield 53, 3) := by decide +kernel
theorem dX10_derivativeOf_181 : decode cX10_derivativeOf 181 = .ok (.iload_n 3, 1) := by decide +kernel
theorem dX10_derivativeOf_182 : decode cX10_derivativeOf 182 = .ok (.iaload, 1) := by decide +kernel
theorem dX10_derivativeOf_183 : decode cX10_derivativeOf 183 = .ok (.invokevirtual 215, 3) := by decide +kernel
theorem dX10_derivativeOf_186 : decode cX10_derivativeOf 186 = .ok (.ireturn, 1) := by decide +kernel
theorem dX10_derive_0 : decode cX10_derive 0 = .ok (.iload_n 1, 1) := by decide +kernel
theorem dX10_derive_1 : decode cX10_derive 1 = .ok (.ifCond .lt 28, 3) := by decide +kernel
theorem dX10_derive_4 : decode cX10_derive 4 = .ok (.iload_n 1, 1) := by decide +kernel
theorem dX10_derive_5 : decode cX10_derive 5 = .ok (.bipush 7, 2) := by decide +kernel
theorem dX10_derive_7 : decode cX10_derive 7 = .ok (.if_icmp .gt 22, 3) := by decide +kernel
theorem dX10_derive_10 : decode cX10_derive 10 = .ok (.iload_n 3, 1) := by decide +kernel
theorem dX10_derive_11 : decode cX10_derive 11 = .ok (.ifCond .lt 18, 3) := by decide +kernel
theorem dX10_derive_14 : decode cX10_derive 14 = .ok (.iload_n 3, 1) := by decide +kernel
theorem dX10_derive_15 : decode cX10_derive 15 = .ok (.bipush 7, 2) := by decide +kernel
theorem dX10_derive_17 : decode cX10_derive 17 = .ok (.if_icmp .gt 12, 3) := by decide +kernel
theorem dX10_derive_20 : decode cX10_derive 20 = .ok (.iload_n 2, 1) := by decide +kernel
theorem dX10_derive_21 : decode cX10_derive 21 = .ok (.ifCond .lt 8, 3) := by decide +kernel
theorem dX10_derive_24 : decode cX10_derive 24 = .ok (.iload_n 2, 1) := by decide +kernel
theorem dX10_derive_25 : decode cX10_derive 25 = .ok (.iconst 2, 1) := by decide +kernel
theorem dX10_derive_26 : decode cX10_derive 26 = .ok (.if_icmp .le 7, 3) := by decide +kernel
theorem dX10_derive_29 : decode cX10_derive 29 = .ok (.iconst 1, 1) := by decide +kernel
theorem dX10_derive_30 : decode cX10_derive 30 = .ok (.goto 4, 3) := by decide +kernel
theorem dX10_derive_33 : decode cX10_derive 33 = .ok (.iconst 0, 1) := by decide +kernel
theorem dX10_derive_34 : decode cX10_derive 34 = .ok (.istore 4, 2) := by decide +kernel
theorem dX10_derive_36 : decode cX10_derive 36 = .ok (.aload_n 0, 1) := by decide +kernel
theorem dX10_derive_37 : decode cX10_derive 37 = .ok (.iload 4, 2) := by decide +kernel
theorem dX10_derive_39 : decode cX10_derive 39 = .ok (.ifCond .eq 7, 3) := by decide +kernel
theorem dX10_derive_42 : decode cX10_derive 42 = .ok (.iconst 1, 1) := by decide +kernel
theorem dX10_derive_43 : decode cX10_derive 43 = .ok (.goto 17, 3) := by decide +kernel
theorem dX10_derive_46 : decode cX10_derive 46 = .ok (.aload_n 0, 1) := by decide +kernel
theorem dX10_derive_47 : decode cX10_derive 47 = .ok (.getfield 47, 3) := by decide +kernel
theorem dX10_derive_50 : decode cX10_derive 50 = .ok (.iload_n 1, 1) := by decide +kernel
theorem dX10_derive_51 : decode cX10_derive 51 = .ok (.iaload, 1) := by decide +kernel
theorem dX10_derive_52 : decode cX10_derive 52 = .ok (.ifCond .ge 7, 3) := by decide +kernel
theorem dX10_derive_55 : decode cX10_derive 55 = .ok (.iconst 2, 1) := by decide +kernel
theorem dX10_derive_56 : decode cX10_derive 56 = .ok (.goto 4, 3) := by decide +kernel
theorem dX10_derive_59 : decode cX10_derive 59 = .ok (.iconst 0, 1) := by decide +kernel
theorem dX10_derive_60 : decode cX10_derive 60 = .ok (.putfield 78, 3) := by decide +kernel
theorem dX10_derive_63 : decode cX10_derive 63 = .ok (.aload_n 0, 1) := by decide +kernel
theorem dX10_derive_64 : decode cX10_derive 64 = .ok (.getfield 78, 3) := by decide +kernel
theorem dX10_derive_67 : decode cX10_derive 67 = .ok (.ifCond .le 5, 3) := by decide +kernel
theorem dX10_derive_70 : decode cX10_derive 70 = .ok (.iconst 0, 1) := by decide +kernel
theorem dX10_derive_71 : decode cX10_derive 71 = .ok (.ireturn, 1) := by decide +kernel
theorem dX10_derive_72 : decode cX10_derive 72 = .ok (.aload_n 0, 1) := by decide +kernel
theorem dX10_derive_73 : decode cX10_derive 73 = .ok (.getfield 47, 3) := by decide +kernel
theorem dX10_derive_76 : decode cX10_derive 76 = .ok (.iload_n 1, 1) := by decide +kernel
theorem dX10_derive_77 : decode cX10_derive 77 = .ok (.iaload, 1) := by decide +kernel
theorem dX10_derive_78 : decode cX10_derive 78 = .ok (.istore 5, 2) := by decide +kernel
theorem dX10_derive_80 : decode cX10_derive 80 = .ok (.aload_n 0, 1) := by decide +kernel
theorem dX10_derive_81 : decode cX10_derive 81 = .ok (.iload 5, 2) := by decide +kernel
theorem dX10_derive_83 : decode cX10_derive 83 = .ok (.invokevirtual 257, 3) := by decide +kernel
theorem dX10_derive_86 : decode cX10_derive 86 = .ok (.aload_n 0, 1) := by decide +kernel
theorem dX10_derive_87 : decode cX10_derive 87 = .ok (.getfield 149, 3) := by decide +kernel
theorem dX10_derive_90 : decode cX10_derive 90 = .ok (.istore 6, 2) := by decide +kernel
theorem dX10_derive_92 : decode cX10_derive 92 = .ok (.aload_n 0, 1) := by decide +kernel
theorem dX10_derive_93 : decode cX10_derive 93 = .ok (.iconst 0, 1) := by decide +kernel
theorem dX10_derive_94 : decode cX10_derive 94 = .ok (.putfield 146, 3) := by decide +kernel
theorem dX10_derive_97 : decode cX10_derive 97 = .ok (.iconst 0, 1) := by decide +kernel
theorem dX10_derive_98 : decode cX10_derive 98 = .ok (.istore 7, 2) := by decide +kernel
theorem dX10_derive_100 : decode cX10_derive 100 = .ok (.iload 7, 2) := by decide +kernel
theorem dX10_derive_102 : decode cX10_derive 102 = .ok (.iload 5, 2) := by decide +kernel
theorem dX10_derive_104 : decode cX10_derive 104 = .ok (.if_icmp .gt 40, 3) := by decide +kernel
theorem dX10_derive_107 : decode cX10_derive 107 = .ok (.aload_n 0, 1) := by decide +kernel
theorem dX10_derive_108 : decode cX10_derive 108 = .ok (.getfield 146, 3) := by decide +kernel
theorem dX10_derive_111 : decode cX10_derive 111 = .ok (.ifCond .ne 33, 3) := by decide +kernel
theorem dX10_derive_114 : decode cX10_derive 114 = .ok (.aload_n 0, 1) := by decide +kernel
theorem dX10_derive_115 : decode cX10_derive 115 = .ok (.getfield 50, 3) := by decide +kernel
theorem dX10_derive_118 : decode cX10_derive 118 = .ok (.iload 7, 2) := by decide +kernel
theorem dX10_derive_120 : decode cX10_derive 120 = .ok (.baload, 1) := by decide +kernel
theorem dX10_derive_121 : decode cX10_derive 121 = .ok (.ifCond .eq 17, 3) := by decide +kernel
theorem dX10_derive_124 : decode cX10_derive 124 = .ok (.aload_n 0, 1) := by decide +kernel
theorem dX10_derive_125 : decode cX10_derive 125 = .ok (.getfield 53, 3) := by decide +kernel
theorem dX10_derive_128 : decode cX10_derive 128 = .ok (.iload 7, 2) := by decide +kernel
theorem dX10_derive_130 : decode cX10_derive 130 = .ok (.aload_n 0, 1) := by decide +kernel
theorem dX10_derive_131 : decode cX10_derive 131 = .ok (.iload 7, 2) := by decide +kernel
theorem dX10_derive_133 : decode cX10_derive 133 = .ok (.iload_n 2, 1) := by decide +kernel
theorem dX10_derive_134 : decode cX10_derive 134 = .ok (.invokevirtual 260, 3) := by decide +kernel
theorem dX10_derive_137 : decode cX10_derive 137 = .ok (.iastore, 1) := by decide +kernel
theorem dX10_derive_138 : decode cX10_derive 138 = .ok (.iinc 7 1, 3) := by decide +kernel
theorem dX10_derive_141 : decode cX10_derive 141 = .ok (.goto (-41), 3) := by decide +kernel
theorem dX10_derive_144 : decode cX10_derive 144 = .ok (.aload_n 0, 1) := by decide +kernel
theorem dX10_derive_145 : decode cX10_derive 145 = .ok (.getfield 146, 3) := by decide +kernel
theorem dX10_derive_148 : decode cX10_derive 148 = .ok (.ifCond .ge 14, 3) := by decide +kernel
theorem dX10_derive_151 : decode cX10_derive 151 = .ok (.aload_n 0, 1) := by decide +kernel
theorem dX10_derive_152 : decode cX10_derive 152 = .ok (.iload 6, 2) := by decide +kernel
theorem dX10_derive_154 : decode cX10_derive 154 = .ok (.putfield 149, 3) := by decide +kernel
theorem dX10_derive_157 : decode cX10_derive 157 = .ok (.aload_n 0, 1) := by decide +kernel
theorem dX10_derive_158 : decode cX10_derive 158 = .ok (.getfield 146, 3) := by decide +kernel
theorem dX10_derive_161 : decode cX10_derive 161 = .ok (.ireturn, 1) := by decide +kernel
theorem dX10_derive_162 : decode cX10_derive 162 = .ok (.aload_n 0, 1) := by decide +kernel
theorem dX10_derive_163 : decode cX10_derive 163 = .ok (.getfield 47, 3) := by decide +kernel
theorem dX10_derive_166 : decode cX10_derive 166 = .ok (.iload_n 3, 1) := by decide +kernel
theorem dX10_derive_167 : decode cX10_derive 167 = .ok (.aload_n 0, 1) := by decide +kernel
theorem dX10_derive_168 : decode cX10_derive 168 = .ok (.getfield 53, 3) := by decide +kernel
theorem dX10_derive_171 : decode cX10_derive 171 = .ok (.iload 5, 2) := by decide +kernel
theorem dX10_derive_173 : decode cX10_derive 173 = .ok (.iaload, 1) := by decide +kernel
theorem dX10_derive_174 : decode cX10_derive 174 = .ok (.iastore, 1) := by decide +kernel
theorem dX10_derive_175 : decode cX10_derive 175 = .ok (.aload_n 0, 1) := by decide +kernel
theorem dX10_derive_176 : decode cX10_derive 176 = .ok (.getfield 47, 3) := by decide +kernel
theorem dX10_derive_179 : decode cX10_derive 179 = .ok (.iload_n 3, 1) := by decide +kernel
theorem dX10_derive_180 : decode cX10_derive 180 = .ok (.iaload, 1) := by decide +kernel
theorem dX10_derive_181 : decode cX10_derive 181 = .ok (.ireturn, 1) := by decide +kernel
theorem dX10_clear_0 : decode cX10_clear 0 = .ok (.aload_n 0, 1) := by decide +kernel
theorem dX10_clear_1 : decode cX10_clear 1 = .ok (.iconst 0, 1) := by decide +kernel
theorem dX10_clear_2 : decode cX10_clear 2 = .ok (.putfield 78, 3) := by decide +kernel
theorem dX10_clear_5 : decode cX10_clear 5 = .ok (.aload_n 0, 1) := by decide +kernel
theorem dX10_clear_6 : decode cX10_clear 6 = .ok (.iconst 0, 1) := by decide +kernel
theorem dX10_clear_7 : decode cX10_clear 7 = .ok (.putfield 149, 3) := by decide +kernel
theorem dX10_clear_10 : decode cX10_clear 10 = .ok (.iconst 0, 1) := by decide +kernel
theorem dX10_clear_11 : decode cX10_clear 11 = .ok (.istore_n 1, 1) := by decide +kernel
theorem dX10_clear_12 : decode cX10_clear 12 = .ok (.iload_n 1, 1) := by decide +kernel
theorem dX10_clear_13 : decode cX10_clear 13 = .ok (.bipush 8, 2) := by decide +kernel
theorem dX10_clear_15 : decode cX10_clear 15 = .ok (.if_icmp .ge 16, 3) := by decide +kernel
theorem dX10_clear_18 : decode cX10_clear 18 = .ok (.aload_n 0, 1) := by decide +kernel
theorem dX10_clear_19 : decode cX10_clear 19 = .ok (.getfield 47, 3) := by decide +kernel
theorem dX10_clear_22 : decode cX10_clear 22 = .ok (.iload_n 1, 1) := by decide +kernel
theorem dX10_clear_23 : decode cX10_clear 23 = .ok (.iconst (-1), 1) := by decide +kernel
theorem dX10_clear_24 : decode cX10_clear 24 = .ok (.iastore, 1) := by decide +kernel
theorem dX10_clear_25 : decode cX10_clear 25 = .ok (.iinc 1 1, 3) := by decide +kernel
theorem dX10_clear_28 : decode cX10_clear 28 = .ok (.goto (-16), 3) := by decide +kernel
theorem dX10_clear_31 : decode cX10_clear 31 = .ok (.return_, 1) := by decide +kernel
theorem dX10_derivativeCell_0 : decode cX10_derivativeCell 0 = .ok (.sipush 400, 3) := by decide +kernel
theorem dX10_derivativeCell_3 : decode cX10_derivativeCell 3 = .ok (.sipush 200, 3) := by decide +kernel
theorem dX10_derivativeCell_6 : decode cX10_derivativeCell 6 = .ok (.iload_n 1, 1) := by decide +kernel
theorem dX10_derivativeCell_7 : decode cX10_derivativeCell 7 = .ok (.imul, 1) := by decide +kernel
theorem dX10_derivativeCell_8 : decode cX10_derivativeCell 8 = .ok (.iadd, 1) := by decide +kernel
theorem dX10_derivativeCell_9 : decode cX10_derivativeCell 9 = .ok (.iload_n 0, 1) := by decide +kernel
theorem dX10_derivativeCell_10 : decode cX10_derivativeCell 10 = .ok (.iadd, 1) := by decide +kernel
theorem dX10_derivativeCell_11 : decode cX10_derivativeCell 11 = .ok (.ireturn, 1) := by decide +kernel
theorem dX10_along_0 : decode cX10_along 0 = .ok (.iload_n 1, 1) := by decide +kernel
theorem dX10_along_1 : decode cX10_along 1 = .ok (.ifCond .lt 53, 3) := by decide +kernel
theorem dX10_along_4 : decode cX10_along 4 = .ok (.iload_n 1, 1) := by decide +kernel
theorem dX10_along_5 : decode cX10_along 5 = .ok (.bipush 7, 2) := by decide +kernel
theorem dX10_along_7 : decode cX10_along 7 = .ok (.if_icmp .gt 47, 3) := by decide +kernel
theorem dX10_along_10 : decode cX10_along 10 = .ok (.iload_n 2, 1) := by decide +kernel
theorem dX10_along_11 : decode cX10_along 11 = .ok (.sipush (-999), 3) := by decide +kernel
theorem dX10_along_14 : decode cX10_along 14 = .ok (.if_icmp .lt 40, 3) := by decide +kernel
theorem dX10_along_17 : decode cX10_along 17 = .ok (.iload_n 2, 1) := by decide +kernel
theorem dX10_along_18 : decode cX10_along 18 = .ok (.sipush 999, 3) := by decide +kernel
theorem dX10_along_21 : decode cX10_along 21 = .ok (.if_icmp .gt 33, 3) := by decide +kernel
theorem dX10_along_24 : decode cX10_along 24 = .ok (.iload_n 3, 1) := by decide +kernel
theorem dX10_along_25 : decode cX10_along 25 = .ok (.sipush (-999), 3) := by decide +kernel
theorem dX10_along_28 : decode cX10_along 28 = .ok (.if_icmp .lt 26, 3) := by decide +kernel
theorem dX10_along_31 : decode cX10_along 31 = .ok (.iload_n 3, 1) := by decide +kernel
theorem dX10_along_32 : decode cX10_along 32 = .ok (.sipush 999, 3) := by decide +kernel
theorem dX10_along_35 : decode cX10_along 35 = .ok (.if_icmp .gt 19, 3) := by decide +kernel
theorem dX10_along_38 : decode cX10_along 38 = .ok (.iload 4, 2) := by decide +kernel
theorem dX10_along_40 : decode cX10_along 40 = .ok (.sipush (-999), 3) := by decide +kernel
theorem dX10_along_43 : decode cX10_along 43 = .ok (.if_icmp .lt 11, 3) := by decide +kernel
theorem dX10_along_46 : decode cX10_along 46 = .ok (.iload 4, 2) := by decide +kernel
theorem dX10_along_48 : decode cX10_along 48 = .ok (.sipush 999, 3) := by decide +kernel
theorem dX10_along_51 : decode cX10_along 51 = .ok (.if_icmp .le 7, 3) := by decide +kernel
theorem dX10_along_54 : decode cX10_along 54 = .ok (.iconst 1, 1) := by decide +kernel
theorem dX10_along_55 : decode cX10_along 55 = .ok (.goto 4, 3) := by decide +kernel
theorem dX10_along_58 : decode cX10_along 58 = .ok (.iconst 0, 1) := by decide +kernel
theorem dX10_along_59 : decode cX10_along 59 = .ok (.istore 5, 2) := by decide +kernel
theorem dX10_along_61 : decode cX10_along 61 = .ok (.aload_n 0, 1) := by decide +kernel
theorem dX10_along_62 : decode cX10_along 62 = .ok (.iload 5, 2) := by decide +kernel
theorem dX10_along_64 : decode cX10_along 64 = .ok (.ifCond .eq 7, 3) := by decide +kernel
theorem dX10_along_67 : decode cX10_along 67 = .ok (.iconst 1, 1) := by decide +kernel
theorem dX10_along_68 : decode cX10_along 68 = .ok (.goto 17, 3) := by decide +kernel
theorem dX10_along_71 : decode cX10_along 71 = .ok (.aload_n 0, 1) := by decide +kernel
theorem dX10_along_72 : decode cX10_along 72 = .ok (.getfield 47, 3) := by decide +kernel
theorem dX10_along_75 : decode cX10_along 75 = .ok (.iload_n 1, 1) := by decide +kernel
theorem dX10_along_76 : decode cX10_along 76 = .ok (.iaload, 1) := by decide +kernel
theorem dX10_along_77 : decode cX10_along 77 = .ok (.ifCond .ge 7, 3) := by decide +kernel
theorem dX10_along_80 : decode cX10_along 80 = .ok (.iconst 2, 1) := by decide +kernel
theorem dX10_along_81 : decode cX10_along 81 = .ok (.goto 4, 3) := by decide +kernel
theorem dX10_along_84 : decode cX10_along 84 = .ok (.iconst 0, 1) := by decide +kernel
theorem dX10_along_85 : decode cX10_along 85 = .ok (.putfield 78, 3) := by decide +kernel
theorem dX10_along_88 : decode cX10_along 88 = .ok (.aload_n 0, 1) := by decide +kernel
theorem dX10_along_89 : decode cX10_along 89 = .ok (.getfield 78, 3) := by decide +kernel
theorem dX10_along_92 : decode cX10_along 92 = .ok (.ifCond .le 4, 3) := by decide +kernel
theorem dX10_along_95 : decode cX10_along 95 = .ok (.return_, 1) := by decide +kernel
theorem dX10_along_96 : decode cX10_along 96 = .ok (.aload_n 0, 1) := by decide +kernel
theorem dX10_along_97 : decode cX10_along 97 = .ok (.getfield 47, 3) := by decide +kernel
theorem dX10_along_100 : decode cX10_along 100 = .ok (.iload_n 1, 1) := by decide +kernel
theorem dX10_along_101 : decode cX10_along 101 = .ok (.iaload, 1) := by decide +kernel
theorem dX10_along_102 : decode cX10_along 102 = .ok (.istore 6, 2) := by decide +kernel
theorem dX10_along_104 : decode cX10_along 104 = .ok (.aload_n 0, 1) := by decide +kernel
theorem dX10_along_105 : decode cX10_along 105 = .ok (.iload 6, 2) := by decide +kernel
theorem dX10_along_107 : decode cX10_along 107 = .ok (.invokevirtual 275, 3) := by decide +kernel
theorem dX10_along_110 : decode cX10_along 110 = .ok (.aload_n 0, 1) := by decide +kernel
theorem dX10_along_111 : decode cX10_along 111 = .ok (.sipush 1004, 3) := by decide +kernel
theorem dX10_along_114 : decode cX10_along 114 = .ok (.sipush 200, 3) := by decide +kernel
theorem dX10_along_117 : decode cX10_along 117 = .ok (.iload 6, 2) := by decide +kernel
theorem dX10_along_119 : decode cX10_along 119 = .ok (.iadd, 1) := by decide +kernel
theorem dX10_along_120 : decode cX10_along 120 = .ok (.invokevirtual 136, 3) := by decide +kernel
theorem dX10_along_123 : decode cX10_along 123 = .ok (.aload_n 0, 1) := by decide +kernel
theorem dX10_along_124 : decode cX10_along 124 = .ok (.sipush 1015, 3) := by decide +kernel
theorem dX10_along_127 : decode cX10_along 127 = .ok (.lconst 0, 1) := by decide +kernel
theorem dX10_along_128 : decode cX10_along 128 = .ok (.lconst 1, 1) := by decide +kernel
theorem dX10_along_129 : decode cX10_along 129 = .ok (.invokevirtual 139, 3) := by decide +kernel
theorem dX10_along_132 : decode cX10_along 132 = .ok (.iconst 0, 1) := by decide +kernel
theorem dX10_along_133 : decode cX10_along 133 = .ok (.istore 7, 2) := by decide +kernel
theorem dX10_along_135 : decode cX10_along 135 = .ok (.iload 7, 2) := by decide +kernel
theorem dX10_along_137 : decode cX10_along 137 = .ok (.iconst 3, 1) := by decide +kernel
theorem dX10_along_138 : decode cX10_along 138 = .ok (.if_icmp .ge 71, 3) := by decide +kernel
theorem dX10_along_141 : decode cX10_along 141 = .ok (.aload_n 0, 1) := by decide +kernel
theorem dX10_along_142 : decode cX10_along 142 = .ok (.sipush 1012, 3) := by decide +kernel
theorem dX10_along_145 : decode cX10_along 145 = .ok (.iload 7, 2) := by decide +kernel
theorem dX10_along_147 : decode cX10_along 147 = .ok (.ifCond .ne 8, 3) := by decide +kernel
theorem dX10_along_150 : decode cX10_along 150 = .ok (.iload_n 2, 1) := by decide +kernel
theorem dX10_along_151 : decode cX10_along 151 = .ok (.i2l, 1) := by decide +kernel
theorem dX10_along_152 : decode cX10_along 152 = .ok (.goto 17, 3) := by decide +kernel
theorem dX10_along_155 : decode cX10_along 155 = .ok (.iload 7, 2) := by decide +kernel
theorem dX10_along_157 : decode cX10_along 157 = .ok (.iconst 1, 1) := by decide +kernel
theorem dX10_along_158 : decode cX10_along 158 = .ok (.if_icmp .ne 8, 3) := by decide +kernel
theorem dX10_along_161 : decode cX10_along 161 = .ok (.iload_n 3, 1) := by decide +kernel
theorem dX10_along_162 : decode cX10_along 162 = .ok (.i2l, 1) := by decide +kernel
theorem dX10_along_163 : decode cX10_along 163 = .ok (.goto 6, 3) := by decide +kernel
theorem dX10_along_166 : decode cX10_along 166 = .ok (.iload 4, 2) := by decide +kernel
theorem dX10_along_168 : decode cX10_along 168 = .ok (.i2l, 1) := by decide +kernel
theorem dX10_along_169 : decode cX10_along 169 = .ok (.lconst 1, 1) := by decide +kernel
theorem dX10_along_170 : decode cX10_along 170 = .ok (.invokevirtual 139, 3) := by decide +kernel
theorem dX10_along_173 : decode cX10_along 173 = .ok (.aload_n 0, 1) := by decide +kernel
theorem dX10_along_174 : decode cX10_along 174 = .ok (.sipush 1012, 3) := by decide +kernel
theorem dX10_along_177 : decode cX10_along 177 = .ok (.sipush 1012, 3) := by decide +kernel
theorem dX10_along_180 : decode cX10_along 180 = .ok (.iload 6, 2) := by decide +kernel
theorem dX10_along_182 : decode cX10_along 182 = .ok (.iload 7, 2) := by decide +kernel
theorem dX10_along_184 : decode cX10_along 184 = .ok (.invokestatic 269, 3) := by decide +kernel
theorem dX10_along_187 : decode cX10_along 187 = .ok (.invokevirtual 143, 3) := by decide +kernel
theorem dX10_along_190 : decode cX10_along 190 = .ok (.aload_n 0, 1) := by decide +kernel
theorem dX10_along_191 : decode cX10_along 191 = .ok (.sipush 1015, 3) := by decide +kernel
theorem dX10_along_194 : decode cX10_along 194 = .ok (.sipush 1015, 3) := by decide +kernel
theorem dX10_along_197 : decode cX10_along 197 = .ok (.sipush 1012, 3) := by decide +kernel
theorem dX10_along_200 : decode cX10_along 200 = .ok (.invokevirtual 171, 3) := by decide +kernel
theorem dX10_along_203 : decode cX10_along 203 = .ok (.iinc 7 1, 3) := by decide +kernel
theorem dX10_along_206 : decode cX10_along 206 = .ok (.goto (-71), 3) := by decide +kernel
theorem dX10_along_209 : decode cX10_along 209 = .ok (.aload_n 0, 1) := by decide +kernel
theorem dX10_along_210 : decode cX10_along 210 = .ok (.sipush 1005, 3) := by decide +kernel
theorem dX10_along_213 : decode cX10_along 213 = .ok (.sipush 1015, 3) := by decide +kernel
theorem dX10_along_216 : decode cX10_along 216 = .ok (.invokevirtual 136, 3) := by decide +kernel
theorem dX10_along_219 : decode cX10_along 219 = .ok (.return_, 1) := by decide +kernel
theorem dX10_compare_0 : decode cX10_compare 0 = .ok (.aload_n 0, 1) := by decide +kernel
theorem dX10_compare_1 : decode cX10_compare 1 = .ok (.aload_n 0, 1) := by decide +kernel
theorem dX10_compare_2 : decode cX10_compare 2 = .ok (.iload_n 1, 1) := by decide +kernel
theorem dX10_compare_3 : decode cX10_compare 3 = .ok (.invokevirtual 266, 3) := by decide +kernel
theorem dX10_compare_6 : decode cX10_compare 6 = .ok (.ifCond .ne 11, 3) := by decide +kernel
theorem dX10_compare_9 : decode cX10_compare 9 = .ok (.aload_n 0, 1) := by decide +kernel
theorem dX10_compare_10 : decode cX10_compare 10 = .ok (.iload_n 2, 1) := by decide +kernel
theorem dX10_compare_11 : decode cX10_compare 11 = .ok (.invokevirtual 266, 3) := by decide +kernel
theorem dX10_compare_14 : decode cX10_compare 14 = .ok (.ifCond .eq 7, 3) := by decide +kernel
theorem dX10_compare_17 : decode cX10_compare 17 = .ok (.iconst 1, 1) := by decide +kernel
theorem dX10_compare_18 : decode cX10_compare 18 = .ok (.goto 4, 3) := by decide +kernel
theorem dX10_compare_21 : decode cX10_compare 21 = .ok (.iconst 0, 1) := by decide +kernel
theorem dX10_compare_22 : decode cX10_compare 22 = .ok (.putfield 78, 3) := by decide +kernel
theorem dX10_compare_25 : decode cX10_compare 25 = .ok (.aload_n 0, 1) := by decide +kernel
theorem dX10_compare_26 : decode cX10_compare 26 = .ok (.getfield 78, 3) := by decide +kernel
theorem dX10_compare_29 : decode cX10_compare 29 = .ok (.ifCond .le 5, 3) := by decide +kernel
theorem dX10_compare_32 : decode cX10_compare 32 = .ok (.iconst 0, 1) := by decide +kernel
theorem dX10_compare_33 : decode cX10_compare 33 = .ok (.ireturn, 1) := by decide +kernel
theorem dX10_compare_34 : decode cX10_compare 34 = .ok (.aload_n 0, 1) := by decide +kernel
theorem dX10_compare_35 : decode cX10_compare 35 = .ok (.sipush 1012, 3) := by decide +kernel
theorem dX10_compare_38 : decode cX10_compare 38 = .ok (.sipush 1000, 3) := by decide +kernel
theorem dX10_compare_41 : decode cX10_compare 41 = .ok (.iload_n 1, 1) := by decide +kernel
theorem dX10_compare_42 : decode cX10_compare 42 = .ok (.iadd, 1) := by decide +kernel
theorem dX10_compare_43 : decode cX10_compare 43 = .ok (.invokevirtual 136, 3) := by decide +kernel
theorem dX10_compare_46 : decode cX10_compare 46 = .ok (.aload_n 0, 1) := by decide +kernel
theorem dX10_compare_47 : decode cX10_compare 47 = .ok (.sipush 1013, 3) := by decide +kernel
theorem dX10_compare_50 : decode cX10_compare 50 = .ok (.sipush 1000, 3) := by decide +kernel
theorem dX10_compare_53 : decode cX10_compare 53 = .ok (.iload_n 2, 1) := by decide +kernel
theorem dX10_compare_54 : decode cX10_compare 54 = .ok (.iadd, 1) := by decide +kernel
theorem dX10_compare_55 : decode cX10_compare 55 = .ok (.invokevirtual 136, 3) := by decide +kernel
theorem dX10_compare_58 : decode cX10_compare 58 = .ok (.aload_n 0, 1) := by decide +kernel
theorem dX10_compare_59 : decode cX10_compare 59 = .ok (.sipush 2064, 3) := by decide +kernel
theorem dX10_compare_62 : decode cX10_compare 62 = .ok (.sipush 2024, 3) := by decide +kernel
theorem dX10_compare_65 : decode cX10_compare 65 = .ok (.sipush 2027, 3) := by decide +kernel
theorem dX10_compare_68 : decode cX10_compare 68 = .ok (.invokevirtual 130, 3) := by decide +kernel
theorem dX10_compare_71 : decode cX10_compare 71 = .ok (.aload_n 0, 1) := by decide +kernel
theorem dX10_compare_72 : decode cX10_compare 72 = .ok (.sipush 2065, 3) := by decide +kernel
theorem dX10_compare_75 : decode cX10_compare 75 = .ok (.sipush 2026, 3) := by decide +kernel
theorem dX10_compare_78 : decode cX10_compare 78 = .ok (.sipush 2025, 3) := by decide +kernel
theorem dX10_compare_81 : decode cX10_compare 81 = .ok (.invokevirtual 130, 3) := by decide +kernel
theorem dX10_compare_84 : decode cX10_compare 84 = .ok (.aload_n 0, 1) := by decide +kernel
theorem dX10_compare_85 : decode cX10_compare 85 = .ok (.getfield 18, 3) := by decide +kernel
theorem dX10_compare_88 : decode cX10_compare 88 = .ok (.sipush 2064, 3) := by decide +kernel
theorem dX10_compare_91 : decode cX10_compare 91 = .ok (.baload, 1) := by decide +kernel
theorem dX10_compare_92 : decode cX10_compare 92 = .ok (.aload_n 0, 1) := by decide +kernel
theorem dX10_compare_93 : decode cX10_compare 93 = .ok (.getfield 18, 3) := by decide +kernel
theorem dX10_compare_96 : decode cX10_compare 96 = .ok (.sipush 2065, 3) := by decide +kernel
theorem dX10_compare_99 : decode cX10_compare 99 = .ok (.baload, 1) := by decide +kernel
theorem dX10_compare_100 : decode cX10_compare 100 = .ok (.if_icmp .eq 20, 3) := by decide +kernel
theorem dX10_compare_103 : decode cX10_compare 103 = .ok (.aload_n 0, 1) := by decide +kernel
theorem dX10_compare_104 : decode cX10_compare 104 = .ok (.getfield 18, 3) := by decide +kernel
theorem dX10_compare_107 : decode cX10_compare 107 = .ok (.sipush 2064, 3) := by decide +kernel
theorem dX10_compare_110 : decode cX10_compare 110 = .ok (.baload, 1) := by decide +kernel
theorem dX10_compare_111 : decode cX10_compare 111 = .ok (.ifCond .eq 7, 3) := by decide +kernel
theorem dX10_compare_114 : decode cX10_compare 114 = .ok (.iconst (-1), 1) := by decide +kernel
theorem dX10_compare_115 : decode cX10_compare 115 = .ok (.goto 4, 3) := by decide +kernel
theorem dX10_compare_118 : decode cX10_compare 118 = .ok (.iconst 1, 1) := by decide +kernel
theorem dX10_compare_119 : decode cX10_compare 119 = .ok (.ireturn, 1) := by decide +kernel
theorem dX10_compare_120 : decode cX10_compare 120 = .ok (.aload_n 0, 1) := by decide +kernel
theorem dX10_compare_121 : decode cX10_compare 121 = .ok (.sipush 2064, 3) := by decide +kernel
theorem dX10_compare_124 : decode cX10_compare 124 = .ok (.sipush 2065, 3) := by decide +kernel
theorem dX10_compare_127 : decode cX10_compare 127 = .ok (.invokevirtual 100, 3) := by decide +kernel
theorem dX10_compare_130 : decode cX10_compare 130 = .ok (.istore_n 3, 1) := by decide +kernel
theorem dX10_compare_131 : decode cX10_compare 131 = .ok (.aload_n 0, 1) := by decide +kernel
theorem dX10_compare_132 : decode cX10_compare 132 = .ok (.getfield 18, 3) := by decide +kernel
theorem dX10_compare_135 : decode cX10_compare 135 = .ok (.sipush 2064, 3) := by decide +kernel
theorem dX10_compare_138 : decode cX10_compare 138 = .ok (.baload, 1) := by decide +kernel
theorem dX10_compare_139 : decode cX10_compare 139 = .ok (.ifCond .eq 8, 3) := by decide +kernel
theorem dX10_compare_142 : decode cX10_compare 142 = .ok (.iload_n 3, 1) := by decide +kernel
theorem dX10_compare_143 : decode cX10_compare 143 = .ok (.ineg, 1) := by decide +kernel
theorem dX10_compare_144 : decode cX10_compare 144 = .ok (.goto 4, 3) := by decide +kernel
theorem dX10_compare_147 : decode cX10_compare 147 = .ok (.iload_n 3, 1) := by decide +kernel
theorem dX10_compare_148 : decode cX10_compare 148 = .ok (.ireturn, 1) := by decide +kernel
theorem dX10_bits_0 : decode cX10_bits 0 = .ok (.aload_n 0, 1) := by decide +kernel
theorem dX10_bits_1 : decode cX10_bits 1 = .ok (.aload_n 0, 1) := by decide +kernel
theorem dX10_bits_2 : decode cX10_bits 2 = .ok (.iload_n 1, 1) := by decide +kernel
theorem dX10_bits_3 : decode cX10_bits 3 = .ok (.invokevirtual 266, 3) := by decide +kernel
theorem dX10_bits_6 : decode cX10_bits 6 = .ok (.ifCond .eq 7, 3) := by decide +kernel
theorem dX10_bits_9 : decode cX10_bits 9 = .ok (.iconst 1, 1) := by decide +kernel
theorem dX10_bits_10 : decode cX10_bits 10 = .ok (.goto 17, 3) := by decide +kernel
theorem dX10_bits_13 : decode cX10_bits 13 = .ok (.iload_n 2, 1) := by decide +kernel
theorem dX10_bits_14 : decode cX10_bits 14 = .ok (.ifCond .eq 12, 3) := by decide +kernel
theorem dX10_bits_17 : decode cX10_bits 17 = .ok (.iload_n 2, 1) := by decide +kernel
theorem dX10_bits_18 : decode cX10_bits 18 = .ok (.iconst 1, 1) := by decide +kernel
theorem dX10_bits_19 : decode cX10_bits 19 = .ok (.if_icmp .eq 7, 3) := by decide +kernel
theorem dX10_bits_22 : decode cX10_bits 22 = .ok (.iconst 2, 1) := by decide +kernel
theorem dX10_bits_23 : decode cX10_bits 23 = .ok (.goto 4, 3) := by decide +kernel
theorem dX10_bits_26 : decode cX10_bits 26 = .ok (.iconst 0, 1) := by decide +kernel
theorem dX10_bits_27 : decode cX10_bits 27 = .ok (.putfield 78, 3) := by decide +kernel
theorem dX10_bits_30 : decode cX10_bits 30 = .ok (.aload_n 0, 1) := by decide +kernel
theorem dX10_bits_31 : decode cX10_bits 31 = .ok (.getfield 78, 3) := by decide +kernel
theorem dX10_bits_34 : decode cX10_bits 34 = .ok (.ifCond .le 7, 3) := by decide +kernel
theorem dX10_bits_37 : decode cX10_bits 37 = .ok (.iconst 0, 1) := by decide +kernel
theorem dX10_bits_38 : decode cX10_bits 38 = .ok (.goto 16, 3) := by decide +kernel
theorem dX10_bits_41 : decode cX10_bits 41 = .ok (.aload_n 0, 1) := by decide +kernel
theorem dX10_bits_42 : decode cX10_bits 42 = .ok (.iconst 2, 1) := by decide +kernel
theorem dX10_bits_43 : decode cX10_bits 43 = .ok (.sipush 1000, 3) := by decide +kernel
theorem dX10_bits_46 : decode cX10_bits 46 = .ok (.iload_n 1, 1) := by decide +kernel
theorem dX10_bits_47 : decode cX10_bits 47 = .ok (.iadd, 1) := by decide +kernel
theorem dX10_bits_48 : decode cX10_bits 48 = .ok (.imul, 1) := by decide +kernel
theorem dX10_bits_49 : decode cX10_bits 49 = .ok (.iload_n 2, 1) := by decide +kernel
theorem dX10_bits_50 : decode cX10_bits 50 = .ok (.iadd, 1) := by decide +kernel
theorem dX10_bits_51 : decode cX10_bits 51 = .ok (.invokevirtual 117, 3) := by decide +kernel
theorem dX10_bits_54 : decode cX10_bits 54 = .ok (.ireturn, 1) := by decide +kernel
