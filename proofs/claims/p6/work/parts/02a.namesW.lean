theorem dX2_init_0 : decode cX2_init 0 = .ok (.aload_n 0, 1) := by decide +kernel
theorem dX2_init_1 : decode cX2_init 1 = .ok (.invokespecial 1, 3) := by decide +kernel
theorem dX2_init_4 : decode cX2_init 4 = .ok (.aload_n 0, 1) := by decide +kernel
theorem dX2_init_5 : decode cX2_init 5 = .ok (.new 7, 3) := by decide +kernel
theorem dX2_init_8 : decode cX2_init 8 = .ok (.dup, 1) := by decide +kernel
theorem dX2_init_9 : decode cX2_init 9 = .ok (.iload_n 1, 1) := by decide +kernel
theorem dX2_init_10 : decode cX2_init 10 = .ok (.invokespecial 9, 3) := by decide +kernel
theorem dX2_init_13 : decode cX2_init 13 = .ok (.putfield 12, 3) := by decide +kernel
theorem dX2_init_16 : decode cX2_init 16 = .ok (.aload_n 0, 1) := by decide +kernel
theorem dX2_init_17 : decode cX2_init 17 = .ok (.new 7, 3) := by decide +kernel
theorem dX2_init_20 : decode cX2_init 20 = .ok (.dup, 1) := by decide +kernel
theorem dX2_init_21 : decode cX2_init 21 = .ok (.iload_n 1, 1) := by decide +kernel
theorem dX2_init_22 : decode cX2_init 22 = .ok (.invokespecial 9, 3) := by decide +kernel
theorem dX2_init_25 : decode cX2_init 25 = .ok (.putfield 18, 3) := by decide +kernel
theorem dX2_init_28 : decode cX2_init 28 = .ok (.aload_n 0, 1) := by decide +kernel
theorem dX2_init_29 : decode cX2_init 29 = .ok (.getfield 18, 3) := by decide +kernel
theorem dX2_init_32 : decode cX2_init 32 = .ok (.lconst 1, 1) := by decide +kernel
theorem dX2_init_33 : decode cX2_init 33 = .ok (.invokevirtual 21, 3) := by decide +kernel
theorem dX2_init_36 : decode cX2_init 36 = .ok (.return_, 1) := by decide +kernel
theorem dX2_become_0 : decode cX2_become 0 = .ok (.aload_n 0, 1) := by decide +kernel
theorem dX2_become_1 : decode cX2_become 1 = .ok (.getfield 12, 3) := by decide +kernel
theorem dX2_become_4 : decode cX2_become 4 = .ok (.aload_n 1, 1) := by decide +kernel
theorem dX2_become_5 : decode cX2_become 5 = .ok (.getfield 12, 3) := by decide +kernel
theorem dX2_become_8 : decode cX2_become 8 = .ok (.invokevirtual 25, 3) := by decide +kernel
theorem dX2_become_11 : decode cX2_become 11 = .ok (.aload_n 0, 1) := by decide +kernel
theorem dX2_become_12 : decode cX2_become 12 = .ok (.getfield 18, 3) := by decide +kernel
theorem dX2_become_15 : decode cX2_become 15 = .ok (.aload_n 1, 1) := by decide +kernel
theorem dX2_become_16 : decode cX2_become 16 = .ok (.getfield 18, 3) := by decide +kernel
theorem dX2_become_19 : decode cX2_become 19 = .ok (.invokevirtual 25, 3) := by decide +kernel
theorem dX2_become_22 : decode cX2_become 22 = .ok (.return_, 1) := by decide +kernel
theorem dX2_becomeRatio_0 : decode cX2_becomeRatio 0 = .ok (.aload_n 0, 1) := by decide +kernel
theorem dX2_becomeRatio_1 : decode cX2_becomeRatio 1 = .ok (.getfield 12, 3) := by decide +kernel
theorem dX2_becomeRatio_4 : decode cX2_becomeRatio 4 = .ok (.iload_n 1, 1) := by decide +kernel
theorem dX2_becomeRatio_5 : decode cX2_becomeRatio 5 = .ok (.i2l, 1) := by decide +kernel
theorem dX2_becomeRatio_6 : decode cX2_becomeRatio 6 = .ok (.invokevirtual 21, 3) := by decide +kernel
theorem dX2_becomeRatio_9 : decode cX2_becomeRatio 9 = .ok (.aload_n 0, 1) := by decide +kernel
theorem dX2_becomeRatio_10 : decode cX2_becomeRatio 10 = .ok (.getfield 18, 3) := by decide +kernel
theorem dX2_becomeRatio_13 : decode cX2_becomeRatio 13 = .ok (.iload_n 2, 1) := by decide +kernel
theorem dX2_becomeRatio_14 : decode cX2_becomeRatio 14 = .ok (.i2l, 1) := by decide +kernel
theorem dX2_becomeRatio_15 : decode cX2_becomeRatio 15 = .ok (.invokevirtual 21, 3) := by decide +kernel
theorem dX2_becomeRatio_18 : decode cX2_becomeRatio 18 = .ok (.return_, 1) := by decide +kernel
theorem dX2_isZero_0 : decode cX2_isZero 0 = .ok (.aload_n 0, 1) := by decide +kernel
theorem dX2_isZero_1 : decode cX2_isZero 1 = .ok (.getfield 12, 3) := by decide +kernel
theorem dX2_isZero_4 : decode cX2_isZero 4 = .ok (.getfield 29, 3) := by decide +kernel
theorem dX2_isZero_7 : decode cX2_isZero 7 = .ok (.ifCond .ne 7, 3) := by decide +kernel
theorem dX2_isZero_10 : decode cX2_isZero 10 = .ok (.iconst 1, 1) := by decide +kernel
theorem dX2_isZero_11 : decode cX2_isZero 11 = .ok (.goto 4, 3) := by decide +kernel
theorem dX2_isZero_14 : decode cX2_isZero 14 = .ok (.iconst 0, 1) := by decide +kernel
theorem dX2_isZero_15 : decode cX2_isZero 15 = .ok (.ireturn, 1) := by decide +kernel
theorem dX2_isOne_0 : decode cX2_isOne 0 = .ok (.aload_n 0, 1) := by decide +kernel
theorem dX2_isOne_1 : decode cX2_isOne 1 = .ok (.getfield 12, 3) := by decide +kernel
theorem dX2_isOne_4 : decode cX2_isOne 4 = .ok (.invokevirtual 33, 3) := by decide +kernel
theorem dX2_isOne_7 : decode cX2_isOne 7 = .ok (.ifCond .eq 17, 3) := by decide +kernel
theorem dX2_isOne_10 : decode cX2_isOne 10 = .ok (.aload_n 0, 1) := by decide +kernel
theorem dX2_isOne_11 : decode cX2_isOne 11 = .ok (.getfield 18, 3) := by decide +kernel
theorem dX2_isOne_14 : decode cX2_isOne 14 = .ok (.invokevirtual 33, 3) := by decide +kernel
theorem dX2_isOne_17 : decode cX2_isOne 17 = .ok (.ifCond .eq 7, 3) := by decide +kernel
theorem dX2_isOne_20 : decode cX2_isOne 20 = .ok (.iconst 1, 1) := by decide +kernel
theorem dX2_isOne_21 : decode cX2_isOne 21 = .ok (.goto 4, 3) := by decide +kernel
theorem dX2_isOne_24 : decode cX2_isOne 24 = .ok (.iconst 0, 1) := by decide +kernel
theorem dX2_isOne_25 : decode cX2_isOne 25 = .ok (.ireturn, 1) := by decide +kernel
theorem dX8_init_0 : decode cX8_init 0 = .ok (.aload_n 0, 1) := by decide +kernel
theorem dX8_init_1 : decode cX8_init 1 = .ok (.invokespecial 3, 3) := by decide +kernel
theorem dX8_init_4 : decode cX8_init 4 = .ok (.aload_n 0, 1) := by decide +kernel
theorem dX8_init_5 : decode cX8_init 5 = .ok (.iload_n 1, 1) := by decide +kernel
theorem dX8_init_6 : decode cX8_init 6 = .ok (.newarray .int, 2) := by decide +kernel
theorem dX8_init_8 : decode cX8_init 8 = .ok (.putfield 9, 3) := by decide +kernel
theorem dX8_init_11 : decode cX8_init 11 = .ok (.aload_n 0, 1) := by decide +kernel
theorem dX8_init_12 : decode cX8_init 12 = .ok (.iconst 0, 1) := by decide +kernel
theorem dX8_init_13 : decode cX8_init 13 = .ok (.putfield 15, 3) := by decide +kernel
theorem dX8_init_16 : decode cX8_init 16 = .ok (.aload_n 0, 1) := by decide +kernel
theorem dX8_init_17 : decode cX8_init 17 = .ok (.iconst 0, 1) := by decide +kernel
theorem dX8_init_18 : decode cX8_init 18 = .ok (.putfield 19, 3) := by decide +kernel
theorem dX8_init_21 : decode cX8_init 21 = .ok (.return_, 1) := by decide +kernel
theorem dX8_put_0 : decode cX8_put 0 = .ok (.lload_n 1, 1) := by decide +kernel
theorem dX8_put_1 : decode cX8_put 1 = .ok (.invokestatic 23, 3) := by decide +kernel
theorem dX8_put_4 : decode cX8_put 4 = .ok (.lstore_n 3, 1) := by decide +kernel
theorem dX8_put_5 : decode cX8_put 5 = .ok (.aload_n 0, 1) := by decide +kernel
theorem dX8_put_6 : decode cX8_put 6 = .ok (.lload_n 1, 1) := by decide +kernel
theorem dX8_put_7 : decode cX8_put 7 = .ok (.lconst 0, 1) := by decide +kernel
theorem dX8_put_8 : decode cX8_put 8 = .ok (.lcmp, 1) := by decide +kernel
theorem dX8_put_9 : decode cX8_put 9 = .ok (.ifCond .ge 7, 3) := by decide +kernel
theorem dX8_put_12 : decode cX8_put 12 = .ok (.iconst 1, 1) := by decide +kernel
theorem dX8_put_13 : decode cX8_put 13 = .ok (.goto 4, 3) := by decide +kernel
theorem dX8_put_16 : decode cX8_put 16 = .ok (.iconst 0, 1) := by decide +kernel
theorem dX8_put_17 : decode cX8_put 17 = .ok (.putfield 19, 3) := by decide +kernel
theorem dX8_put_20 : decode cX8_put 20 = .ok (.aload_n 0, 1) := by decide +kernel
theorem dX8_put_21 : decode cX8_put 21 = .ok (.iconst 0, 1) := by decide +kernel
theorem dX8_put_22 : decode cX8_put 22 = .ok (.putfield 15, 3) := by decide +kernel
theorem dX8_put_25 : decode cX8_put 25 = .ok (.iconst 0, 1) := by decide +kernel
theorem dX8_put_26 : decode cX8_put 26 = .ok (.istore 5, 2) := by decide +kernel
theorem dX8_put_28 : decode cX8_put 28 = .ok (.iload 5, 2) := by decide +kernel
theorem dX8_put_30 : decode cX8_put 30 = .ok (.iconst 2, 1) := by decide +kernel
theorem dX8_put_31 : decode cX8_put 31 = .ok (.if_icmp .ge 47, 3) := by decide +kernel
theorem dX8_put_34 : decode cX8_put 34 = .ok (.iload 5, 2) := by decide +kernel
theorem dX8_put_36 : decode cX8_put 36 = .ok (.aload_n 0, 1) := by decide +kernel
theorem dX8_put_37 : decode cX8_put 37 = .ok (.getfield 9, 3) := by decide +kernel
theorem dX8_put_40 : decode cX8_put 40 = .ok (.arraylength, 1) := by decide +kernel
theorem dX8_put_41 : decode cX8_put 41 = .ok (.if_icmp .ge 37, 3) := by decide +kernel
theorem dX8_put_44 : decode cX8_put 44 = .ok (.lload_n 3, 1) := by decide +kernel
theorem dX8_put_45 : decode cX8_put 45 = .ok (.lconst 0, 1) := by decide +kernel
theorem dX8_put_46 : decode cX8_put 46 = .ok (.lcmp, 1) := by decide +kernel
theorem dX8_put_47 : decode cX8_put 47 = .ok (.ifCond .eq 31, 3) := by decide +kernel
theorem dX8_put_50 : decode cX8_put 50 = .ok (.aload_n 0, 1) := by decide +kernel
theorem dX8_put_51 : decode cX8_put 51 = .ok (.getfield 9, 3) := by decide +kernel
theorem dX8_put_54 : decode cX8_put 54 = .ok (.iload 5, 2) := by decide +kernel
theorem dX8_put_56 : decode cX8_put 56 = .ok (.lload_n 3, 1) := by decide +kernel
theorem dX8_put_57 : decode cX8_put 57 = .ok (.l2i, 1) := by decide +kernel
theorem dX8_put_58 : decode cX8_put 58 = .ok (.iastore, 1) := by decide +kernel
theorem dX8_put_59 : decode cX8_put 59 = .ok (.lload_n 3, 1) := by decide +kernel
theorem dX8_put_60 : decode cX8_put 60 = .ok (.bipush 32, 2) := by decide +kernel
theorem dX8_put_62 : decode cX8_put 62 = .ok (.lushr, 1) := by decide +kernel
theorem dX8_put_63 : decode cX8_put 63 = .ok (.lstore_n 3, 1) := by decide +kernel
theorem dX8_put_64 : decode cX8_put 64 = .ok (.aload_n 0, 1) := by decide +kernel
theorem dX8_put_65 : decode cX8_put 65 = .ok (.iload 5, 2) := by decide +kernel
theorem dX8_put_67 : decode cX8_put 67 = .ok (.iconst 1, 1) := by decide +kernel
theorem dX8_put_68 : decode cX8_put 68 = .ok (.iadd, 1) := by decide +kernel
theorem dX8_put_69 : decode cX8_put 69 = .ok (.putfield 15, 3) := by decide +kernel
theorem dX8_put_72 : decode cX8_put 72 = .ok (.iinc 5 1, 3) := by decide +kernel
theorem dX8_put_75 : decode cX8_put 75 = .ok (.goto (-47), 3) := by decide +kernel
theorem dX8_put_78 : decode cX8_put 78 = .ok (.return_, 1) := by decide +kernel
theorem dX8_become_0 : decode cX8_become 0 = .ok (.aload_n 0, 1) := by decide +kernel
theorem dX8_become_1 : decode cX8_become 1 = .ok (.aload_n 1, 1) := by decide +kernel
theorem dX8_become_2 : decode cX8_become 2 = .ok (.getfield 15, 3) := by decide +kernel
theorem dX8_become_5 : decode cX8_become 5 = .ok (.aload_n 0, 1) := by decide +kernel
theorem dX8_become_6 : decode cX8_become 6 = .ok (.getfield 9, 3) := by decide +kernel
theorem dX8_become_9 : decode cX8_become 9 = .ok (.arraylength, 1) := by decide +kernel
theorem dX8_become_10 : decode cX8_become 10 = .ok (.invokestatic 29, 3) := by decide +kernel
theorem dX8_become_13 : decode cX8_become 13 = .ok (.putfield 15, 3) := by decide +kernel
theorem dX8_become_16 : decode cX8_become 16 = .ok (.aload_n 1, 1) := by decide +kernel
theorem dX8_become_17 : decode cX8_become 17 = .ok (.getfield 9, 3) := by decide +kernel
theorem dX8_become_20 : decode cX8_become 20 = .ok (.iconst 0, 1) := by decide +kernel
theorem dX8_become_21 : decode cX8_become 21 = .ok (.aload_n 0, 1) := by decide +kernel
theorem dX8_become_22 : decode cX8_become 22 = .ok (.getfield 9, 3) := by decide +kernel
theorem dX8_become_25 : decode cX8_become 25 = .ok (.iconst 0, 1) := by decide +kernel
theorem dX8_become_26 : decode cX8_become 26 = .ok (.aload_n 0, 1) := by decide +kernel
theorem dX8_become_27 : decode cX8_become 27 = .ok (.getfield 15, 3) := by decide +kernel
theorem dX8_become_30 : decode cX8_become 30 = .ok (.invokestatic 33, 3) := by decide +kernel
theorem dX8_become_33 : decode cX8_become 33 = .ok (.aload_n 0, 1) := by decide +kernel
theorem dX8_become_34 : decode cX8_become 34 = .ok (.aload_n 1, 1) := by decide +kernel
theorem dX8_become_35 : decode cX8_become 35 = .ok (.getfield 19, 3) := by decide +kernel
theorem dX8_become_38 : decode cX8_become 38 = .ok (.putfield 19, 3) := by decide +kernel
theorem dX8_become_41 : decode cX8_become 41 = .ok (.return_, 1) := by decide +kernel
theorem dX8_isOne_0 : decode cX8_isOne 0 = .ok (.aload_n 0, 1) := by decide +kernel
theorem dX8_isOne_1 : decode cX8_isOne 1 = .ok (.getfield 15, 3) := by decide +kernel
theorem dX8_isOne_4 : decode cX8_isOne 4 = .ok (.iconst 1, 1) := by decide +kernel
theorem dX8_isOne_5 : decode cX8_isOne 5 = .ok (.if_icmp .ne 24, 3) := by decide +kernel
theorem dX8_isOne_8 : decode cX8_isOne 8 = .ok (.aload_n 0, 1) := by decide +kernel
theorem dX8_isOne_9 : decode cX8_isOne 9 = .ok (.getfield 9, 3) := by decide +kernel
theorem dX8_isOne_12 : decode cX8_isOne 12 = .ok (.iconst 0, 1) := by decide +kernel
theorem dX8_isOne_13 : decode cX8_isOne 13 = .ok (.iaload, 1) := by decide +kernel
theorem dX8_isOne_14 : decode cX8_isOne 14 = .ok (.iconst 1, 1) := by decide +kernel
theorem dX8_isOne_15 : decode cX8_isOne 15 = .ok (.if_icmp .ne 14, 3) := by decide +kernel
theorem dX8_isOne_18 : decode cX8_isOne 18 = .ok (.aload_n 0, 1) := by decide +kernel
theorem dX8_isOne_19 : decode cX8_isOne 19 = .ok (.getfield 19, 3) := by decide +kernel
theorem dX8_isOne_22 : decode cX8_isOne 22 = .ok (.ifCond .ne 7, 3) := by decide +kernel
theorem dX8_isOne_25 : decode cX8_isOne 25 = .ok (.iconst 1, 1) := by decide +kernel
theorem dX8_isOne_26 : decode cX8_isOne 26 = .ok (.goto 4, 3) := by decide +kernel
theorem dX8_isOne_29 : decode cX8_isOne 29 = .ok (.iconst 0, 1) := by decide +kernel
theorem dX8_isOne_30 : decode cX8_isOne 30 = .ok (.ireturn, 1) := by decide +kernel
theorem dX8_signum_0 : decode cX8_signum 0 = .ok (.aload_n 0, 1) := by decide +kernel
theorem dX8_signum_1 : decode cX8_signum 1 = .ok (.getfield 15, 3) := by decide +kernel
theorem dX8_signum_4 : decode cX8_signum 4 = .ok (.ifCond .ne 5, 3) := by decide +kernel
theorem dX8_signum_7 : decode cX8_signum 7 = .ok (.iconst 0, 1) := by decide +kernel
theorem dX8_signum_8 : decode cX8_signum 8 = .ok (.ireturn, 1) := by decide +kernel
theorem dX8_signum_9 : decode cX8_signum 9 = .ok (.aload_n 0, 1) := by decide +kernel
theorem dX8_signum_10 : decode cX8_signum 10 = .ok (.getfield 19, 3) := by decide +kernel
theorem dX8_signum_13 : decode cX8_signum 13 = .ok (.ifCond .eq 7, 3) := by decide +kernel
theorem dX8_signum_16 : decode cX8_signum 16 = .ok (.iconst (-1), 1) := by decide +kernel
theorem dX8_signum_17 : decode cX8_signum 17 = .ok (.goto 4, 3) := by decide +kernel
theorem dX8_signum_20 : decode cX8_signum 20 = .ok (.iconst 1, 1) := by decide +kernel
theorem dX8_signum_21 : decode cX8_signum 21 = .ok (.ireturn, 1) := by decide +kernel
theorem dX8_bitLength_0 : decode cX8_bitLength 0 = .ok (.aload_n 0, 1) := by decide +kernel
theorem dX8_bitLength_1 : decode cX8_bitLength 1 = .ok (.getfield 15, 3) := by decide +kernel
theorem dX8_bitLength_4 : decode cX8_bitLength 4 = .ok (.ifCond .ne 7, 3) := by decide +kernel
theorem dX8_bitLength_7 : decode cX8_bitLength 7 = .ok (.iconst 0, 1) := by decide +kernel
theorem dX8_bitLength_8 : decode cX8_bitLength 8 = .ok (.goto 25, 3) := by decide +kernel
theorem dX8_bitLength_11 : decode cX8_bitLength 11 = .ok (.bipush 32, 2) := by decide +kernel
theorem dX8_bitLength_13 : decode cX8_bitLength 13 = .ok (.aload_n 0, 1) := by decide +kernel
theorem dX8_bitLength_14 : decode cX8_bitLength 14 = .ok (.getfield 15, 3) := by decide +kernel
theorem dX8_bitLength_17 : decode cX8_bitLength 17 = .ok (.imul, 1) := by decide +kernel
theorem dX8_bitLength_18 : decode cX8_bitLength 18 = .ok (.aload_n 0, 1) := by decide +kernel
theorem dX8_bitLength_19 : decode cX8_bitLength 19 = .ok (.getfield 9, 3) := by decide +kernel
theorem dX8_bitLength_22 : decode cX8_bitLength 22 = .ok (.aload_n 0, 1) := by decide +kernel
theorem dX8_bitLength_23 : decode cX8_bitLength 23 = .ok (.getfield 15, 3) := by decide +kernel
theorem dX8_bitLength_26 : decode cX8_bitLength 26 = .ok (.iconst 1, 1) := by decide +kernel
theorem dX8_bitLength_27 : decode cX8_bitLength 27 = .ok (.isub, 1) := by decide +kernel
theorem dX8_bitLength_28 : decode cX8_bitLength 28 = .ok (.iaload, 1) := by decide +kernel
theorem dX8_bitLength_29 : decode cX8_bitLength 29 = .ok (.invokestatic 39, 3) := by decide +kernel
theorem dX8_bitLength_32 : decode cX8_bitLength 32 = .ok (.isub, 1) := by decide +kernel
theorem dX8_bitLength_33 : decode cX8_bitLength 33 = .ok (.ireturn, 1) := by decide +kernel
theorem dX8_lowZeros_0 : decode cX8_lowZeros 0 = .ok (.iconst 0, 1) := by decide +kernel
theorem dX8_lowZeros_1 : decode cX8_lowZeros 1 = .ok (.istore_n 1, 1) := by decide +kernel
theorem dX8_lowZeros_2 : decode cX8_lowZeros 2 = .ok (.iload_n 1, 1) := by decide +kernel
theorem dX8_lowZeros_3 : decode cX8_lowZeros 3 = .ok (.aload_n 0, 1) := by decide +kernel
theorem dX8_lowZeros_4 : decode cX8_lowZeros 4 = .ok (.getfield 15, 3) := by decide +kernel
theorem dX8_lowZeros_7 : decode cX8_lowZeros 7 = .ok (.if_icmp .ge 33, 3) := by decide +kernel
theorem dX8_lowZeros_10 : decode cX8_lowZeros 10 = .ok (.aload_n 0, 1) := by decide +kernel
theorem dX8_lowZeros_11 : decode cX8_lowZeros 11 = .ok (.getfield 9, 3) := by decide +kernel
theorem dX8_lowZeros_14 : decode cX8_lowZeros 14 = .ok (.iload_n 1, 1) := by decide +kernel
theorem dX8_lowZeros_15 : decode cX8_lowZeros 15 = .ok (.iaload, 1) := by decide +kernel
theorem dX8_lowZeros_16 : decode cX8_lowZeros 16 = .ok (.ifCond .eq 18, 3) := by decide +kernel
theorem dX8_lowZeros_19 : decode cX8_lowZeros 19 = .ok (.bipush 32, 2) := by decide +kernel
theorem dX8_lowZeros_21 : decode cX8_lowZeros 21 = .ok (.iload_n 1, 1) := by decide +kernel
theorem dX8_lowZeros_22 : decode cX8_lowZeros 22 = .ok (.imul, 1) := by decide +kernel
theorem dX8_lowZeros_23 : decode cX8_lowZeros 23 = .ok (.aload_n 0, 1) := by decide +kernel
theorem dX8_lowZeros_24 : decode cX8_lowZeros 24 = .ok (.getfield 9, 3) := by decide +kernel
theorem dX8_lowZeros_27 : decode cX8_lowZeros 27 = .ok (.iload_n 1, 1) := by decide +kernel
theorem dX8_lowZeros_28 : decode cX8_lowZeros 28 = .ok (.iaload, 1) := by decide +kernel
theorem dX8_lowZeros_29 : decode cX8_lowZeros 29 = .ok (.invokestatic 45, 3) := by decide +kernel
theorem dX8_lowZeros_32 : decode cX8_lowZeros 32 = .ok (.iadd, 1) := by decide +kernel
theorem dX8_lowZeros_33 : decode cX8_lowZeros 33 = .ok (.ireturn, 1) := by decide +kernel
theorem dX8_lowZeros_34 : decode cX8_lowZeros 34 = .ok (.iinc 1 1, 3) := by decide +kernel
theorem dX8_lowZeros_37 : decode cX8_lowZeros 37 = .ok (.goto (-35), 3) := by decide +kernel
theorem dX8_lowZeros_40 : decode cX8_lowZeros 40 = .ok (.iconst 0, 1) := by decide +kernel
theorem dX8_lowZeros_41 : decode cX8_lowZeros 41 = .ok (.ireturn, 1) := by decide +kernel
theorem dX8_equalTo_0 : decode cX8_equalTo 0 = .ok (.aload_n 0, 1) := by decide +kernel
theorem dX8_equalTo_1 : decode cX8_equalTo 1 = .ok (.getfield 19, 3) := by decide +kernel
theorem dX8_equalTo_4 : decode cX8_equalTo 4 = .ok (.aload_n 1, 1) := by decide +kernel
theorem dX8_equalTo_5 : decode cX8_equalTo 5 = .ok (.getfield 19, 3) := by decide +kernel
theorem dX8_equalTo_8 : decode cX8_equalTo 8 = .ok (.if_icmp .ne 14, 3) := by decide +kernel
theorem dX8_equalTo_11 : decode cX8_equalTo 11 = .ok (.aload_n 0, 1) := by decide +kernel
theorem dX8_equalTo_12 : decode cX8_equalTo 12 = .ok (.getfield 15, 3) := by decide +kernel
theorem dX8_equalTo_15 : decode cX8_equalTo 15 = .ok (.aload_n 1, 1) := by decide +kernel
theorem dX8_equalTo_16 : decode cX8_equalTo 16 = .ok (.getfield 15, 3) := by decide +kernel
theorem dX8_equalTo_19 : decode cX8_equalTo 19 = .ok (.if_icmp .eq 5, 3) := by decide +kernel
theorem dX8_equalTo_22 : decode cX8_equalTo 22 = .ok (.iconst 0, 1) := by decide +kernel
theorem dX8_equalTo_23 : decode cX8_equalTo 23 = .ok (.ireturn, 1) := by decide +kernel
theorem dX8_equalTo_24 : decode cX8_equalTo 24 = .ok (.iconst 0, 1) := by decide +kernel
theorem dX8_equalTo_25 : decode cX8_equalTo 25 = .ok (.istore_n 2, 1) := by decide +kernel
theorem dX8_equalTo_26 : decode cX8_equalTo 26 = .ok (.iload_n 2, 1) := by decide +kernel
theorem dX8_equalTo_27 : decode cX8_equalTo 27 = .ok (.aload_n 0, 1) := by decide +kernel
theorem dX8_equalTo_28 : decode cX8_equalTo 28 = .ok (.getfield 15, 3) := by decide +kernel
theorem dX8_equalTo_31 : decode cX8_equalTo 31 = .ok (.if_icmp .ge 26, 3) := by decide +kernel
theorem dX8_equalTo_34 : decode cX8_equalTo 34 = .ok (.aload_n 0, 1) := by decide +kernel
theorem dX8_equalTo_35 : decode cX8_equalTo 35 = .ok (.getfield 9, 3) := by decide +kernel
theorem dX8_equalTo_38 : decode cX8_equalTo 38 = .ok (.iload_n 2, 1) := by decide +kernel
theorem dX8_equalTo_39 : decode cX8_equalTo 39 = .ok (.iaload, 1) := by decide +kernel
theorem dX8_equalTo_40 : decode cX8_equalTo 40 = .ok (.aload_n 1, 1) := by decide +kernel
theorem dX8_equalTo_41 : decode cX8_equalTo 41 = .ok (.getfield 9, 3) := by decide +kernel
theorem dX8_equalTo_44 : decode cX8_equalTo 44 = .ok (.iload_n 2, 1) := by decide +kernel
theorem dX8_equalTo_45 : decode cX8_equalTo 45 = .ok (.iaload, 1) := by decide +kernel
theorem dX8_equalTo_46 : decode cX8_equalTo 46 = .ok (.if_icmp .eq 5, 3) := by decide +kernel
theorem dX8_equalTo_49 : decode cX8_equalTo 49 = .ok (.iconst 0, 1) := by decide +kernel
theorem dX8_equalTo_50 : decode cX8_equalTo 50 = .ok (.ireturn, 1) := by decide +kernel
theorem dX8_equalTo_51 : decode cX8_equalTo 51 = .ok (.iinc 2 1, 3) := by decide +kernel
theorem dX8_equalTo_54 : decode cX8_equalTo 54 = .ok (.goto (-28), 3) := by decide +kernel
theorem dX8_equalTo_57 : decode cX8_equalTo 57 = .ok (.iconst 1, 1) := by decide +kernel
theorem dX8_equalTo_58 : decode cX8_equalTo 58 = .ok (.ireturn, 1) := by decide +kernel
theorem dX8_orderOfSizes_0 : decode cX8_orderOfSizes 0 = .ok (.aload_n 0, 1) := by decide +kernel
theorem dX8_orderOfSizes_1 : decode cX8_orderOfSizes 1 = .ok (.getfield 15, 3) := by decide +kernel
theorem dX8_orderOfSizes_4 : decode cX8_orderOfSizes 4 = .ok (.aload_n 1, 1) := by decide +kernel
theorem dX8_orderOfSizes_5 : decode cX8_orderOfSizes 5 = .ok (.getfield 15, 3) := by decide +kernel
theorem dX8_orderOfSizes_8 : decode cX8_orderOfSizes 8 = .ok (.if_icmp .eq 20, 3) := by decide +kernel
theorem dX8_orderOfSizes_11 : decode cX8_orderOfSizes 11 = .ok (.aload_n 0, 1) := by decide +kernel
theorem dX8_orderOfSizes_12 : decode cX8_orderOfSizes 12 = .ok (.getfield 15, 3) := by decide +kernel
theorem dX8_orderOfSizes_15 : decode cX8_orderOfSizes 15 = .ok (.aload_n 1, 1) := by decide +kernel
theorem dX8_orderOfSizes_16 : decode cX8_orderOfSizes 16 = .ok (.getfield 15, 3) := by decide +kernel
theorem dX8_orderOfSizes_19 : decode cX8_orderOfSizes 19 = .ok (.if_icmp .ge 7, 3) := by decide +kernel
theorem dX8_orderOfSizes_22 : decode cX8_orderOfSizes 22 = .ok (.iconst (-1), 1) := by decide +kernel
theorem dX8_orderOfSizes_23 : decode cX8_orderOfSizes 23 = .ok (.goto 4, 3) := by decide +kernel
theorem dX8_orderOfSizes_26 : decode cX8_orderOfSizes 26 = .ok (.iconst 1, 1) := by decide +kernel
theorem dX8_orderOfSizes_27 : decode cX8_orderOfSizes 27 = .ok (.ireturn, 1) := by decide +kernel
theorem dX8_orderOfSizes_28 : decode cX8_orderOfSizes 28 = .ok (.aload_n 0, 1) := by decide +kernel
theorem dX8_orderOfSizes_29 : decode cX8_orderOfSizes 29 = .ok (.getfield 15, 3) := by decide +kernel
theorem dX8_orderOfSizes_32 : decode cX8_orderOfSizes 32 = .ok (.iconst 1, 1) := by decide +kernel
theorem dX8_orderOfSizes_33 : decode cX8_orderOfSizes 33 = .ok (.isub, 1) := by decide +kernel
theorem dX8_orderOfSizes_34 : decode cX8_orderOfSizes 34 = .ok (.istore_n 2, 1) := by decide +kernel
theorem dX8_orderOfSizes_35 : decode cX8_orderOfSizes 35 = .ok (.iload_n 2, 1) := by decide +kernel
theorem dX8_orderOfSizes_36 : decode cX8_orderOfSizes 36 = .ok (.ifCond .lt 56, 3) := by decide +kernel
theorem dX8_orderOfSizes_39 : decode cX8_orderOfSizes 39 = .ok (.aload_n 0, 1) := by decide +kernel
theorem dX8_orderOfSizes_40 : decode cX8_orderOfSizes 40 = .ok (.getfield 9, 3) := by decide +kernel
theorem dX8_orderOfSizes_43 : decode cX8_orderOfSizes 43 = .ok (.iload_n 2, 1) := by decide +kernel
theorem dX8_orderOfSizes_44 : decode cX8_orderOfSizes 44 = .ok (.iaload, 1) := by decide +kernel
theorem dX8_orderOfSizes_45 : decode cX8_orderOfSizes 45 = .ok (.aload_n 1, 1) := by decide +kernel
theorem dX8_orderOfSizes_46 : decode cX8_orderOfSizes 46 = .ok (.getfield 9, 3) := by decide +kernel
theorem dX8_orderOfSizes_49 : decode cX8_orderOfSizes 49 = .ok (.iload_n 2, 1) := by decide +kernel
theorem dX8_orderOfSizes_50 : decode cX8_orderOfSizes 50 = .ok (.iaload, 1) := by decide +kernel
theorem dX8_orderOfSizes_51 : decode cX8_orderOfSizes 51 = .ok (.if_icmp .eq 35, 3) := by decide +kernel
theorem dX8_orderOfSizes_54 : decode cX8_orderOfSizes 54 = .ok (.aload_n 0, 1) := by decide +kernel
theorem dX8_orderOfSizes_55 : decode cX8_orderOfSizes 55 = .ok (.getfield 9, 3) := by decide +kernel
theorem dX8_orderOfSizes_58 : decode cX8_orderOfSizes 58 = .ok (.iload_n 2, 1) := by decide +kernel
theorem dX8_orderOfSizes_59 : decode cX8_orderOfSizes 59 = .ok (.iaload, 1) := by decide +kernel
theorem dX8_orderOfSizes_60 : decode cX8_orderOfSizes 60 = .ok (.i2l, 1) := by decide +kernel
theorem dX8_orderOfSizes_61 : decode cX8_orderOfSizes 61 = .ok (.ldc2_w 48, 3) := by decide +kernel
theorem dX8_orderOfSizes_64 : decode cX8_orderOfSizes 64 = .ok (.land, 1) := by decide +kernel
theorem dX8_orderOfSizes_65 : decode cX8_orderOfSizes 65 = .ok (.aload_n 1, 1) := by decide +kernel
theorem dX8_orderOfSizes_66 : decode cX8_orderOfSizes 66 = .ok (.getfield 9, 3) := by decide +kernel
theorem dX8_orderOfSizes_69 : decode cX8_orderOfSizes 69 = .ok (.iload_n 2, 1) := by decide +kernel
theorem dX8_orderOfSizes_70 : decode cX8_orderOfSizes 70 = .ok (.iaload, 1) := by decide +kernel
theorem dX8_orderOfSizes_71 : decode cX8_orderOfSizes 71 = .ok (.i2l, 1) := by decide +kernel
theorem dX8_orderOfSizes_72 : decode cX8_orderOfSizes 72 = .ok (.ldc2_w 48, 3) := by decide +kernel
theorem dX8_orderOfSizes_75 : decode cX8_orderOfSizes 75 = .ok (.land, 1) := by decide +kernel
theorem dX8_orderOfSizes_76 : decode cX8_orderOfSizes 76 = .ok (.lcmp, 1) := by decide +kernel
theorem dX8_orderOfSizes_77 : decode cX8_orderOfSizes 77 = .ok (.ifCond .ge 7, 3) := by decide +kernel
theorem dX8_orderOfSizes_80 : decode cX8_orderOfSizes 80 = .ok (.iconst (-1), 1) := by decide +kernel
theorem dX8_orderOfSizes_81 : decode cX8_orderOfSizes 81 = .ok (.goto 4, 3) := by decide +kernel
theorem dX8_orderOfSizes_84 : decode cX8_orderOfSizes 84 = .ok (.iconst 1, 1) := by decide +kernel
theorem dX8_orderOfSizes_85 : decode cX8_orderOfSizes 85 = .ok (.ireturn, 1) := by decide +kernel
theorem dX8_orderOfSizes_86 : decode cX8_orderOfSizes 86 = .ok (.iinc 2 (-1), 3) := by decide +kernel
theorem dX8_orderOfSizes_89 : decode cX8_orderOfSizes 89 = .ok (.goto (-54), 3) := by decide +kernel
theorem dX8_orderOfSizes_92 : decode cX8_orderOfSizes 92 = .ok (.iconst 0, 1) := by decide +kernel
theorem dX8_orderOfSizes_93 : decode cX8_orderOfSizes 93 = .ok (.ireturn, 1) := by decide +kernel
theorem dX8_order_0 : decode cX8_order 0 = .ok (.aload_n 0, 1) := by decide +kernel
theorem dX8_order_1 : decode cX8_order 1 = .ok (.invokevirtual 50, 3) := by decide +kernel
theorem dX8_order_4 : decode cX8_order 4 = .ok (.aload_n 1, 1) := by decide +kernel
theorem dX8_order_5 : decode cX8_order 5 = .ok (.invokevirtual 50, 3) := by decide +kernel
theorem dX8_order_8 : decode cX8_order 8 = .ok (.if_icmp .eq 20, 3) := by decide +kernel
theorem dX8_order_11 : decode cX8_order 11 = .ok (.aload_n 0, 1) := by decide +kernel
theorem dX8_order_12 : decode cX8_order 12 = .ok (.invokevirtual 50, 3) := by decide +kernel
theorem dX8_order_15 : decode cX8_order 15 = .ok (.aload_n 1, 1) := by decide +kernel
theorem dX8_order_16 : decode cX8_order 16 = .ok (.invokevirtual 50, 3) := by decide +kernel
theorem dX8_order_19 : decode cX8_order 19 = .ok (.if_icmp .ge 7, 3) := by decide +kernel
theorem dX8_order_22 : decode cX8_order 22 = .ok (.iconst (-1), 1) := by decide +kernel
theorem dX8_order_23 : decode cX8_order 23 = .ok (.goto 4, 3) := by decide +kernel
theorem dX8_order_26 : decode cX8_order 26 = .ok (.iconst 1, 1) := by decide +kernel
theorem dX8_order_27 : decode cX8_order 27 = .ok (.ireturn, 1) := by decide +kernel
theorem dX8_order_28 : decode cX8_order 28 = .ok (.aload_n 0, 1) := by decide +kernel
theorem dX8_order_29 : decode cX8_order 29 = .ok (.aload_n 1, 1) := by decide +kernel
theorem dX8_order_30 : decode cX8_order 30 = .ok (.invokevirtual 54, 3) := by decide +kernel
theorem dX8_order_33 : decode cX8_order 33 = .ok (.istore_n 2, 1) := by decide +kernel
theorem dX8_order_34 : decode cX8_order 34 = .ok (.aload_n 0, 1) := by decide +kernel
theorem dX8_order_35 : decode cX8_order 35 = .ok (.getfield 19, 3) := by decide +kernel
theorem dX8_order_38 : decode cX8_order 38 = .ok (.ifCond .eq 8, 3) := by decide +kernel
theorem dX8_order_41 : decode cX8_order 41 = .ok (.iload_n 2, 1) := by decide +kernel
theorem dX8_order_42 : decode cX8_order 42 = .ok (.ineg, 1) := by decide +kernel
theorem dX8_order_43 : decode cX8_order 43 = .ok (.goto 4, 3) := by decide +kernel
theorem dX8_order_46 : decode cX8_order 46 = .ok (.iload_n 2, 1) := by decide +kernel
theorem dX8_order_47 : decode cX8_order 47 = .ok (.ireturn, 1) := by decide +kernel
theorem dX8_turn_0 : decode cX8_turn 0 = .ok (.aload_n 0, 1) := by decide +kernel
theorem dX8_turn_1 : decode cX8_turn 1 = .ok (.aload_n 0, 1) := by decide +kernel
theorem dX8_turn_2 : decode cX8_turn 2 = .ok (.getfield 15, 3) := by decide +kernel
theorem dX8_turn_5 : decode cX8_turn 5 = .ok (.ifCond .le 14, 3) := by decide +kernel
theorem dX8_turn_8 : decode cX8_turn 8 = .ok (.aload_n 0, 1) := by decide +kernel
theorem dX8_turn_9 : decode cX8_turn 9 = .ok (.getfield 19, 3) := by decide +kernel
theorem dX8_turn_12 : decode cX8_turn 12 = .ok (.ifCond .ne 7, 3) := by decide +kernel
theorem dX8_turn_15 : decode cX8_turn 15 = .ok (.iconst 1, 1) := by decide +kernel
theorem dX8_turn_16 : decode cX8_turn 16 = .ok (.goto 4, 3) := by decide +kernel
theorem dX8_turn_19 : decode cX8_turn 19 = .ok (.iconst 0, 1) := by decide +kernel
theorem dX8_turn_20 : decode cX8_turn 20 = .ok (.putfield 19, 3) := by decide +kernel
theorem dX8_turn_23 : decode cX8_turn 23 = .ok (.return_, 1) := by decide +kernel
theorem dX8_multiply_0 : decode cX8_multiply 0 = .ok (.aload_n 1, 1) := by decide +kernel
theorem dX8_multiply_1 : decode cX8_multiply 1 = .ok (.getfield 15, 3) := by decide +kernel
theorem dX8_multiply_4 : decode cX8_multiply 4 = .ok (.ifCond .eq 10, 3) := by decide +kernel
theorem dX8_multiply_7 : decode cX8_multiply 7 = .ok (.aload_n 2, 1) := by decide +kernel
theorem dX8_multiply_8 : decode cX8_multiply 8 = .ok (.getfield 15, 3) := by decide +kernel
theorem dX8_multiply_11 : decode cX8_multiply 11 = .ok (.ifCond .ne 7, 3) := by decide +kernel
theorem dX8_multiply_14 : decode cX8_multiply 14 = .ok (.iconst 0, 1) := by decide +kernel
theorem dX8_multiply_15 : decode cX8_multiply 15 = .ok (.goto 20, 3) := by decide +kernel
theorem dX8_multiply_18 : decode cX8_multiply 18 = .ok (.aload_n 0, 1) := by decide +kernel
theorem dX8_multiply_19 : decode cX8_multiply 19 = .ok (.getfield 9, 3) := by decide +kernel
theorem dX8_multiply_22 : decode cX8_multiply 22 = .ok (.arraylength, 1) := by decide +kernel
theorem dX8_multiply_23 : decode cX8_multiply 23 = .ok (.aload_n 1, 1) := by decide +kernel
theorem dX8_multiply_24 : decode cX8_multiply 24 = .ok (.getfield 15, 3) := by decide +kernel
theorem dX8_multiply_27 : decode cX8_multiply 27 = .ok (.aload_n 2, 1) := by decide +kernel
theorem dX8_multiply_28 : decode cX8_multiply 28 = .ok (.getfield 15, 3) := by decide +kernel
theorem dX8_multiply_31 : decode cX8_multiply 31 = .ok (.iadd, 1) := by decide +kernel
theorem dX8_multiply_32 : decode cX8_multiply 32 = .ok (.invokestatic 29, 3) := by decide +kernel
theorem dX8_multiply_35 : decode cX8_multiply 35 = .ok (.istore_n 3, 1) := by decide +kernel
theorem dX8_multiply_36 : decode cX8_multiply 36 = .ok (.aload_n 0, 1) := by decide +kernel
theorem dX8_multiply_37 : decode cX8_multiply 37 = .ok (.getfield 9, 3) := by decide +kernel
theorem dX8_multiply_40 : decode cX8_multiply 40 = .ok (.iconst 0, 1) := by decide +kernel
theorem dX8_multiply_41 : decode cX8_multiply 41 = .ok (.iload_n 3, 1) := by decide +kernel
theorem dX8_multiply_42 : decode cX8_multiply 42 = .ok (.iconst 0, 1) := by decide +kernel
theorem dX8_multiply_43 : decode cX8_multiply 43 = .ok (.invokestatic 58, 3) := by decide +kernel
theorem dX8_multiply_46 : decode cX8_multiply 46 = .ok (.iconst 0, 1) := by decide +kernel
theorem dX8_multiply_47 : decode cX8_multiply 47 = .ok (.istore 4, 2) := by decide +kernel
theorem dX8_multiply_49 : decode cX8_multiply 49 = .ok (.iload 4, 2) := by decide +kernel
theorem dX8_multiply_51 : decode cX8_multiply 51 = .ok (.aload_n 1, 1) := by decide +kernel
theorem dX8_multiply_52 : decode cX8_multiply 52 = .ok (.getfield 15, 3) := by decide +kernel
theorem dX8_multiply_55 : decode cX8_multiply 55 = .ok (.if_icmp .ge 141, 3) := by decide +kernel
theorem dX8_multiply_58 : decode cX8_multiply 58 = .ok (.iload 4, 2) := by decide +kernel
theorem dX8_multiply_60 : decode cX8_multiply 60 = .ok (.iload_n 3, 1) := by decide +kernel
theorem dX8_multiply_61 : decode cX8_multiply 61 = .ok (.if_icmp .ge 135, 3) := by decide +kernel
theorem dX8_multiply_64 : decode cX8_multiply 64 = .ok (.aload_n 1, 1) := by decide +kernel
theorem dX8_multiply_65 : decode cX8_multiply 65 = .ok (.getfield 9, 3) := by decide +kernel
theorem dX8_multiply_68 : decode cX8_multiply 68 = .ok (.iload 4, 2) := by decide +kernel
theorem dX8_multiply_70 : decode cX8_multiply 70 = .ok (.iaload, 1) := by decide +kernel
theorem dX8_multiply_71 : decode cX8_multiply 71 = .ok (.i2l, 1) := by decide +kernel
theorem dX8_multiply_72 : decode cX8_multiply 72 = .ok (.ldc2_w 48, 3) := by decide +kernel
theorem dX8_multiply_75 : decode cX8_multiply 75 = .ok (.land, 1) := by decide +kernel
theorem dX8_multiply_76 : decode cX8_multiply 76 = .ok (.lstore 5, 2) := by decide +kernel
theorem dX8_multiply_78 : decode cX8_multiply 78 = .ok (.lconst 0, 1) := by decide +kernel
theorem dX8_multiply_79 : decode cX8_multiply 79 = .ok (.lstore 7, 2) := by decide +kernel
theorem dX8_multiply_81 : decode cX8_multiply 81 = .ok (.iconst 0, 1) := by decide +kernel
theorem dX8_multiply_82 : decode cX8_multiply 82 = .ok (.istore 9, 2) := by decide +kernel
theorem dX8_multiply_84 : decode cX8_multiply 84 = .ok (.iload 9, 2) := by decide +kernel
theorem dX8_multiply_86 : decode cX8_multiply 86 = .ok (.aload_n 2, 1) := by decide +kernel
theorem dX8_multiply_87 : decode cX8_multiply 87 = .ok (.getfield 15, 3) := by decide +kernel
theorem dX8_multiply_90 : decode cX8_multiply 90 = .ok (.if_icmp .ge 74, 3) := by decide +kernel
theorem dX8_multiply_93 : decode cX8_multiply 93 = .ok (.iload 4, 2) := by decide +kernel
theorem dX8_multiply_95 : decode cX8_multiply 95 = .ok (.iload 9, 2) := by decide +kernel
theorem dX8_multiply_97 : decode cX8_multiply 97 = .ok (.iadd, 1) := by decide +kernel
theorem dX8_multiply_98 : decode cX8_multiply 98 = .ok (.iload_n 3, 1) := by decide +kernel
theorem dX8_multiply_99 : decode cX8_multiply 99 = .ok (.if_icmp .ge 65, 3) := by decide +kernel
theorem dX8_multiply_102 : decode cX8_multiply 102 = .ok (.lload 7, 2) := by decide +kernel
theorem dX8_multiply_104 : decode cX8_multiply 104 = .ok (.lload 5, 2) := by decide +kernel
theorem dX8_multiply_106 : decode cX8_multiply 106 = .ok (.aload_n 2, 1) := by decide +kernel
theorem dX8_multiply_107 : decode cX8_multiply 107 = .ok (.getfield 9, 3) := by decide +kernel
theorem dX8_multiply_110 : decode cX8_multiply 110 = .ok (.iload 9, 2) := by decide +kernel
theorem dX8_multiply_112 : decode cX8_multiply 112 = .ok (.iaload, 1) := by decide +kernel
theorem dX8_multiply_113 : decode cX8_multiply 113 = .ok (.i2l, 1) := by decide +kernel
theorem dX8_multiply_114 : decode cX8_multiply 114 = .ok (.ldc2_w 48, 3) := by decide +kernel
theorem dX8_multiply_117 : decode cX8_multiply 117 = .ok (.land, 1) := by decide +kernel
theorem dX8_multiply_118 : decode cX8_multiply 118 = .ok (.lmul, 1) := by decide +kernel
theorem dX8_multiply_119 : decode cX8_multiply 119 = .ok (.aload_n 0, 1) := by decide +kernel
theorem dX8_multiply_120 : decode cX8_multiply 120 = .ok (.getfield 9, 3) := by decide +kernel
theorem dX8_multiply_123 : decode cX8_multiply 123 = .ok (.iload 4, 2) := by decide +kernel
theorem dX8_multiply_125 : decode cX8_multiply 125 = .ok (.iload 9, 2) := by decide +kernel
theorem dX8_multiply_127 : decode cX8_multiply 127 = .ok (.iadd, 1) := by decide +kernel
theorem dX8_multiply_128 : decode cX8_multiply 128 = .ok (.iaload, 1) := by decide +kernel
theorem dX8_multiply_129 : decode cX8_multiply 129 = .ok (.i2l, 1) := by decide +kernel
theorem dX8_multiply_130 : decode cX8_multiply 130 = .ok (.ldc2_w 48, 3) := by decide +kernel
theorem dX8_multiply_133 : decode cX8_multiply 133 = .ok (.land, 1) := by decide +kernel
theorem dX8_multiply_134 : decode cX8_multiply 134 = .ok (.ladd, 1) := by decide +kernel
theorem dX8_multiply_135 : decode cX8_multiply 135 = .ok (.ladd, 1) := by decide +kernel
theorem dX8_multiply_136 : decode cX8_multiply 136 = .ok (.lstore 7, 2) := by decide +kernel
theorem dX8_multiply_138 : decode cX8_multiply 138 = .ok (.aload_n 0, 1) := by decide +kernel
theorem dX8_multiply_139 : decode cX8_multiply 139 = .ok (.getfield 9, 3) := by decide +kernel
theorem dX8_multiply_142 : decode cX8_multiply 142 = .ok (.iload 4, 2) := by decide +kernel
theorem dX8_multiply_144 : decode cX8_multiply 144 = .ok (.iload 9, 2) := by decide +kernel
theorem dX8_multiply_146 : decode cX8_multiply 146 = .ok (.iadd, 1) := by decide +kernel
theorem dX8_multiply_147 : decode cX8_multiply 147 = .ok (.lload 7, 2) := by decide +kernel
theorem dX8_multiply_149 : decode cX8_multiply 149 = .ok (.l2i, 1) := by decide +kernel
theorem dX8_multiply_150 : decode cX8_multiply 150 = .ok (.iastore, 1) := by decide +kernel
theorem dX8_multiply_151 : decode cX8_multiply 151 = .ok (.lload 7, 2) := by decide +kernel
theorem dX8_multiply_153 : decode cX8_multiply 153 = .ok (.bipush 32, 2) := by decide +kernel
theorem dX8_multiply_155 : decode cX8_multiply 155 = .ok (.lushr, 1) := by decide +kernel
theorem dX8_multiply_156 : decode cX8_multiply 156 = .ok (.lstore 7, 2) := by decide +kernel
theorem dX8_multiply_158 : decode cX8_multiply 158 = .ok (.iinc 9 1, 3) := by decide +kernel
theorem dX8_multiply_161 : decode cX8_multiply 161 = .ok (.goto (-77), 3) := by decide +kernel
theorem dX8_multiply_164 : decode cX8_multiply 164 = .ok (.iload 4, 2) := by decide +kernel
theorem dX8_multiply_166 : decode cX8_multiply 166 = .ok (.aload_n 2, 1) := by decide +kernel
theorem dX8_multiply_167 : decode cX8_multiply 167 = .ok (.getfield 15, 3) := by decide +kernel
theorem dX8_multiply_170 : decode cX8_multiply 170 = .ok (.iadd, 1) := by decide +kernel
theorem dX8_multiply_171 : decode cX8_multiply 171 = .ok (.iload_n 3, 1) := by decide +kernel
theorem dX8_multiply_172 : decode cX8_multiply 172 = .ok (.if_icmp .ge 18, 3) := by decide +kernel
theorem dX8_multiply_175 : decode cX8_multiply 175 = .ok (.aload_n 0, 1) := by decide +kernel
theorem dX8_multiply_176 : decode cX8_multiply 176 = .ok (.getfield 9, 3) := by decide +kernel
theorem dX8_multiply_179 : decode cX8_multiply 179 = .ok (.iload 4, 2) := by decide +kernel
theorem dX8_multiply_181 : decode cX8_multiply 181 = .ok (.aload_n 2, 1) := by decide +kernel
theorem dX8_multiply_182 : decode cX8_multiply 182 = .ok (.getfield 15, 3) := by decide +kernel
theorem dX8_multiply_185 : decode cX8_multiply 185 = .ok (.iadd, 1) := by decide +kernel
theorem dX8_multiply_186 : decode cX8_multiply 186 = .ok (.lload 7, 2) := by decide +kernel
theorem dX8_multiply_188 : decode cX8_multiply 188 = .ok (.l2i, 1) := by decide +kernel
theorem dX8_multiply_189 : decode cX8_multiply 189 = .ok (.iastore, 1) := by decide +kernel
theorem dX8_multiply_190 : decode cX8_multiply 190 = .ok (.iinc 4 1, 3) := by decide +kernel
theorem dX8_multiply_193 : decode cX8_multiply 193 = .ok (.goto (-144), 3) := by decide +kernel
theorem dX8_multiply_196 : decode cX8_multiply 196 = .ok (.aload_n 0, 1) := by decide +kernel
theorem dX8_multiply_197 : decode cX8_multiply 197 = .ok (.iload_n 3, 1) := by decide +kernel
theorem dX8_multiply_198 : decode cX8_multiply 198 = .ok (.ifCond .le 20, 3) := by decide +kernel
theorem dX8_multiply_201 : decode cX8_multiply 201 = .ok (.aload_n 0, 1) := by decide +kernel
theorem dX8_multiply_202 : decode cX8_multiply 202 = .ok (.getfield 9, 3) := by decide +kernel
theorem dX8_multiply_205 : decode cX8_multiply 205 = .ok (.iload_n 3, 1) := by decide +kernel
theorem dX8_multiply_206 : decode cX8_multiply 206 = .ok (.iconst 1, 1) := by decide +kernel
theorem dX8_multiply_207 : decode cX8_multiply 207 = .ok (.isub, 1) := by decide +kernel
theorem dX8_multiply_208 : decode cX8_multiply 208 = .ok (.iaload, 1) := by decide +kernel
theorem dX8_multiply_209 : decode cX8_multiply 209 = .ok (.ifCond .ne 9, 3) := by decide +kernel
theorem dX8_multiply_212 : decode cX8_multiply 212 = .ok (.iload_n 3, 1) := by decide +kernel
theorem dX8_multiply_213 : decode cX8_multiply 213 = .ok (.iconst 1, 1) := by decide +kernel
theorem dX8_multiply_214 : decode cX8_multiply 214 = .ok (.isub, 1) := by decide +kernel
theorem dX8_multiply_215 : decode cX8_multiply 215 = .ok (.goto 4, 3) := by decide +kernel
theorem dX8_multiply_218 : decode cX8_multiply 218 = .ok (.iload_n 3, 1) := by decide +kernel
theorem dX8_multiply_219 : decode cX8_multiply 219 = .ok (.putfield 15, 3) := by decide +kernel
theorem dX8_multiply_222 : decode cX8_multiply 222 = .ok (.aload_n 0, 1) := by decide +kernel
theorem dX8_multiply_223 : decode cX8_multiply 223 = .ok (.aload_n 0, 1) := by decide +kernel
theorem dX8_multiply_224 : decode cX8_multiply 224 = .ok (.getfield 15, 3) := by decide +kernel
theorem dX8_multiply_227 : decode cX8_multiply 227 = .ok (.ifCond .le 18, 3) := by decide +kernel
theorem dX8_multiply_230 : decode cX8_multiply 230 = .ok (.aload_n 1, 1) := by decide +kernel
theorem dX8_multiply_231 : decode cX8_multiply 231 = .ok (.getfield 19, 3) := by decide +kernel
theorem dX8_multiply_234 : decode cX8_multiply 234 = .ok (.aload_n 2, 1) := by decide +kernel
theorem dX8_multiply_235 : decode cX8_multiply 235 = .ok (.getfield 19, 3) := by decide +kernel
theorem dX8_multiply_238 : decode cX8_multiply 238 = .ok (.if_icmp .eq 7, 3) := by decide +kernel
theorem dX8_multiply_241 : decode cX8_multiply 241 = .ok (.iconst 1, 1) := by decide +kernel
theorem dX8_multiply_242 : decode cX8_multiply 242 = .ok (.goto 4, 3) := by decide +kernel
theorem dX8_multiply_245 : decode cX8_multiply 245 = .ok (.iconst 0, 1) := by decide +kernel
theorem dX8_multiply_246 : decode cX8_multiply 246 = .ok (.putfield 19, 3) := by decide +kernel
theorem dX8_multiply_249 : decode cX8_multiply 249 = .ok (.return_, 1) := by decide +kernel
theorem dX8_add_0 : decode cX8_add 0 = .ok (.aload_n 1, 1) := by decide +kernel
theorem dX8_add_1 : decode cX8_add 1 = .ok (.getfield 19, 3) := by decide +kernel
theorem dX8_add_4 : decode cX8_add 4 = .ok (.istore_n 3, 1) := by decide +kernel
theorem dX8_add_5 : decode cX8_add 5 = .ok (.aload_n 2, 1) := by decide +kernel
theorem dX8_add_6 : decode cX8_add 6 = .ok (.getfield 19, 3) := by decide +kernel
theorem dX8_add_9 : decode cX8_add 9 = .ok (.istore 4, 2) := by decide +kernel
theorem dX8_add_11 : decode cX8_add 11 = .ok (.iload_n 3, 1) := by decide +kernel
theorem dX8_add_12 : decode cX8_add 12 = .ok (.iload 4, 2) := by decide +kernel
theorem dX8_add_14 : decode cX8_add 14 = .ok (.if_icmp .ne 17, 3) := by decide +kernel
theorem dX8_add_17 : decode cX8_add 17 = .ok (.aload_n 0, 1) := by decide +kernel
theorem dX8_add_18 : decode cX8_add 18 = .ok (.aload_n 1, 1) := by decide +kernel
theorem dX8_add_19 : decode cX8_add 19 = .ok (.aload_n 2, 1) := by decide +kernel
theorem dX8_add_20 : decode cX8_add 20 = .ok (.invokevirtual 64, 3) := by decide +kernel
theorem dX8_add_23 : decode cX8_add 23 = .ok (.aload_n 0, 1) := by decide +kernel
theorem dX8_add_24 : decode cX8_add 24 = .ok (.iload_n 3, 1) := by decide +kernel
theorem dX8_add_25 : decode cX8_add 25 = .ok (.putfield 19, 3) := by decide +kernel
theorem dX8_add_28 : decode cX8_add 28 = .ok (.goto 52, 3) := by decide +kernel
theorem dX8_add_31 : decode cX8_add 31 = .ok (.aload_n 1, 1) := by decide +kernel
theorem dX8_add_32 : decode cX8_add 32 = .ok (.aload_n 2, 1) := by decide +kernel
theorem dX8_add_33 : decode cX8_add 33 = .ok (.invokevirtual 54, 3) := by decide +kernel
theorem dX8_add_36 : decode cX8_add 36 = .ok (.ifCond .lt 32, 3) := by decide +kernel
theorem dX8_add_39 : decode cX8_add 39 = .ok (.aload_n 0, 1) := by decide +kernel
theorem dX8_add_40 : decode cX8_add 40 = .ok (.aload_n 1, 1) := by decide +kernel
theorem dX8_add_41 : decode cX8_add 41 = .ok (.aload_n 2, 1) := by decide +kernel
theorem dX8_add_42 : decode cX8_add 42 = .ok (.invokevirtual 68, 3) := by decide +kernel
theorem dX8_add_45 : decode cX8_add 45 = .ok (.aload_n 0, 1) := by decide +kernel
theorem dX8_add_46 : decode cX8_add 46 = .ok (.aload_n 0, 1) := by decide +kernel
theorem dX8_add_47 : decode cX8_add 47 = .ok (.getfield 15, 3) := by decide +kernel
theorem dX8_add_50 : decode cX8_add 50 = .ok (.ifCond .le 11, 3) := by decide +kernel
theorem dX8_add_53 : decode cX8_add 53 = .ok (.iload_n 3, 1) := by decide +kernel
theorem dX8_add_54 : decode cX8_add 54 = .ok (.ifCond .eq 7, 3) := by decide +kernel
theorem dX8_add_57 : decode cX8_add 57 = .ok (.iconst 1, 1) := by decide +kernel
theorem dX8_add_58 : decode cX8_add 58 = .ok (.goto 4, 3) := by decide +kernel
theorem dX8_add_61 : decode cX8_add 61 = .ok (.iconst 0, 1) := by decide +kernel
theorem dX8_add_62 : decode cX8_add 62 = .ok (.putfield 19, 3) := by decide +kernel
theorem dX8_add_65 : decode cX8_add 65 = .ok (.goto 15, 3) := by decide +kernel
theorem dX8_add_68 : decode cX8_add 68 = .ok (.aload_n 0, 1) := by decide +kernel
theorem dX8_add_69 : decode cX8_add 69 = .ok (.aload_n 2, 1) := by decide +kernel
theorem dX8_add_70 : decode cX8_add 70 = .ok (.aload_n 1, 1) := by decide +kernel
theorem dX8_add_71 : decode cX8_add 71 = .ok (.invokevirtual 68, 3) := by decide +kernel
theorem dX8_add_74 : decode cX8_add 74 = .ok (.aload_n 0, 1) := by decide +kernel
theorem dX8_add_75 : decode cX8_add 75 = .ok (.iload 4, 2) := by decide +kernel
theorem dX8_add_77 : decode cX8_add 77 = .ok (.putfield 19, 3) := by decide +kernel
theorem dX8_add_80 : decode cX8_add 80 = .ok (.return_, 1) := by decide +kernel
theorem dX8_addSizes_0 : decode cX8_addSizes 0 = .ok (.aload_n 1, 1) := by decide +kernel
theorem dX8_addSizes_1 : decode cX8_addSizes 1 = .ok (.getfield 15, 3) := by decide +kernel
theorem dX8_addSizes_4 : decode cX8_addSizes 4 = .ok (.istore_n 3, 1) := by decide +kernel
theorem dX8_addSizes_5 : decode cX8_addSizes 5 = .ok (.aload_n 2, 1) := by decide +kernel
theorem dX8_addSizes_6 : decode cX8_addSizes 6 = .ok (.getfield 15, 3) := by decide +kernel
theorem dX8_addSizes_9 : decode cX8_addSizes 9 = .ok (.istore 4, 2) := by decide +kernel
theorem dX8_addSizes_11 : decode cX8_addSizes 11 = .ok (.aload_n 0, 1) := by decide +kernel
theorem dX8_addSizes_12 : decode cX8_addSizes 12 = .ok (.getfield 9, 3) := by decide +kernel
theorem dX8_addSizes_15 : decode cX8_addSizes 15 = .ok (.arraylength, 1) := by decide +kernel
theorem dX8_addSizes_16 : decode cX8_addSizes 16 = .ok (.iload_n 3, 1) := by decide +kernel
theorem dX8_addSizes_17 : decode cX8_addSizes 17 = .ok (.iload 4, 2) := by decide +kernel
theorem dX8_addSizes_19 : decode cX8_addSizes 19 = .ok (.invokestatic 71, 3) := by decide +kernel
theorem dX8_addSizes_22 : decode cX8_addSizes 22 = .ok (.iconst 1, 1) := by decide +kernel
theorem dX8_addSizes_23 : decode cX8_addSizes 23 = .ok (.iadd, 1) := by decide +kernel
theorem dX8_addSizes_24 : decode cX8_addSizes 24 = .ok (.invokestatic 29, 3) := by decide +kernel
theorem dX8_addSizes_27 : decode cX8_addSizes 27 = .ok (.istore 5, 2) := by decide +kernel
theorem dX8_addSizes_29 : decode cX8_addSizes 29 = .ok (.lconst 0, 1) := by decide +kernel
theorem dX8_addSizes_30 : decode cX8_addSizes 30 = .ok (.lstore 6, 2) := by decide +kernel
theorem dX8_addSizes_32 : decode cX8_addSizes 32 = .ok (.iconst 0, 1) := by decide +kernel
theorem dX8_addSizes_33 : decode cX8_addSizes 33 = .ok (.istore 8, 2) := by decide +kernel
theorem dX8_addSizes_35 : decode cX8_addSizes 35 = .ok (.iload 8, 2) := by decide +kernel
theorem dX8_addSizes_37 : decode cX8_addSizes 37 = .ok (.iload 5, 2) := by decide +kernel
theorem dX8_addSizes_39 : decode cX8_addSizes 39 = .ok (.if_icmp .ge 77, 3) := by decide +kernel
theorem dX8_addSizes_42 : decode cX8_addSizes 42 = .ok (.lload 6, 2) := by decide +kernel
theorem dX8_addSizes_44 : decode cX8_addSizes 44 = .ok (.iload 8, 2) := by decide +kernel
theorem dX8_addSizes_46 : decode cX8_addSizes 46 = .ok (.iload_n 3, 1) := by decide +kernel
theorem dX8_addSizes_47 : decode cX8_addSizes 47 = .ok (.if_icmp .ge 18, 3) := by decide +kernel
theorem dX8_addSizes_50 : decode cX8_addSizes 50 = .ok (.aload_n 1, 1) := by decide +kernel
theorem dX8_addSizes_51 : decode cX8_addSizes 51 = .ok (.getfield 9, 3) := by decide +kernel
theorem dX8_addSizes_54 : decode cX8_addSizes 54 = .ok (.iload 8, 2) := by decide +kernel
theorem dX8_addSizes_56 : decode cX8_addSizes 56 = .ok (.iaload, 1) := by decide +kernel
theorem dX8_addSizes_57 : decode cX8_addSizes 57 = .ok (.i2l, 1) := by decide +kernel
theorem dX8_addSizes_58 : decode cX8_addSizes 58 = .ok (.ldc2_w 48, 3) := by decide +kernel
theorem dX8_addSizes_61 : decode cX8_addSizes 61 = .ok (.land, 1) := by decide +kernel
theorem dX8_addSizes_62 : decode cX8_addSizes 62 = .ok (.goto 4, 3) := by decide +kernel
theorem dX8_addSizes_65 : decode cX8_addSizes 65 = .ok (.lconst 0, 1) := by decide +kernel
theorem dX8_addSizes_66 : decode cX8_addSizes 66 = .ok (.iload 8, 2) := by decide +kernel
theorem dX8_addSizes_68 : decode cX8_addSizes 68 = .ok (.iload 4, 2) := by decide +kernel
theorem dX8_addSizes_70 : decode cX8_addSizes 70 = .ok (.if_icmp .ge 18, 3) := by decide +kernel
theorem dX8_addSizes_73 : decode cX8_addSizes 73 = .ok (.aload_n 2, 1) := by decide +kernel
theorem dX8_addSizes_74 : decode cX8_addSizes 74 = .ok (.getfield 9, 3) := by decide +kernel
theorem dX8_addSizes_77 : decode cX8_addSizes 77 = .ok (.iload 8, 2) := by decide +kernel
theorem dX8_addSizes_79 : decode cX8_addSizes 79 = .ok (.iaload, 1) := by decide +kernel
theorem dX8_addSizes_80 : decode cX8_addSizes 80 = .ok (.i2l, 1) := by decide +kernel
theorem dX8_addSizes_81 : decode cX8_addSizes 81 = .ok (.ldc2_w 48, 3) := by decide +kernel
theorem dX8_addSizes_84 : decode cX8_addSizes 84 = .ok (.land, 1) := by decide +kernel
theorem dX8_addSizes_85 : decode cX8_addSizes 85 = .ok (.goto 4, 3) := by decide +kernel
theorem dX8_addSizes_88 : decode cX8_addSizes 88 = .ok (.lconst 0, 1) := by decide +kernel
theorem dX8_addSizes_89 : decode cX8_addSizes 89 = .ok (.ladd, 1) := by decide +kernel
theorem dX8_addSizes_90 : decode cX8_addSizes 90 = .ok (.ladd, 1) := by decide +kernel
theorem dX8_addSizes_91 : decode cX8_addSizes 91 = .ok (.lstore 6, 2) := by decide +kernel
theorem dX8_addSizes_93 : decode cX8_addSizes 93 = .ok (.aload_n 0, 1) := by decide +kernel
theorem dX8_addSizes_94 : decode cX8_addSizes 94 = .ok (.getfield 9, 3) := by decide +kernel
theorem dX8_addSizes_97 : decode cX8_addSizes 97 = .ok (.iload 8, 2) := by decide +kernel
theorem dX8_addSizes_99 : decode cX8_addSizes 99 = .ok (.lload 6, 2) := by decide +kernel
theorem dX8_addSizes_101 : decode cX8_addSizes 101 = .ok (.l2i, 1) := by decide +kernel
theorem dX8_addSizes_102 : decode cX8_addSizes 102 = .ok (.iastore, 1) := by decide +kernel
theorem dX8_addSizes_103 : decode cX8_addSizes 103 = .ok (.lload 6, 2) := by decide +kernel
theorem dX8_addSizes_105 : decode cX8_addSizes 105 = .ok (.bipush 32, 2) := by decide +kernel
theorem dX8_addSizes_107 : decode cX8_addSizes 107 = .ok (.lushr, 1) := by decide +kernel
theorem dX8_addSizes_108 : decode cX8_addSizes 108 = .ok (.lstore 6, 2) := by decide +kernel
theorem dX8_addSizes_110 : decode cX8_addSizes 110 = .ok (.iinc 8 1, 3) := by decide +kernel
theorem dX8_addSizes_113 : decode cX8_addSizes 113 = .ok (.goto (-78), 3) := by decide +kernel
theorem dX8_addSizes_116 : decode cX8_addSizes 116 = .ok (.aload_n 0, 1) := by decide +kernel
theorem dX8_addSizes_117 : decode cX8_addSizes 117 = .ok (.iload 5, 2) := by decide +kernel
theorem dX8_addSizes_119 : decode cX8_addSizes 119 = .ok (.ifCond .le 22, 3) := by decide +kernel
theorem dX8_addSizes_122 : decode cX8_addSizes 122 = .ok (.aload_n 0, 1) := by decide +kernel
theorem dX8_addSizes_123 : decode cX8_addSizes 123 = .ok (.getfield 9, 3) := by decide +kernel
theorem dX8_addSizes_126 : decode cX8_addSizes 126 = .ok (.iload 5, 2) := by decide +kernel
theorem dX8_addSizes_128 : decode cX8_addSizes 128 = .ok (.iconst 1, 1) := by decide +kernel
theorem dX8_addSizes_129 : decode cX8_addSizes 129 = .ok (.isub, 1) := by decide +kernel
theorem dX8_addSizes_130 : decode cX8_addSizes 130 = .ok (.iaload, 1) := by decide +kernel
theorem dX8_addSizes_131 : decode cX8_addSizes 131 = .ok (.ifCond .ne 10, 3) := by decide +kernel
theorem dX8_addSizes_134 : decode cX8_addSizes 134 = .ok (.iload 5, 2) := by decide +kernel
theorem dX8_addSizes_136 : decode cX8_addSizes 136 = .ok (.iconst 1, 1) := by decide +kernel
theorem dX8_addSizes_137 : decode cX8_addSizes 137 = .ok (.isub, 1) := by decide +kernel
theorem dX8_addSizes_138 : decode cX8_addSizes 138 = .ok (.goto 5, 3) := by decide +kernel
theorem dX8_addSizes_141 : decode cX8_addSizes 141 = .ok (.iload 5, 2) := by decide +kernel
theorem dX8_addSizes_143 : decode cX8_addSizes 143 = .ok (.putfield 15, 3) := by decide +kernel
theorem dX8_addSizes_146 : decode cX8_addSizes 146 = .ok (.return_, 1) := by decide +kernel
theorem dX8_takeSizes_0 : decode cX8_takeSizes 0 = .ok (.aload_n 0, 1) := by decide +kernel
theorem dX8_takeSizes_1 : decode cX8_takeSizes 1 = .ok (.getfield 9, 3) := by decide +kernel
theorem dX8_takeSizes_4 : decode cX8_takeSizes 4 = .ok (.arraylength, 1) := by decide +kernel
theorem dX8_takeSizes_5 : decode cX8_takeSizes 5 = .ok (.aload_n 1, 1) := by decide +kernel
theorem dX8_takeSizes_6 : decode cX8_takeSizes 6 = .ok (.getfield 15, 3) := by decide +kernel
theorem dX8_takeSizes_9 : decode cX8_takeSizes 9 = .ok (.invokestatic 29, 3) := by decide +kernel
theorem dX8_takeSizes_12 : decode cX8_takeSizes 12 = .ok (.istore_n 3, 1) := by decide +kernel
theorem dX8_takeSizes_13 : decode cX8_takeSizes 13 = .ok (.aload_n 2, 1) := by decide +kernel
theorem dX8_takeSizes_14 : decode cX8_takeSizes 14 = .ok (.getfield 15, 3) := by decide +kernel
theorem dX8_takeSizes_17 : decode cX8_takeSizes 17 = .ok (.istore 4, 2) := by decide +kernel
theorem dX8_takeSizes_19 : decode cX8_takeSizes 19 = .ok (.lconst 0, 1) := by decide +kernel
theorem dX8_takeSizes_20 : decode cX8_takeSizes 20 = .ok (.lstore 5, 2) := by decide +kernel
theorem dX8_takeSizes_22 : decode cX8_takeSizes 22 = .ok (.iconst 0, 1) := by decide +kernel
theorem dX8_takeSizes_23 : decode cX8_takeSizes 23 = .ok (.istore 7, 2) := by decide +kernel
theorem dX8_takeSizes_25 : decode cX8_takeSizes 25 = .ok (.iload 7, 2) := by decide +kernel
theorem dX8_takeSizes_27 : decode cX8_takeSizes 27 = .ok (.iload_n 3, 1) := by decide +kernel
theorem dX8_takeSizes_28 : decode cX8_takeSizes 28 = .ok (.if_icmp .ge 74, 3) := by decide +kernel
theorem dX8_takeSizes_31 : decode cX8_takeSizes 31 = .ok (.aload_n 1, 1) := by decide +kernel
theorem dX8_takeSizes_32 : decode cX8_takeSizes 32 = .ok (.getfield 9, 3) := by decide +kernel
theorem dX8_takeSizes_35 : decode cX8_takeSizes 35 = .ok (.iload 7, 2) := by decide +kernel
theorem dX8_takeSizes_37 : decode cX8_takeSizes 37 = .ok (.iaload, 1) := by decide +kernel
theorem dX8_takeSizes_38 : decode cX8_takeSizes 38 = .ok (.i2l, 1) := by decide +kernel
theorem dX8_takeSizes_39 : decode cX8_takeSizes 39 = .ok (.ldc2_w 48, 3) := by decide +kernel
theorem dX8_takeSizes_42 : decode cX8_takeSizes 42 = .ok (.land, 1) := by decide +kernel
theorem dX8_takeSizes_43 : decode cX8_takeSizes 43 = .ok (.iload 7, 2) := by decide +kernel
theorem dX8_takeSizes_45 : decode cX8_takeSizes 45 = .ok (.iload 4, 2) := by decide +kernel
theorem dX8_takeSizes_47 : decode cX8_takeSizes 47 = .ok (.if_icmp .ge 18, 3) := by decide +kernel
theorem dX8_takeSizes_50 : decode cX8_takeSizes 50 = .ok (.aload_n 2, 1) := by decide +kernel
theorem dX8_takeSizes_51 : decode cX8_takeSizes 51 = .ok (.getfield 9, 3) := by decide +kernel
theorem dX8_takeSizes_54 : decode cX8_takeSizes 54 = .ok (.iload 7, 2) := by decide +kernel
theorem dX8_takeSizes_56 : decode cX8_takeSizes 56 = .ok (.iaload, 1) := by decide +kernel
theorem dX8_takeSizes_57 : decode cX8_takeSizes 57 = .ok (.i2l, 1) := by decide +kernel
theorem dX8_takeSizes_58 : decode cX8_takeSizes 58 = .ok (.ldc2_w 48, 3) := by decide +kernel
theorem dX8_takeSizes_61 : decode cX8_takeSizes 61 = .ok (.land, 1) := by decide +kernel
theorem dX8_takeSizes_62 : decode cX8_takeSizes 62 = .ok (.goto 4, 3) := by decide +kernel
theorem dX8_takeSizes_65 : decode cX8_takeSizes 65 = .ok (.lconst 0, 1) := by decide +kernel
theorem dX8_takeSizes_66 : decode cX8_takeSizes 66 = .ok (.lsub, 1) := by decide +kernel
theorem dX8_takeSizes_67 : decode cX8_takeSizes 67 = .ok (.lload 5, 2) := by decide +kernel
theorem dX8_takeSizes_69 : decode cX8_takeSizes 69 = .ok (.lsub, 1) := by decide +kernel
theorem dX8_takeSizes_70 : decode cX8_takeSizes 70 = .ok (.lstore 8, 2) := by decide +kernel
theorem dX8_takeSizes_72 : decode cX8_takeSizes 72 = .ok (.aload_n 0, 1) := by decide +kernel
theorem dX8_takeSizes_73 : decode cX8_takeSizes 73 = .ok (.getfield 9, 3) := by decide +kernel
theorem dX8_takeSizes_76 : decode cX8_takeSizes 76 = .ok (.iload 7, 2) := by decide +kernel
theorem dX8_takeSizes_78 : decode cX8_takeSizes 78 = .ok (.lload 8, 2) := by decide +kernel
theorem dX8_takeSizes_80 : decode cX8_takeSizes 80 = .ok (.l2i, 1) := by decide +kernel
theorem dX8_takeSizes_81 : decode cX8_takeSizes 81 = .ok (.iastore, 1) := by decide +kernel
theorem dX8_takeSizes_82 : decode cX8_takeSizes 82 = .ok (.lload 8, 2) := by decide +kernel
theorem dX8_takeSizes_84 : decode cX8_takeSizes 84 = .ok (.lconst 0, 1) := by decide +kernel
theorem dX8_takeSizes_85 : decode cX8_takeSizes 85 = .ok (.lcmp, 1) := by decide +kernel
theorem dX8_takeSizes_86 : decode cX8_takeSizes 86 = .ok (.ifCond .ge 7, 3) := by decide +kernel
theorem dX8_takeSizes_89 : decode cX8_takeSizes 89 = .ok (.lconst 1, 1) := by decide +kernel
theorem dX8_takeSizes_90 : decode cX8_takeSizes 90 = .ok (.goto 4, 3) := by decide +kernel
theorem dX8_takeSizes_93 : decode cX8_takeSizes 93 = .ok (.lconst 0, 1) := by decide +kernel
theorem dX8_takeSizes_94 : decode cX8_takeSizes 94 = .ok (.lstore 5, 2) := by decide +kernel
theorem dX8_takeSizes_96 : decode cX8_takeSizes 96 = .ok (.iinc 7 1, 3) := by decide +kernel
theorem dX8_takeSizes_99 : decode cX8_takeSizes 99 = .ok (.goto (-74), 3) := by decide +kernel
theorem dX8_takeSizes_102 : decode cX8_takeSizes 102 = .ok (.aload_n 0, 1) := by decide +kernel
theorem dX8_takeSizes_103 : decode cX8_takeSizes 103 = .ok (.iload_n 3, 1) := by decide +kernel
theorem dX8_takeSizes_104 : decode cX8_takeSizes 104 = .ok (.putfield 15, 3) := by decide +kernel
theorem dX8_takeSizes_107 : decode cX8_takeSizes 107 = .ok (.aload_n 0, 1) := by decide +kernel
theorem dX8_takeSizes_108 : decode cX8_takeSizes 108 = .ok (.getfield 15, 3) := by decide +kernel
theorem dX8_takeSizes_111 : decode cX8_takeSizes 111 = .ok (.ifCond .le 30, 3) := by decide +kernel
theorem dX8_takeSizes_114 : decode cX8_takeSizes 114 = .ok (.aload_n 0, 1) := by decide +kernel
theorem dX8_takeSizes_115 : decode cX8_takeSizes 115 = .ok (.getfield 9, 3) := by decide +kernel
theorem dX8_takeSizes_118 : decode cX8_takeSizes 118 = .ok (.aload_n 0, 1) := by decide +kernel
theorem dX8_takeSizes_119 : decode cX8_takeSizes 119 = .ok (.getfield 15, 3) := by decide +kernel
theorem dX8_takeSizes_122 : decode cX8_takeSizes 122 = .ok (.iconst 1, 1) := by decide +kernel
theorem dX8_takeSizes_123 : decode cX8_takeSizes 123 = .ok (.isub, 1) := by decide +kernel
theorem dX8_takeSizes_124 : decode cX8_takeSizes 124 = .ok (.iaload, 1) := by decide +kernel
theorem dX8_takeSizes_125 : decode cX8_takeSizes 125 = .ok (.ifCond .ne 16, 3) := by decide +kernel
theorem dX8_takeSizes_128 : decode cX8_takeSizes 128 = .ok (.aload_n 0, 1) := by decide +kernel
theorem dX8_takeSizes_129 : decode cX8_takeSizes 129 = .ok (.dup, 1) := by decide +kernel
theorem dX8_takeSizes_130 : decode cX8_takeSizes 130 = .ok (.getfield 15, 3) := by decide +kernel
theorem dX8_takeSizes_133 : decode cX8_takeSizes 133 = .ok (.iconst 1, 1) := by decide +kernel
theorem dX8_takeSizes_134 : decode cX8_takeSizes 134 = .ok (.isub, 1) := by decide +kernel
theorem dX8_takeSizes_135 : decode cX8_takeSizes 135 = .ok (.putfield 15, 3) := by decide +kernel
theorem dX8_takeSizes_138 : decode cX8_takeSizes 138 = .ok (.goto (-31), 3) := by decide +kernel
theorem dX8_takeSizes_141 : decode cX8_takeSizes 141 = .ok (.return_, 1) := by decide +kernel
theorem dX8_shiftDown_0 : decode cX8_shiftDown 0 = .ok (.iload_n 1, 1) := by decide +kernel
theorem dX8_shiftDown_1 : decode cX8_shiftDown 1 = .ok (.bipush 32, 2) := by decide +kernel
theorem dX8_shiftDown_3 : decode cX8_shiftDown 3 = .ok (.idiv, 1) := by decide +kernel
theorem dX8_shiftDown_4 : decode cX8_shiftDown 4 = .ok (.istore_n 2, 1) := by decide +kernel
theorem dX8_shiftDown_5 : decode cX8_shiftDown 5 = .ok (.iload_n 1, 1) := by decide +kernel
theorem dX8_shiftDown_6 : decode cX8_shiftDown 6 = .ok (.bipush 32, 2) := by decide +kernel
theorem dX8_shiftDown_8 : decode cX8_shiftDown 8 = .ok (.irem, 1) := by decide +kernel
theorem dX8_shiftDown_9 : decode cX8_shiftDown 9 = .ok (.istore_n 3, 1) := by decide +kernel
theorem dX8_shiftDown_10 : decode cX8_shiftDown 10 = .ok (.aload_n 0, 1) := by decide +kernel
theorem dX8_shiftDown_11 : decode cX8_shiftDown 11 = .ok (.getfield 15, 3) := by decide +kernel
theorem dX8_shiftDown_14 : decode cX8_shiftDown 14 = .ok (.iload_n 2, 1) := by decide +kernel
theorem dX8_shiftDown_15 : decode cX8_shiftDown 15 = .ok (.isub, 1) := by decide +kernel
theorem dX8_shiftDown_16 : decode cX8_shiftDown 16 = .ok (.iconst 0, 1) := by decide +kernel
theorem dX8_shiftDown_17 : decode cX8_shiftDown 17 = .ok (.invokestatic 71, 3) := by decide +kernel
theorem dX8_shiftDown_20 : decode cX8_shiftDown 20 = .ok (.istore 4, 2) := by decide +kernel
theorem dX8_shiftDown_22 : decode cX8_shiftDown 22 = .ok (.iconst 0, 1) := by decide +kernel
theorem dX8_shiftDown_23 : decode cX8_shiftDown 23 = .ok (.istore 5, 2) := by decide +kernel
theorem dX8_shiftDown_25 : decode cX8_shiftDown 25 = .ok (.iload 5, 2) := by decide +kernel
theorem dX8_shiftDown_27 : decode cX8_shiftDown 27 = .ok (.iload 4, 2) := by decide +kernel
theorem dX8_shiftDown_29 : decode cX8_shiftDown 29 = .ok (.if_icmp .ge 82, 3) := by decide +kernel
theorem dX8_shiftDown_32 : decode cX8_shiftDown 32 = .ok (.aload_n 0, 1) := by decide +kernel
theorem dX8_shiftDown_33 : decode cX8_shiftDown 33 = .ok (.getfield 9, 3) := by decide +kernel
theorem dX8_shiftDown_36 : decode cX8_shiftDown 36 = .ok (.iload 5, 2) := by decide +kernel
theorem dX8_shiftDown_38 : decode cX8_shiftDown 38 = .ok (.iload_n 2, 1) := by decide +kernel
theorem dX8_shiftDown_39 : decode cX8_shiftDown 39 = .ok (.iadd, 1) := by decide +kernel
theorem dX8_shiftDown_40 : decode cX8_shiftDown 40 = .ok (.iaload, 1) := by decide +kernel
theorem dX8_shiftDown_41 : decode cX8_shiftDown 41 = .ok (.iload_n 3, 1) := by decide +kernel
theorem dX8_shiftDown_42 : decode cX8_shiftDown 42 = .ok (.iushr, 1) := by decide +kernel
theorem dX8_shiftDown_43 : decode cX8_shiftDown 43 = .ok (.istore 6, 2) := by decide +kernel
theorem dX8_shiftDown_45 : decode cX8_shiftDown 45 = .ok (.iload_n 3, 1) := by decide +kernel
theorem dX8_shiftDown_46 : decode cX8_shiftDown 46 = .ok (.ifCond .le 20, 3) := by decide +kernel
theorem dX8_shiftDown_49 : decode cX8_shiftDown 49 = .ok (.iload 5, 2) := by decide +kernel
theorem dX8_shiftDown_51 : decode cX8_shiftDown 51 = .ok (.iload_n 2, 1) := by decide +kernel
theorem dX8_shiftDown_52 : decode cX8_shiftDown 52 = .ok (.iadd, 1) := by decide +kernel
theorem dX8_shiftDown_53 : decode cX8_shiftDown 53 = .ok (.iconst 1, 1) := by decide +kernel
theorem dX8_shiftDown_54 : decode cX8_shiftDown 54 = .ok (.iadd, 1) := by decide +kernel
theorem dX8_shiftDown_55 : decode cX8_shiftDown 55 = .ok (.aload_n 0, 1) := by decide +kernel
theorem dX8_shiftDown_56 : decode cX8_shiftDown 56 = .ok (.getfield 15, 3) := by decide +kernel
theorem dX8_shiftDown_59 : decode cX8_shiftDown 59 = .ok (.if_icmp .ge 7, 3) := by decide +kernel
theorem dX8_shiftDown_62 : decode cX8_shiftDown 62 = .ok (.iconst 1, 1) := by decide +kernel
theorem dX8_shiftDown_63 : decode cX8_shiftDown 63 = .ok (.goto 4, 3) := by decide +kernel
theorem dX8_shiftDown_66 : decode cX8_shiftDown 66 = .ok (.iconst 0, 1) := by decide +kernel
theorem dX8_shiftDown_67 : decode cX8_shiftDown 67 = .ok (.istore 7, 2) := by decide +kernel
theorem dX8_shiftDown_69 : decode cX8_shiftDown 69 = .ok (.aload_n 0, 1) := by decide +kernel
theorem dX8_shiftDown_70 : decode cX8_shiftDown 70 = .ok (.getfield 9, 3) := by decide +kernel
theorem dX8_shiftDown_73 : decode cX8_shiftDown 73 = .ok (.iload 5, 2) := by decide +kernel
theorem dX8_shiftDown_75 : decode cX8_shiftDown 75 = .ok (.iload 7, 2) := by decide +kernel
theorem dX8_shiftDown_77 : decode cX8_shiftDown 77 = .ok (.ifCond .eq 25, 3) := by decide +kernel
theorem dX8_shiftDown_80 : decode cX8_shiftDown 80 = .ok (.iload 6, 2) := by decide +kernel
theorem dX8_shiftDown_82 : decode cX8_shiftDown 82 = .ok (.aload_n 0, 1) := by decide +kernel
theorem dX8_shiftDown_83 : decode cX8_shiftDown 83 = .ok (.getfield 9, 3) := by decide +kernel
theorem dX8_shiftDown_86 : decode cX8_shiftDown 86 = .ok (.iload 5, 2) := by decide +kernel
theorem dX8_shiftDown_88 : decode cX8_shiftDown 88 = .ok (.iload_n 2, 1) := by decide +kernel
theorem dX8_shiftDown_89 : decode cX8_shiftDown 89 = .ok (.iadd, 1) := by decide +kernel
theorem dX8_shiftDown_90 : decode cX8_shiftDown 90 = .ok (.iconst 1, 1) := by decide +kernel
theorem dX8_shiftDown_91 : decode cX8_shiftDown 91 = .ok (.iadd, 1) := by decide +kernel
theorem dX8_shiftDown_92 : decode cX8_shiftDown 92 = .ok (.iaload, 1) := by decide +kernel
theorem dX8_shiftDown_93 : decode cX8_shiftDown 93 = .ok (.bipush 32, 2) := by decide +kernel
theorem dX8_shiftDown_95 : decode cX8_shiftDown 95 = .ok (.iload_n 3, 1) := by decide +kernel
theorem dX8_shiftDown_96 : decode cX8_shiftDown 96 = .ok (.isub, 1) := by decide +kernel
theorem dX8_shiftDown_97 : decode cX8_shiftDown 97 = .ok (.ishl, 1) := by decide +kernel
theorem dX8_shiftDown_98 : decode cX8_shiftDown 98 = .ok (.ior, 1) := by decide +kernel
theorem dX8_shiftDown_99 : decode cX8_shiftDown 99 = .ok (.goto 5, 3) := by decide +kernel
theorem dX8_shiftDown_102 : decode cX8_shiftDown 102 = .ok (.iload 6, 2) := by decide +kernel
theorem dX8_shiftDown_104 : decode cX8_shiftDown 104 = .ok (.iastore, 1) := by decide +kernel
theorem dX8_shiftDown_105 : decode cX8_shiftDown 105 = .ok (.iinc 5 1, 3) := by decide +kernel
theorem dX8_shiftDown_108 : decode cX8_shiftDown 108 = .ok (.goto (-83), 3) := by decide +kernel
theorem dX8_shiftDown_111 : decode cX8_shiftDown 111 = .ok (.aload_n 0, 1) := by decide +kernel
theorem dX8_shiftDown_112 : decode cX8_shiftDown 112 = .ok (.iload 4, 2) := by decide +kernel
theorem dX8_shiftDown_114 : decode cX8_shiftDown 114 = .ok (.ifCond .le 22, 3) := by decide +kernel
theorem dX8_shiftDown_117 : decode cX8_shiftDown 117 = .ok (.aload_n 0, 1) := by decide +kernel
theorem dX8_shiftDown_118 : decode cX8_shiftDown 118 = .ok (.getfield 9, 3) := by decide +kernel
theorem dX8_shiftDown_121 : decode cX8_shiftDown 121 = .ok (.iload 4, 2) := by decide +kernel
theorem dX8_shiftDown_123 : decode cX8_shiftDown 123 = .ok (.iconst 1, 1) := by decide +kernel
theorem dX8_shiftDown_124 : decode cX8_shiftDown 124 = .ok (.isub, 1) := by decide +kernel
theorem dX8_shiftDown_125 : decode cX8_shiftDown 125 = .ok (.iaload, 1) := by decide +kernel
theorem dX8_shiftDown_126 : decode cX8_shiftDown 126 = .ok (.ifCond .ne 10, 3) := by decide +kernel
theorem dX8_shiftDown_129 : decode cX8_shiftDown 129 = .ok (.iload 4, 2) := by decide +kernel
theorem dX8_shiftDown_131 : decode cX8_shiftDown 131 = .ok (.iconst 1, 1) := by decide +kernel
theorem dX8_shiftDown_132 : decode cX8_shiftDown 132 = .ok (.isub, 1) := by decide +kernel
theorem dX8_shiftDown_133 : decode cX8_shiftDown 133 = .ok (.goto 5, 3) := by decide +kernel
theorem dX8_shiftDown_136 : decode cX8_shiftDown 136 = .ok (.iload 4, 2) := by decide +kernel
theorem dX8_shiftDown_138 : decode cX8_shiftDown 138 = .ok (.putfield 15, 3) := by decide +kernel
theorem dX8_shiftDown_141 : decode cX8_shiftDown 141 = .ok (.return_, 1) := by decide +kernel
theorem dX8_divideEvenly_0 : decode cX8_divideEvenly 0 = .ok (.aload_n 1, 1) := by decide +kernel
theorem dX8_divideEvenly_1 : decode cX8_divideEvenly 1 = .ok (.getfield 15, 3) := by decide +kernel
theorem dX8_divideEvenly_4 : decode cX8_divideEvenly 4 = .ok (.ifCond .eq 14, 3) := by decide +kernel
theorem dX8_divideEvenly_7 : decode cX8_divideEvenly 7 = .ok (.aload_n 1, 1) := by decide +kernel
theorem dX8_divideEvenly_8 : decode cX8_divideEvenly 8 = .ok (.getfield 15, 3) := by decide +kernel
theorem dX8_divideEvenly_11 : decode cX8_divideEvenly 11 = .ok (.aload_n 0, 1) := by decide +kernel
theorem dX8_divideEvenly_12 : decode cX8_divideEvenly 12 = .ok (.getfield 15, 3) := by decide +kernel
theorem dX8_divideEvenly_15 : decode cX8_divideEvenly 15 = .ok (.if_icmp .le 4, 3) := by decide +kernel
theorem dX8_divideEvenly_18 : decode cX8_divideEvenly 18 = .ok (.return_, 1) := by decide +kernel
theorem dX8_divideEvenly_19 : decode cX8_divideEvenly 19 = .ok (.aload_n 1, 1) := by decide +kernel
theorem dX8_divideEvenly_20 : decode cX8_divideEvenly 20 = .ok (.getfield 9, 3) := by decide +kernel
theorem dX8_divideEvenly_23 : decode cX8_divideEvenly 23 = .ok (.iconst 0, 1) := by decide +kernel
theorem dX8_divideEvenly_24 : decode cX8_divideEvenly 24 = .ok (.iaload, 1) := by decide +kernel
theorem dX8_divideEvenly_25 : decode cX8_divideEvenly 25 = .ok (.invokestatic 74, 3) := by decide +kernel
theorem dX8_divideEvenly_28 : decode cX8_divideEvenly 28 = .ok (.istore_n 2, 1) := by decide +kernel
theorem dX8_divideEvenly_29 : decode cX8_divideEvenly 29 = .ok (.aload_n 0, 1) := by decide +kernel
theorem dX8_divideEvenly_30 : decode cX8_divideEvenly 30 = .ok (.getfield 15, 3) := by decide +kernel
theorem dX8_divideEvenly_33 : decode cX8_divideEvenly 33 = .ok (.aload_n 1, 1) := by decide +kernel
theorem dX8_divideEvenly_34 : decode cX8_divideEvenly 34 = .ok (.getfield 15, 3) := by decide +kernel
theorem dX8_divideEvenly_37 : decode cX8_divideEvenly 37 = .ok (.isub, 1) := by decide +kernel
theorem dX8_divideEvenly_38 : decode cX8_divideEvenly 38 = .ok (.iconst 1, 1) := by decide +kernel
theorem dX8_divideEvenly_39 : decode cX8_divideEvenly 39 = .ok (.iadd, 1) := by decide +kernel
theorem dX8_divideEvenly_40 : decode cX8_divideEvenly 40 = .ok (.istore_n 3, 1) := by decide +kernel
theorem dX8_divideEvenly_41 : decode cX8_divideEvenly 41 = .ok (.iconst 0, 1) := by decide +kernel
theorem dX8_divideEvenly_42 : decode cX8_divideEvenly 42 = .ok (.istore 4, 2) := by decide +kernel
theorem dX8_divideEvenly_44 : decode cX8_divideEvenly 44 = .ok (.iload 4, 2) := by decide +kernel
theorem dX8_divideEvenly_46 : decode cX8_divideEvenly 46 = .ok (.iload_n 3, 1) := by decide +kernel
theorem dX8_divideEvenly_47 : decode cX8_divideEvenly 47 = .ok (.if_icmp .ge 44, 3) := by decide +kernel
theorem dX8_divideEvenly_50 : decode cX8_divideEvenly 50 = .ok (.aload_n 0, 1) := by decide +kernel
theorem dX8_divideEvenly_51 : decode cX8_divideEvenly 51 = .ok (.getfield 9, 3) := by decide +kernel
theorem dX8_divideEvenly_54 : decode cX8_divideEvenly 54 = .ok (.iload 4, 2) := by decide +kernel
theorem dX8_divideEvenly_56 : decode cX8_divideEvenly 56 = .ok (.iaload, 1) := by decide +kernel
theorem dX8_divideEvenly_57 : decode cX8_divideEvenly 57 = .ok (.iload_n 2, 1) := by decide +kernel
theorem dX8_divideEvenly_58 : decode cX8_divideEvenly 58 = .ok (.imul, 1) := by decide +kernel
theorem dX8_divideEvenly_59 : decode cX8_divideEvenly 59 = .ok (.istore 5, 2) := by decide +kernel
theorem dX8_divideEvenly_61 : decode cX8_divideEvenly 61 = .ok (.aload_n 0, 1) := by decide +kernel
theorem dX8_divideEvenly_62 : decode cX8_divideEvenly 62 = .ok (.iload 5, 2) := by decide +kernel
theorem dX8_divideEvenly_64 : decode cX8_divideEvenly 64 = .ok (.i2l, 1) := by decide +kernel
theorem dX8_divideEvenly_65 : decode cX8_divideEvenly 65 = .ok (.ldc2_w 48, 3) := by decide +kernel
theorem dX8_divideEvenly_68 : decode cX8_divideEvenly 68 = .ok (.land, 1) := by decide +kernel
theorem dX8_divideEvenly_69 : decode cX8_divideEvenly 69 = .ok (.aload_n 1, 1) := by decide +kernel
theorem dX8_divideEvenly_70 : decode cX8_divideEvenly 70 = .ok (.iload 4, 2) := by decide +kernel
theorem dX8_divideEvenly_72 : decode cX8_divideEvenly 72 = .ok (.iload_n 3, 1) := by decide +kernel
theorem dX8_divideEvenly_73 : decode cX8_divideEvenly 73 = .ok (.invokevirtual 77, 3) := by decide +kernel
theorem dX8_divideEvenly_76 : decode cX8_divideEvenly 76 = .ok (.aload_n 0, 1) := by decide +kernel
theorem dX8_divideEvenly_77 : decode cX8_divideEvenly 77 = .ok (.getfield 9, 3) := by decide +kernel
theorem dX8_divideEvenly_80 : decode cX8_divideEvenly 80 = .ok (.iload 4, 2) := by decide +kernel
theorem dX8_divideEvenly_82 : decode cX8_divideEvenly 82 = .ok (.iload 5, 2) := by decide +kernel
theorem dX8_divideEvenly_84 : decode cX8_divideEvenly 84 = .ok (.iastore, 1) := by decide +kernel
theorem dX8_divideEvenly_85 : decode cX8_divideEvenly 85 = .ok (.iinc 4 1, 3) := by decide +kernel
theorem dX8_divideEvenly_88 : decode cX8_divideEvenly 88 = .ok (.goto (-44), 3) := by decide +kernel
theorem dX8_divideEvenly_91 : decode cX8_divideEvenly 91 = .ok (.aload_n 0, 1) := by decide +kernel
theorem dX8_divideEvenly_92 : decode cX8_divideEvenly 92 = .ok (.iload_n 3, 1) := by decide +kernel
theorem dX8_divideEvenly_93 : decode cX8_divideEvenly 93 = .ok (.ifCond .le 20, 3) := by decide +kernel
theorem dX8_divideEvenly_96 : decode cX8_divideEvenly 96 = .ok (.aload_n 0, 1) := by decide +kernel
theorem dX8_divideEvenly_97 : decode cX8_divideEvenly 97 = .ok (.getfield 9, 3) := by decide +kernel
theorem dX8_divideEvenly_100 : decode cX8_divideEvenly 100 = .ok (.iload_n 3, 1) := by decide +kernel
theorem dX8_divideEvenly_101 : decode cX8_divideEvenly 101 = .ok (.iconst 1, 1) := by decide +kernel
theorem dX8_divideEvenly_102 : decode cX8_divideEvenly 102 = .ok (.isub, 1) := by decide +kernel
theorem dX8_divideEvenly_103 : decode cX8_divideEvenly 103 = .ok (.iaload, 1) := by decide +kernel
theorem dX8_divideEvenly_104 : decode cX8_divideEvenly 104 = .ok (.ifCond .ne 9, 3) := by decide +kernel
theorem dX8_divideEvenly_107 : decode cX8_divideEvenly 107 = .ok (.iload_n 3, 1) := by decide +kernel
theorem dX8_divideEvenly_108 : decode cX8_divideEvenly 108 = .ok (.iconst 1, 1) := by decide +kernel
theorem dX8_divideEvenly_109 : decode cX8_divideEvenly 109 = .ok (.isub, 1) := by decide +kernel
theorem dX8_divideEvenly_110 : decode cX8_divideEvenly 110 = .ok (.goto 4, 3) := by decide +kernel
theorem dX8_divideEvenly_113 : decode cX8_divideEvenly 113 = .ok (.iload_n 3, 1) := by decide +kernel
theorem dX8_divideEvenly_114 : decode cX8_divideEvenly 114 = .ok (.putfield 15, 3) := by decide +kernel
theorem dX8_divideEvenly_117 : decode cX8_divideEvenly 117 = .ok (.return_, 1) := by decide +kernel
theorem dX8_takeMultiple_0 : decode cX8_takeMultiple 0 = .ok (.lconst 0, 1) := by decide +kernel
theorem dX8_takeMultiple_1 : decode cX8_takeMultiple 1 = .ok (.lstore 6, 2) := by decide +kernel
theorem dX8_takeMultiple_3 : decode cX8_takeMultiple 3 = .ok (.iload 4, 2) := by decide +kernel
theorem dX8_takeMultiple_5 : decode cX8_takeMultiple 5 = .ok (.istore 8, 2) := by decide +kernel
theorem dX8_takeMultiple_7 : decode cX8_takeMultiple 7 = .ok (.iload 8, 2) := by decide +kernel
theorem dX8_takeMultiple_9 : decode cX8_takeMultiple 9 = .ok (.iload 5, 2) := by decide +kernel
theorem dX8_takeMultiple_11 : decode cX8_takeMultiple 11 = .ok (.if_icmp .ge 99, 3) := by decide +kernel
theorem dX8_takeMultiple_14 : decode cX8_takeMultiple 14 = .ok (.lload 6, 2) := by decide +kernel
theorem dX8_takeMultiple_16 : decode cX8_takeMultiple 16 = .ok (.lstore 9, 2) := by decide +kernel
theorem dX8_takeMultiple_18 : decode cX8_takeMultiple 18 = .ok (.iload 8, 2) := by decide +kernel
theorem dX8_takeMultiple_20 : decode cX8_takeMultiple 20 = .ok (.iload 4, 2) := by decide +kernel
theorem dX8_takeMultiple_22 : decode cX8_takeMultiple 22 = .ok (.isub, 1) := by decide +kernel
theorem dX8_takeMultiple_23 : decode cX8_takeMultiple 23 = .ok (.aload_n 3, 1) := by decide +kernel
theorem dX8_takeMultiple_24 : decode cX8_takeMultiple 24 = .ok (.getfield 15, 3) := by decide +kernel
theorem dX8_takeMultiple_27 : decode cX8_takeMultiple 27 = .ok (.if_icmp .ge 25, 3) := by decide +kernel
theorem dX8_takeMultiple_30 : decode cX8_takeMultiple 30 = .ok (.lload 9, 2) := by decide +kernel
theorem dX8_takeMultiple_32 : decode cX8_takeMultiple 32 = .ok (.lload_n 1, 1) := by decide +kernel
theorem dX8_takeMultiple_33 : decode cX8_takeMultiple 33 = .ok (.aload_n 3, 1) := by decide +kernel
theorem dX8_takeMultiple_34 : decode cX8_takeMultiple 34 = .ok (.getfield 9, 3) := by decide +kernel
theorem dX8_takeMultiple_37 : decode cX8_takeMultiple 37 = .ok (.iload 8, 2) := by decide +kernel
theorem dX8_takeMultiple_39 : decode cX8_takeMultiple 39 = .ok (.iload 4, 2) := by decide +kernel
theorem dX8_takeMultiple_41 : decode cX8_takeMultiple 41 = .ok (.isub, 1) := by decide +kernel
theorem dX8_takeMultiple_42 : decode cX8_takeMultiple 42 = .ok (.iaload, 1) := by decide +kernel
theorem dX8_takeMultiple_43 : decode cX8_takeMultiple 43 = .ok (.i2l, 1) := by decide +kernel
theorem dX8_takeMultiple_44 : decode cX8_takeMultiple 44 = .ok (.ldc2_w 48, 3) := by decide +kernel
theorem dX8_takeMultiple_47 : decode cX8_takeMultiple 47 = .ok (.land, 1) := by decide +kernel
theorem dX8_takeMultiple_48 : decode cX8_takeMultiple 48 = .ok (.lmul, 1) := by decide +kernel
theorem dX8_takeMultiple_49 : decode cX8_takeMultiple 49 = .ok (.ladd, 1) := by decide +kernel
theorem dX8_takeMultiple_50 : decode cX8_takeMultiple 50 = .ok (.lstore 9, 2) := by decide +kernel
theorem dX8_takeMultiple_52 : decode cX8_takeMultiple 52 = .ok (.aload_n 0, 1) := by decide +kernel
theorem dX8_takeMultiple_53 : decode cX8_takeMultiple 53 = .ok (.getfield 9, 3) := by decide +kernel
theorem dX8_takeMultiple_56 : decode cX8_takeMultiple 56 = .ok (.iload 8, 2) := by decide +kernel
theorem dX8_takeMultiple_58 : decode cX8_takeMultiple 58 = .ok (.iaload, 1) := by decide +kernel
theorem dX8_takeMultiple_59 : decode cX8_takeMultiple 59 = .ok (.i2l, 1) := by decide +kernel
theorem dX8_takeMultiple_60 : decode cX8_takeMultiple 60 = .ok (.ldc2_w 48, 3) := by decide +kernel
theorem dX8_takeMultiple_63 : decode cX8_takeMultiple 63 = .ok (.land, 1) := by decide +kernel
theorem dX8_takeMultiple_64 : decode cX8_takeMultiple 64 = .ok (.lload 9, 2) := by decide +kernel
theorem dX8_takeMultiple_66 : decode cX8_takeMultiple 66 = .ok (.ldc2_w 48, 3) := by decide +kernel
theorem dX8_takeMultiple_69 : decode cX8_takeMultiple 69 = .ok (.land, 1) := by decide +kernel
theorem dX8_takeMultiple_70 : decode cX8_takeMultiple 70 = .ok (.lsub, 1) := by decide +kernel
theorem dX8_takeMultiple_71 : decode cX8_takeMultiple 71 = .ok (.lstore 11, 2) := by decide +kernel
theorem dX8_takeMultiple_73 : decode cX8_takeMultiple 73 = .ok (.aload_n 0, 1) := by decide +kernel
theorem dX8_takeMultiple_74 : decode cX8_takeMultiple 74 = .ok (.getfield 9, 3) := by decide +kernel
theorem dX8_takeMultiple_77 : decode cX8_takeMultiple 77 = .ok (.iload 8, 2) := by decide +kernel
theorem dX8_takeMultiple_79 : decode cX8_takeMultiple 79 = .ok (.lload 11, 2) := by decide +kernel
theorem dX8_takeMultiple_81 : decode cX8_takeMultiple 81 = .ok (.l2i, 1) := by decide +kernel
theorem dX8_takeMultiple_82 : decode cX8_takeMultiple 82 = .ok (.iastore, 1) := by decide +kernel
theorem dX8_takeMultiple_83 : decode cX8_takeMultiple 83 = .ok (.lload 9, 2) := by decide +kernel
theorem dX8_takeMultiple_85 : decode cX8_takeMultiple 85 = .ok (.bipush 32, 2) := by decide +kernel
theorem dX8_takeMultiple_87 : decode cX8_takeMultiple 87 = .ok (.lushr, 1) := by decide +kernel
theorem dX8_takeMultiple_88 : decode cX8_takeMultiple 88 = .ok (.lload 11, 2) := by decide +kernel
theorem dX8_takeMultiple_90 : decode cX8_takeMultiple 90 = .ok (.lconst 0, 1) := by decide +kernel
theorem dX8_takeMultiple_91 : decode cX8_takeMultiple 91 = .ok (.lcmp, 1) := by decide +kernel
theorem dX8_takeMultiple_92 : decode cX8_takeMultiple 92 = .ok (.ifCond .ge 7, 3) := by decide +kernel
theorem dX8_takeMultiple_95 : decode cX8_takeMultiple 95 = .ok (.iconst 1, 1) := by decide +kernel
theorem dX8_takeMultiple_96 : decode cX8_takeMultiple 96 = .ok (.goto 4, 3) := by decide +kernel
theorem dX8_takeMultiple_99 : decode cX8_takeMultiple 99 = .ok (.iconst 0, 1) := by decide +kernel
theorem dX8_takeMultiple_100 : decode cX8_takeMultiple 100 = .ok (.i2l, 1) := by decide +kernel
theorem dX8_takeMultiple_101 : decode cX8_takeMultiple 101 = .ok (.ladd, 1) := by decide +kernel
theorem dX8_takeMultiple_102 : decode cX8_takeMultiple 102 = .ok (.lstore 6, 2) := by decide +kernel
theorem dX8_takeMultiple_104 : decode cX8_takeMultiple 104 = .ok (.iinc 8 1, 3) := by decide +kernel
theorem dX8_takeMultiple_107 : decode cX8_takeMultiple 107 = .ok (.goto (-100), 3) := by decide +kernel
theorem dX8_takeMultiple_110 : decode cX8_takeMultiple 110 = .ok (.return_, 1) := by decide +kernel
theorem dX8_inverseOf_0 : decode cX8_inverseOf 0 = .ok (.iload_n 0, 1) := by decide +kernel
theorem dX8_inverseOf_1 : decode cX8_inverseOf 1 = .ok (.istore_n 1, 1) := by decide +kernel
theorem dX8_inverseOf_2 : decode cX8_inverseOf 2 = .ok (.iconst 0, 1) := by decide +kernel
theorem dX8_inverseOf_3 : decode cX8_inverseOf 3 = .ok (.istore_n 2, 1) := by decide +kernel
theorem dX8_inverseOf_4 : decode cX8_inverseOf 4 = .ok (.iload_n 2, 1) := by decide +kernel
theorem dX8_inverseOf_5 : decode cX8_inverseOf 5 = .ok (.iconst 4, 1) := by decide +kernel
theorem dX8_inverseOf_6 : decode cX8_inverseOf 6 = .ok (.if_icmp .ge 17, 3) := by decide +kernel
theorem dX8_inverseOf_9 : decode cX8_inverseOf 9 = .ok (.iload_n 1, 1) := by decide +kernel
theorem dX8_inverseOf_10 : decode cX8_inverseOf 10 = .ok (.iconst 2, 1) := by decide +kernel
theorem dX8_inverseOf_11 : decode cX8_inverseOf 11 = .ok (.iload_n 0, 1) := by decide +kernel
theorem dX8_inverseOf_12 : decode cX8_inverseOf 12 = .ok (.iload_n 1, 1) := by decide +kernel
theorem dX8_inverseOf_13 : decode cX8_inverseOf 13 = .ok (.imul, 1) := by decide +kernel
theorem dX8_inverseOf_14 : decode cX8_inverseOf 14 = .ok (.isub, 1) := by decide +kernel
theorem dX8_inverseOf_15 : decode cX8_inverseOf 15 = .ok (.imul, 1) := by decide +kernel
theorem dX8_inverseOf_16 : decode cX8_inverseOf 16 = .ok (.istore_n 1, 1) := by decide +kernel
theorem dX8_inverseOf_17 : decode cX8_inverseOf 17 = .ok (.iinc 2 1, 3) := by decide +kernel
theorem dX8_inverseOf_20 : decode cX8_inverseOf 20 = .ok (.goto (-16), 3) := by decide +kernel
theorem dX8_inverseOf_23 : decode cX8_inverseOf 23 = .ok (.iload_n 1, 1) := by decide +kernel
theorem dX8_inverseOf_24 : decode cX8_inverseOf 24 = .ok (.ireturn, 1) := by decide +kernel
theorem dX8_takeNineDigits_0 : decode cX8_takeNineDigits 0 = .ok (.lconst 0, 1) := by decide +kernel
theorem dX8_takeNineDigits_1 : decode cX8_takeNineDigits 1 = .ok (.lstore_n 1, 1) := by decide +kernel
theorem dX8_takeNineDigits_2 : decode cX8_takeNineDigits 2 = .ok (.aload_n 0, 1) := by decide +kernel
theorem dX8_takeNineDigits_3 : decode cX8_takeNineDigits 3 = .ok (.getfield 15, 3) := by decide +kernel
theorem dX8_takeNineDigits_6 : decode cX8_takeNineDigits 6 = .ok (.iconst 1, 1) := by decide +kernel
theorem dX8_takeNineDigits_7 : decode cX8_takeNineDigits 7 = .ok (.isub, 1) := by decide +kernel
theorem dX8_takeNineDigits_8 : decode cX8_takeNineDigits 8 = .ok (.istore_n 3, 1) := by decide +kernel
theorem dX8_takeNineDigits_9 : decode cX8_takeNineDigits 9 = .ok (.iload_n 3, 1) := by decide +kernel
theorem dX8_takeNineDigits_10 : decode cX8_takeNineDigits 10 = .ok (.ifCond .lt 47, 3) := by decide +kernel
theorem dX8_takeNineDigits_13 : decode cX8_takeNineDigits 13 = .ok (.lload_n 1, 1) := by decide +kernel
theorem dX8_takeNineDigits_14 : decode cX8_takeNineDigits 14 = .ok (.bipush 32, 2) := by decide +kernel
theorem dX8_takeNineDigits_16 : decode cX8_takeNineDigits 16 = .ok (.lshl, 1) := by decide +kernel
theorem dX8_takeNineDigits_17 : decode cX8_takeNineDigits 17 = .ok (.aload_n 0, 1) := by decide +kernel
theorem dX8_takeNineDigits_18 : decode cX8_takeNineDigits 18 = .ok (.getfield 9, 3) := by decide +kernel
theorem dX8_takeNineDigits_21 : decode cX8_takeNineDigits 21 = .ok (.iload_n 3, 1) := by decide +kernel
theorem dX8_takeNineDigits_22 : decode cX8_takeNineDigits 22 = .ok (.iaload, 1) := by decide +kernel
theorem dX8_takeNineDigits_23 : decode cX8_takeNineDigits 23 = .ok (.i2l, 1) := by decide +kernel
theorem dX8_takeNineDigits_24 : decode cX8_takeNineDigits 24 = .ok (.ldc2_w 48, 3) := by decide +kernel
theorem dX8_takeNineDigits_27 : decode cX8_takeNineDigits 27 = .ok (.land, 1) := by decide +kernel
theorem dX8_takeNineDigits_28 : decode cX8_takeNineDigits 28 = .ok (.ladd, 1) := by decide +kernel
theorem dX8_takeNineDigits_29 : decode cX8_takeNineDigits 29 = .ok (.lstore 4, 2) := by decide +kernel
theorem dX8_takeNineDigits_31 : decode cX8_takeNineDigits 31 = .ok (.aload_n 0, 1) := by decide +kernel
theorem dX8_takeNineDigits_32 : decode cX8_takeNineDigits 32 = .ok (.getfield 9, 3) := by decide +kernel
theorem dX8_takeNineDigits_35 : decode cX8_takeNineDigits 35 = .ok (.iload_n 3, 1) := by decide +kernel
theorem dX8_takeNineDigits_36 : decode cX8_takeNineDigits 36 = .ok (.lload 4, 2) := by decide +kernel
theorem dX8_takeNineDigits_38 : decode cX8_takeNineDigits 38 = .ok (.ldc2_w 81, 3) := by decide +kernel
theorem dX8_takeNineDigits_41 : decode cX8_takeNineDigits 41 = .ok (.ldiv, 1) := by decide +kernel
theorem dX8_takeNineDigits_42 : decode cX8_takeNineDigits 42 = .ok (.l2i, 1) := by decide +kernel
theorem dX8_takeNineDigits_43 : decode cX8_takeNineDigits 43 = .ok (.iastore, 1) := by decide +kernel
theorem dX8_takeNineDigits_44 : decode cX8_takeNineDigits 44 = .ok (.lload 4, 2) := by decide +kernel
theorem dX8_takeNineDigits_46 : decode cX8_takeNineDigits 46 = .ok (.ldc2_w 81, 3) := by decide +kernel
theorem dX8_takeNineDigits_49 : decode cX8_takeNineDigits 49 = .ok (.lrem, 1) := by decide +kernel
theorem dX8_takeNineDigits_50 : decode cX8_takeNineDigits 50 = .ok (.lstore_n 1, 1) := by decide +kernel
theorem dX8_takeNineDigits_51 : decode cX8_takeNineDigits 51 = .ok (.iinc 3 (-1), 3) := by decide +kernel
theorem dX8_takeNineDigits_54 : decode cX8_takeNineDigits 54 = .ok (.goto (-45), 3) := by decide +kernel
theorem dX8_takeNineDigits_57 : decode cX8_takeNineDigits 57 = .ok (.aload_n 0, 1) := by decide +kernel
theorem dX8_takeNineDigits_58 : decode cX8_takeNineDigits 58 = .ok (.aload_n 0, 1) := by decide +kernel
theorem dX8_takeNineDigits_59 : decode cX8_takeNineDigits 59 = .ok (.getfield 15, 3) := by decide +kernel
theorem dX8_takeNineDigits_62 : decode cX8_takeNineDigits 62 = .ok (.ifCond .le 26, 3) := by decide +kernel
theorem dX8_takeNineDigits_65 : decode cX8_takeNineDigits 65 = .ok (.aload_n 0, 1) := by decide +kernel
theorem dX8_takeNineDigits_66 : decode cX8_takeNineDigits 66 = .ok (.getfield 9, 3) := by decide +kernel
theorem dX8_takeNineDigits_69 : decode cX8_takeNineDigits 69 = .ok (.aload_n 0, 1) := by decide +kernel
theorem dX8_takeNineDigits_70 : decode cX8_takeNineDigits 70 = .ok (.getfield 15, 3) := by decide +kernel
theorem dX8_takeNineDigits_73 : decode cX8_takeNineDigits 73 = .ok (.iconst 1, 1) := by decide +kernel
theorem dX8_takeNineDigits_74 : decode cX8_takeNineDigits 74 = .ok (.isub, 1) := by decide +kernel
theorem dX8_takeNineDigits_75 : decode cX8_takeNineDigits 75 = .ok (.iaload, 1) := by decide +kernel
theorem dX8_takeNineDigits_76 : decode cX8_takeNineDigits 76 = .ok (.ifCond .ne 12, 3) := by decide +kernel
theorem dX8_takeNineDigits_79 : decode cX8_takeNineDigits 79 = .ok (.aload_n 0, 1) := by decide +kernel
theorem dX8_takeNineDigits_80 : decode cX8_takeNineDigits 80 = .ok (.getfield 15, 3) := by decide +kernel
theorem dX8_takeNineDigits_83 : decode cX8_takeNineDigits 83 = .ok (.iconst 1, 1) := by decide +kernel
theorem dX8_takeNineDigits_84 : decode cX8_takeNineDigits 84 = .ok (.isub, 1) := by decide +kernel
theorem dX8_takeNineDigits_85 : decode cX8_takeNineDigits 85 = .ok (.goto 7, 3) := by decide +kernel
theorem dX8_takeNineDigits_88 : decode cX8_takeNineDigits 88 = .ok (.aload_n 0, 1) := by decide +kernel
theorem dX8_takeNineDigits_89 : decode cX8_takeNineDigits 89 = .ok (.getfield 15, 3) := by decide +kernel
theorem dX8_takeNineDigits_92 : decode cX8_takeNineDigits 92 = .ok (.putfield 15, 3) := by decide +kernel
theorem dX8_takeNineDigits_95 : decode cX8_takeNineDigits 95 = .ok (.lload_n 1, 1) := by decide +kernel
theorem dX8_takeNineDigits_96 : decode cX8_takeNineDigits 96 = .ok (.l2i, 1) := by decide +kernel
theorem dX8_takeNineDigits_97 : decode cX8_takeNineDigits 97 = .ok (.ireturn, 1) := by decide +kernel
theorem dJ6_numberOfLeadingZeros_0f7a4_0 : decode cJ6_numberOfLeadingZeros_0f7a4 0 = .ok (.iload_n 0, 1) := by decide +kernel
theorem dJ6_numberOfLeadingZeros_0f7a4_1 : decode cJ6_numberOfLeadingZeros_0f7a4 1 = .ok (.ifCond .gt 14, 3) := by decide +kernel
theorem dJ6_numberOfLeadingZeros_0f7a4_4 : decode cJ6_numberOfLeadingZeros_0f7a4 4 = .ok (.iload_n 0, 1) := by decide +kernel
theorem dJ6_numberOfLeadingZeros_0f7a4_5 : decode cJ6_numberOfLeadingZeros_0f7a4 5 = .ok (.ifCond .ne 8, 3) := by decide +kernel
theorem dJ6_numberOfLeadingZeros_0f7a4_8 : decode cJ6_numberOfLeadingZeros_0f7a4 8 = .ok (.bipush 32, 2) := by decide +kernel
theorem dJ6_numberOfLeadingZeros_0f7a4_10 : decode cJ6_numberOfLeadingZeros_0f7a4 10 = .ok (.goto 4, 3) := by decide +kernel
theorem dJ6_numberOfLeadingZeros_0f7a4_13 : decode cJ6_numberOfLeadingZeros_0f7a4 13 = .ok (.iconst 0, 1) := by decide +kernel
theorem dJ6_numberOfLeadingZeros_0f7a4_14 : decode cJ6_numberOfLeadingZeros_0f7a4 14 = .ok (.ireturn, 1) := by decide +kernel
theorem dJ6_numberOfLeadingZeros_0f7a4_15 : decode cJ6_numberOfLeadingZeros_0f7a4 15 = .ok (.bipush 31, 2) := by decide +kernel
theorem dJ6_numberOfLeadingZeros_0f7a4_17 : decode cJ6_numberOfLeadingZeros_0f7a4 17 = .ok (.istore_n 1, 1) := by decide +kernel
theorem dJ6_numberOfLeadingZeros_0f7a4_18 : decode cJ6_numberOfLeadingZeros_0f7a4 18 = .ok (.iload_n 0, 1) := by decide +kernel
theorem dJ6_numberOfLeadingZeros_0f7a4_19 : decode cJ6_numberOfLeadingZeros_0f7a4 19 = .ok (.ldc_w 264, 3) := by decide +kernel
theorem dJ6_numberOfLeadingZeros_0f7a4_22 : decode cJ6_numberOfLeadingZeros_0f7a4 22 = .ok (.if_icmp .lt 11, 3) := by decide +kernel
theorem dJ6_numberOfLeadingZeros_0f7a4_25 : decode cJ6_numberOfLeadingZeros_0f7a4 25 = .ok (.iinc 1 (-16), 3) := by decide +kernel
theorem dJ6_numberOfLeadingZeros_0f7a4_28 : decode cJ6_numberOfLeadingZeros_0f7a4 28 = .ok (.iload_n 0, 1) := by decide +kernel
theorem dJ6_numberOfLeadingZeros_0f7a4_29 : decode cJ6_numberOfLeadingZeros_0f7a4 29 = .ok (.bipush 16, 2) := by decide +kernel
theorem dJ6_numberOfLeadingZeros_0f7a4_31 : decode cJ6_numberOfLeadingZeros_0f7a4 31 = .ok (.iushr, 1) := by decide +kernel
theorem dJ6_numberOfLeadingZeros_0f7a4_32 : decode cJ6_numberOfLeadingZeros_0f7a4 32 = .ok (.istore_n 0, 1) := by decide +kernel
theorem dJ6_numberOfLeadingZeros_0f7a4_33 : decode cJ6_numberOfLeadingZeros_0f7a4 33 = .ok (.iload_n 0, 1) := by decide +kernel
theorem dJ6_numberOfLeadingZeros_0f7a4_34 : decode cJ6_numberOfLeadingZeros_0f7a4 34 = .ok (.sipush 256, 3) := by decide +kernel
theorem dJ6_numberOfLeadingZeros_0f7a4_37 : decode cJ6_numberOfLeadingZeros_0f7a4 37 = .ok (.if_icmp .lt 11, 3) := by decide +kernel
theorem dJ6_numberOfLeadingZeros_0f7a4_40 : decode cJ6_numberOfLeadingZeros_0f7a4 40 = .ok (.iinc 1 (-8), 3) := by decide +kernel
theorem dJ6_numberOfLeadingZeros_0f7a4_43 : decode cJ6_numberOfLeadingZeros_0f7a4 43 = .ok (.iload_n 0, 1) := by decide +kernel
theorem dJ6_numberOfLeadingZeros_0f7a4_44 : decode cJ6_numberOfLeadingZeros_0f7a4 44 = .ok (.bipush 8, 2) := by decide +kernel
theorem dJ6_numberOfLeadingZeros_0f7a4_46 : decode cJ6_numberOfLeadingZeros_0f7a4 46 = .ok (.iushr, 1) := by decide +kernel
theorem dJ6_numberOfLeadingZeros_0f7a4_47 : decode cJ6_numberOfLeadingZeros_0f7a4 47 = .ok (.istore_n 0, 1) := by decide +kernel
theorem dJ6_numberOfLeadingZeros_0f7a4_48 : decode cJ6_numberOfLeadingZeros_0f7a4 48 = .ok (.iload_n 0, 1) := by decide +kernel
theorem dJ6_numberOfLeadingZeros_0f7a4_49 : decode cJ6_numberOfLeadingZeros_0f7a4 49 = .ok (.bipush 16, 2) := by decide +kernel
theorem dJ6_numberOfLeadingZeros_0f7a4_51 : decode cJ6_numberOfLeadingZeros_0f7a4 51 = .ok (.if_icmp .lt 10, 3) := by decide +kernel
theorem dJ6_numberOfLeadingZeros_0f7a4_54 : decode cJ6_numberOfLeadingZeros_0f7a4 54 = .ok (.iinc 1 (-4), 3) := by decide +kernel
theorem dJ6_numberOfLeadingZeros_0f7a4_57 : decode cJ6_numberOfLeadingZeros_0f7a4 57 = .ok (.iload_n 0, 1) := by decide +kernel
theorem dJ6_numberOfLeadingZeros_0f7a4_58 : decode cJ6_numberOfLeadingZeros_0f7a4 58 = .ok (.iconst 4, 1) := by decide +kernel
theorem dJ6_numberOfLeadingZeros_0f7a4_59 : decode cJ6_numberOfLeadingZeros_0f7a4 59 = .ok (.iushr, 1) := by decide +kernel
theorem dJ6_numberOfLeadingZeros_0f7a4_60 : decode cJ6_numberOfLeadingZeros_0f7a4 60 = .ok (.istore_n 0, 1) := by decide +kernel
theorem dJ6_numberOfLeadingZeros_0f7a4_61 : decode cJ6_numberOfLeadingZeros_0f7a4 61 = .ok (.iload_n 0, 1) := by decide +kernel
theorem dJ6_numberOfLeadingZeros_0f7a4_62 : decode cJ6_numberOfLeadingZeros_0f7a4 62 = .ok (.iconst 4, 1) := by decide +kernel
theorem dJ6_numberOfLeadingZeros_0f7a4_63 : decode cJ6_numberOfLeadingZeros_0f7a4 63 = .ok (.if_icmp .lt 10, 3) := by decide +kernel
theorem dJ6_numberOfLeadingZeros_0f7a4_66 : decode cJ6_numberOfLeadingZeros_0f7a4 66 = .ok (.iinc 1 (-2), 3) := by decide +kernel
theorem dJ6_numberOfLeadingZeros_0f7a4_69 : decode cJ6_numberOfLeadingZeros_0f7a4 69 = .ok (.iload_n 0, 1) := by decide +kernel
theorem dJ6_numberOfLeadingZeros_0f7a4_70 : decode cJ6_numberOfLeadingZeros_0f7a4 70 = .ok (.iconst 2, 1) := by decide +kernel
theorem dJ6_numberOfLeadingZeros_0f7a4_71 : decode cJ6_numberOfLeadingZeros_0f7a4 71 = .ok (.iushr, 1) := by decide +kernel
theorem dJ6_numberOfLeadingZeros_0f7a4_72 : decode cJ6_numberOfLeadingZeros_0f7a4 72 = .ok (.istore_n 0, 1) := by decide +kernel
theorem dJ6_numberOfLeadingZeros_0f7a4_73 : decode cJ6_numberOfLeadingZeros_0f7a4 73 = .ok (.iload_n 1, 1) := by decide +kernel
theorem dJ6_numberOfLeadingZeros_0f7a4_74 : decode cJ6_numberOfLeadingZeros_0f7a4 74 = .ok (.iload_n 0, 1) := by decide +kernel
theorem dJ6_numberOfLeadingZeros_0f7a4_75 : decode cJ6_numberOfLeadingZeros_0f7a4 75 = .ok (.iconst 1, 1) := by decide +kernel
theorem dJ6_numberOfLeadingZeros_0f7a4_76 : decode cJ6_numberOfLeadingZeros_0f7a4 76 = .ok (.iushr, 1) := by decide +kernel
theorem dJ6_numberOfLeadingZeros_0f7a4_77 : decode cJ6_numberOfLeadingZeros_0f7a4 77 = .ok (.isub, 1) := by decide +kernel
theorem dJ6_numberOfLeadingZeros_0f7a4_78 : decode cJ6_numberOfLeadingZeros_0f7a4 78 = .ok (.ireturn, 1) := by decide +kernel
theorem dJ6_numberOfTrailingZeros_0f7a4_0 : decode cJ6_numberOfTrailingZeros_0f7a4 0 = .ok (.iload_n 0, 1) := by decide +kernel
theorem dJ6_numberOfTrailingZeros_0f7a4_1 : decode cJ6_numberOfTrailingZeros_0f7a4 1 = .ok (.iconst (-1), 1) := by decide +kernel
theorem dJ6_numberOfTrailingZeros_0f7a4_2 : decode cJ6_numberOfTrailingZeros_0f7a4 2 = .ok (.ixor, 1) := by decide +kernel
theorem dJ6_numberOfTrailingZeros_0f7a4_3 : decode cJ6_numberOfTrailingZeros_0f7a4 3 = .ok (.iload_n 0, 1) := by decide +kernel
theorem dJ6_numberOfTrailingZeros_0f7a4_4 : decode cJ6_numberOfTrailingZeros_0f7a4 4 = .ok (.iconst 1, 1) := by decide +kernel
theorem dJ6_numberOfTrailingZeros_0f7a4_5 : decode cJ6_numberOfTrailingZeros_0f7a4 5 = .ok (.isub, 1) := by decide +kernel
theorem dJ6_numberOfTrailingZeros_0f7a4_6 : decode cJ6_numberOfTrailingZeros_0f7a4 6 = .ok (.iand, 1) := by decide +kernel
theorem dJ6_numberOfTrailingZeros_0f7a4_7 : decode cJ6_numberOfTrailingZeros_0f7a4 7 = .ok (.istore_n 0, 1) := by decide +kernel
theorem dJ6_numberOfTrailingZeros_0f7a4_8 : decode cJ6_numberOfTrailingZeros_0f7a4 8 = .ok (.iload_n 0, 1) := by decide +kernel
theorem dJ6_numberOfTrailingZeros_0f7a4_9 : decode cJ6_numberOfTrailingZeros_0f7a4 9 = .ok (.ifCond .gt 8, 3) := by decide +kernel
theorem dJ6_numberOfTrailingZeros_0f7a4_12 : decode cJ6_numberOfTrailingZeros_0f7a4 12 = .ok (.iload_n 0, 1) := by decide +kernel
theorem dJ6_numberOfTrailingZeros_0f7a4_13 : decode cJ6_numberOfTrailingZeros_0f7a4 13 = .ok (.bipush 32, 2) := by decide +kernel
theorem dJ6_numberOfTrailingZeros_0f7a4_15 : decode cJ6_numberOfTrailingZeros_0f7a4 15 = .ok (.iand, 1) := by decide +kernel
theorem dJ6_numberOfTrailingZeros_0f7a4_16 : decode cJ6_numberOfTrailingZeros_0f7a4 16 = .ok (.ireturn, 1) := by decide +kernel
theorem dJ6_numberOfTrailingZeros_0f7a4_17 : decode cJ6_numberOfTrailingZeros_0f7a4 17 = .ok (.iconst 1, 1) := by decide +kernel
theorem dJ6_numberOfTrailingZeros_0f7a4_18 : decode cJ6_numberOfTrailingZeros_0f7a4 18 = .ok (.istore_n 1, 1) := by decide +kernel
theorem dJ6_numberOfTrailingZeros_0f7a4_19 : decode cJ6_numberOfTrailingZeros_0f7a4 19 = .ok (.iload_n 0, 1) := by decide +kernel
theorem dJ6_numberOfTrailingZeros_0f7a4_20 : decode cJ6_numberOfTrailingZeros_0f7a4 20 = .ok (.ldc_w 264, 3) := by decide +kernel
theorem dJ6_numberOfTrailingZeros_0f7a4_23 : decode cJ6_numberOfTrailingZeros_0f7a4 23 = .ok (.if_icmp .le 11, 3) := by decide +kernel
theorem dJ6_numberOfTrailingZeros_0f7a4_26 : decode cJ6_numberOfTrailingZeros_0f7a4 26 = .ok (.iinc 1 16, 3) := by decide +kernel
theorem dJ6_numberOfTrailingZeros_0f7a4_29 : decode cJ6_numberOfTrailingZeros_0f7a4 29 = .ok (.iload_n 0, 1) := by decide +kernel
theorem dJ6_numberOfTrailingZeros_0f7a4_30 : decode cJ6_numberOfTrailingZeros_0f7a4 30 = .ok (.bipush 16, 2) := by decide +kernel
theorem dJ6_numberOfTrailingZeros_0f7a4_32 : decode cJ6_numberOfTrailingZeros_0f7a4 32 = .ok (.iushr, 1) := by decide +kernel
theorem dJ6_numberOfTrailingZeros_0f7a4_33 : decode cJ6_numberOfTrailingZeros_0f7a4 33 = .ok (.istore_n 0, 1) := by decide +kernel
theorem dJ6_numberOfTrailingZeros_0f7a4_34 : decode cJ6_numberOfTrailingZeros_0f7a4 34 = .ok (.iload_n 0, 1) := by decide +kernel
theorem dJ6_numberOfTrailingZeros_0f7a4_35 : decode cJ6_numberOfTrailingZeros_0f7a4 35 = .ok (.sipush 256, 3) := by decide +kernel
theorem dJ6_numberOfTrailingZeros_0f7a4_38 : decode cJ6_numberOfTrailingZeros_0f7a4 38 = .ok (.if_icmp .le 11, 3) := by decide +kernel
theorem dJ6_numberOfTrailingZeros_0f7a4_41 : decode cJ6_numberOfTrailingZeros_0f7a4 41 = .ok (.iinc 1 8, 3) := by decide +kernel
theorem dJ6_numberOfTrailingZeros_0f7a4_44 : decode cJ6_numberOfTrailingZeros_0f7a4 44 = .ok (.iload_n 0, 1) := by decide +kernel
theorem dJ6_numberOfTrailingZeros_0f7a4_45 : decode cJ6_numberOfTrailingZeros_0f7a4 45 = .ok (.bipush 8, 2) := by decide +kernel
theorem dJ6_numberOfTrailingZeros_0f7a4_47 : decode cJ6_numberOfTrailingZeros_0f7a4 47 = .ok (.iushr, 1) := by decide +kernel
theorem dJ6_numberOfTrailingZeros_0f7a4_48 : decode cJ6_numberOfTrailingZeros_0f7a4 48 = .ok (.istore_n 0, 1) := by decide +kernel
theorem dJ6_numberOfTrailingZeros_0f7a4_49 : decode cJ6_numberOfTrailingZeros_0f7a4 49 = .ok (.iload_n 0, 1) := by decide +kernel
theorem dJ6_numberOfTrailingZeros_0f7a4_50 : decode cJ6_numberOfTrailingZeros_0f7a4 50 = .ok (.bipush 16, 2) := by decide +kernel
theorem dJ6_numberOfTrailingZeros_0f7a4_52 : decode cJ6_numberOfTrailingZeros_0f7a4 52 = .ok (.if_icmp .le 10, 3) := by decide +kernel
theorem dJ6_numberOfTrailingZeros_0f7a4_55 : decode cJ6_numberOfTrailingZeros_0f7a4 55 = .ok (.iinc 1 4, 3) := by decide +kernel
theorem dJ6_numberOfTrailingZeros_0f7a4_58 : decode cJ6_numberOfTrailingZeros_0f7a4 58 = .ok (.iload_n 0, 1) := by decide +kernel
theorem dJ6_numberOfTrailingZeros_0f7a4_59 : decode cJ6_numberOfTrailingZeros_0f7a4 59 = .ok (.iconst 4, 1) := by decide +kernel
theorem dJ6_numberOfTrailingZeros_0f7a4_60 : decode cJ6_numberOfTrailingZeros_0f7a4 60 = .ok (.iushr, 1) := by decide +kernel
theorem dJ6_numberOfTrailingZeros_0f7a4_61 : decode cJ6_numberOfTrailingZeros_0f7a4 61 = .ok (.istore_n 0, 1) := by decide +kernel
theorem dJ6_numberOfTrailingZeros_0f7a4_62 : decode cJ6_numberOfTrailingZeros_0f7a4 62 = .ok (.iload_n 0, 1) := by decide +kernel
theorem dJ6_numberOfTrailingZeros_0f7a4_63 : decode cJ6_numberOfTrailingZeros_0f7a4 63 = .ok (.iconst 4, 1) := by decide +kernel
theorem dJ6_numberOfTrailingZeros_0f7a4_64 : decode cJ6_numberOfTrailingZeros_0f7a4 64 = .ok (.if_icmp .le 10, 3) := by decide +kernel
theorem dJ6_numberOfTrailingZeros_0f7a4_67 : decode cJ6_numberOfTrailingZeros_0f7a4 67 = .ok (.iinc 1 2, 3) := by decide +kernel
theorem dJ6_numberOfTrailingZeros_0f7a4_70 : decode cJ6_numberOfTrailingZeros_0f7a4 70 = .ok (.iload_n 0, 1) := by decide +kernel
theorem dJ6_numberOfTrailingZeros_0f7a4_71 : decode cJ6_numberOfTrailingZeros_0f7a4 71 = .ok (.iconst 2, 1) := by decide +kernel
theorem dJ6_numberOfTrailingZeros_0f7a4_72 : decode cJ6_numberOfTrailingZeros_0f7a4 72 = .ok (.iushr, 1) := by decide +kernel
theorem dJ6_numberOfTrailingZeros_0f7a4_73 : decode cJ6_numberOfTrailingZeros_0f7a4 73 = .ok (.istore_n 0, 1) := by decide +kernel
theorem dJ6_numberOfTrailingZeros_0f7a4_74 : decode cJ6_numberOfTrailingZeros_0f7a4 74 = .ok (.iload_n 1, 1) := by decide +kernel
theorem dJ6_numberOfTrailingZeros_0f7a4_75 : decode cJ6_numberOfTrailingZeros_0f7a4 75 = .ok (.iload_n 0, 1) := by decide +kernel
theorem dJ6_numberOfTrailingZeros_0f7a4_76 : decode cJ6_numberOfTrailingZeros_0f7a4 76 = .ok (.iconst 1, 1) := by decide +kernel
theorem dJ6_numberOfTrailingZeros_0f7a4_77 : decode cJ6_numberOfTrailingZeros_0f7a4 77 = .ok (.iushr, 1) := by decide +kernel
theorem dJ6_numberOfTrailingZeros_0f7a4_78 : decode cJ6_numberOfTrailingZeros_0f7a4 78 = .ok (.iadd, 1) := by decide +kernel
theorem dJ6_numberOfTrailingZeros_0f7a4_79 : decode cJ6_numberOfTrailingZeros_0f7a4 79 = .ok (.ireturn, 1) := by decide +kernel
theorem dJ7_rangeCheck_23922_0 : decode cJ7_rangeCheck_23922 0 = .ok (.iload_n 1, 1) := by decide +kernel
theorem dJ7_rangeCheck_23922_1 : decode cJ7_rangeCheck_23922 1 = .ok (.iload_n 2, 1) := by decide +kernel
theorem dJ7_rangeCheck_23922_2 : decode cJ7_rangeCheck_23922 2 = .ok (.if_icmp .le 44, 3) := by decide +kernel
theorem dJ7_rangeCheck_23922_5 : decode cJ7_rangeCheck_23922 5 = .ok (.new 43, 3) := by decide +kernel
theorem dJ7_rangeCheck_23922_8 : decode cJ7_rangeCheck_23922 8 = .ok (.dup, 1) := by decide +kernel
theorem dJ7_rangeCheck_23922_9 : decode cJ7_rangeCheck_23922 9 = .ok (.new 45, 3) := by decide +kernel
theorem dJ7_rangeCheck_23922_12 : decode cJ7_rangeCheck_23922 12 = .ok (.dup, 1) := by decide +kernel
theorem dJ7_rangeCheck_23922_13 : decode cJ7_rangeCheck_23922 13 = .ok (.invokespecial 47, 3) := by decide +kernel
theorem dJ7_rangeCheck_23922_16 : decode cJ7_rangeCheck_23922 16 = .ok (.ldc 48, 2) := by decide +kernel
theorem dJ7_rangeCheck_23922_18 : decode cJ7_rangeCheck_23922 18 = .ok (.invokevirtual 50, 3) := by decide +kernel
theorem dJ7_rangeCheck_23922_21 : decode cJ7_rangeCheck_23922 21 = .ok (.iload_n 1, 1) := by decide +kernel
theorem dJ7_rangeCheck_23922_22 : decode cJ7_rangeCheck_23922 22 = .ok (.invokevirtual 54, 3) := by decide +kernel
theorem dJ7_rangeCheck_23922_25 : decode cJ7_rangeCheck_23922 25 = .ok (.ldc 57, 2) := by decide +kernel
theorem dJ7_rangeCheck_23922_27 : decode cJ7_rangeCheck_23922 27 = .ok (.invokevirtual 50, 3) := by decide +kernel
theorem dJ7_rangeCheck_23922_30 : decode cJ7_rangeCheck_23922 30 = .ok (.iload_n 2, 1) := by decide +kernel
theorem dJ7_rangeCheck_23922_31 : decode cJ7_rangeCheck_23922 31 = .ok (.invokevirtual 54, 3) := by decide +kernel
theorem dJ7_rangeCheck_23922_34 : decode cJ7_rangeCheck_23922 34 = .ok (.ldc 59, 2) := by decide +kernel
theorem dJ7_rangeCheck_23922_36 : decode cJ7_rangeCheck_23922 36 = .ok (.invokevirtual 50, 3) := by decide +kernel
theorem dJ7_rangeCheck_23922_39 : decode cJ7_rangeCheck_23922 39 = .ok (.invokevirtual 61, 3) := by decide +kernel
theorem dJ7_rangeCheck_23922_42 : decode cJ7_rangeCheck_23922 42 = .ok (.invokespecial 65, 3) := by decide +kernel
theorem dJ7_rangeCheck_23922_45 : decode cJ7_rangeCheck_23922 45 = .ok (.athrow, 1) := by decide +kernel
theorem dJ7_rangeCheck_23922_46 : decode cJ7_rangeCheck_23922 46 = .ok (.iload_n 1, 1) := by decide +kernel
theorem dJ7_rangeCheck_23922_47 : decode cJ7_rangeCheck_23922 47 = .ok (.ifCond .ge 12, 3) := by decide +kernel
theorem dJ7_rangeCheck_23922_50 : decode cJ7_rangeCheck_23922 50 = .ok (.new 68, 3) := by decide +kernel
theorem dJ7_rangeCheck_23922_53 : decode cJ7_rangeCheck_23922 53 = .ok (.dup, 1) := by decide +kernel
theorem dJ7_rangeCheck_23922_54 : decode cJ7_rangeCheck_23922 54 = .ok (.iload_n 1, 1) := by decide +kernel
theorem dJ7_rangeCheck_23922_55 : decode cJ7_rangeCheck_23922 55 = .ok (.invokespecial 70, 3) := by decide +kernel
theorem dJ7_rangeCheck_23922_58 : decode cJ7_rangeCheck_23922 58 = .ok (.athrow, 1) := by decide +kernel
theorem dJ7_rangeCheck_23922_59 : decode cJ7_rangeCheck_23922 59 = .ok (.iload_n 2, 1) := by decide +kernel
theorem dJ7_rangeCheck_23922_60 : decode cJ7_rangeCheck_23922 60 = .ok (.iload_n 0, 1) := by decide +kernel
theorem dJ7_rangeCheck_23922_61 : decode cJ7_rangeCheck_23922 61 = .ok (.if_icmp .le 12, 3) := by decide +kernel
theorem dJ7_rangeCheck_23922_64 : decode cJ7_rangeCheck_23922 64 = .ok (.new 68, 3) := by decide +kernel
theorem dJ7_rangeCheck_23922_67 : decode cJ7_rangeCheck_23922 67 = .ok (.dup, 1) := by decide +kernel
theorem dJ7_rangeCheck_23922_68 : decode cJ7_rangeCheck_23922 68 = .ok (.iload_n 2, 1) := by decide +kernel
theorem dJ7_rangeCheck_23922_69 : decode cJ7_rangeCheck_23922 69 = .ok (.invokespecial 70, 3) := by decide +kernel
theorem dJ7_rangeCheck_23922_72 : decode cJ7_rangeCheck_23922 72 = .ok (.athrow, 1) := by decide +kernel
theorem dJ7_rangeCheck_23922_73 : decode cJ7_rangeCheck_23922 73 = .ok (.return_, 1) := by decide +kernel
theorem dJ7_fill_53178_0 : decode cJ7_fill_53178 0 = .ok (.iconst 0, 1) := by decide +kernel
theorem dJ7_fill_53178_1 : decode cJ7_fill_53178 1 = .ok (.istore_n 2, 1) := by decide +kernel
theorem dJ7_fill_53178_2 : decode cJ7_fill_53178 2 = .ok (.aload_n 0, 1) := by decide +kernel
theorem dJ7_fill_53178_3 : decode cJ7_fill_53178 3 = .ok (.arraylength, 1) := by decide +kernel
theorem dJ7_fill_53178_4 : decode cJ7_fill_53178 4 = .ok (.istore_n 3, 1) := by decide +kernel
theorem dJ7_fill_53178_5 : decode cJ7_fill_53178 5 = .ok (.iload_n 2, 1) := by decide +kernel
theorem dJ7_fill_53178_6 : decode cJ7_fill_53178 6 = .ok (.iload_n 3, 1) := by decide +kernel
theorem dJ7_fill_53178_7 : decode cJ7_fill_53178 7 = .ok (.if_icmp .ge 13, 3) := by decide +kernel
theorem dJ7_fill_53178_10 : decode cJ7_fill_53178 10 = .ok (.aload_n 0, 1) := by decide +kernel
theorem dJ7_fill_53178_11 : decode cJ7_fill_53178 11 = .ok (.iload_n 2, 1) := by decide +kernel
theorem dJ7_fill_53178_12 : decode cJ7_fill_53178 12 = .ok (.iload_n 1, 1) := by decide +kernel
theorem dJ7_fill_53178_13 : decode cJ7_fill_53178 13 = .ok (.iastore, 1) := by decide +kernel
theorem dJ7_fill_53178_14 : decode cJ7_fill_53178 14 = .ok (.iinc 2 1, 3) := by decide +kernel
theorem dJ7_fill_53178_17 : decode cJ7_fill_53178 17 = .ok (.goto (-12), 3) := by decide +kernel
theorem dJ7_fill_53178_20 : decode cJ7_fill_53178 20 = .ok (.return_, 1) := by decide +kernel
theorem dJ7_fill_fda19_0 : decode cJ7_fill_fda19 0 = .ok (.aload_n 0, 1) := by decide +kernel
theorem dJ7_fill_fda19_1 : decode cJ7_fill_fda19 1 = .ok (.arraylength, 1) := by decide +kernel
theorem dJ7_fill_fda19_2 : decode cJ7_fill_fda19 2 = .ok (.iload_n 1, 1) := by decide +kernel
theorem dJ7_fill_fda19_3 : decode cJ7_fill_fda19 3 = .ok (.iload_n 2, 1) := by decide +kernel
theorem dJ7_fill_fda19_4 : decode cJ7_fill_fda19 4 = .ok (.invokestatic 13, 3) := by decide +kernel
theorem dJ7_fill_fda19_7 : decode cJ7_fill_fda19 7 = .ok (.iload_n 1, 1) := by decide +kernel
theorem dJ7_fill_fda19_8 : decode cJ7_fill_fda19 8 = .ok (.istore 4, 2) := by decide +kernel
theorem dJ7_fill_fda19_10 : decode cJ7_fill_fda19 10 = .ok (.iload 4, 2) := by decide +kernel
theorem dJ7_fill_fda19_12 : decode cJ7_fill_fda19 12 = .ok (.iload_n 2, 1) := by decide +kernel
theorem dJ7_fill_fda19_13 : decode cJ7_fill_fda19 13 = .ok (.if_icmp .ge 14, 3) := by decide +kernel
theorem dJ7_fill_fda19_16 : decode cJ7_fill_fda19 16 = .ok (.aload_n 0, 1) := by decide +kernel
theorem dJ7_fill_fda19_17 : decode cJ7_fill_fda19 17 = .ok (.iload 4, 2) := by decide +kernel
theorem dJ7_fill_fda19_19 : decode cJ7_fill_fda19 19 = .ok (.iload_n 3, 1) := by decide +kernel
theorem dJ7_fill_fda19_20 : decode cJ7_fill_fda19 20 = .ok (.iastore, 1) := by decide +kernel
theorem dJ7_fill_fda19_21 : decode cJ7_fill_fda19 21 = .ok (.iinc 4 1, 3) := by decide +kernel
theorem dJ7_fill_fda19_24 : decode cJ7_fill_fda19 24 = .ok (.goto (-14), 3) := by decide +kernel
theorem dJ7_fill_fda19_27 : decode cJ7_fill_fda19 27 = .ok (.return_, 1) := by decide +kernel
