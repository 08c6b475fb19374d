theorem dL_type_0 : decode cL_type 0 = .ok (.aload 4, 2) := by decide +kernel
theorem dL_type_2 : decode cL_type 2 = .ok (.iconst 0, 1) := by decide +kernel
theorem dL_type_3 : decode cL_type 3 = .ok (.aload_n 0, 1) := by decide +kernel
theorem dL_type_4 : decode cL_type 4 = .ok (.lload_n 1, 1) := by decide +kernel
theorem dL_type_5 : decode cL_type 5 = .ok (.iload_n 3, 1) := by decide +kernel
theorem dL_type_6 : decode cL_type 6 = .ok (.invokevirtual 7, 3) := by decide +kernel
theorem dL_type_9 : decode cL_type 9 = .ok (.i2l, 1) := by decide +kernel
theorem dL_type_10 : decode cL_type 10 = .ok (.lastore, 1) := by decide +kernel
theorem dL_type_11 : decode cL_type 11 = .ok (.goto 11, 3) := by decide +kernel
theorem dL_type_14 : decode cL_type 14 = .ok (.astore 5, 2) := by decide +kernel
theorem dL_type_16 : decode cL_type 16 = .ok (.iconst 1, 1) := by decide +kernel
theorem dL_type_17 : decode cL_type 17 = .ok (.ireturn, 1) := by decide +kernel
theorem dL_type_18 : decode cL_type 18 = .ok (.astore 5, 2) := by decide +kernel
theorem dL_type_20 : decode cL_type 20 = .ok (.iconst 2, 1) := by decide +kernel
theorem dL_type_21 : decode cL_type 21 = .ok (.ireturn, 1) := by decide +kernel
theorem dL_type_22 : decode cL_type 22 = .ok (.iconst 0, 1) := by decide +kernel
theorem dL_type_23 : decode cL_type 23 = .ok (.ireturn, 1) := by decide +kernel
theorem dL_define_0 : decode cL_define 0 = .ok (.aload_n 2, 1) := by decide +kernel
theorem dL_define_1 : decode cL_define 1 = .ok (.iconst 0, 1) := by decide +kernel
theorem dL_define_2 : decode cL_define 2 = .ok (.aload_n 0, 1) := by decide +kernel
theorem dL_define_3 : decode cL_define 3 = .ok (.iload_n 1, 1) := by decide +kernel
theorem dL_define_4 : decode cL_define 4 = .ok (.invokevirtual 17, 3) := by decide +kernel
theorem dL_define_7 : decode cL_define 7 = .ok (.i2l, 1) := by decide +kernel
theorem dL_define_8 : decode cL_define 8 = .ok (.lastore, 1) := by decide +kernel
theorem dL_define_9 : decode cL_define 9 = .ok (.goto 6, 3) := by decide +kernel
theorem dL_define_12 : decode cL_define 12 = .ok (.astore_n 3, 1) := by decide +kernel
theorem dL_define_13 : decode cL_define 13 = .ok (.iconst 1, 1) := by decide +kernel
theorem dL_define_14 : decode cL_define 14 = .ok (.ireturn, 1) := by decide +kernel
theorem dL_define_15 : decode cL_define 15 = .ok (.iconst 0, 1) := by decide +kernel
theorem dL_define_16 : decode cL_define 16 = .ok (.ireturn, 1) := by decide +kernel
theorem dL_derive_0 : decode cL_derive 0 = .ok (.aload 4, 2) := by decide +kernel
theorem dL_derive_2 : decode cL_derive 2 = .ok (.iconst 0, 1) := by decide +kernel
theorem dL_derive_3 : decode cL_derive 3 = .ok (.aload_n 0, 1) := by decide +kernel
theorem dL_derive_4 : decode cL_derive 4 = .ok (.iload_n 1, 1) := by decide +kernel
theorem dL_derive_5 : decode cL_derive 5 = .ok (.iload_n 2, 1) := by decide +kernel
theorem dL_derive_6 : decode cL_derive 6 = .ok (.iload_n 3, 1) := by decide +kernel
theorem dL_derive_7 : decode cL_derive 7 = .ok (.invokevirtual 21, 3) := by decide +kernel
theorem dL_derive_10 : decode cL_derive 10 = .ok (.i2l, 1) := by decide +kernel
theorem dL_derive_11 : decode cL_derive 11 = .ok (.lastore, 1) := by decide +kernel
theorem dL_derive_12 : decode cL_derive 12 = .ok (.goto 11, 3) := by decide +kernel
theorem dL_derive_15 : decode cL_derive 15 = .ok (.astore 5, 2) := by decide +kernel
theorem dL_derive_17 : decode cL_derive 17 = .ok (.iconst 1, 1) := by decide +kernel
theorem dL_derive_18 : decode cL_derive 18 = .ok (.ireturn, 1) := by decide +kernel
theorem dL_derive_19 : decode cL_derive 19 = .ok (.astore 5, 2) := by decide +kernel
theorem dL_derive_21 : decode cL_derive 21 = .ok (.iconst 2, 1) := by decide +kernel
theorem dL_derive_22 : decode cL_derive 22 = .ok (.ireturn, 1) := by decide +kernel
theorem dL_derive_23 : decode cL_derive 23 = .ok (.iconst 0, 1) := by decide +kernel
theorem dL_derive_24 : decode cL_derive 24 = .ok (.ireturn, 1) := by decide +kernel
theorem dL_parts_0 : decode cL_parts 0 = .ok (.aload_n 2, 1) := by decide +kernel
theorem dL_parts_1 : decode cL_parts 1 = .ok (.iconst 0, 1) := by decide +kernel
theorem dL_parts_2 : decode cL_parts 2 = .ok (.aload_n 0, 1) := by decide +kernel
theorem dL_parts_3 : decode cL_parts 3 = .ok (.iload_n 1, 1) := by decide +kernel
theorem dL_parts_4 : decode cL_parts 4 = .ok (.invokevirtual 27, 3) := by decide +kernel
theorem dL_parts_7 : decode cL_parts 7 = .ok (.i2l, 1) := by decide +kernel
theorem dL_parts_8 : decode cL_parts 8 = .ok (.lastore, 1) := by decide +kernel
theorem dL_parts_9 : decode cL_parts 9 = .ok (.goto 9, 3) := by decide +kernel
theorem dL_parts_12 : decode cL_parts 12 = .ok (.astore_n 3, 1) := by decide +kernel
theorem dL_parts_13 : decode cL_parts 13 = .ok (.iconst 1, 1) := by decide +kernel
theorem dL_parts_14 : decode cL_parts 14 = .ok (.ireturn, 1) := by decide +kernel
theorem dL_parts_15 : decode cL_parts 15 = .ok (.astore_n 3, 1) := by decide +kernel
theorem dL_parts_16 : decode cL_parts 16 = .ok (.iconst 2, 1) := by decide +kernel
theorem dL_parts_17 : decode cL_parts 17 = .ok (.ireturn, 1) := by decide +kernel
theorem dL_parts_18 : decode cL_parts 18 = .ok (.iconst 0, 1) := by decide +kernel
theorem dL_parts_19 : decode cL_parts 19 = .ok (.ireturn, 1) := by decide +kernel
theorem dL_part_0 : decode cL_part 0 = .ok (.aload_n 3, 1) := by decide +kernel
theorem dL_part_1 : decode cL_part 1 = .ok (.iconst 0, 1) := by decide +kernel
theorem dL_part_2 : decode cL_part 2 = .ok (.aload_n 0, 1) := by decide +kernel
theorem dL_part_3 : decode cL_part 3 = .ok (.iload_n 1, 1) := by decide +kernel
theorem dL_part_4 : decode cL_part 4 = .ok (.iload_n 2, 1) := by decide +kernel
theorem dL_part_5 : decode cL_part 5 = .ok (.invokevirtual 30, 3) := by decide +kernel
theorem dL_part_8 : decode cL_part 8 = .ok (.i2l, 1) := by decide +kernel
theorem dL_part_9 : decode cL_part 9 = .ok (.lastore, 1) := by decide +kernel
theorem dL_part_10 : decode cL_part 10 = .ok (.goto 11, 3) := by decide +kernel
theorem dL_part_13 : decode cL_part 13 = .ok (.astore 4, 2) := by decide +kernel
theorem dL_part_15 : decode cL_part 15 = .ok (.iconst 1, 1) := by decide +kernel
theorem dL_part_16 : decode cL_part 16 = .ok (.ireturn, 1) := by decide +kernel
theorem dL_part_17 : decode cL_part 17 = .ok (.astore 4, 2) := by decide +kernel
theorem dL_part_19 : decode cL_part 19 = .ok (.iconst 2, 1) := by decide +kernel
theorem dL_part_20 : decode cL_part 20 = .ok (.ireturn, 1) := by decide +kernel
theorem dL_part_21 : decode cL_part 21 = .ok (.iconst 0, 1) := by decide +kernel
theorem dL_part_22 : decode cL_part 22 = .ok (.ireturn, 1) := by decide +kernel
theorem dL_number_0 : decode cL_number 0 = .ok (.aload_n 3, 1) := by decide +kernel
theorem dL_number_1 : decode cL_number 1 = .ok (.iconst 0, 1) := by decide +kernel
theorem dL_number_2 : decode cL_number 2 = .ok (.aload_n 0, 1) := by decide +kernel
theorem dL_number_3 : decode cL_number 3 = .ok (.iload_n 1, 1) := by decide +kernel
theorem dL_number_4 : decode cL_number 4 = .ok (.iload_n 2, 1) := by decide +kernel
theorem dL_number_5 : decode cL_number 5 = .ok (.invokevirtual 36, 3) := by decide +kernel
theorem dL_number_8 : decode cL_number 8 = .ok (.ifCond .eq 7, 3) := by decide +kernel
theorem dL_number_11 : decode cL_number 11 = .ok (.lconst 1, 1) := by decide +kernel
theorem dL_number_12 : decode cL_number 12 = .ok (.goto 4, 3) := by decide +kernel
theorem dL_number_15 : decode cL_number 15 = .ok (.lconst 0, 1) := by decide +kernel
theorem dL_number_16 : decode cL_number 16 = .ok (.lastore, 1) := by decide +kernel
theorem dL_number_17 : decode cL_number 17 = .ok (.goto 7, 3) := by decide +kernel
theorem dL_number_20 : decode cL_number 20 = .ok (.astore 4, 2) := by decide +kernel
theorem dL_number_22 : decode cL_number 22 = .ok (.iconst 1, 1) := by decide +kernel
theorem dL_number_23 : decode cL_number 23 = .ok (.ireturn, 1) := by decide +kernel
theorem dL_number_24 : decode cL_number 24 = .ok (.iconst 0, 1) := by decide +kernel
theorem dL_number_25 : decode cL_number 25 = .ok (.ireturn, 1) := by decide +kernel
theorem dL_set_0 : decode cL_set 0 = .ok (.aload_n 0, 1) := by decide +kernel
theorem dL_set_1 : decode cL_set 1 = .ok (.iload_n 1, 1) := by decide +kernel
theorem dL_set_2 : decode cL_set 2 = .ok (.iload_n 2, 1) := by decide +kernel
theorem dL_set_3 : decode cL_set 3 = .ok (.iload_n 3, 1) := by decide +kernel
theorem dL_set_4 : decode cL_set 4 = .ok (.invokevirtual 40, 3) := by decide +kernel
theorem dL_set_7 : decode cL_set 7 = .ok (.goto 7, 3) := by decide +kernel
theorem dL_set_10 : decode cL_set 10 = .ok (.astore 4, 2) := by decide +kernel
theorem dL_set_12 : decode cL_set 12 = .ok (.iconst 1, 1) := by decide +kernel
theorem dL_set_13 : decode cL_set 13 = .ok (.ireturn, 1) := by decide +kernel
theorem dL_set_14 : decode cL_set 14 = .ok (.iconst 0, 1) := by decide +kernel
theorem dL_set_15 : decode cL_set 15 = .ok (.ireturn, 1) := by decide +kernel
theorem dL_gradient_0 : decode cL_gradient 0 = .ok (.aload_n 0, 1) := by decide +kernel
theorem dL_gradient_1 : decode cL_gradient 1 = .ok (.iload_n 1, 1) := by decide +kernel
theorem dL_gradient_2 : decode cL_gradient 2 = .ok (.invokevirtual 44, 3) := by decide +kernel
theorem dL_gradient_5 : decode cL_gradient 5 = .ok (.goto 9, 3) := by decide +kernel
theorem dL_gradient_8 : decode cL_gradient 8 = .ok (.astore_n 2, 1) := by decide +kernel
theorem dL_gradient_9 : decode cL_gradient 9 = .ok (.iconst 1, 1) := by decide +kernel
theorem dL_gradient_10 : decode cL_gradient 10 = .ok (.ireturn, 1) := by decide +kernel
theorem dL_gradient_11 : decode cL_gradient 11 = .ok (.astore_n 2, 1) := by decide +kernel
theorem dL_gradient_12 : decode cL_gradient 12 = .ok (.iconst 2, 1) := by decide +kernel
theorem dL_gradient_13 : decode cL_gradient 13 = .ok (.ireturn, 1) := by decide +kernel
theorem dL_gradient_14 : decode cL_gradient 14 = .ok (.iconst 0, 1) := by decide +kernel
theorem dL_gradient_15 : decode cL_gradient 15 = .ok (.ireturn, 1) := by decide +kernel
theorem dL_along_0 : decode cL_along 0 = .ok (.aload_n 0, 1) := by decide +kernel
theorem dL_along_1 : decode cL_along 1 = .ok (.iload_n 1, 1) := by decide +kernel
theorem dL_along_2 : decode cL_along 2 = .ok (.iload_n 2, 1) := by decide +kernel
theorem dL_along_3 : decode cL_along 3 = .ok (.iload_n 3, 1) := by decide +kernel
theorem dL_along_4 : decode cL_along 4 = .ok (.iload 4, 2) := by decide +kernel
theorem dL_along_6 : decode cL_along 6 = .ok (.invokevirtual 48, 3) := by decide +kernel
theorem dL_along_9 : decode cL_along 9 = .ok (.goto 11, 3) := by decide +kernel
theorem dL_along_12 : decode cL_along 12 = .ok (.astore 5, 2) := by decide +kernel
theorem dL_along_14 : decode cL_along 14 = .ok (.iconst 1, 1) := by decide +kernel
theorem dL_along_15 : decode cL_along 15 = .ok (.ireturn, 1) := by decide +kernel
theorem dL_along_16 : decode cL_along 16 = .ok (.astore 5, 2) := by decide +kernel
theorem dL_along_18 : decode cL_along 18 = .ok (.iconst 2, 1) := by decide +kernel
theorem dL_along_19 : decode cL_along 19 = .ok (.ireturn, 1) := by decide +kernel
theorem dL_along_20 : decode cL_along 20 = .ok (.iconst 0, 1) := by decide +kernel
theorem dL_along_21 : decode cL_along 21 = .ok (.ireturn, 1) := by decide +kernel
theorem dL_reckon_0 : decode cL_reckon 0 = .ok (.aload 5, 2) := by decide +kernel
theorem dL_reckon_2 : decode cL_reckon 2 = .ok (.iconst 0, 1) := by decide +kernel
theorem dL_reckon_3 : decode cL_reckon 3 = .ok (.aload_n 0, 1) := by decide +kernel
theorem dL_reckon_4 : decode cL_reckon 4 = .ok (.iload_n 1, 1) := by decide +kernel
theorem dL_reckon_5 : decode cL_reckon 5 = .ok (.iload_n 2, 1) := by decide +kernel
theorem dL_reckon_6 : decode cL_reckon 6 = .ok (.iload_n 3, 1) := by decide +kernel
theorem dL_reckon_7 : decode cL_reckon 7 = .ok (.iload 4, 2) := by decide +kernel
theorem dL_reckon_9 : decode cL_reckon 9 = .ok (.invokevirtual 52, 3) := by decide +kernel
theorem dL_reckon_12 : decode cL_reckon 12 = .ok (.ifCond .eq 7, 3) := by decide +kernel
theorem dL_reckon_15 : decode cL_reckon 15 = .ok (.lconst 1, 1) := by decide +kernel
theorem dL_reckon_16 : decode cL_reckon 16 = .ok (.goto 4, 3) := by decide +kernel
theorem dL_reckon_19 : decode cL_reckon 19 = .ok (.lconst 0, 1) := by decide +kernel
theorem dL_reckon_20 : decode cL_reckon 20 = .ok (.lastore, 1) := by decide +kernel
theorem dL_reckon_21 : decode cL_reckon 21 = .ok (.goto 11, 3) := by decide +kernel
theorem dL_reckon_24 : decode cL_reckon 24 = .ok (.astore 6, 2) := by decide +kernel
theorem dL_reckon_26 : decode cL_reckon 26 = .ok (.iconst 1, 1) := by decide +kernel
theorem dL_reckon_27 : decode cL_reckon 27 = .ok (.ireturn, 1) := by decide +kernel
theorem dL_reckon_28 : decode cL_reckon 28 = .ok (.astore 6, 2) := by decide +kernel
theorem dL_reckon_30 : decode cL_reckon 30 = .ok (.iconst 2, 1) := by decide +kernel
theorem dL_reckon_31 : decode cL_reckon 31 = .ok (.ireturn, 1) := by decide +kernel
theorem dL_reckon_32 : decode cL_reckon 32 = .ok (.iconst 0, 1) := by decide +kernel
theorem dL_reckon_33 : decode cL_reckon 33 = .ok (.ireturn, 1) := by decide +kernel
theorem dL_compare_0 : decode cL_compare 0 = .ok (.aload_n 3, 1) := by decide +kernel
theorem dL_compare_1 : decode cL_compare 1 = .ok (.iconst 0, 1) := by decide +kernel
theorem dL_compare_2 : decode cL_compare 2 = .ok (.aload_n 0, 1) := by decide +kernel
theorem dL_compare_3 : decode cL_compare 3 = .ok (.iload_n 1, 1) := by decide +kernel
theorem dL_compare_4 : decode cL_compare 4 = .ok (.iload_n 2, 1) := by decide +kernel
theorem dL_compare_5 : decode cL_compare 5 = .ok (.invokevirtual 56, 3) := by decide +kernel
theorem dL_compare_8 : decode cL_compare 8 = .ok (.i2l, 1) := by decide +kernel
theorem dL_compare_9 : decode cL_compare 9 = .ok (.lastore, 1) := by decide +kernel
theorem dL_compare_10 : decode cL_compare 10 = .ok (.goto 7, 3) := by decide +kernel
theorem dL_compare_13 : decode cL_compare 13 = .ok (.astore 4, 2) := by decide +kernel
theorem dL_compare_15 : decode cL_compare 15 = .ok (.iconst 1, 1) := by decide +kernel
theorem dL_compare_16 : decode cL_compare 16 = .ok (.ireturn, 1) := by decide +kernel
theorem dL_compare_17 : decode cL_compare 17 = .ok (.iconst 0, 1) := by decide +kernel
theorem dL_compare_18 : decode cL_compare 18 = .ok (.ireturn, 1) := by decide +kernel
theorem dL_sign_0 : decode cL_sign 0 = .ok (.aload_n 2, 1) := by decide +kernel
theorem dL_sign_1 : decode cL_sign 1 = .ok (.iconst 0, 1) := by decide +kernel
theorem dL_sign_2 : decode cL_sign 2 = .ok (.aload_n 0, 1) := by decide +kernel
theorem dL_sign_3 : decode cL_sign 3 = .ok (.iload_n 1, 1) := by decide +kernel
theorem dL_sign_4 : decode cL_sign 4 = .ok (.invokevirtual 59, 3) := by decide +kernel
theorem dL_sign_7 : decode cL_sign 7 = .ok (.i2l, 1) := by decide +kernel
theorem dL_sign_8 : decode cL_sign 8 = .ok (.lastore, 1) := by decide +kernel
theorem dL_sign_9 : decode cL_sign 9 = .ok (.goto 6, 3) := by decide +kernel
theorem dL_sign_12 : decode cL_sign 12 = .ok (.astore_n 3, 1) := by decide +kernel
theorem dL_sign_13 : decode cL_sign 13 = .ok (.iconst 1, 1) := by decide +kernel
theorem dL_sign_14 : decode cL_sign 14 = .ok (.ireturn, 1) := by decide +kernel
theorem dL_sign_15 : decode cL_sign 15 = .ok (.iconst 0, 1) := by decide +kernel
theorem dL_sign_16 : decode cL_sign 16 = .ok (.ireturn, 1) := by decide +kernel
theorem dL_bits_0 : decode cL_bits 0 = .ok (.aload_n 3, 1) := by decide +kernel
theorem dL_bits_1 : decode cL_bits 1 = .ok (.iconst 0, 1) := by decide +kernel
theorem dL_bits_2 : decode cL_bits 2 = .ok (.aload_n 0, 1) := by decide +kernel
theorem dL_bits_3 : decode cL_bits 3 = .ok (.iload_n 1, 1) := by decide +kernel
theorem dL_bits_4 : decode cL_bits 4 = .ok (.iload_n 2, 1) := by decide +kernel
theorem dL_bits_5 : decode cL_bits 5 = .ok (.invokevirtual 62, 3) := by decide +kernel
theorem dL_bits_8 : decode cL_bits 8 = .ok (.i2l, 1) := by decide +kernel
theorem dL_bits_9 : decode cL_bits 9 = .ok (.lastore, 1) := by decide +kernel
theorem dL_bits_10 : decode cL_bits 10 = .ok (.goto 11, 3) := by decide +kernel
theorem dL_bits_13 : decode cL_bits 13 = .ok (.astore 4, 2) := by decide +kernel
theorem dL_bits_15 : decode cL_bits 15 = .ok (.iconst 1, 1) := by decide +kernel
theorem dL_bits_16 : decode cL_bits 16 = .ok (.ireturn, 1) := by decide +kernel
theorem dL_bits_17 : decode cL_bits 17 = .ok (.astore 4, 2) := by decide +kernel
theorem dL_bits_19 : decode cL_bits 19 = .ok (.iconst 2, 1) := by decide +kernel
theorem dL_bits_20 : decode cL_bits 20 = .ok (.ireturn, 1) := by decide +kernel
theorem dL_bits_21 : decode cL_bits 21 = .ok (.iconst 0, 1) := by decide +kernel
theorem dL_bits_22 : decode cL_bits 22 = .ok (.ireturn, 1) := by decide +kernel
theorem dL_word_0 : decode cL_word 0 = .ok (.aload 4, 2) := by decide +kernel
theorem dL_word_2 : decode cL_word 2 = .ok (.iconst 0, 1) := by decide +kernel
theorem dL_word_3 : decode cL_word 3 = .ok (.aload_n 0, 1) := by decide +kernel
theorem dL_word_4 : decode cL_word 4 = .ok (.iload_n 1, 1) := by decide +kernel
theorem dL_word_5 : decode cL_word 5 = .ok (.iload_n 2, 1) := by decide +kernel
theorem dL_word_6 : decode cL_word 6 = .ok (.iload_n 3, 1) := by decide +kernel
theorem dL_word_7 : decode cL_word 7 = .ok (.invokevirtual 65, 3) := by decide +kernel
theorem dL_word_10 : decode cL_word 10 = .ok (.i2l, 1) := by decide +kernel
theorem dL_word_11 : decode cL_word 11 = .ok (.lastore, 1) := by decide +kernel
theorem dL_word_12 : decode cL_word 12 = .ok (.goto 11, 3) := by decide +kernel
theorem dL_word_15 : decode cL_word 15 = .ok (.astore 5, 2) := by decide +kernel
theorem dL_word_17 : decode cL_word 17 = .ok (.iconst 1, 1) := by decide +kernel
theorem dL_word_18 : decode cL_word 18 = .ok (.ireturn, 1) := by decide +kernel
theorem dL_word_19 : decode cL_word 19 = .ok (.astore 5, 2) := by decide +kernel
theorem dL_word_21 : decode cL_word 21 = .ok (.iconst 2, 1) := by decide +kernel
theorem dL_word_22 : decode cL_word 22 = .ok (.ireturn, 1) := by decide +kernel
theorem dL_word_23 : decode cL_word 23 = .ok (.iconst 0, 1) := by decide +kernel
theorem dL_word_24 : decode cL_word 24 = .ok (.ireturn, 1) := by decide +kernel
theorem dL_write_0 : decode cL_write 0 = .ok (.aload_n 2, 1) := by decide +kernel
theorem dL_write_1 : decode cL_write 1 = .ok (.iconst 0, 1) := by decide +kernel
theorem dL_write_2 : decode cL_write 2 = .ok (.aload_n 0, 1) := by decide +kernel
theorem dL_write_3 : decode cL_write 3 = .ok (.iload_n 1, 1) := by decide +kernel
theorem dL_write_4 : decode cL_write 4 = .ok (.invokevirtual 68, 3) := by decide +kernel
theorem dL_write_7 : decode cL_write 7 = .ok (.i2l, 1) := by decide +kernel
theorem dL_write_8 : decode cL_write 8 = .ok (.lastore, 1) := by decide +kernel
theorem dL_write_9 : decode cL_write 9 = .ok (.goto 9, 3) := by decide +kernel
theorem dL_write_12 : decode cL_write 12 = .ok (.astore_n 3, 1) := by decide +kernel
theorem dL_write_13 : decode cL_write 13 = .ok (.iconst 1, 1) := by decide +kernel
theorem dL_write_14 : decode cL_write 14 = .ok (.ireturn, 1) := by decide +kernel
theorem dL_write_15 : decode cL_write 15 = .ok (.astore_n 3, 1) := by decide +kernel
theorem dL_write_16 : decode cL_write 16 = .ok (.iconst 2, 1) := by decide +kernel
theorem dL_write_17 : decode cL_write 17 = .ok (.ireturn, 1) := by decide +kernel
theorem dL_write_18 : decode cL_write 18 = .ok (.iconst 0, 1) := by decide +kernel
theorem dL_write_19 : decode cL_write 19 = .ok (.ireturn, 1) := by decide +kernel
theorem dL_written_0 : decode cL_written 0 = .ok (.aload_n 2, 1) := by decide +kernel
theorem dL_written_1 : decode cL_written 1 = .ok (.iconst 0, 1) := by decide +kernel
theorem dL_written_2 : decode cL_written 2 = .ok (.aload_n 0, 1) := by decide +kernel
theorem dL_written_3 : decode cL_written 3 = .ok (.iload_n 1, 1) := by decide +kernel
theorem dL_written_4 : decode cL_written 4 = .ok (.invokevirtual 71, 3) := by decide +kernel
theorem dL_written_7 : decode cL_written 7 = .ok (.i2l, 1) := by decide +kernel
theorem dL_written_8 : decode cL_written 8 = .ok (.lastore, 1) := by decide +kernel
theorem dL_written_9 : decode cL_written 9 = .ok (.goto 6, 3) := by decide +kernel
theorem dL_written_12 : decode cL_written 12 = .ok (.astore_n 3, 1) := by decide +kernel
theorem dL_written_13 : decode cL_written 13 = .ok (.iconst 1, 1) := by decide +kernel
theorem dL_written_14 : decode cL_written 14 = .ok (.ireturn, 1) := by decide +kernel
theorem dL_written_15 : decode cL_written 15 = .ok (.iconst 0, 1) := by decide +kernel
theorem dL_written_16 : decode cL_written 16 = .ok (.ireturn, 1) := by decide +kernel
theorem dL_law_0 : decode cL_law 0 = .ok (.new 8, 3) := by decide +kernel
theorem dL_law_3 : decode cL_law 3 = .ok (.dup, 1) := by decide +kernel
theorem dL_law_4 : decode cL_law 4 = .ok (.invokespecial 74, 3) := by decide +kernel
theorem dL_law_7 : decode cL_law 7 = .ok (.astore_n 1, 1) := by decide +kernel
theorem dL_law_8 : decode cL_law 8 = .ok (.new 75, 3) := by decide +kernel
theorem dL_law_11 : decode cL_law 11 = .ok (.dup, 1) := by decide +kernel
theorem dL_law_12 : decode cL_law 12 = .ok (.invokespecial 77, 3) := by decide +kernel
theorem dL_law_15 : decode cL_law 15 = .ok (.astore_n 2, 1) := by decide +kernel
theorem dL_law_16 : decode cL_law 16 = .ok (.iconst 1, 1) := by decide +kernel
theorem dL_law_17 : decode cL_law 17 = .ok (.newarray .long, 2) := by decide +kernel
theorem dL_law_19 : decode cL_law 19 = .ok (.astore_n 3, 1) := by decide +kernel
theorem dL_law_20 : decode cL_law 20 = .ok (.iconst 0, 1) := by decide +kernel
theorem dL_law_21 : decode cL_law 21 = .ok (.istore 4, 2) := by decide +kernel
theorem dL_law_23 : decode cL_law 23 = .ok (.iload 4, 2) := by decide +kernel
theorem dL_law_25 : decode cL_law 25 = .ok (.aload_n 0, 1) := by decide +kernel
theorem dL_law_26 : decode cL_law 26 = .ok (.arraylength, 1) := by decide +kernel
theorem dL_law_27 : decode cL_law 27 = .ok (.iconst 5, 1) := by decide +kernel
theorem dL_law_28 : decode cL_law 28 = .ok (.isub, 1) := by decide +kernel
theorem dL_law_29 : decode cL_law 29 = .ok (.if_icmp .gt 852, 3) := by decide +kernel
theorem dL_law_32 : decode cL_law 32 = .ok (.aload_n 0, 1) := by decide +kernel
theorem dL_law_33 : decode cL_law 33 = .ok (.iload 4, 2) := by decide +kernel
theorem dL_law_35 : decode cL_law 35 = .ok (.iaload, 1) := by decide +kernel
theorem dL_law_36 : decode cL_law 36 = .ok (.bipush 31, 2) := by decide +kernel
theorem dL_law_38 : decode cL_law 38 = .ok (.iand, 1) := by decide +kernel
theorem dL_law_39 : decode cL_law 39 = .ok (.tableswitch 836 0 18 #[89, 161, 189, 202, 254, 267, 295, 335, 410, 421, 470, 495, 556, 620, 660, 688, 728, 780, 808], 89) := by decide +kernel
theorem dL_law_128 : decode cL_law 128 = .ok (.aload_n 1, 1) := by decide +kernel
theorem dL_law_129 : decode cL_law 129 = .ok (.aload_n 0, 1) := by decide +kernel
theorem dL_law_130 : decode cL_law 130 = .ok (.iload 4, 2) := by decide +kernel
theorem dL_law_132 : decode cL_law 132 = .ok (.iconst 1, 1) := by decide +kernel
theorem dL_law_133 : decode cL_law 133 = .ok (.iadd, 1) := by decide +kernel
theorem dL_law_134 : decode cL_law 134 = .ok (.iaload, 1) := by decide +kernel
theorem dL_law_135 : decode cL_law 135 = .ok (.i2l, 1) := by decide +kernel
theorem dL_law_136 : decode cL_law 136 = .ok (.bipush 32, 2) := by decide +kernel
theorem dL_law_138 : decode cL_law 138 = .ok (.lshl, 1) := by decide +kernel
theorem dL_law_139 : decode cL_law 139 = .ok (.aload_n 0, 1) := by decide +kernel
theorem dL_law_140 : decode cL_law 140 = .ok (.iload 4, 2) := by decide +kernel
theorem dL_law_142 : decode cL_law 142 = .ok (.iconst 2, 1) := by decide +kernel
theorem dL_law_143 : decode cL_law 143 = .ok (.iadd, 1) := by decide +kernel
theorem dL_law_144 : decode cL_law 144 = .ok (.iaload, 1) := by decide +kernel
theorem dL_law_145 : decode cL_law 145 = .ok (.i2l, 1) := by decide +kernel
theorem dL_law_146 : decode cL_law 146 = .ok (.ldc2_w 78, 3) := by decide +kernel
theorem dL_law_149 : decode cL_law 149 = .ok (.land, 1) := by decide +kernel
theorem dL_law_150 : decode cL_law 150 = .ok (.lor, 1) := by decide +kernel
theorem dL_law_151 : decode cL_law 151 = .ok (.aload_n 0, 1) := by decide +kernel
theorem dL_law_152 : decode cL_law 152 = .ok (.iload 4, 2) := by decide +kernel
theorem dL_law_154 : decode cL_law 154 = .ok (.iconst 3, 1) := by decide +kernel
theorem dL_law_155 : decode cL_law 155 = .ok (.iadd, 1) := by decide +kernel
theorem dL_law_156 : decode cL_law 156 = .ok (.iaload, 1) := by decide +kernel
theorem dL_law_157 : decode cL_law 157 = .ok (.aload_n 3, 1) := by decide +kernel
theorem dL_law_158 : decode cL_law 158 = .ok (.invokestatic 80, 3) := by decide +kernel
theorem dL_law_161 : decode cL_law 161 = .ok (.istore 5, 2) := by decide +kernel
theorem dL_law_163 : decode cL_law 163 = .ok (.aload_n 2, 1) := by decide +kernel
theorem dL_law_164 : decode cL_law 164 = .ok (.aload_n 0, 1) := by decide +kernel
theorem dL_law_165 : decode cL_law 165 = .ok (.iload 4, 2) := by decide +kernel
theorem dL_law_167 : decode cL_law 167 = .ok (.iconst 1, 1) := by decide +kernel
theorem dL_law_168 : decode cL_law 168 = .ok (.iadd, 1) := by decide +kernel
theorem dL_law_169 : decode cL_law 169 = .ok (.iaload, 1) := by decide +kernel
theorem dL_law_170 : decode cL_law 170 = .ok (.i2l, 1) := by decide +kernel
theorem dL_law_171 : decode cL_law 171 = .ok (.bipush 32, 2) := by decide +kernel
theorem dL_law_173 : decode cL_law 173 = .ok (.lshl, 1) := by decide +kernel
theorem dL_law_174 : decode cL_law 174 = .ok (.aload_n 0, 1) := by decide +kernel
theorem dL_law_175 : decode cL_law 175 = .ok (.iload 4, 2) := by decide +kernel
theorem dL_law_177 : decode cL_law 177 = .ok (.iconst 2, 1) := by decide +kernel
theorem dL_law_178 : decode cL_law 178 = .ok (.iadd, 1) := by decide +kernel
theorem dL_law_179 : decode cL_law 179 = .ok (.iaload, 1) := by decide +kernel
theorem dL_law_180 : decode cL_law 180 = .ok (.i2l, 1) := by decide +kernel
theorem dL_law_181 : decode cL_law 181 = .ok (.ldc2_w 78, 3) := by decide +kernel
theorem dL_law_184 : decode cL_law 184 = .ok (.land, 1) := by decide +kernel
theorem dL_law_185 : decode cL_law 185 = .ok (.lor, 1) := by decide +kernel
theorem dL_law_186 : decode cL_law 186 = .ok (.aload_n 0, 1) := by decide +kernel
theorem dL_law_187 : decode cL_law 187 = .ok (.iload 4, 2) := by decide +kernel
theorem dL_law_189 : decode cL_law 189 = .ok (.iconst 3, 1) := by decide +kernel
theorem dL_law_190 : decode cL_law 190 = .ok (.iadd, 1) := by decide +kernel
theorem dL_law_191 : decode cL_law 191 = .ok (.iaload, 1) := by decide +kernel
theorem dL_law_192 : decode cL_law 192 = .ok (.invokevirtual 85, 3) := by decide +kernel
theorem dL_law_195 : decode cL_law 195 = .ok (.istore 6, 2) := by decide +kernel
theorem dL_law_197 : decode cL_law 197 = .ok (.goto 678, 3) := by decide +kernel
theorem dL_law_200 : decode cL_law 200 = .ok (.aload_n 1, 1) := by decide +kernel
theorem dL_law_201 : decode cL_law 201 = .ok (.aload_n 0, 1) := by decide +kernel
theorem dL_law_202 : decode cL_law 202 = .ok (.iload 4, 2) := by decide +kernel
theorem dL_law_204 : decode cL_law 204 = .ok (.iconst 1, 1) := by decide +kernel
theorem dL_law_205 : decode cL_law 205 = .ok (.iadd, 1) := by decide +kernel
theorem dL_law_206 : decode cL_law 206 = .ok (.iaload, 1) := by decide +kernel
theorem dL_law_207 : decode cL_law 207 = .ok (.aload_n 3, 1) := by decide +kernel
theorem dL_law_208 : decode cL_law 208 = .ok (.invokestatic 86, 3) := by decide +kernel
theorem dL_law_211 : decode cL_law 211 = .ok (.istore 5, 2) := by decide +kernel
theorem dL_law_213 : decode cL_law 213 = .ok (.aload_n 2, 1) := by decide +kernel
theorem dL_law_214 : decode cL_law 214 = .ok (.aload_n 0, 1) := by decide +kernel
theorem dL_law_215 : decode cL_law 215 = .ok (.iload 4, 2) := by decide +kernel
theorem dL_law_217 : decode cL_law 217 = .ok (.iconst 1, 1) := by decide +kernel
theorem dL_law_218 : decode cL_law 218 = .ok (.iadd, 1) := by decide +kernel
theorem dL_law_219 : decode cL_law 219 = .ok (.iaload, 1) := by decide +kernel
theorem dL_law_220 : decode cL_law 220 = .ok (.invokevirtual 89, 3) := by decide +kernel
theorem dL_law_223 : decode cL_law 223 = .ok (.istore 6, 2) := by decide +kernel
theorem dL_law_225 : decode cL_law 225 = .ok (.goto 650, 3) := by decide +kernel
theorem dL_law_228 : decode cL_law 228 = .ok (.aload_n 1, 1) := by decide +kernel
theorem dL_law_229 : decode cL_law 229 = .ok (.invokevirtual 90, 3) := by decide +kernel
theorem dL_law_232 : decode cL_law 232 = .ok (.pop, 1) := by decide +kernel
theorem dL_law_233 : decode cL_law 233 = .ok (.aload_n 2, 1) := by decide +kernel
theorem dL_law_234 : decode cL_law 234 = .ok (.invokevirtual 94, 3) := by decide +kernel
theorem dL_law_237 : decode cL_law 237 = .ok (.pop, 1) := by decide +kernel
theorem dL_law_238 : decode cL_law 238 = .ok (.goto 637, 3) := by decide +kernel
theorem dL_law_241 : decode cL_law 241 = .ok (.aload_n 1, 1) := by decide +kernel
theorem dL_law_242 : decode cL_law 242 = .ok (.aload_n 0, 1) := by decide +kernel
theorem dL_law_243 : decode cL_law 243 = .ok (.iload 4, 2) := by decide +kernel
theorem dL_law_245 : decode cL_law 245 = .ok (.iconst 1, 1) := by decide +kernel
theorem dL_law_246 : decode cL_law 246 = .ok (.iadd, 1) := by decide +kernel
theorem dL_law_247 : decode cL_law 247 = .ok (.iaload, 1) := by decide +kernel
theorem dL_law_248 : decode cL_law 248 = .ok (.aload_n 0, 1) := by decide +kernel
theorem dL_law_249 : decode cL_law 249 = .ok (.iload 4, 2) := by decide +kernel
theorem dL_law_251 : decode cL_law 251 = .ok (.iconst 2, 1) := by decide +kernel
theorem dL_law_252 : decode cL_law 252 = .ok (.iadd, 1) := by decide +kernel
theorem dL_law_253 : decode cL_law 253 = .ok (.iaload, 1) := by decide +kernel
theorem dL_law_254 : decode cL_law 254 = .ok (.aload_n 0, 1) := by decide +kernel
theorem dL_law_255 : decode cL_law 255 = .ok (.iload 4, 2) := by decide +kernel
theorem dL_law_257 : decode cL_law 257 = .ok (.iconst 3, 1) := by decide +kernel
theorem dL_law_258 : decode cL_law 258 = .ok (.iadd, 1) := by decide +kernel
theorem dL_law_259 : decode cL_law 259 = .ok (.iaload, 1) := by decide +kernel
theorem dL_law_260 : decode cL_law 260 = .ok (.aload_n 3, 1) := by decide +kernel
theorem dL_law_261 : decode cL_law 261 = .ok (.invokestatic 95, 3) := by decide +kernel
theorem dL_law_264 : decode cL_law 264 = .ok (.istore 5, 2) := by decide +kernel
theorem dL_law_266 : decode cL_law 266 = .ok (.aload_n 2, 1) := by decide +kernel
theorem dL_law_267 : decode cL_law 267 = .ok (.aload_n 0, 1) := by decide +kernel
theorem dL_law_268 : decode cL_law 268 = .ok (.iload 4, 2) := by decide +kernel
theorem dL_law_270 : decode cL_law 270 = .ok (.iconst 1, 1) := by decide +kernel
theorem dL_law_271 : decode cL_law 271 = .ok (.iadd, 1) := by decide +kernel
theorem dL_law_272 : decode cL_law 272 = .ok (.iaload, 1) := by decide +kernel
theorem dL_law_273 : decode cL_law 273 = .ok (.aload_n 0, 1) := by decide +kernel
theorem dL_law_274 : decode cL_law 274 = .ok (.iload 4, 2) := by decide +kernel
theorem dL_law_276 : decode cL_law 276 = .ok (.iconst 2, 1) := by decide +kernel
theorem dL_law_277 : decode cL_law 277 = .ok (.iadd, 1) := by decide +kernel
theorem dL_law_278 : decode cL_law 278 = .ok (.iaload, 1) := by decide +kernel
theorem dL_law_279 : decode cL_law 279 = .ok (.aload_n 0, 1) := by decide +kernel
theorem dL_law_280 : decode cL_law 280 = .ok (.iload 4, 2) := by decide +kernel
theorem dL_law_282 : decode cL_law 282 = .ok (.iconst 3, 1) := by decide +kernel
theorem dL_law_283 : decode cL_law 283 = .ok (.iadd, 1) := by decide +kernel
theorem dL_law_284 : decode cL_law 284 = .ok (.iaload, 1) := by decide +kernel
theorem dL_law_285 : decode cL_law 285 = .ok (.invokevirtual 98, 3) := by decide +kernel
theorem dL_law_288 : decode cL_law 288 = .ok (.istore 6, 2) := by decide +kernel
theorem dL_law_290 : decode cL_law 290 = .ok (.goto 585, 3) := by decide +kernel
theorem dL_law_293 : decode cL_law 293 = .ok (.aload_n 1, 1) := by decide +kernel
theorem dL_law_294 : decode cL_law 294 = .ok (.invokevirtual 99, 3) := by decide +kernel
theorem dL_law_297 : decode cL_law 297 = .ok (.pop, 1) := by decide +kernel
theorem dL_law_298 : decode cL_law 298 = .ok (.aload_n 2, 1) := by decide +kernel
theorem dL_law_299 : decode cL_law 299 = .ok (.invokevirtual 102, 3) := by decide +kernel
theorem dL_law_302 : decode cL_law 302 = .ok (.pop, 1) := by decide +kernel
theorem dL_law_303 : decode cL_law 303 = .ok (.goto 572, 3) := by decide +kernel
theorem dL_law_306 : decode cL_law 306 = .ok (.aload_n 1, 1) := by decide +kernel
theorem dL_law_307 : decode cL_law 307 = .ok (.aload_n 0, 1) := by decide +kernel
theorem dL_law_308 : decode cL_law 308 = .ok (.iload 4, 2) := by decide +kernel
theorem dL_law_310 : decode cL_law 310 = .ok (.iconst 1, 1) := by decide +kernel
theorem dL_law_311 : decode cL_law 311 = .ok (.iadd, 1) := by decide +kernel
theorem dL_law_312 : decode cL_law 312 = .ok (.iaload, 1) := by decide +kernel
theorem dL_law_313 : decode cL_law 313 = .ok (.aload_n 3, 1) := by decide +kernel
theorem dL_law_314 : decode cL_law 314 = .ok (.invokestatic 103, 3) := by decide +kernel
theorem dL_law_317 : decode cL_law 317 = .ok (.istore 5, 2) := by decide +kernel
theorem dL_law_319 : decode cL_law 319 = .ok (.aload_n 2, 1) := by decide +kernel
theorem dL_law_320 : decode cL_law 320 = .ok (.aload_n 0, 1) := by decide +kernel
theorem dL_law_321 : decode cL_law 321 = .ok (.iload 4, 2) := by decide +kernel
theorem dL_law_323 : decode cL_law 323 = .ok (.iconst 1, 1) := by decide +kernel
theorem dL_law_324 : decode cL_law 324 = .ok (.iadd, 1) := by decide +kernel
theorem dL_law_325 : decode cL_law 325 = .ok (.iaload, 1) := by decide +kernel
theorem dL_law_326 : decode cL_law 326 = .ok (.invokevirtual 105, 3) := by decide +kernel
theorem dL_law_329 : decode cL_law 329 = .ok (.istore 6, 2) := by decide +kernel
theorem dL_law_331 : decode cL_law 331 = .ok (.goto 544, 3) := by decide +kernel
theorem dL_law_334 : decode cL_law 334 = .ok (.aload_n 1, 1) := by decide +kernel
theorem dL_law_335 : decode cL_law 335 = .ok (.aload_n 0, 1) := by decide +kernel
theorem dL_law_336 : decode cL_law 336 = .ok (.iload 4, 2) := by decide +kernel
theorem dL_law_338 : decode cL_law 338 = .ok (.iconst 1, 1) := by decide +kernel
theorem dL_law_339 : decode cL_law 339 = .ok (.iadd, 1) := by decide +kernel
theorem dL_law_340 : decode cL_law 340 = .ok (.iaload, 1) := by decide +kernel
theorem dL_law_341 : decode cL_law 341 = .ok (.aload_n 0, 1) := by decide +kernel
theorem dL_law_342 : decode cL_law 342 = .ok (.iload 4, 2) := by decide +kernel
theorem dL_law_344 : decode cL_law 344 = .ok (.iconst 2, 1) := by decide +kernel
theorem dL_law_345 : decode cL_law 345 = .ok (.iadd, 1) := by decide +kernel
theorem dL_law_346 : decode cL_law 346 = .ok (.iaload, 1) := by decide +kernel
theorem dL_law_347 : decode cL_law 347 = .ok (.aload_n 3, 1) := by decide +kernel
theorem dL_law_348 : decode cL_law 348 = .ok (.invokestatic 106, 3) := by decide +kernel
theorem dL_law_351 : decode cL_law 351 = .ok (.istore 5, 2) := by decide +kernel
theorem dL_law_353 : decode cL_law 353 = .ok (.aload_n 2, 1) := by decide +kernel
theorem dL_law_354 : decode cL_law 354 = .ok (.aload_n 0, 1) := by decide +kernel
theorem dL_law_355 : decode cL_law 355 = .ok (.iload 4, 2) := by decide +kernel
theorem dL_law_357 : decode cL_law 357 = .ok (.iconst 1, 1) := by decide +kernel
theorem dL_law_358 : decode cL_law 358 = .ok (.iadd, 1) := by decide +kernel
theorem dL_law_359 : decode cL_law 359 = .ok (.iaload, 1) := by decide +kernel
theorem dL_law_360 : decode cL_law 360 = .ok (.aload_n 0, 1) := by decide +kernel
theorem dL_law_361 : decode cL_law 361 = .ok (.iload 4, 2) := by decide +kernel
theorem dL_law_363 : decode cL_law 363 = .ok (.iconst 2, 1) := by decide +kernel
theorem dL_law_364 : decode cL_law 364 = .ok (.iadd, 1) := by decide +kernel
theorem dL_law_365 : decode cL_law 365 = .ok (.iaload, 1) := by decide +kernel
theorem dL_law_366 : decode cL_law 366 = .ok (.invokevirtual 109, 3) := by decide +kernel
theorem dL_law_369 : decode cL_law 369 = .ok (.istore 6, 2) := by decide +kernel
theorem dL_law_371 : decode cL_law 371 = .ok (.goto 504, 3) := by decide +kernel
theorem dL_law_374 : decode cL_law 374 = .ok (.aload_n 1, 1) := by decide +kernel
theorem dL_law_375 : decode cL_law 375 = .ok (.aload_n 0, 1) := by decide +kernel
theorem dL_law_376 : decode cL_law 376 = .ok (.iload 4, 2) := by decide +kernel
theorem dL_law_378 : decode cL_law 378 = .ok (.iconst 1, 1) := by decide +kernel
theorem dL_law_379 : decode cL_law 379 = .ok (.iadd, 1) := by decide +kernel
theorem dL_law_380 : decode cL_law 380 = .ok (.iaload, 1) := by decide +kernel
theorem dL_law_381 : decode cL_law 381 = .ok (.aload_n 0, 1) := by decide +kernel
theorem dL_law_382 : decode cL_law 382 = .ok (.iload 4, 2) := by decide +kernel
theorem dL_law_384 : decode cL_law 384 = .ok (.iconst 2, 1) := by decide +kernel
theorem dL_law_385 : decode cL_law 385 = .ok (.iadd, 1) := by decide +kernel
theorem dL_law_386 : decode cL_law 386 = .ok (.iaload, 1) := by decide +kernel
theorem dL_law_387 : decode cL_law 387 = .ok (.aload_n 3, 1) := by decide +kernel
theorem dL_law_388 : decode cL_law 388 = .ok (.invokestatic 110, 3) := by decide +kernel
theorem dL_law_391 : decode cL_law 391 = .ok (.istore 5, 2) := by decide +kernel
theorem dL_law_393 : decode cL_law 393 = .ok (.aload_n 2, 1) := by decide +kernel
theorem dL_law_394 : decode cL_law 394 = .ok (.aload_n 0, 1) := by decide +kernel
theorem dL_law_395 : decode cL_law 395 = .ok (.iload 4, 2) := by decide +kernel
theorem dL_law_397 : decode cL_law 397 = .ok (.iconst 1, 1) := by decide +kernel
theorem dL_law_398 : decode cL_law 398 = .ok (.iadd, 1) := by decide +kernel
theorem dL_law_399 : decode cL_law 399 = .ok (.iaload, 1) := by decide +kernel
theorem dL_law_400 : decode cL_law 400 = .ok (.aload_n 0, 1) := by decide +kernel
theorem dL_law_401 : decode cL_law 401 = .ok (.iload 4, 2) := by decide +kernel
theorem dL_law_403 : decode cL_law 403 = .ok (.iconst 2, 1) := by decide +kernel
theorem dL_law_404 : decode cL_law 404 = .ok (.iadd, 1) := by decide +kernel
theorem dL_law_405 : decode cL_law 405 = .ok (.iaload, 1) := by decide +kernel
theorem dL_law_406 : decode cL_law 406 = .ok (.invokevirtual 112, 3) := by decide +kernel
theorem dL_law_409 : decode cL_law 409 = .ok (.istore 6, 2) := by decide +kernel
theorem dL_law_411 : decode cL_law 411 = .ok (.aload_n 2, 1) := by decide +kernel
theorem dL_law_412 : decode cL_law 412 = .ok (.invokevirtual 113, 3) := by decide +kernel
theorem dL_law_415 : decode cL_law 415 = .ok (.iload 5, 2) := by decide +kernel
theorem dL_law_417 : decode cL_law 417 = .ok (.if_icmp .eq 5, 3) := by decide +kernel
theorem dL_law_420 : decode cL_law 420 = .ok (.iconst 0, 1) := by decide +kernel
theorem dL_law_421 : decode cL_law 421 = .ok (.ireturn, 1) := by decide +kernel
theorem dL_law_422 : decode cL_law 422 = .ok (.iload 5, 2) := by decide +kernel
theorem dL_law_424 : decode cL_law 424 = .ok (.ifCond .ne 22, 3) := by decide +kernel
theorem dL_law_427 : decode cL_law 427 = .ok (.aload_n 3, 1) := by decide +kernel
theorem dL_law_428 : decode cL_law 428 = .ok (.iconst 0, 1) := by decide +kernel
theorem dL_law_429 : decode cL_law 429 = .ok (.laload, 1) := by decide +kernel
theorem dL_law_430 : decode cL_law 430 = .ok (.iload 6, 2) := by decide +kernel
theorem dL_law_432 : decode cL_law 432 = .ok (.ifCond .eq 7, 3) := by decide +kernel
theorem dL_law_435 : decode cL_law 435 = .ok (.lconst 1, 1) := by decide +kernel
theorem dL_law_436 : decode cL_law 436 = .ok (.goto 4, 3) := by decide +kernel
theorem dL_law_439 : decode cL_law 439 = .ok (.lconst 0, 1) := by decide +kernel
theorem dL_law_440 : decode cL_law 440 = .ok (.lcmp, 1) := by decide +kernel
theorem dL_law_441 : decode cL_law 441 = .ok (.ifCond .eq 5, 3) := by decide +kernel
theorem dL_law_444 : decode cL_law 444 = .ok (.iconst 0, 1) := by decide +kernel
theorem dL_law_445 : decode cL_law 445 = .ok (.ireturn, 1) := by decide +kernel
theorem dL_law_446 : decode cL_law 446 = .ok (.goto 429, 3) := by decide +kernel
theorem dL_law_449 : decode cL_law 449 = .ok (.aload_n 1, 1) := by decide +kernel
theorem dL_law_450 : decode cL_law 450 = .ok (.invokevirtual 116, 3) := by decide +kernel
theorem dL_law_453 : decode cL_law 453 = .ok (.aload_n 2, 1) := by decide +kernel
theorem dL_law_454 : decode cL_law 454 = .ok (.invokevirtual 119, 3) := by decide +kernel
theorem dL_law_457 : decode cL_law 457 = .ok (.goto 418, 3) := by decide +kernel
theorem dL_law_460 : decode cL_law 460 = .ok (.aload_n 1, 1) := by decide +kernel
theorem dL_law_461 : decode cL_law 461 = .ok (.aload_n 0, 1) := by decide +kernel
theorem dL_law_462 : decode cL_law 462 = .ok (.iload 4, 2) := by decide +kernel
theorem dL_law_464 : decode cL_law 464 = .ok (.iconst 1, 1) := by decide +kernel
theorem dL_law_465 : decode cL_law 465 = .ok (.iadd, 1) := by decide +kernel
theorem dL_law_466 : decode cL_law 466 = .ok (.iaload, 1) := by decide +kernel
theorem dL_law_467 : decode cL_law 467 = .ok (.aload_n 0, 1) := by decide +kernel
theorem dL_law_468 : decode cL_law 468 = .ok (.iload 4, 2) := by decide +kernel
theorem dL_law_470 : decode cL_law 470 = .ok (.iconst 2, 1) := by decide +kernel
theorem dL_law_471 : decode cL_law 471 = .ok (.iadd, 1) := by decide +kernel
theorem dL_law_472 : decode cL_law 472 = .ok (.iaload, 1) := by decide +kernel
theorem dL_law_473 : decode cL_law 473 = .ok (.aload_n 0, 1) := by decide +kernel
theorem dL_law_474 : decode cL_law 474 = .ok (.iload 4, 2) := by decide +kernel
theorem dL_law_476 : decode cL_law 476 = .ok (.iconst 3, 1) := by decide +kernel
theorem dL_law_477 : decode cL_law 477 = .ok (.iadd, 1) := by decide +kernel
theorem dL_law_478 : decode cL_law 478 = .ok (.iaload, 1) := by decide +kernel
theorem dL_law_479 : decode cL_law 479 = .ok (.invokestatic 120, 3) := by decide +kernel
theorem dL_law_482 : decode cL_law 482 = .ok (.istore 5, 2) := by decide +kernel
theorem dL_law_484 : decode cL_law 484 = .ok (.aload_n 2, 1) := by decide +kernel
theorem dL_law_485 : decode cL_law 485 = .ok (.aload_n 0, 1) := by decide +kernel
theorem dL_law_486 : decode cL_law 486 = .ok (.iload 4, 2) := by decide +kernel
theorem dL_law_488 : decode cL_law 488 = .ok (.iconst 1, 1) := by decide +kernel
theorem dL_law_489 : decode cL_law 489 = .ok (.iadd, 1) := by decide +kernel
theorem dL_law_490 : decode cL_law 490 = .ok (.iaload, 1) := by decide +kernel
theorem dL_law_491 : decode cL_law 491 = .ok (.aload_n 0, 1) := by decide +kernel
theorem dL_law_492 : decode cL_law 492 = .ok (.iload 4, 2) := by decide +kernel
theorem dL_law_494 : decode cL_law 494 = .ok (.iconst 2, 1) := by decide +kernel
theorem dL_law_495 : decode cL_law 495 = .ok (.iadd, 1) := by decide +kernel
theorem dL_law_496 : decode cL_law 496 = .ok (.iaload, 1) := by decide +kernel
theorem dL_law_497 : decode cL_law 497 = .ok (.aload_n 0, 1) := by decide +kernel
theorem dL_law_498 : decode cL_law 498 = .ok (.iload 4, 2) := by decide +kernel
theorem dL_law_500 : decode cL_law 500 = .ok (.iconst 3, 1) := by decide +kernel
theorem dL_law_501 : decode cL_law 501 = .ok (.iadd, 1) := by decide +kernel
theorem dL_law_502 : decode cL_law 502 = .ok (.iaload, 1) := by decide +kernel
theorem dL_law_503 : decode cL_law 503 = .ok (.invokevirtual 123, 3) := by decide +kernel
theorem dL_law_506 : decode cL_law 506 = .ok (.goto 369, 3) := by decide +kernel
theorem dL_law_509 : decode cL_law 509 = .ok (.aload_n 1, 1) := by decide +kernel
theorem dL_law_510 : decode cL_law 510 = .ok (.aload_n 0, 1) := by decide +kernel
theorem dL_law_511 : decode cL_law 511 = .ok (.iload 4, 2) := by decide +kernel
theorem dL_law_513 : decode cL_law 513 = .ok (.iconst 1, 1) := by decide +kernel
theorem dL_law_514 : decode cL_law 514 = .ok (.iadd, 1) := by decide +kernel
theorem dL_law_515 : decode cL_law 515 = .ok (.iaload, 1) := by decide +kernel
theorem dL_law_516 : decode cL_law 516 = .ok (.invokestatic 124, 3) := by decide +kernel
theorem dL_law_519 : decode cL_law 519 = .ok (.istore 5, 2) := by decide +kernel
theorem dL_law_521 : decode cL_law 521 = .ok (.aload_n 2, 1) := by decide +kernel
theorem dL_law_522 : decode cL_law 522 = .ok (.aload_n 0, 1) := by decide +kernel
theorem dL_law_523 : decode cL_law 523 = .ok (.iload 4, 2) := by decide +kernel
theorem dL_law_525 : decode cL_law 525 = .ok (.iconst 1, 1) := by decide +kernel
theorem dL_law_526 : decode cL_law 526 = .ok (.iadd, 1) := by decide +kernel
theorem dL_law_527 : decode cL_law 527 = .ok (.iaload, 1) := by decide +kernel
theorem dL_law_528 : decode cL_law 528 = .ok (.invokevirtual 127, 3) := by decide +kernel
theorem dL_law_531 : decode cL_law 531 = .ok (.goto 344, 3) := by decide +kernel
theorem dL_law_534 : decode cL_law 534 = .ok (.aload_n 1, 1) := by decide +kernel
theorem dL_law_535 : decode cL_law 535 = .ok (.aload_n 0, 1) := by decide +kernel
theorem dL_law_536 : decode cL_law 536 = .ok (.iload 4, 2) := by decide +kernel
theorem dL_law_538 : decode cL_law 538 = .ok (.iconst 1, 1) := by decide +kernel
theorem dL_law_539 : decode cL_law 539 = .ok (.iadd, 1) := by decide +kernel
theorem dL_law_540 : decode cL_law 540 = .ok (.iaload, 1) := by decide +kernel
theorem dL_law_541 : decode cL_law 541 = .ok (.aload_n 0, 1) := by decide +kernel
theorem dL_law_542 : decode cL_law 542 = .ok (.iload 4, 2) := by decide +kernel
theorem dL_law_544 : decode cL_law 544 = .ok (.iconst 2, 1) := by decide +kernel
theorem dL_law_545 : decode cL_law 545 = .ok (.iadd, 1) := by decide +kernel
theorem dL_law_546 : decode cL_law 546 = .ok (.iaload, 1) := by decide +kernel
theorem dL_law_547 : decode cL_law 547 = .ok (.aload_n 0, 1) := by decide +kernel
theorem dL_law_548 : decode cL_law 548 = .ok (.iload 4, 2) := by decide +kernel
theorem dL_law_550 : decode cL_law 550 = .ok (.iconst 3, 1) := by decide +kernel
theorem dL_law_551 : decode cL_law 551 = .ok (.iadd, 1) := by decide +kernel
theorem dL_law_552 : decode cL_law 552 = .ok (.iaload, 1) := by decide +kernel
theorem dL_law_553 : decode cL_law 553 = .ok (.aload_n 0, 1) := by decide +kernel
theorem dL_law_554 : decode cL_law 554 = .ok (.iload 4, 2) := by decide +kernel
theorem dL_law_556 : decode cL_law 556 = .ok (.iconst 4, 1) := by decide +kernel
theorem dL_law_557 : decode cL_law 557 = .ok (.iadd, 1) := by decide +kernel
theorem dL_law_558 : decode cL_law 558 = .ok (.iaload, 1) := by decide +kernel
theorem dL_law_559 : decode cL_law 559 = .ok (.invokestatic 128, 3) := by decide +kernel
theorem dL_law_562 : decode cL_law 562 = .ok (.istore 5, 2) := by decide +kernel
theorem dL_law_564 : decode cL_law 564 = .ok (.aload_n 2, 1) := by decide +kernel
theorem dL_law_565 : decode cL_law 565 = .ok (.aload_n 0, 1) := by decide +kernel
theorem dL_law_566 : decode cL_law 566 = .ok (.iload 4, 2) := by decide +kernel
theorem dL_law_568 : decode cL_law 568 = .ok (.iconst 1, 1) := by decide +kernel
theorem dL_law_569 : decode cL_law 569 = .ok (.iadd, 1) := by decide +kernel
theorem dL_law_570 : decode cL_law 570 = .ok (.iaload, 1) := by decide +kernel
theorem dL_law_571 : decode cL_law 571 = .ok (.aload_n 0, 1) := by decide +kernel
theorem dL_law_572 : decode cL_law 572 = .ok (.iload 4, 2) := by decide +kernel
theorem dL_law_574 : decode cL_law 574 = .ok (.iconst 2, 1) := by decide +kernel
theorem dL_law_575 : decode cL_law 575 = .ok (.iadd, 1) := by decide +kernel
theorem dL_law_576 : decode cL_law 576 = .ok (.iaload, 1) := by decide +kernel
theorem dL_law_577 : decode cL_law 577 = .ok (.aload_n 0, 1) := by decide +kernel
theorem dL_law_578 : decode cL_law 578 = .ok (.iload 4, 2) := by decide +kernel
theorem dL_law_580 : decode cL_law 580 = .ok (.iconst 3, 1) := by decide +kernel
theorem dL_law_581 : decode cL_law 581 = .ok (.iadd, 1) := by decide +kernel
theorem dL_law_582 : decode cL_law 582 = .ok (.iaload, 1) := by decide +kernel
theorem dL_law_583 : decode cL_law 583 = .ok (.aload_n 0, 1) := by decide +kernel
theorem dL_law_584 : decode cL_law 584 = .ok (.iload 4, 2) := by decide +kernel
theorem dL_law_586 : decode cL_law 586 = .ok (.iconst 4, 1) := by decide +kernel
theorem dL_law_587 : decode cL_law 587 = .ok (.iadd, 1) := by decide +kernel
theorem dL_law_588 : decode cL_law 588 = .ok (.iaload, 1) := by decide +kernel
theorem dL_law_589 : decode cL_law 589 = .ok (.invokevirtual 131, 3) := by decide +kernel
theorem dL_law_592 : decode cL_law 592 = .ok (.goto 283, 3) := by decide +kernel
theorem dL_law_595 : decode cL_law 595 = .ok (.aload_n 1, 1) := by decide +kernel
theorem dL_law_596 : decode cL_law 596 = .ok (.aload_n 0, 1) := by decide +kernel
theorem dL_law_597 : decode cL_law 597 = .ok (.iload 4, 2) := by decide +kernel
theorem dL_law_599 : decode cL_law 599 = .ok (.iconst 1, 1) := by decide +kernel
theorem dL_law_600 : decode cL_law 600 = .ok (.iadd, 1) := by decide +kernel
theorem dL_law_601 : decode cL_law 601 = .ok (.iaload, 1) := by decide +kernel
theorem dL_law_602 : decode cL_law 602 = .ok (.aload_n 0, 1) := by decide +kernel
theorem dL_law_603 : decode cL_law 603 = .ok (.iload 4, 2) := by decide +kernel
theorem dL_law_605 : decode cL_law 605 = .ok (.iconst 2, 1) := by decide +kernel
theorem dL_law_606 : decode cL_law 606 = .ok (.iadd, 1) := by decide +kernel
theorem dL_law_607 : decode cL_law 607 = .ok (.iaload, 1) := by decide +kernel
theorem dL_law_608 : decode cL_law 608 = .ok (.aload_n 0, 1) := by decide +kernel
theorem dL_law_609 : decode cL_law 609 = .ok (.iload 4, 2) := by decide +kernel
theorem dL_law_611 : decode cL_law 611 = .ok (.iconst 3, 1) := by decide +kernel
theorem dL_law_612 : decode cL_law 612 = .ok (.iadd, 1) := by decide +kernel
theorem dL_law_613 : decode cL_law 613 = .ok (.iaload, 1) := by decide +kernel
theorem dL_law_614 : decode cL_law 614 = .ok (.aload_n 0, 1) := by decide +kernel
theorem dL_law_615 : decode cL_law 615 = .ok (.iload 4, 2) := by decide +kernel
theorem dL_law_617 : decode cL_law 617 = .ok (.iconst 4, 1) := by decide +kernel
theorem dL_law_618 : decode cL_law 618 = .ok (.iadd, 1) := by decide +kernel
theorem dL_law_619 : decode cL_law 619 = .ok (.iaload, 1) := by decide +kernel
theorem dL_law_620 : decode cL_law 620 = .ok (.aload_n 3, 1) := by decide +kernel
theorem dL_law_621 : decode cL_law 621 = .ok (.invokestatic 132, 3) := by decide +kernel
theorem dL_law_624 : decode cL_law 624 = .ok (.istore 5, 2) := by decide +kernel
theorem dL_law_626 : decode cL_law 626 = .ok (.aload_n 2, 1) := by decide +kernel
theorem dL_law_627 : decode cL_law 627 = .ok (.aload_n 0, 1) := by decide +kernel
theorem dL_law_628 : decode cL_law 628 = .ok (.iload 4, 2) := by decide +kernel
theorem dL_law_630 : decode cL_law 630 = .ok (.iconst 1, 1) := by decide +kernel
theorem dL_law_631 : decode cL_law 631 = .ok (.iadd, 1) := by decide +kernel
theorem dL_law_632 : decode cL_law 632 = .ok (.iaload, 1) := by decide +kernel
theorem dL_law_633 : decode cL_law 633 = .ok (.aload_n 0, 1) := by decide +kernel
theorem dL_law_634 : decode cL_law 634 = .ok (.iload 4, 2) := by decide +kernel
theorem dL_law_636 : decode cL_law 636 = .ok (.iconst 2, 1) := by decide +kernel
theorem dL_law_637 : decode cL_law 637 = .ok (.iadd, 1) := by decide +kernel
theorem dL_law_638 : decode cL_law 638 = .ok (.iaload, 1) := by decide +kernel
theorem dL_law_639 : decode cL_law 639 = .ok (.aload_n 0, 1) := by decide +kernel
theorem dL_law_640 : decode cL_law 640 = .ok (.iload 4, 2) := by decide +kernel
theorem dL_law_642 : decode cL_law 642 = .ok (.iconst 3, 1) := by decide +kernel
theorem dL_law_643 : decode cL_law 643 = .ok (.iadd, 1) := by decide +kernel
theorem dL_law_644 : decode cL_law 644 = .ok (.iaload, 1) := by decide +kernel
theorem dL_law_645 : decode cL_law 645 = .ok (.aload_n 0, 1) := by decide +kernel
theorem dL_law_646 : decode cL_law 646 = .ok (.iload 4, 2) := by decide +kernel
theorem dL_law_648 : decode cL_law 648 = .ok (.iconst 4, 1) := by decide +kernel
theorem dL_law_649 : decode cL_law 649 = .ok (.iadd, 1) := by decide +kernel
theorem dL_law_650 : decode cL_law 650 = .ok (.iaload, 1) := by decide +kernel
theorem dL_law_651 : decode cL_law 651 = .ok (.invokevirtual 135, 3) := by decide +kernel
theorem dL_law_654 : decode cL_law 654 = .ok (.istore 6, 2) := by decide +kernel
theorem dL_law_656 : decode cL_law 656 = .ok (.goto 219, 3) := by decide +kernel
theorem dL_law_659 : decode cL_law 659 = .ok (.aload_n 1, 1) := by decide +kernel
theorem dL_law_660 : decode cL_law 660 = .ok (.aload_n 0, 1) := by decide +kernel
theorem dL_law_661 : decode cL_law 661 = .ok (.iload 4, 2) := by decide +kernel
theorem dL_law_663 : decode cL_law 663 = .ok (.iconst 1, 1) := by decide +kernel
theorem dL_law_664 : decode cL_law 664 = .ok (.iadd, 1) := by decide +kernel
theorem dL_law_665 : decode cL_law 665 = .ok (.iaload, 1) := by decide +kernel
theorem dL_law_666 : decode cL_law 666 = .ok (.aload_n 0, 1) := by decide +kernel
theorem dL_law_667 : decode cL_law 667 = .ok (.iload 4, 2) := by decide +kernel
theorem dL_law_669 : decode cL_law 669 = .ok (.iconst 2, 1) := by decide +kernel
theorem dL_law_670 : decode cL_law 670 = .ok (.iadd, 1) := by decide +kernel
theorem dL_law_671 : decode cL_law 671 = .ok (.iaload, 1) := by decide +kernel
theorem dL_law_672 : decode cL_law 672 = .ok (.aload_n 3, 1) := by decide +kernel
theorem dL_law_673 : decode cL_law 673 = .ok (.invokestatic 136, 3) := by decide +kernel
theorem dL_law_676 : decode cL_law 676 = .ok (.istore 5, 2) := by decide +kernel
theorem dL_law_678 : decode cL_law 678 = .ok (.aload_n 2, 1) := by decide +kernel
theorem dL_law_679 : decode cL_law 679 = .ok (.aload_n 0, 1) := by decide +kernel
theorem dL_law_680 : decode cL_law 680 = .ok (.iload 4, 2) := by decide +kernel
theorem dL_law_682 : decode cL_law 682 = .ok (.iconst 1, 1) := by decide +kernel
theorem dL_law_683 : decode cL_law 683 = .ok (.iadd, 1) := by decide +kernel
theorem dL_law_684 : decode cL_law 684 = .ok (.iaload, 1) := by decide +kernel
theorem dL_law_685 : decode cL_law 685 = .ok (.aload_n 0, 1) := by decide +kernel
theorem dL_law_686 : decode cL_law 686 = .ok (.iload 4, 2) := by decide +kernel
theorem dL_law_688 : decode cL_law 688 = .ok (.iconst 2, 1) := by decide +kernel
theorem dL_law_689 : decode cL_law 689 = .ok (.iadd, 1) := by decide +kernel
theorem dL_law_690 : decode cL_law 690 = .ok (.iaload, 1) := by decide +kernel
theorem dL_law_691 : decode cL_law 691 = .ok (.invokevirtual 138, 3) := by decide +kernel
theorem dL_law_694 : decode cL_law 694 = .ok (.istore 6, 2) := by decide +kernel
theorem dL_law_696 : decode cL_law 696 = .ok (.goto 179, 3) := by decide +kernel
theorem dL_law_699 : decode cL_law 699 = .ok (.aload_n 1, 1) := by decide +kernel
theorem dL_law_700 : decode cL_law 700 = .ok (.aload_n 0, 1) := by decide +kernel
theorem dL_law_701 : decode cL_law 701 = .ok (.iload 4, 2) := by decide +kernel
theorem dL_law_703 : decode cL_law 703 = .ok (.iconst 1, 1) := by decide +kernel
theorem dL_law_704 : decode cL_law 704 = .ok (.iadd, 1) := by decide +kernel
theorem dL_law_705 : decode cL_law 705 = .ok (.iaload, 1) := by decide +kernel
theorem dL_law_706 : decode cL_law 706 = .ok (.aload_n 3, 1) := by decide +kernel
theorem dL_law_707 : decode cL_law 707 = .ok (.invokestatic 139, 3) := by decide +kernel
theorem dL_law_710 : decode cL_law 710 = .ok (.istore 5, 2) := by decide +kernel
theorem dL_law_712 : decode cL_law 712 = .ok (.aload_n 2, 1) := by decide +kernel
theorem dL_law_713 : decode cL_law 713 = .ok (.aload_n 0, 1) := by decide +kernel
theorem dL_law_714 : decode cL_law 714 = .ok (.iload 4, 2) := by decide +kernel
theorem dL_law_716 : decode cL_law 716 = .ok (.iconst 1, 1) := by decide +kernel
theorem dL_law_717 : decode cL_law 717 = .ok (.iadd, 1) := by decide +kernel
theorem dL_law_718 : decode cL_law 718 = .ok (.iaload, 1) := by decide +kernel
theorem dL_law_719 : decode cL_law 719 = .ok (.invokevirtual 141, 3) := by decide +kernel
theorem dL_law_722 : decode cL_law 722 = .ok (.istore 6, 2) := by decide +kernel
theorem dL_law_724 : decode cL_law 724 = .ok (.goto 151, 3) := by decide +kernel
theorem dL_law_727 : decode cL_law 727 = .ok (.aload_n 1, 1) := by decide +kernel
theorem dL_law_728 : decode cL_law 728 = .ok (.aload_n 0, 1) := by decide +kernel
theorem dL_law_729 : decode cL_law 729 = .ok (.iload 4, 2) := by decide +kernel
theorem dL_law_731 : decode cL_law 731 = .ok (.iconst 1, 1) := by decide +kernel
theorem dL_law_732 : decode cL_law 732 = .ok (.iadd, 1) := by decide +kernel
theorem dL_law_733 : decode cL_law 733 = .ok (.iaload, 1) := by decide +kernel
theorem dL_law_734 : decode cL_law 734 = .ok (.aload_n 0, 1) := by decide +kernel
theorem dL_law_735 : decode cL_law 735 = .ok (.iload 4, 2) := by decide +kernel
theorem dL_law_737 : decode cL_law 737 = .ok (.iconst 2, 1) := by decide +kernel
theorem dL_law_738 : decode cL_law 738 = .ok (.iadd, 1) := by decide +kernel
theorem dL_law_739 : decode cL_law 739 = .ok (.iaload, 1) := by decide +kernel
theorem dL_law_740 : decode cL_law 740 = .ok (.aload_n 3, 1) := by decide +kernel
theorem dL_law_741 : decode cL_law 741 = .ok (.invokestatic 142, 3) := by decide +kernel
theorem dL_law_744 : decode cL_law 744 = .ok (.istore 5, 2) := by decide +kernel
theorem dL_law_746 : decode cL_law 746 = .ok (.aload_n 2, 1) := by decide +kernel
theorem dL_law_747 : decode cL_law 747 = .ok (.aload_n 0, 1) := by decide +kernel
theorem dL_law_748 : decode cL_law 748 = .ok (.iload 4, 2) := by decide +kernel
theorem dL_law_750 : decode cL_law 750 = .ok (.iconst 1, 1) := by decide +kernel
theorem dL_law_751 : decode cL_law 751 = .ok (.iadd, 1) := by decide +kernel
theorem dL_law_752 : decode cL_law 752 = .ok (.iaload, 1) := by decide +kernel
theorem dL_law_753 : decode cL_law 753 = .ok (.aload_n 0, 1) := by decide +kernel
theorem dL_law_754 : decode cL_law 754 = .ok (.iload 4, 2) := by decide +kernel
theorem dL_law_756 : decode cL_law 756 = .ok (.iconst 2, 1) := by decide +kernel
theorem dL_law_757 : decode cL_law 757 = .ok (.iadd, 1) := by decide +kernel
theorem dL_law_758 : decode cL_law 758 = .ok (.iaload, 1) := by decide +kernel
theorem dL_law_759 : decode cL_law 759 = .ok (.invokevirtual 144, 3) := by decide +kernel
theorem dL_law_762 : decode cL_law 762 = .ok (.istore 6, 2) := by decide +kernel
theorem dL_law_764 : decode cL_law 764 = .ok (.goto 111, 3) := by decide +kernel
theorem dL_law_767 : decode cL_law 767 = .ok (.aload_n 1, 1) := by decide +kernel
theorem dL_law_768 : decode cL_law 768 = .ok (.aload_n 0, 1) := by decide +kernel
theorem dL_law_769 : decode cL_law 769 = .ok (.iload 4, 2) := by decide +kernel
theorem dL_law_771 : decode cL_law 771 = .ok (.iconst 1, 1) := by decide +kernel
theorem dL_law_772 : decode cL_law 772 = .ok (.iadd, 1) := by decide +kernel
theorem dL_law_773 : decode cL_law 773 = .ok (.iaload, 1) := by decide +kernel
theorem dL_law_774 : decode cL_law 774 = .ok (.aload_n 0, 1) := by decide +kernel
theorem dL_law_775 : decode cL_law 775 = .ok (.iload 4, 2) := by decide +kernel
theorem dL_law_777 : decode cL_law 777 = .ok (.iconst 2, 1) := by decide +kernel
theorem dL_law_778 : decode cL_law 778 = .ok (.iadd, 1) := by decide +kernel
theorem dL_law_779 : decode cL_law 779 = .ok (.iaload, 1) := by decide +kernel
theorem dL_law_780 : decode cL_law 780 = .ok (.aload_n 0, 1) := by decide +kernel
theorem dL_law_781 : decode cL_law 781 = .ok (.iload 4, 2) := by decide +kernel
theorem dL_law_783 : decode cL_law 783 = .ok (.iconst 3, 1) := by decide +kernel
theorem dL_law_784 : decode cL_law 784 = .ok (.iadd, 1) := by decide +kernel
theorem dL_law_785 : decode cL_law 785 = .ok (.iaload, 1) := by decide +kernel
theorem dL_law_786 : decode cL_law 786 = .ok (.aload_n 3, 1) := by decide +kernel
theorem dL_law_787 : decode cL_law 787 = .ok (.invokestatic 145, 3) := by decide +kernel
theorem dL_law_790 : decode cL_law 790 = .ok (.istore 5, 2) := by decide +kernel
theorem dL_law_792 : decode cL_law 792 = .ok (.aload_n 2, 1) := by decide +kernel
theorem dL_law_793 : decode cL_law 793 = .ok (.aload_n 0, 1) := by decide +kernel
theorem dL_law_794 : decode cL_law 794 = .ok (.iload 4, 2) := by decide +kernel
theorem dL_law_796 : decode cL_law 796 = .ok (.iconst 1, 1) := by decide +kernel
theorem dL_law_797 : decode cL_law 797 = .ok (.iadd, 1) := by decide +kernel
theorem dL_law_798 : decode cL_law 798 = .ok (.iaload, 1) := by decide +kernel
theorem dL_law_799 : decode cL_law 799 = .ok (.aload_n 0, 1) := by decide +kernel
theorem dL_law_800 : decode cL_law 800 = .ok (.iload 4, 2) := by decide +kernel
theorem dL_law_802 : decode cL_law 802 = .ok (.iconst 2, 1) := by decide +kernel
theorem dL_law_803 : decode cL_law 803 = .ok (.iadd, 1) := by decide +kernel
theorem dL_law_804 : decode cL_law 804 = .ok (.iaload, 1) := by decide +kernel
theorem dL_law_805 : decode cL_law 805 = .ok (.aload_n 0, 1) := by decide +kernel
theorem dL_law_806 : decode cL_law 806 = .ok (.iload 4, 2) := by decide +kernel
theorem dL_law_808 : decode cL_law 808 = .ok (.iconst 3, 1) := by decide +kernel
theorem dL_law_809 : decode cL_law 809 = .ok (.iadd, 1) := by decide +kernel
theorem dL_law_810 : decode cL_law 810 = .ok (.iaload, 1) := by decide +kernel
theorem dL_law_811 : decode cL_law 811 = .ok (.invokevirtual 147, 3) := by decide +kernel
theorem dL_law_814 : decode cL_law 814 = .ok (.istore 6, 2) := by decide +kernel
theorem dL_law_816 : decode cL_law 816 = .ok (.goto 59, 3) := by decide +kernel
theorem dL_law_819 : decode cL_law 819 = .ok (.aload_n 1, 1) := by decide +kernel
theorem dL_law_820 : decode cL_law 820 = .ok (.aload_n 0, 1) := by decide +kernel
theorem dL_law_821 : decode cL_law 821 = .ok (.iload 4, 2) := by decide +kernel
theorem dL_law_823 : decode cL_law 823 = .ok (.iconst 1, 1) := by decide +kernel
theorem dL_law_824 : decode cL_law 824 = .ok (.iadd, 1) := by decide +kernel
theorem dL_law_825 : decode cL_law 825 = .ok (.iaload, 1) := by decide +kernel
theorem dL_law_826 : decode cL_law 826 = .ok (.aload_n 3, 1) := by decide +kernel
theorem dL_law_827 : decode cL_law 827 = .ok (.invokestatic 148, 3) := by decide +kernel
theorem dL_law_830 : decode cL_law 830 = .ok (.istore 5, 2) := by decide +kernel
theorem dL_law_832 : decode cL_law 832 = .ok (.aload_n 2, 1) := by decide +kernel
theorem dL_law_833 : decode cL_law 833 = .ok (.aload_n 0, 1) := by decide +kernel
theorem dL_law_834 : decode cL_law 834 = .ok (.iload 4, 2) := by decide +kernel
theorem dL_law_836 : decode cL_law 836 = .ok (.iconst 1, 1) := by decide +kernel
theorem dL_law_837 : decode cL_law 837 = .ok (.iadd, 1) := by decide +kernel
theorem dL_law_838 : decode cL_law 838 = .ok (.iaload, 1) := by decide +kernel
theorem dL_law_839 : decode cL_law 839 = .ok (.invokevirtual 150, 3) := by decide +kernel
theorem dL_law_842 : decode cL_law 842 = .ok (.istore 6, 2) := by decide +kernel
theorem dL_law_844 : decode cL_law 844 = .ok (.goto 31, 3) := by decide +kernel
theorem dL_law_847 : decode cL_law 847 = .ok (.aload_n 1, 1) := by decide +kernel
theorem dL_law_848 : decode cL_law 848 = .ok (.aload_n 0, 1) := by decide +kernel
theorem dL_law_849 : decode cL_law 849 = .ok (.iload 4, 2) := by decide +kernel
theorem dL_law_851 : decode cL_law 851 = .ok (.iconst 1, 1) := by decide +kernel
theorem dL_law_852 : decode cL_law 852 = .ok (.iadd, 1) := by decide +kernel
theorem dL_law_853 : decode cL_law 853 = .ok (.iaload, 1) := by decide +kernel
theorem dL_law_854 : decode cL_law 854 = .ok (.aload_n 3, 1) := by decide +kernel
theorem dL_law_855 : decode cL_law 855 = .ok (.invokestatic 151, 3) := by decide +kernel
theorem dL_law_858 : decode cL_law 858 = .ok (.istore 5, 2) := by decide +kernel
theorem dL_law_860 : decode cL_law 860 = .ok (.aload_n 2, 1) := by decide +kernel
theorem dL_law_861 : decode cL_law 861 = .ok (.aload_n 0, 1) := by decide +kernel
theorem dL_law_862 : decode cL_law 862 = .ok (.iload 4, 2) := by decide +kernel
theorem dL_law_864 : decode cL_law 864 = .ok (.iconst 1, 1) := by decide +kernel
theorem dL_law_865 : decode cL_law 865 = .ok (.iadd, 1) := by decide +kernel
theorem dL_law_866 : decode cL_law 866 = .ok (.iaload, 1) := by decide +kernel
theorem dL_law_867 : decode cL_law 867 = .ok (.invokevirtual 153, 3) := by decide +kernel
theorem dL_law_870 : decode cL_law 870 = .ok (.istore 6, 2) := by decide +kernel
theorem dL_law_872 : decode cL_law 872 = .ok (.goto 3, 3) := by decide +kernel
theorem dL_law_875 : decode cL_law 875 = .ok (.iinc 4 5, 3) := by decide +kernel
theorem dL_law_878 : decode cL_law 878 = .ok (.goto (-855), 3) := by decide +kernel
theorem dL_law_881 : decode cL_law 881 = .ok (.iconst 1, 1) := by decide +kernel
theorem dL_law_882 : decode cL_law 882 = .ok (.ireturn, 1) := by decide +kernel
