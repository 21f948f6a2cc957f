/-! decode rows -/
theorem d_Y_set_0 : decode c_Y_set 0 = .ok (.aload_n 0, 1) := by decide +kernel
theorem d_Y_set_1 : decode c_Y_set 1 = .ok (.iload_n 1, 1) := by decide +kernel
theorem d_Y_set_2 : decode c_Y_set 2 = .ok (.lload_n 2, 1) := by decide +kernel
theorem d_Y_set_3 : decode c_Y_set 3 = .ok (.invokevirtual 7, 3) := by decide +kernel
theorem d_Y_set_6 : decode c_Y_set 6 = .ok (.goto 7, 3) := by decide +kernel
theorem d_Y_set_9 : decode c_Y_set 9 = .ok (.astore 4, 2) := by decide +kernel
theorem d_Y_set_11 : decode c_Y_set 11 = .ok (.iconst 1, 1) := by decide +kernel
theorem d_Y_set_12 : decode c_Y_set 12 = .ok (.ireturn, 1) := by decide +kernel
theorem d_Y_set_13 : decode c_Y_set 13 = .ok (.iconst 0, 1) := by decide +kernel
theorem d_Y_set_14 : decode c_Y_set 14 = .ok (.ireturn, 1) := by decide +kernel
theorem d_Y_copy_0 : decode c_Y_copy 0 = .ok (.aload_n 0, 1) := by decide +kernel
theorem d_Y_copy_1 : decode c_Y_copy 1 = .ok (.iload_n 1, 1) := by decide +kernel
theorem d_Y_copy_2 : decode c_Y_copy 2 = .ok (.iload_n 2, 1) := by decide +kernel
theorem d_Y_copy_3 : decode c_Y_copy 3 = .ok (.iload_n 3, 1) := by decide +kernel
theorem d_Y_copy_4 : decode c_Y_copy 4 = .ok (.invokevirtual 15, 3) := by decide +kernel
theorem d_Y_copy_7 : decode c_Y_copy 7 = .ok (.goto 7, 3) := by decide +kernel
theorem d_Y_copy_10 : decode c_Y_copy 10 = .ok (.astore 4, 2) := by decide +kernel
theorem d_Y_copy_12 : decode c_Y_copy 12 = .ok (.iconst 1, 1) := by decide +kernel
theorem d_Y_copy_13 : decode c_Y_copy 13 = .ok (.ireturn, 1) := by decide +kernel
theorem d_Y_copy_14 : decode c_Y_copy 14 = .ok (.iconst 0, 1) := by decide +kernel
theorem d_Y_copy_15 : decode c_Y_copy 15 = .ok (.ireturn, 1) := by decide +kernel
theorem d_Y_add_0 : decode c_Y_add 0 = .ok (.aload_n 0, 1) := by decide +kernel
theorem d_Y_add_1 : decode c_Y_add 1 = .ok (.iload_n 1, 1) := by decide +kernel
theorem d_Y_add_2 : decode c_Y_add 2 = .ok (.iload_n 2, 1) := by decide +kernel
theorem d_Y_add_3 : decode c_Y_add 3 = .ok (.iload_n 3, 1) := by decide +kernel
theorem d_Y_add_4 : decode c_Y_add 4 = .ok (.invokevirtual 19, 3) := by decide +kernel
theorem d_Y_add_7 : decode c_Y_add 7 = .ok (.goto 11, 3) := by decide +kernel
theorem d_Y_add_10 : decode c_Y_add 10 = .ok (.astore 4, 2) := by decide +kernel
theorem d_Y_add_12 : decode c_Y_add 12 = .ok (.iconst 1, 1) := by decide +kernel
theorem d_Y_add_13 : decode c_Y_add 13 = .ok (.ireturn, 1) := by decide +kernel
theorem d_Y_add_14 : decode c_Y_add 14 = .ok (.astore 4, 2) := by decide +kernel
theorem d_Y_add_16 : decode c_Y_add 16 = .ok (.iconst 2, 1) := by decide +kernel
theorem d_Y_add_17 : decode c_Y_add 17 = .ok (.ireturn, 1) := by decide +kernel
theorem d_Y_add_18 : decode c_Y_add 18 = .ok (.iconst 0, 1) := by decide +kernel
theorem d_Y_add_19 : decode c_Y_add 19 = .ok (.ireturn, 1) := by decide +kernel
theorem d_Y_subtract_0 : decode c_Y_subtract 0 = .ok (.aload_n 0, 1) := by decide +kernel
theorem d_Y_subtract_1 : decode c_Y_subtract 1 = .ok (.iload_n 1, 1) := by decide +kernel
theorem d_Y_subtract_2 : decode c_Y_subtract 2 = .ok (.iload_n 2, 1) := by decide +kernel
theorem d_Y_subtract_3 : decode c_Y_subtract 3 = .ok (.iload_n 3, 1) := by decide +kernel
theorem d_Y_subtract_4 : decode c_Y_subtract 4 = .ok (.invokevirtual 25, 3) := by decide +kernel
theorem d_Y_subtract_7 : decode c_Y_subtract 7 = .ok (.goto 11, 3) := by decide +kernel
theorem d_Y_subtract_10 : decode c_Y_subtract 10 = .ok (.astore 4, 2) := by decide +kernel
theorem d_Y_subtract_12 : decode c_Y_subtract 12 = .ok (.iconst 1, 1) := by decide +kernel
theorem d_Y_subtract_13 : decode c_Y_subtract 13 = .ok (.ireturn, 1) := by decide +kernel
theorem d_Y_subtract_14 : decode c_Y_subtract 14 = .ok (.astore 4, 2) := by decide +kernel
theorem d_Y_subtract_16 : decode c_Y_subtract 16 = .ok (.iconst 2, 1) := by decide +kernel
theorem d_Y_subtract_17 : decode c_Y_subtract 17 = .ok (.ireturn, 1) := by decide +kernel
theorem d_Y_subtract_18 : decode c_Y_subtract 18 = .ok (.iconst 0, 1) := by decide +kernel
theorem d_Y_subtract_19 : decode c_Y_subtract 19 = .ok (.ireturn, 1) := by decide +kernel
theorem d_Y_multiply_0 : decode c_Y_multiply 0 = .ok (.aload_n 0, 1) := by decide +kernel
theorem d_Y_multiply_1 : decode c_Y_multiply 1 = .ok (.iload_n 1, 1) := by decide +kernel
theorem d_Y_multiply_2 : decode c_Y_multiply 2 = .ok (.iload_n 2, 1) := by decide +kernel
theorem d_Y_multiply_3 : decode c_Y_multiply 3 = .ok (.iload_n 3, 1) := by decide +kernel
theorem d_Y_multiply_4 : decode c_Y_multiply 4 = .ok (.invokevirtual 28, 3) := by decide +kernel
theorem d_Y_multiply_7 : decode c_Y_multiply 7 = .ok (.goto 11, 3) := by decide +kernel
theorem d_Y_multiply_10 : decode c_Y_multiply 10 = .ok (.astore 4, 2) := by decide +kernel
theorem d_Y_multiply_12 : decode c_Y_multiply 12 = .ok (.iconst 1, 1) := by decide +kernel
theorem d_Y_multiply_13 : decode c_Y_multiply 13 = .ok (.ireturn, 1) := by decide +kernel
theorem d_Y_multiply_14 : decode c_Y_multiply 14 = .ok (.astore 4, 2) := by decide +kernel
theorem d_Y_multiply_16 : decode c_Y_multiply 16 = .ok (.iconst 2, 1) := by decide +kernel
theorem d_Y_multiply_17 : decode c_Y_multiply 17 = .ok (.ireturn, 1) := by decide +kernel
theorem d_Y_multiply_18 : decode c_Y_multiply 18 = .ok (.iconst 0, 1) := by decide +kernel
theorem d_Y_multiply_19 : decode c_Y_multiply 19 = .ok (.ireturn, 1) := by decide +kernel
theorem d_Y_divide_0 : decode c_Y_divide 0 = .ok (.aload_n 0, 1) := by decide +kernel
theorem d_Y_divide_1 : decode c_Y_divide 1 = .ok (.iload_n 1, 1) := by decide +kernel
theorem d_Y_divide_2 : decode c_Y_divide 2 = .ok (.iload_n 2, 1) := by decide +kernel
theorem d_Y_divide_3 : decode c_Y_divide 3 = .ok (.iload_n 3, 1) := by decide +kernel
theorem d_Y_divide_4 : decode c_Y_divide 4 = .ok (.iload 4, 2) := by decide +kernel
theorem d_Y_divide_6 : decode c_Y_divide 6 = .ok (.iload 5, 2) := by decide +kernel
theorem d_Y_divide_8 : decode c_Y_divide 8 = .ok (.invokevirtual 31, 3) := by decide +kernel
theorem d_Y_divide_11 : decode c_Y_divide 11 = .ok (.goto 15, 3) := by decide +kernel
theorem d_Y_divide_14 : decode c_Y_divide 14 = .ok (.astore 6, 2) := by decide +kernel
theorem d_Y_divide_16 : decode c_Y_divide 16 = .ok (.iconst 1, 1) := by decide +kernel
theorem d_Y_divide_17 : decode c_Y_divide 17 = .ok (.ireturn, 1) := by decide +kernel
theorem d_Y_divide_18 : decode c_Y_divide 18 = .ok (.astore 6, 2) := by decide +kernel
theorem d_Y_divide_20 : decode c_Y_divide 20 = .ok (.iconst 2, 1) := by decide +kernel
theorem d_Y_divide_21 : decode c_Y_divide 21 = .ok (.ireturn, 1) := by decide +kernel
theorem d_Y_divide_22 : decode c_Y_divide 22 = .ok (.astore 6, 2) := by decide +kernel
theorem d_Y_divide_24 : decode c_Y_divide 24 = .ok (.iconst 3, 1) := by decide +kernel
theorem d_Y_divide_25 : decode c_Y_divide 25 = .ok (.ireturn, 1) := by decide +kernel
theorem d_Y_divide_26 : decode c_Y_divide 26 = .ok (.iconst 0, 1) := by decide +kernel
theorem d_Y_divide_27 : decode c_Y_divide 27 = .ok (.ireturn, 1) := by decide +kernel
theorem d_Y_shift_0 : decode c_Y_shift 0 = .ok (.aload_n 0, 1) := by decide +kernel
theorem d_Y_shift_1 : decode c_Y_shift 1 = .ok (.iload_n 1, 1) := by decide +kernel
theorem d_Y_shift_2 : decode c_Y_shift 2 = .ok (.iload_n 2, 1) := by decide +kernel
theorem d_Y_shift_3 : decode c_Y_shift 3 = .ok (.iload_n 3, 1) := by decide +kernel
theorem d_Y_shift_4 : decode c_Y_shift 4 = .ok (.invokevirtual 39, 3) := by decide +kernel
theorem d_Y_shift_7 : decode c_Y_shift 7 = .ok (.goto 11, 3) := by decide +kernel
theorem d_Y_shift_10 : decode c_Y_shift 10 = .ok (.astore 4, 2) := by decide +kernel
theorem d_Y_shift_12 : decode c_Y_shift 12 = .ok (.iconst 1, 1) := by decide +kernel
theorem d_Y_shift_13 : decode c_Y_shift 13 = .ok (.ireturn, 1) := by decide +kernel
theorem d_Y_shift_14 : decode c_Y_shift 14 = .ok (.astore 4, 2) := by decide +kernel
theorem d_Y_shift_16 : decode c_Y_shift 16 = .ok (.iconst 2, 1) := by decide +kernel
theorem d_Y_shift_17 : decode c_Y_shift 17 = .ok (.ireturn, 1) := by decide +kernel
theorem d_Y_shift_18 : decode c_Y_shift 18 = .ok (.iconst 0, 1) := by decide +kernel
theorem d_Y_shift_19 : decode c_Y_shift 19 = .ok (.ireturn, 1) := by decide +kernel
theorem d_Y_root_0 : decode c_Y_root 0 = .ok (.aload_n 0, 1) := by decide +kernel
theorem d_Y_root_1 : decode c_Y_root 1 = .ok (.iload_n 1, 1) := by decide +kernel
theorem d_Y_root_2 : decode c_Y_root 2 = .ok (.iload_n 2, 1) := by decide +kernel
theorem d_Y_root_3 : decode c_Y_root 3 = .ok (.iload_n 3, 1) := by decide +kernel
theorem d_Y_root_4 : decode c_Y_root 4 = .ok (.invokevirtual 42, 3) := by decide +kernel
theorem d_Y_root_7 : decode c_Y_root 7 = .ok (.goto 15, 3) := by decide +kernel
theorem d_Y_root_10 : decode c_Y_root 10 = .ok (.astore 4, 2) := by decide +kernel
theorem d_Y_root_12 : decode c_Y_root 12 = .ok (.iconst 1, 1) := by decide +kernel
theorem d_Y_root_13 : decode c_Y_root 13 = .ok (.ireturn, 1) := by decide +kernel
theorem d_Y_root_14 : decode c_Y_root 14 = .ok (.astore 4, 2) := by decide +kernel
theorem d_Y_root_16 : decode c_Y_root 16 = .ok (.iconst 2, 1) := by decide +kernel
theorem d_Y_root_17 : decode c_Y_root 17 = .ok (.ireturn, 1) := by decide +kernel
theorem d_Y_root_18 : decode c_Y_root 18 = .ok (.astore 4, 2) := by decide +kernel
theorem d_Y_root_20 : decode c_Y_root 20 = .ok (.iconst 3, 1) := by decide +kernel
theorem d_Y_root_21 : decode c_Y_root 21 = .ok (.ireturn, 1) := by decide +kernel
theorem d_Y_root_22 : decode c_Y_root 22 = .ok (.iconst 0, 1) := by decide +kernel
theorem d_Y_root_23 : decode c_Y_root 23 = .ok (.ireturn, 1) := by decide +kernel
theorem d_Y_gcd_0 : decode c_Y_gcd 0 = .ok (.aload_n 0, 1) := by decide +kernel
theorem d_Y_gcd_1 : decode c_Y_gcd 1 = .ok (.iload_n 1, 1) := by decide +kernel
theorem d_Y_gcd_2 : decode c_Y_gcd 2 = .ok (.iload_n 2, 1) := by decide +kernel
theorem d_Y_gcd_3 : decode c_Y_gcd 3 = .ok (.iload_n 3, 1) := by decide +kernel
theorem d_Y_gcd_4 : decode c_Y_gcd 4 = .ok (.invokevirtual 45, 3) := by decide +kernel
theorem d_Y_gcd_7 : decode c_Y_gcd 7 = .ok (.goto 7, 3) := by decide +kernel
theorem d_Y_gcd_10 : decode c_Y_gcd 10 = .ok (.astore 4, 2) := by decide +kernel
theorem d_Y_gcd_12 : decode c_Y_gcd 12 = .ok (.iconst 1, 1) := by decide +kernel
theorem d_Y_gcd_13 : decode c_Y_gcd 13 = .ok (.ireturn, 1) := by decide +kernel
theorem d_Y_gcd_14 : decode c_Y_gcd 14 = .ok (.iconst 0, 1) := by decide +kernel
theorem d_Y_gcd_15 : decode c_Y_gcd 15 = .ok (.ireturn, 1) := by decide +kernel
theorem d_Y_power_0 : decode c_Y_power 0 = .ok (.aload_n 0, 1) := by decide +kernel
theorem d_Y_power_1 : decode c_Y_power 1 = .ok (.iload_n 1, 1) := by decide +kernel
theorem d_Y_power_2 : decode c_Y_power 2 = .ok (.iload_n 2, 1) := by decide +kernel
theorem d_Y_power_3 : decode c_Y_power 3 = .ok (.iload_n 3, 1) := by decide +kernel
theorem d_Y_power_4 : decode c_Y_power 4 = .ok (.iload 4, 2) := by decide +kernel
theorem d_Y_power_6 : decode c_Y_power 6 = .ok (.invokevirtual 48, 3) := by decide +kernel
theorem d_Y_power_9 : decode c_Y_power 9 = .ok (.goto 11, 3) := by decide +kernel
theorem d_Y_power_12 : decode c_Y_power 12 = .ok (.astore 5, 2) := by decide +kernel
theorem d_Y_power_14 : decode c_Y_power 14 = .ok (.iconst 1, 1) := by decide +kernel
theorem d_Y_power_15 : decode c_Y_power 15 = .ok (.ireturn, 1) := by decide +kernel
theorem d_Y_power_16 : decode c_Y_power 16 = .ok (.astore 5, 2) := by decide +kernel
theorem d_Y_power_18 : decode c_Y_power 18 = .ok (.iconst 2, 1) := by decide +kernel
theorem d_Y_power_19 : decode c_Y_power 19 = .ok (.ireturn, 1) := by decide +kernel
theorem d_Y_power_20 : decode c_Y_power 20 = .ok (.iconst 0, 1) := by decide +kernel
theorem d_Y_power_21 : decode c_Y_power 21 = .ok (.ireturn, 1) := by decide +kernel
theorem d_Y_inverse_0 : decode c_Y_inverse 0 = .ok (.aload_n 0, 1) := by decide +kernel
theorem d_Y_inverse_1 : decode c_Y_inverse 1 = .ok (.iload_n 1, 1) := by decide +kernel
theorem d_Y_inverse_2 : decode c_Y_inverse 2 = .ok (.iload_n 2, 1) := by decide +kernel
theorem d_Y_inverse_3 : decode c_Y_inverse 3 = .ok (.iload_n 3, 1) := by decide +kernel
theorem d_Y_inverse_4 : decode c_Y_inverse 4 = .ok (.invokevirtual 52, 3) := by decide +kernel
theorem d_Y_inverse_7 : decode c_Y_inverse 7 = .ok (.goto 15, 3) := by decide +kernel
theorem d_Y_inverse_10 : decode c_Y_inverse 10 = .ok (.astore 4, 2) := by decide +kernel
theorem d_Y_inverse_12 : decode c_Y_inverse 12 = .ok (.iconst 1, 1) := by decide +kernel
theorem d_Y_inverse_13 : decode c_Y_inverse 13 = .ok (.ireturn, 1) := by decide +kernel
theorem d_Y_inverse_14 : decode c_Y_inverse 14 = .ok (.astore 4, 2) := by decide +kernel
theorem d_Y_inverse_16 : decode c_Y_inverse 16 = .ok (.iconst 2, 1) := by decide +kernel
theorem d_Y_inverse_17 : decode c_Y_inverse 17 = .ok (.ireturn, 1) := by decide +kernel
theorem d_Y_inverse_18 : decode c_Y_inverse 18 = .ok (.astore 4, 2) := by decide +kernel
theorem d_Y_inverse_20 : decode c_Y_inverse 20 = .ok (.iconst 3, 1) := by decide +kernel
theorem d_Y_inverse_21 : decode c_Y_inverse 21 = .ok (.ireturn, 1) := by decide +kernel
theorem d_Y_inverse_22 : decode c_Y_inverse 22 = .ok (.iconst 0, 1) := by decide +kernel
theorem d_Y_inverse_23 : decode c_Y_inverse 23 = .ok (.ireturn, 1) := by decide +kernel
theorem d_Y_compare_0 : decode c_Y_compare 0 = .ok (.aload_n 3, 1) := by decide +kernel
theorem d_Y_compare_1 : decode c_Y_compare 1 = .ok (.iconst 0, 1) := by decide +kernel
theorem d_Y_compare_2 : decode c_Y_compare 2 = .ok (.aload_n 0, 1) := by decide +kernel
theorem d_Y_compare_3 : decode c_Y_compare 3 = .ok (.iload_n 1, 1) := by decide +kernel
theorem d_Y_compare_4 : decode c_Y_compare 4 = .ok (.iload_n 2, 1) := by decide +kernel
theorem d_Y_compare_5 : decode c_Y_compare 5 = .ok (.invokevirtual 57, 3) := by decide +kernel
theorem d_Y_compare_8 : decode c_Y_compare 8 = .ok (.i2l, 1) := by decide +kernel
theorem d_Y_compare_9 : decode c_Y_compare 9 = .ok (.lastore, 1) := by decide +kernel
theorem d_Y_compare_10 : decode c_Y_compare 10 = .ok (.goto 7, 3) := by decide +kernel
theorem d_Y_compare_13 : decode c_Y_compare 13 = .ok (.astore 4, 2) := by decide +kernel
theorem d_Y_compare_15 : decode c_Y_compare 15 = .ok (.iconst 1, 1) := by decide +kernel
theorem d_Y_compare_16 : decode c_Y_compare 16 = .ok (.ireturn, 1) := by decide +kernel
theorem d_Y_compare_17 : decode c_Y_compare 17 = .ok (.iconst 0, 1) := by decide +kernel
theorem d_Y_compare_18 : decode c_Y_compare 18 = .ok (.ireturn, 1) := by decide +kernel
theorem d_Y_bits_0 : decode c_Y_bits 0 = .ok (.aload_n 2, 1) := by decide +kernel
theorem d_Y_bits_1 : decode c_Y_bits 1 = .ok (.iconst 0, 1) := by decide +kernel
theorem d_Y_bits_2 : decode c_Y_bits 2 = .ok (.aload_n 0, 1) := by decide +kernel
theorem d_Y_bits_3 : decode c_Y_bits 3 = .ok (.iload_n 1, 1) := by decide +kernel
theorem d_Y_bits_4 : decode c_Y_bits 4 = .ok (.invokevirtual 61, 3) := by decide +kernel
theorem d_Y_bits_7 : decode c_Y_bits 7 = .ok (.i2l, 1) := by decide +kernel
theorem d_Y_bits_8 : decode c_Y_bits 8 = .ok (.lastore, 1) := by decide +kernel
theorem d_Y_bits_9 : decode c_Y_bits 9 = .ok (.goto 6, 3) := by decide +kernel
theorem d_Y_bits_12 : decode c_Y_bits 12 = .ok (.astore_n 3, 1) := by decide +kernel
theorem d_Y_bits_13 : decode c_Y_bits 13 = .ok (.iconst 1, 1) := by decide +kernel
theorem d_Y_bits_14 : decode c_Y_bits 14 = .ok (.ireturn, 1) := by decide +kernel
theorem d_Y_bits_15 : decode c_Y_bits 15 = .ok (.iconst 0, 1) := by decide +kernel
theorem d_Y_bits_16 : decode c_Y_bits 16 = .ok (.ireturn, 1) := by decide +kernel
theorem d_Y_bit_0 : decode c_Y_bit 0 = .ok (.aload_n 3, 1) := by decide +kernel
theorem d_Y_bit_1 : decode c_Y_bit 1 = .ok (.iconst 0, 1) := by decide +kernel
theorem d_Y_bit_2 : decode c_Y_bit 2 = .ok (.aload_n 0, 1) := by decide +kernel
theorem d_Y_bit_3 : decode c_Y_bit 3 = .ok (.iload_n 1, 1) := by decide +kernel
theorem d_Y_bit_4 : decode c_Y_bit 4 = .ok (.iload_n 2, 1) := by decide +kernel
theorem d_Y_bit_5 : decode c_Y_bit 5 = .ok (.invokevirtual 65, 3) := by decide +kernel
theorem d_Y_bit_8 : decode c_Y_bit 8 = .ok (.ifCond .eq 7, 3) := by decide +kernel
theorem d_Y_bit_11 : decode c_Y_bit 11 = .ok (.lconst 1, 1) := by decide +kernel
theorem d_Y_bit_12 : decode c_Y_bit 12 = .ok (.goto 4, 3) := by decide +kernel
theorem d_Y_bit_15 : decode c_Y_bit 15 = .ok (.lconst 0, 1) := by decide +kernel
theorem d_Y_bit_16 : decode c_Y_bit 16 = .ok (.lastore, 1) := by decide +kernel
theorem d_Y_bit_17 : decode c_Y_bit 17 = .ok (.goto 7, 3) := by decide +kernel
theorem d_Y_bit_20 : decode c_Y_bit 20 = .ok (.astore 4, 2) := by decide +kernel
theorem d_Y_bit_22 : decode c_Y_bit 22 = .ok (.iconst 1, 1) := by decide +kernel
theorem d_Y_bit_23 : decode c_Y_bit 23 = .ok (.ireturn, 1) := by decide +kernel
theorem d_Y_bit_24 : decode c_Y_bit 24 = .ok (.iconst 0, 1) := by decide +kernel
theorem d_Y_bit_25 : decode c_Y_bit 25 = .ok (.ireturn, 1) := by decide +kernel
theorem d_Y_low_0 : decode c_Y_low 0 = .ok (.aload_n 2, 1) := by decide +kernel
theorem d_Y_low_1 : decode c_Y_low 1 = .ok (.iconst 0, 1) := by decide +kernel
theorem d_Y_low_2 : decode c_Y_low 2 = .ok (.aload_n 0, 1) := by decide +kernel
theorem d_Y_low_3 : decode c_Y_low 3 = .ok (.iload_n 1, 1) := by decide +kernel
theorem d_Y_low_4 : decode c_Y_low 4 = .ok (.invokevirtual 69, 3) := by decide +kernel
theorem d_Y_low_7 : decode c_Y_low 7 = .ok (.lastore, 1) := by decide +kernel
theorem d_Y_low_8 : decode c_Y_low 8 = .ok (.goto 6, 3) := by decide +kernel
theorem d_Y_low_11 : decode c_Y_low 11 = .ok (.astore_n 3, 1) := by decide +kernel
theorem d_Y_low_12 : decode c_Y_low 12 = .ok (.iconst 1, 1) := by decide +kernel
theorem d_Y_low_13 : decode c_Y_low 13 = .ok (.ireturn, 1) := by decide +kernel
theorem d_Y_low_14 : decode c_Y_low 14 = .ok (.iconst 0, 1) := by decide +kernel
theorem d_Y_low_15 : decode c_Y_low 15 = .ok (.ireturn, 1) := by decide +kernel
theorem d_Y_type_0 : decode c_Y_type 0 = .ok (.aload 4, 2) := by decide +kernel
theorem d_Y_type_2 : decode c_Y_type 2 = .ok (.iconst 0, 1) := by decide +kernel
theorem d_Y_type_3 : decode c_Y_type 3 = .ok (.aload_n 0, 1) := by decide +kernel
theorem d_Y_type_4 : decode c_Y_type 4 = .ok (.lload_n 1, 1) := by decide +kernel
theorem d_Y_type_5 : decode c_Y_type 5 = .ok (.iload_n 3, 1) := by decide +kernel
theorem d_Y_type_6 : decode c_Y_type 6 = .ok (.invokevirtual 73, 3) := by decide +kernel
theorem d_Y_type_9 : decode c_Y_type 9 = .ok (.i2l, 1) := by decide +kernel
theorem d_Y_type_10 : decode c_Y_type 10 = .ok (.lastore, 1) := by decide +kernel
theorem d_Y_type_11 : decode c_Y_type 11 = .ok (.goto 11, 3) := by decide +kernel
theorem d_Y_type_14 : decode c_Y_type 14 = .ok (.astore 5, 2) := by decide +kernel
theorem d_Y_type_16 : decode c_Y_type 16 = .ok (.iconst 1, 1) := by decide +kernel
theorem d_Y_type_17 : decode c_Y_type 17 = .ok (.ireturn, 1) := by decide +kernel
theorem d_Y_type_18 : decode c_Y_type 18 = .ok (.astore 5, 2) := by decide +kernel
theorem d_Y_type_20 : decode c_Y_type 20 = .ok (.iconst 2, 1) := by decide +kernel
theorem d_Y_type_21 : decode c_Y_type 21 = .ok (.ireturn, 1) := by decide +kernel
theorem d_Y_type_22 : decode c_Y_type 22 = .ok (.iconst 0, 1) := by decide +kernel
theorem d_Y_type_23 : decode c_Y_type 23 = .ok (.ireturn, 1) := by decide +kernel
theorem d_Y_parse_0 : decode c_Y_parse 0 = .ok (.aload_n 3, 1) := by decide +kernel
theorem d_Y_parse_1 : decode c_Y_parse 1 = .ok (.iconst 0, 1) := by decide +kernel
theorem d_Y_parse_2 : decode c_Y_parse 2 = .ok (.aload_n 0, 1) := by decide +kernel
theorem d_Y_parse_3 : decode c_Y_parse 3 = .ok (.iload_n 1, 1) := by decide +kernel
theorem d_Y_parse_4 : decode c_Y_parse 4 = .ok (.iload_n 2, 1) := by decide +kernel
theorem d_Y_parse_5 : decode c_Y_parse 5 = .ok (.invokevirtual 79, 3) := by decide +kernel
theorem d_Y_parse_8 : decode c_Y_parse 8 = .ok (.i2l, 1) := by decide +kernel
theorem d_Y_parse_9 : decode c_Y_parse 9 = .ok (.lastore, 1) := by decide +kernel
theorem d_Y_parse_10 : decode c_Y_parse 10 = .ok (.goto 19, 3) := by decide +kernel
theorem d_Y_parse_13 : decode c_Y_parse 13 = .ok (.astore 4, 2) := by decide +kernel
theorem d_Y_parse_15 : decode c_Y_parse 15 = .ok (.iconst 1, 1) := by decide +kernel
theorem d_Y_parse_16 : decode c_Y_parse 16 = .ok (.ireturn, 1) := by decide +kernel
theorem d_Y_parse_17 : decode c_Y_parse 17 = .ok (.astore 4, 2) := by decide +kernel
theorem d_Y_parse_19 : decode c_Y_parse 19 = .ok (.iconst 2, 1) := by decide +kernel
theorem d_Y_parse_20 : decode c_Y_parse 20 = .ok (.ireturn, 1) := by decide +kernel
theorem d_Y_parse_21 : decode c_Y_parse 21 = .ok (.astore 4, 2) := by decide +kernel
theorem d_Y_parse_23 : decode c_Y_parse 23 = .ok (.iconst 3, 1) := by decide +kernel
theorem d_Y_parse_24 : decode c_Y_parse 24 = .ok (.ireturn, 1) := by decide +kernel
theorem d_Y_parse_25 : decode c_Y_parse 25 = .ok (.astore 4, 2) := by decide +kernel
theorem d_Y_parse_27 : decode c_Y_parse 27 = .ok (.iconst 4, 1) := by decide +kernel
theorem d_Y_parse_28 : decode c_Y_parse 28 = .ok (.ireturn, 1) := by decide +kernel
theorem d_Y_parse_29 : decode c_Y_parse 29 = .ok (.iconst 0, 1) := by decide +kernel
theorem d_Y_parse_30 : decode c_Y_parse 30 = .ok (.ireturn, 1) := by decide +kernel
theorem d_Y_print_0 : decode c_Y_print 0 = .ok (.aload_n 3, 1) := by decide +kernel
theorem d_Y_print_1 : decode c_Y_print 1 = .ok (.iconst 0, 1) := by decide +kernel
theorem d_Y_print_2 : decode c_Y_print 2 = .ok (.aload_n 0, 1) := by decide +kernel
theorem d_Y_print_3 : decode c_Y_print 3 = .ok (.iload_n 1, 1) := by decide +kernel
theorem d_Y_print_4 : decode c_Y_print 4 = .ok (.iload_n 2, 1) := by decide +kernel
theorem d_Y_print_5 : decode c_Y_print 5 = .ok (.invokevirtual 82, 3) := by decide +kernel
theorem d_Y_print_8 : decode c_Y_print 8 = .ok (.i2l, 1) := by decide +kernel
theorem d_Y_print_9 : decode c_Y_print 9 = .ok (.lastore, 1) := by decide +kernel
theorem d_Y_print_10 : decode c_Y_print 10 = .ok (.goto 11, 3) := by decide +kernel
theorem d_Y_print_13 : decode c_Y_print 13 = .ok (.astore 4, 2) := by decide +kernel
theorem d_Y_print_15 : decode c_Y_print 15 = .ok (.iconst 1, 1) := by decide +kernel
theorem d_Y_print_16 : decode c_Y_print 16 = .ok (.ireturn, 1) := by decide +kernel
theorem d_Y_print_17 : decode c_Y_print 17 = .ok (.astore 4, 2) := by decide +kernel
theorem d_Y_print_19 : decode c_Y_print 19 = .ok (.iconst 2, 1) := by decide +kernel
theorem d_Y_print_20 : decode c_Y_print 20 = .ok (.ireturn, 1) := by decide +kernel
theorem d_Y_print_21 : decode c_Y_print 21 = .ok (.iconst 0, 1) := by decide +kernel
theorem d_Y_print_22 : decode c_Y_print 22 = .ok (.ireturn, 1) := by decide +kernel
theorem d_Y_character_0 : decode c_Y_character 0 = .ok (.aload_n 2, 1) := by decide +kernel
theorem d_Y_character_1 : decode c_Y_character 1 = .ok (.iconst 0, 1) := by decide +kernel
theorem d_Y_character_2 : decode c_Y_character 2 = .ok (.aload_n 0, 1) := by decide +kernel
theorem d_Y_character_3 : decode c_Y_character 3 = .ok (.iload_n 1, 1) := by decide +kernel
theorem d_Y_character_4 : decode c_Y_character 4 = .ok (.invokevirtual 85, 3) := by decide +kernel
theorem d_Y_character_7 : decode c_Y_character 7 = .ok (.i2l, 1) := by decide +kernel
theorem d_Y_character_8 : decode c_Y_character 8 = .ok (.lastore, 1) := by decide +kernel
theorem d_Y_character_9 : decode c_Y_character 9 = .ok (.goto 6, 3) := by decide +kernel
theorem d_Y_character_12 : decode c_Y_character 12 = .ok (.astore_n 3, 1) := by decide +kernel
theorem d_Y_character_13 : decode c_Y_character 13 = .ok (.iconst 1, 1) := by decide +kernel
theorem d_Y_character_14 : decode c_Y_character 14 = .ok (.ireturn, 1) := by decide +kernel
theorem d_Y_character_15 : decode c_Y_character 15 = .ok (.iconst 0, 1) := by decide +kernel
theorem d_Y_character_16 : decode c_Y_character 16 = .ok (.ireturn, 1) := by decide +kernel
theorem lh_Y_set : wLh "LimbRegistersLaw" 94 y_Y_set c_Y_set 5 [(0, 6, 9, 13)] 3 := ⟨bg_at 253 (by decide +kernel) (by decide +kernel), bg_at 40 (by decide +kernel) (by decide +kernel), ⟨by decide +kernel, by decide +kernel, by decide +kernel⟩, bg_at 251 (by decide +kernel) (by decide +kernel), bg_at 252 (by decide +kernel) (by decide +kernel)⟩
theorem lh_Y_copy : wLh "LimbRegistersLaw" 104 y_Y_copy c_Y_copy 5 [(0, 7, 10, 13)] 4 := ⟨bg_at 347 (by decide +kernel) (by decide +kernel), bg_at 40 (by decide +kernel) (by decide +kernel), ⟨by decide +kernel, by decide +kernel, by decide +kernel⟩, bg_at 345 (by decide +kernel) (by decide +kernel), bg_at 346 (by decide +kernel) (by decide +kernel)⟩
theorem lh_Y_add : wLh "LimbRegistersLaw" 108 y_Y_add c_Y_add 5 [(0, 7, 10, 13), (0, 7, 14, 23)] 4 := ⟨bg_at 366 (by decide +kernel) (by decide +kernel), bg_at 40 (by decide +kernel) (by decide +kernel), ⟨by decide +kernel, by decide +kernel, by decide +kernel⟩, bg_at 364 (by decide +kernel) (by decide +kernel), bg_at 365 (by decide +kernel) (by decide +kernel)⟩
theorem lh_Y_subtract : wLh "LimbRegistersLaw" 112 y_Y_subtract c_Y_subtract 5 [(0, 7, 10, 13), (0, 7, 14, 23)] 4 := ⟨bg_at 428 (by decide +kernel) (by decide +kernel), bg_at 40 (by decide +kernel) (by decide +kernel), ⟨by decide +kernel, by decide +kernel, by decide +kernel⟩, bg_at 426 (by decide +kernel) (by decide +kernel), bg_at 427 (by decide +kernel) (by decide +kernel)⟩
theorem lh_Y_multiply : wLh "LimbRegistersLaw" 115 y_Y_multiply c_Y_multiply 5 [(0, 7, 10, 13), (0, 7, 14, 23)] 4 := ⟨bg_at 435 (by decide +kernel) (by decide +kernel), bg_at 40 (by decide +kernel) (by decide +kernel), ⟨by decide +kernel, by decide +kernel, by decide +kernel⟩, bg_at 433 (by decide +kernel) (by decide +kernel), bg_at 434 (by decide +kernel) (by decide +kernel)⟩
theorem lh_Y_divide : wLh "LimbRegistersLaw" 118 y_Y_divide c_Y_divide 7 [(0, 11, 14, 13), (0, 11, 18, 35), (0, 11, 22, 37)] 6 := ⟨bg_at 462 (by decide +kernel) (by decide +kernel), bg_at 40 (by decide +kernel) (by decide +kernel), ⟨by decide +kernel, by decide +kernel, by decide +kernel⟩, bg_at 460 (by decide +kernel) (by decide +kernel), bg_at 461 (by decide +kernel) (by decide +kernel)⟩
theorem lh_Y_shift : wLh "LimbRegistersLaw" 122 y_Y_shift c_Y_shift 5 [(0, 7, 10, 13), (0, 7, 14, 23)] 4 := ⟨bg_at 557 (by decide +kernel) (by decide +kernel), bg_at 40 (by decide +kernel) (by decide +kernel), ⟨by decide +kernel, by decide +kernel, by decide +kernel⟩, bg_at 555 (by decide +kernel) (by decide +kernel), bg_at 556 (by decide +kernel) (by decide +kernel)⟩
theorem lh_Y_root : wLh "LimbRegistersLaw" 125 y_Y_root c_Y_root 5 [(0, 7, 10, 13), (0, 7, 14, 35), (0, 7, 18, 37)] 4 := ⟨bg_at 583 (by decide +kernel) (by decide +kernel), bg_at 40 (by decide +kernel) (by decide +kernel), ⟨by decide +kernel, by decide +kernel, by decide +kernel⟩, bg_at 581 (by decide +kernel) (by decide +kernel), bg_at 582 (by decide +kernel) (by decide +kernel)⟩
theorem lh_Y_gcd : wLh "LimbRegistersLaw" 128 y_Y_gcd c_Y_gcd 5 [(0, 7, 10, 13)] 4 := ⟨bg_at 616 (by decide +kernel) (by decide +kernel), bg_at 40 (by decide +kernel) (by decide +kernel), ⟨by decide +kernel, by decide +kernel, by decide +kernel⟩, bg_at 614 (by decide +kernel) (by decide +kernel), bg_at 615 (by decide +kernel) (by decide +kernel)⟩
theorem lh_Y_power : wLh "LimbRegistersLaw" 131 y_Y_power c_Y_power 6 [(0, 9, 12, 13), (0, 9, 16, 37)] 5 := ⟨bg_at 634 (by decide +kernel) (by decide +kernel), bg_at 40 (by decide +kernel) (by decide +kernel), ⟨by decide +kernel, by decide +kernel, by decide +kernel⟩, bg_at 632 (by decide +kernel) (by decide +kernel), bg_at 633 (by decide +kernel) (by decide +kernel)⟩
theorem lh_Y_inverse : wLh "LimbRegistersLaw" 135 y_Y_inverse c_Y_inverse 5 [(0, 7, 10, 13), (0, 7, 14, 37), (0, 7, 18, 55)] 4 := ⟨bg_at 671 (by decide +kernel) (by decide +kernel), bg_at 40 (by decide +kernel) (by decide +kernel), ⟨by decide +kernel, by decide +kernel, by decide +kernel⟩, bg_at 669 (by decide +kernel) (by decide +kernel), bg_at 670 (by decide +kernel) (by decide +kernel)⟩
theorem lh_Y_compare : wLh "LimbRegistersLaw" 138 y_Y_compare c_Y_compare 5 [(0, 10, 13, 13)] 4 := ⟨bg_at 705 (by decide +kernel) (by decide +kernel), bg_at 40 (by decide +kernel) (by decide +kernel), ⟨by decide +kernel, by decide +kernel, by decide +kernel⟩, bg_at 703 (by decide +kernel) (by decide +kernel), bg_at 704 (by decide +kernel) (by decide +kernel)⟩
theorem lh_Y_bits : wLh "LimbRegistersLaw" 142 y_Y_bits c_Y_bits 4 [(0, 9, 12, 13)] 3 := ⟨bg_at 716 (by decide +kernel) (by decide +kernel), bg_at 40 (by decide +kernel) (by decide +kernel), ⟨by decide +kernel, by decide +kernel, by decide +kernel⟩, bg_at 714 (by decide +kernel) (by decide +kernel), bg_at 715 (by decide +kernel) (by decide +kernel)⟩
theorem lh_Y_bit : wLh "LimbRegistersLaw" 146 y_Y_bit c_Y_bit 5 [(0, 17, 20, 13)] 4 := ⟨bg_at 723 (by decide +kernel) (by decide +kernel), bg_at 40 (by decide +kernel) (by decide +kernel), ⟨by decide +kernel, by decide +kernel, by decide +kernel⟩, bg_at 721 (by decide +kernel) (by decide +kernel), bg_at 722 (by decide +kernel) (by decide +kernel)⟩
theorem lh_Y_low : wLh "LimbRegistersLaw" 149 y_Y_low c_Y_low 4 [(0, 8, 11, 13)] 3 := ⟨bg_at 736 (by decide +kernel) (by decide +kernel), bg_at 40 (by decide +kernel) (by decide +kernel), ⟨by decide +kernel, by decide +kernel, by decide +kernel⟩, bg_at 734 (by decide +kernel) (by decide +kernel), bg_at 735 (by decide +kernel) (by decide +kernel)⟩
theorem lh_Y_type : wLh "LimbRegistersLaw" 152 y_Y_type c_Y_type 6 [(0, 11, 14, 35), (0, 11, 18, 77)] 4 := ⟨bg_at 747 (by decide +kernel) (by decide +kernel), bg_at 40 (by decide +kernel) (by decide +kernel), ⟨by decide +kernel, by decide +kernel, by decide +kernel⟩, bg_at 745 (by decide +kernel) (by decide +kernel), bg_at 746 (by decide +kernel) (by decide +kernel)⟩
theorem lh_Y_parse : wLh "LimbRegistersLaw" 160 y_Y_parse c_Y_parse 5 [(0, 10, 13, 13), (0, 10, 17, 35), (0, 10, 21, 77), (0, 10, 25, 23)] 4 := ⟨bg_at 787 (by decide +kernel) (by decide +kernel), bg_at 40 (by decide +kernel) (by decide +kernel), ⟨by decide +kernel, by decide +kernel, by decide +kernel⟩, bg_at 785 (by decide +kernel) (by decide +kernel), bg_at 786 (by decide +kernel) (by decide +kernel)⟩
theorem lh_Y_print : wLh "LimbRegistersLaw" 163 y_Y_print c_Y_print 5 [(0, 10, 13, 13), (0, 10, 17, 35)] 4 := ⟨bg_at 822 (by decide +kernel) (by decide +kernel), bg_at 40 (by decide +kernel) (by decide +kernel), ⟨by decide +kernel, by decide +kernel, by decide +kernel⟩, bg_at 820 (by decide +kernel) (by decide +kernel), bg_at 821 (by decide +kernel) (by decide +kernel)⟩
theorem lh_Y_character : wLh "LimbRegistersLaw" 166 y_Y_character c_Y_character 4 [(0, 9, 12, 13)] 3 := ⟨bg_at 845 (by decide +kernel) (by decide +kernel), bg_at 40 (by decide +kernel) (by decide +kernel), ⟨by decide +kernel, by decide +kernel, by decide +kernel⟩, bg_at 843 (by decide +kernel) (by decide +kernel), bg_at 844 (by decide +kernel) (by decide +kernel)⟩
