/-! decode rows -/
theorem d_L_add_0 : decode c_L_add 0 = .ok (.iload_n 1, 1) := by decide +kernel
theorem d_L_add_1 : decode c_L_add 1 = .ok (.invokestatic 55, 3) := by decide +kernel
theorem d_L_add_4 : decode c_L_add 4 = .ok (.iload_n 2, 1) := by decide +kernel
theorem d_L_add_5 : decode c_L_add 5 = .ok (.invokestatic 55, 3) := by decide +kernel
theorem d_L_add_8 : decode c_L_add 8 = .ok (.iload_n 3, 1) := by decide +kernel
theorem d_L_add_9 : decode c_L_add 9 = .ok (.invokestatic 55, 3) := by decide +kernel
theorem d_L_add_12 : decode c_L_add 12 = .ok (.aload_n 0, 1) := by decide +kernel
theorem d_L_add_13 : decode c_L_add 13 = .ok (.getfield 16, 3) := by decide +kernel
theorem d_L_add_16 : decode c_L_add 16 = .ok (.aload_n 0, 1) := by decide +kernel
theorem d_L_add_17 : decode c_L_add 17 = .ok (.getfield 11, 3) := by decide +kernel
theorem d_L_add_20 : decode c_L_add 20 = .ok (.iload_n 2, 1) := by decide +kernel
theorem d_L_add_21 : decode c_L_add 21 = .ok (.aaload, 1) := by decide +kernel
theorem d_L_add_22 : decode c_L_add 22 = .ok (.aload_n 0, 1) := by decide +kernel
theorem d_L_add_23 : decode c_L_add 23 = .ok (.getfield 11, 3) := by decide +kernel
theorem d_L_add_26 : decode c_L_add 26 = .ok (.iload_n 3, 1) := by decide +kernel
theorem d_L_add_27 : decode c_L_add 27 = .ok (.aaload, 1) := by decide +kernel
theorem d_L_add_28 : decode c_L_add 28 = .ok (.iconst 0, 1) := by decide +kernel
theorem d_L_add_29 : decode c_L_add 29 = .ok (.invokevirtual 75, 3) := by decide +kernel
theorem d_L_add_32 : decode c_L_add 32 = .ok (.aload_n 0, 1) := by decide +kernel
theorem d_L_add_33 : decode c_L_add 33 = .ok (.iload_n 1, 1) := by decide +kernel
theorem d_L_add_34 : decode c_L_add 34 = .ok (.invokevirtual 79, 3) := by decide +kernel
theorem d_L_add_37 : decode c_L_add 37 = .ok (.return_, 1) := by decide +kernel
theorem d_L_bit_0 : decode c_L_bit 0 = .ok (.iload_n 1, 1) := by decide +kernel
theorem d_L_bit_1 : decode c_L_bit 1 = .ok (.invokestatic 55, 3) := by decide +kernel
theorem d_L_bit_4 : decode c_L_bit 4 = .ok (.iload_n 2, 1) := by decide +kernel
theorem d_L_bit_5 : decode c_L_bit 5 = .ok (.ifCond .ge 13, 3) := by decide +kernel
theorem d_L_bit_8 : decode c_L_bit 8 = .ok (.new 186, 3) := by decide +kernel
theorem d_L_bit_11 : decode c_L_bit 11 = .ok (.dup, 1) := by decide +kernel
theorem d_L_bit_12 : decode c_L_bit 12 = .ok (.ldc 188, 2) := by decide +kernel
theorem d_L_bit_14 : decode c_L_bit 14 = .ok (.invokespecial 190, 3) := by decide +kernel
theorem d_L_bit_17 : decode c_L_bit 17 = .ok (.athrow, 1) := by decide +kernel
theorem d_L_bit_18 : decode c_L_bit 18 = .ok (.aload_n 0, 1) := by decide +kernel
theorem d_L_bit_19 : decode c_L_bit 19 = .ok (.getfield 11, 3) := by decide +kernel
theorem d_L_bit_22 : decode c_L_bit 22 = .ok (.iload_n 1, 1) := by decide +kernel
theorem d_L_bit_23 : decode c_L_bit 23 = .ok (.aaload, 1) := by decide +kernel
theorem d_L_bit_24 : decode c_L_bit 24 = .ok (.iload_n 2, 1) := by decide +kernel
theorem d_L_bit_25 : decode c_L_bit 25 = .ok (.invokevirtual 191, 3) := by decide +kernel
theorem d_L_bit_28 : decode c_L_bit 28 = .ok (.ireturn, 1) := by decide +kernel
theorem d_L_bits_0 : decode c_L_bits 0 = .ok (.iload_n 1, 1) := by decide +kernel
theorem d_L_bits_1 : decode c_L_bits 1 = .ok (.invokestatic 55, 3) := by decide +kernel
theorem d_L_bits_4 : decode c_L_bits 4 = .ok (.aload_n 0, 1) := by decide +kernel
theorem d_L_bits_5 : decode c_L_bits 5 = .ok (.getfield 11, 3) := by decide +kernel
theorem d_L_bits_8 : decode c_L_bits 8 = .ok (.iload_n 1, 1) := by decide +kernel
theorem d_L_bits_9 : decode c_L_bits 9 = .ok (.aaload, 1) := by decide +kernel
theorem d_L_bits_10 : decode c_L_bits 10 = .ok (.getfield 63, 3) := by decide +kernel
theorem d_L_bits_13 : decode c_L_bits 13 = .ok (.invokevirtual 128, 3) := by decide +kernel
theorem d_L_bits_16 : decode c_L_bits 16 = .ok (.ireturn, 1) := by decide +kernel
theorem d_L_character_0 : decode c_L_character 0 = .ok (.iload_n 1, 1) := by decide +kernel
theorem d_L_character_1 : decode c_L_character 1 = .ok (.ifCond .lt 14, 3) := by decide +kernel
theorem d_L_character_4 : decode c_L_character 4 = .ok (.iload_n 1, 1) := by decide +kernel
theorem d_L_character_5 : decode c_L_character 5 = .ok (.aload_n 0, 1) := by decide +kernel
theorem d_L_character_6 : decode c_L_character 6 = .ok (.getfield 23, 3) := by decide +kernel
theorem d_L_character_9 : decode c_L_character 9 = .ok (.getfield 207, 3) := by decide +kernel
theorem d_L_character_12 : decode c_L_character 12 = .ok (.if_icmp .lt 13, 3) := by decide +kernel
theorem d_L_character_15 : decode c_L_character 15 = .ok (.new 186, 3) := by decide +kernel
theorem d_L_character_18 : decode c_L_character 18 = .ok (.dup, 1) := by decide +kernel
theorem d_L_character_19 : decode c_L_character 19 = .ok (.ldc 237, 2) := by decide +kernel
theorem d_L_character_21 : decode c_L_character 21 = .ok (.invokespecial 190, 3) := by decide +kernel
theorem d_L_character_24 : decode c_L_character 24 = .ok (.athrow, 1) := by decide +kernel
theorem d_L_character_25 : decode c_L_character 25 = .ok (.aload_n 0, 1) := by decide +kernel
theorem d_L_character_26 : decode c_L_character 26 = .ok (.getfield 23, 3) := by decide +kernel
theorem d_L_character_29 : decode c_L_character 29 = .ok (.getfield 239, 3) := by decide +kernel
theorem d_L_character_32 : decode c_L_character 32 = .ok (.iload_n 1, 1) := by decide +kernel
theorem d_L_character_33 : decode c_L_character 33 = .ok (.baload, 1) := by decide +kernel
theorem d_L_character_34 : decode c_L_character 34 = .ok (.ireturn, 1) := by decide +kernel
theorem d_L_compare_0 : decode c_L_compare 0 = .ok (.iload_n 1, 1) := by decide +kernel
theorem d_L_compare_1 : decode c_L_compare 1 = .ok (.invokestatic 55, 3) := by decide +kernel
theorem d_L_compare_4 : decode c_L_compare 4 = .ok (.iload_n 2, 1) := by decide +kernel
theorem d_L_compare_5 : decode c_L_compare 5 = .ok (.invokestatic 55, 3) := by decide +kernel
theorem d_L_compare_8 : decode c_L_compare 8 = .ok (.aload_n 0, 1) := by decide +kernel
theorem d_L_compare_9 : decode c_L_compare 9 = .ok (.getfield 11, 3) := by decide +kernel
theorem d_L_compare_12 : decode c_L_compare 12 = .ok (.iload_n 1, 1) := by decide +kernel
theorem d_L_compare_13 : decode c_L_compare 13 = .ok (.aaload, 1) := by decide +kernel
theorem d_L_compare_14 : decode c_L_compare 14 = .ok (.aload_n 0, 1) := by decide +kernel
theorem d_L_compare_15 : decode c_L_compare 15 = .ok (.getfield 11, 3) := by decide +kernel
theorem d_L_compare_18 : decode c_L_compare 18 = .ok (.iload_n 2, 1) := by decide +kernel
theorem d_L_compare_19 : decode c_L_compare 19 = .ok (.aaload, 1) := by decide +kernel
theorem d_L_compare_20 : decode c_L_compare 20 = .ok (.invokevirtual 182, 3) := by decide +kernel
theorem d_L_compare_23 : decode c_L_compare 23 = .ok (.ireturn, 1) := by decide +kernel
theorem d_L_copy_0 : decode c_L_copy 0 = .ok (.iload_n 1, 1) := by decide +kernel
theorem d_L_copy_1 : decode c_L_copy 1 = .ok (.invokestatic 55, 3) := by decide +kernel
theorem d_L_copy_4 : decode c_L_copy 4 = .ok (.iload_n 2, 1) := by decide +kernel
theorem d_L_copy_5 : decode c_L_copy 5 = .ok (.invokestatic 55, 3) := by decide +kernel
theorem d_L_copy_8 : decode c_L_copy 8 = .ok (.aload_n 0, 1) := by decide +kernel
theorem d_L_copy_9 : decode c_L_copy 9 = .ok (.getfield 11, 3) := by decide +kernel
theorem d_L_copy_12 : decode c_L_copy 12 = .ok (.iload_n 1, 1) := by decide +kernel
theorem d_L_copy_13 : decode c_L_copy 13 = .ok (.aaload, 1) := by decide +kernel
theorem d_L_copy_14 : decode c_L_copy 14 = .ok (.aload_n 0, 1) := by decide +kernel
theorem d_L_copy_15 : decode c_L_copy 15 = .ok (.getfield 11, 3) := by decide +kernel
theorem d_L_copy_18 : decode c_L_copy 18 = .ok (.iload_n 2, 1) := by decide +kernel
theorem d_L_copy_19 : decode c_L_copy 19 = .ok (.aaload, 1) := by decide +kernel
theorem d_L_copy_20 : decode c_L_copy 20 = .ok (.getfield 63, 3) := by decide +kernel
theorem d_L_copy_23 : decode c_L_copy 23 = .ok (.aload_n 0, 1) := by decide +kernel
theorem d_L_copy_24 : decode c_L_copy 24 = .ok (.getfield 11, 3) := by decide +kernel
theorem d_L_copy_27 : decode c_L_copy 27 = .ok (.iload_n 2, 1) := by decide +kernel
theorem d_L_copy_28 : decode c_L_copy 28 = .ok (.aaload, 1) := by decide +kernel
theorem d_L_copy_29 : decode c_L_copy 29 = .ok (.getfield 67, 3) := by decide +kernel
theorem d_L_copy_32 : decode c_L_copy 32 = .ok (.iload_n 3, 1) := by decide +kernel
theorem d_L_copy_33 : decode c_L_copy 33 = .ok (.if_icmp .eq 7, 3) := by decide +kernel
theorem d_L_copy_36 : decode c_L_copy 36 = .ok (.iconst 1, 1) := by decide +kernel
theorem d_L_copy_37 : decode c_L_copy 37 = .ok (.goto 4, 3) := by decide +kernel
theorem d_L_copy_40 : decode c_L_copy 40 = .ok (.iconst 0, 1) := by decide +kernel
theorem d_L_copy_41 : decode c_L_copy 41 = .ok (.invokevirtual 71, 3) := by decide +kernel
theorem d_L_copy_44 : decode c_L_copy 44 = .ok (.return_, 1) := by decide +kernel
theorem d_L_divide_0 : decode c_L_divide 0 = .ok (.iload_n 1, 1) := by decide +kernel
theorem d_L_divide_1 : decode c_L_divide 1 = .ok (.invokestatic 55, 3) := by decide +kernel
theorem d_L_divide_4 : decode c_L_divide 4 = .ok (.iload_n 2, 1) := by decide +kernel
theorem d_L_divide_5 : decode c_L_divide 5 = .ok (.invokestatic 55, 3) := by decide +kernel
theorem d_L_divide_8 : decode c_L_divide 8 = .ok (.iload_n 3, 1) := by decide +kernel
theorem d_L_divide_9 : decode c_L_divide 9 = .ok (.invokestatic 55, 3) := by decide +kernel
theorem d_L_divide_12 : decode c_L_divide 12 = .ok (.iload 4, 2) := by decide +kernel
theorem d_L_divide_14 : decode c_L_divide 14 = .ok (.invokestatic 55, 3) := by decide +kernel
theorem d_L_divide_17 : decode c_L_divide 17 = .ok (.iload_n 1, 1) := by decide +kernel
theorem d_L_divide_18 : decode c_L_divide 18 = .ok (.iload_n 2, 1) := by decide +kernel
theorem d_L_divide_19 : decode c_L_divide 19 = .ok (.if_icmp .ne 13, 3) := by decide +kernel
theorem d_L_divide_22 : decode c_L_divide 22 = .ok (.new 86, 3) := by decide +kernel
theorem d_L_divide_25 : decode c_L_divide 25 = .ok (.dup, 1) := by decide +kernel
theorem d_L_divide_26 : decode c_L_divide 26 = .ok (.ldc 88, 2) := by decide +kernel
theorem d_L_divide_28 : decode c_L_divide 28 = .ok (.invokespecial 90, 3) := by decide +kernel
theorem d_L_divide_31 : decode c_L_divide 31 = .ok (.athrow, 1) := by decide +kernel
theorem d_L_divide_32 : decode c_L_divide 32 = .ok (.aload_n 0, 1) := by decide +kernel
theorem d_L_divide_33 : decode c_L_divide 33 = .ok (.getfield 11, 3) := by decide +kernel
theorem d_L_divide_36 : decode c_L_divide 36 = .ok (.iload 4, 2) := by decide +kernel
theorem d_L_divide_38 : decode c_L_divide 38 = .ok (.aaload, 1) := by decide +kernel
theorem d_L_divide_39 : decode c_L_divide 39 = .ok (.getfield 63, 3) := by decide +kernel
theorem d_L_divide_42 : decode c_L_divide 42 = .ok (.invokevirtual 93, 3) := by decide +kernel
theorem d_L_divide_45 : decode c_L_divide 45 = .ok (.ifCond .eq 13, 3) := by decide +kernel
theorem d_L_divide_48 : decode c_L_divide 48 = .ok (.new 99, 3) := by decide +kernel
theorem d_L_divide_51 : decode c_L_divide 51 = .ok (.dup, 1) := by decide +kernel
theorem d_L_divide_52 : decode c_L_divide 52 = .ok (.ldc 101, 2) := by decide +kernel
theorem d_L_divide_54 : decode c_L_divide 54 = .ok (.invokespecial 103, 3) := by decide +kernel
theorem d_L_divide_57 : decode c_L_divide 57 = .ok (.athrow, 1) := by decide +kernel
theorem d_L_divide_58 : decode c_L_divide 58 = .ok (.aload_n 0, 1) := by decide +kernel
theorem d_L_divide_59 : decode c_L_divide 59 = .ok (.getfield 11, 3) := by decide +kernel
theorem d_L_divide_62 : decode c_L_divide 62 = .ok (.iload_n 3, 1) := by decide +kernel
theorem d_L_divide_63 : decode c_L_divide 63 = .ok (.aaload, 1) := by decide +kernel
theorem d_L_divide_64 : decode c_L_divide 64 = .ok (.getfield 67, 3) := by decide +kernel
theorem d_L_divide_67 : decode c_L_divide 67 = .ok (.istore 6, 2) := by decide +kernel
theorem d_L_divide_69 : decode c_L_divide 69 = .ok (.aload_n 0, 1) := by decide +kernel
theorem d_L_divide_70 : decode c_L_divide 70 = .ok (.getfield 11, 3) := by decide +kernel
theorem d_L_divide_73 : decode c_L_divide 73 = .ok (.iload 4, 2) := by decide +kernel
theorem d_L_divide_75 : decode c_L_divide 75 = .ok (.aaload, 1) := by decide +kernel
theorem d_L_divide_76 : decode c_L_divide 76 = .ok (.getfield 67, 3) := by decide +kernel
theorem d_L_divide_79 : decode c_L_divide 79 = .ok (.istore 7, 2) := by decide +kernel
theorem d_L_divide_81 : decode c_L_divide 81 = .ok (.iload 6, 2) := by decide +kernel
theorem d_L_divide_83 : decode c_L_divide 83 = .ok (.istore 8, 2) := by decide +kernel
theorem d_L_divide_85 : decode c_L_divide 85 = .ok (.aload_n 0, 1) := by decide +kernel
theorem d_L_divide_86 : decode c_L_divide 86 = .ok (.getfield 30, 3) := by decide +kernel
theorem d_L_divide_89 : decode c_L_divide 89 = .ok (.aload_n 0, 1) := by decide +kernel
theorem d_L_divide_90 : decode c_L_divide 90 = .ok (.getfield 11, 3) := by decide +kernel
theorem d_L_divide_93 : decode c_L_divide 93 = .ok (.iload_n 3, 1) := by decide +kernel
theorem d_L_divide_94 : decode c_L_divide 94 = .ok (.aaload, 1) := by decide +kernel
theorem d_L_divide_95 : decode c_L_divide 95 = .ok (.getfield 63, 3) := by decide +kernel
theorem d_L_divide_98 : decode c_L_divide 98 = .ok (.aload_n 0, 1) := by decide +kernel
theorem d_L_divide_99 : decode c_L_divide 99 = .ok (.getfield 11, 3) := by decide +kernel
theorem d_L_divide_102 : decode c_L_divide 102 = .ok (.iload 4, 2) := by decide +kernel
theorem d_L_divide_104 : decode c_L_divide 104 = .ok (.aaload, 1) := by decide +kernel
theorem d_L_divide_105 : decode c_L_divide 105 = .ok (.getfield 63, 3) := by decide +kernel
theorem d_L_divide_108 : decode c_L_divide 108 = .ok (.invokevirtual 104, 3) := by decide +kernel
theorem d_L_divide_111 : decode c_L_divide 111 = .ok (.iload 5, 2) := by decide +kernel
theorem d_L_divide_113 : decode c_L_divide 113 = .ok (.ifCond .eq 44, 3) := by decide +kernel
theorem d_L_divide_116 : decode c_L_divide 116 = .ok (.iload 6, 2) := by decide +kernel
theorem d_L_divide_118 : decode c_L_divide 118 = .ok (.iload 7, 2) := by decide +kernel
theorem d_L_divide_120 : decode c_L_divide 120 = .ok (.if_icmp .eq 37, 3) := by decide +kernel
theorem d_L_divide_123 : decode c_L_divide 123 = .ok (.aload_n 0, 1) := by decide +kernel
theorem d_L_divide_124 : decode c_L_divide 124 = .ok (.getfield 30, 3) := by decide +kernel
theorem d_L_divide_127 : decode c_L_divide 127 = .ok (.getfield 108, 3) := by decide +kernel
theorem d_L_divide_130 : decode c_L_divide 130 = .ok (.invokevirtual 93, 3) := by decide +kernel
theorem d_L_divide_133 : decode c_L_divide 133 = .ok (.ifCond .ne 24, 3) := by decide +kernel
theorem d_L_divide_136 : decode c_L_divide 136 = .ok (.aload_n 0, 1) := by decide +kernel
theorem d_L_divide_137 : decode c_L_divide 137 = .ok (.getfield 30, 3) := by decide +kernel
theorem d_L_divide_140 : decode c_L_divide 140 = .ok (.aload_n 0, 1) := by decide +kernel
theorem d_L_divide_141 : decode c_L_divide 141 = .ok (.getfield 11, 3) := by decide +kernel
theorem d_L_divide_144 : decode c_L_divide 144 = .ok (.iload 4, 2) := by decide +kernel
theorem d_L_divide_146 : decode c_L_divide 146 = .ok (.aaload, 1) := by decide +kernel
theorem d_L_divide_147 : decode c_L_divide 147 = .ok (.getfield 63, 3) := by decide +kernel
theorem d_L_divide_150 : decode c_L_divide 150 = .ok (.invokevirtual 111, 3) := by decide +kernel
theorem d_L_divide_153 : decode c_L_divide 153 = .ok (.iload 7, 2) := by decide +kernel
theorem d_L_divide_155 : decode c_L_divide 155 = .ok (.istore 8, 2) := by decide +kernel
theorem d_L_divide_157 : decode c_L_divide 157 = .ok (.aload_n 0, 1) := by decide +kernel
theorem d_L_divide_158 : decode c_L_divide 158 = .ok (.getfield 11, 3) := by decide +kernel
theorem d_L_divide_161 : decode c_L_divide 161 = .ok (.iload_n 1, 1) := by decide +kernel
theorem d_L_divide_162 : decode c_L_divide 162 = .ok (.aaload, 1) := by decide +kernel
theorem d_L_divide_163 : decode c_L_divide 163 = .ok (.aload_n 0, 1) := by decide +kernel
theorem d_L_divide_164 : decode c_L_divide 164 = .ok (.getfield 30, 3) := by decide +kernel
theorem d_L_divide_167 : decode c_L_divide 167 = .ok (.getfield 115, 3) := by decide +kernel
theorem d_L_divide_170 : decode c_L_divide 170 = .ok (.iload 6, 2) := by decide +kernel
theorem d_L_divide_172 : decode c_L_divide 172 = .ok (.iload 7, 2) := by decide +kernel
theorem d_L_divide_174 : decode c_L_divide 174 = .ok (.if_icmp .eq 7, 3) := by decide +kernel
theorem d_L_divide_177 : decode c_L_divide 177 = .ok (.iconst 1, 1) := by decide +kernel
theorem d_L_divide_178 : decode c_L_divide 178 = .ok (.goto 4, 3) := by decide +kernel
theorem d_L_divide_181 : decode c_L_divide 181 = .ok (.iconst 0, 1) := by decide +kernel
theorem d_L_divide_182 : decode c_L_divide 182 = .ok (.invokevirtual 71, 3) := by decide +kernel
theorem d_L_divide_185 : decode c_L_divide 185 = .ok (.aload_n 0, 1) := by decide +kernel
theorem d_L_divide_186 : decode c_L_divide 186 = .ok (.getfield 11, 3) := by decide +kernel
theorem d_L_divide_189 : decode c_L_divide 189 = .ok (.iload_n 2, 1) := by decide +kernel
theorem d_L_divide_190 : decode c_L_divide 190 = .ok (.aaload, 1) := by decide +kernel
theorem d_L_divide_191 : decode c_L_divide 191 = .ok (.aload_n 0, 1) := by decide +kernel
theorem d_L_divide_192 : decode c_L_divide 192 = .ok (.getfield 30, 3) := by decide +kernel
theorem d_L_divide_195 : decode c_L_divide 195 = .ok (.getfield 108, 3) := by decide +kernel
theorem d_L_divide_198 : decode c_L_divide 198 = .ok (.iload 8, 2) := by decide +kernel
theorem d_L_divide_200 : decode c_L_divide 200 = .ok (.invokevirtual 71, 3) := by decide +kernel
theorem d_L_divide_203 : decode c_L_divide 203 = .ok (.return_, 1) := by decide +kernel
theorem d_L_gcd_0 : decode c_L_gcd 0 = .ok (.iload_n 1, 1) := by decide +kernel
theorem d_L_gcd_1 : decode c_L_gcd 1 = .ok (.invokestatic 55, 3) := by decide +kernel
theorem d_L_gcd_4 : decode c_L_gcd 4 = .ok (.iload_n 2, 1) := by decide +kernel
theorem d_L_gcd_5 : decode c_L_gcd 5 = .ok (.invokestatic 55, 3) := by decide +kernel
theorem d_L_gcd_8 : decode c_L_gcd 8 = .ok (.iload_n 3, 1) := by decide +kernel
theorem d_L_gcd_9 : decode c_L_gcd 9 = .ok (.invokestatic 55, 3) := by decide +kernel
theorem d_L_gcd_12 : decode c_L_gcd 12 = .ok (.aload_n 0, 1) := by decide +kernel
theorem d_L_gcd_13 : decode c_L_gcd 13 = .ok (.getfield 51, 3) := by decide +kernel
theorem d_L_gcd_16 : decode c_L_gcd 16 = .ok (.aload_n 0, 1) := by decide +kernel
theorem d_L_gcd_17 : decode c_L_gcd 17 = .ok (.getfield 11, 3) := by decide +kernel
theorem d_L_gcd_20 : decode c_L_gcd 20 = .ok (.iload_n 2, 1) := by decide +kernel
theorem d_L_gcd_21 : decode c_L_gcd 21 = .ok (.aaload, 1) := by decide +kernel
theorem d_L_gcd_22 : decode c_L_gcd 22 = .ok (.getfield 63, 3) := by decide +kernel
theorem d_L_gcd_25 : decode c_L_gcd 25 = .ok (.aload_n 0, 1) := by decide +kernel
theorem d_L_gcd_26 : decode c_L_gcd 26 = .ok (.getfield 11, 3) := by decide +kernel
theorem d_L_gcd_29 : decode c_L_gcd 29 = .ok (.iload_n 3, 1) := by decide +kernel
theorem d_L_gcd_30 : decode c_L_gcd 30 = .ok (.aaload, 1) := by decide +kernel
theorem d_L_gcd_31 : decode c_L_gcd 31 = .ok (.getfield 63, 3) := by decide +kernel
theorem d_L_gcd_34 : decode c_L_gcd 34 = .ok (.invokevirtual 150, 3) := by decide +kernel
theorem d_L_gcd_37 : decode c_L_gcd 37 = .ok (.aload_n 0, 1) := by decide +kernel
theorem d_L_gcd_38 : decode c_L_gcd 38 = .ok (.getfield 11, 3) := by decide +kernel
theorem d_L_gcd_41 : decode c_L_gcd 41 = .ok (.iload_n 1, 1) := by decide +kernel
theorem d_L_gcd_42 : decode c_L_gcd 42 = .ok (.aaload, 1) := by decide +kernel
theorem d_L_gcd_43 : decode c_L_gcd 43 = .ok (.aload_n 0, 1) := by decide +kernel
theorem d_L_gcd_44 : decode c_L_gcd 44 = .ok (.getfield 51, 3) := by decide +kernel
theorem d_L_gcd_47 : decode c_L_gcd 47 = .ok (.getfield 151, 3) := by decide +kernel
theorem d_L_gcd_50 : decode c_L_gcd 50 = .ok (.iconst 0, 1) := by decide +kernel
theorem d_L_gcd_51 : decode c_L_gcd 51 = .ok (.invokevirtual 71, 3) := by decide +kernel
theorem d_L_gcd_54 : decode c_L_gcd 54 = .ok (.return_, 1) := by decide +kernel
theorem d_L_inverse_0 : decode c_L_inverse 0 = .ok (.iload_n 1, 1) := by decide +kernel
theorem d_L_inverse_1 : decode c_L_inverse 1 = .ok (.invokestatic 55, 3) := by decide +kernel
theorem d_L_inverse_4 : decode c_L_inverse 4 = .ok (.iload_n 2, 1) := by decide +kernel
theorem d_L_inverse_5 : decode c_L_inverse 5 = .ok (.invokestatic 55, 3) := by decide +kernel
theorem d_L_inverse_8 : decode c_L_inverse 8 = .ok (.iload_n 3, 1) := by decide +kernel
theorem d_L_inverse_9 : decode c_L_inverse 9 = .ok (.invokestatic 55, 3) := by decide +kernel
theorem d_L_inverse_12 : decode c_L_inverse 12 = .ok (.aload_n 0, 1) := by decide +kernel
theorem d_L_inverse_13 : decode c_L_inverse 13 = .ok (.iload_n 3, 1) := by decide +kernel
theorem d_L_inverse_14 : decode c_L_inverse 14 = .ok (.invokevirtual 154, 3) := by decide +kernel
theorem d_L_inverse_17 : decode c_L_inverse 17 = .ok (.aload_n 0, 1) := by decide +kernel
theorem d_L_inverse_18 : decode c_L_inverse 18 = .ok (.getfield 44, 3) := by decide +kernel
theorem d_L_inverse_21 : decode c_L_inverse 21 = .ok (.aload_n 0, 1) := by decide +kernel
theorem d_L_inverse_22 : decode c_L_inverse 22 = .ok (.getfield 11, 3) := by decide +kernel
theorem d_L_inverse_25 : decode c_L_inverse 25 = .ok (.iload_n 2, 1) := by decide +kernel
theorem d_L_inverse_26 : decode c_L_inverse 26 = .ok (.aaload, 1) := by decide +kernel
theorem d_L_inverse_27 : decode c_L_inverse 27 = .ok (.aload_n 0, 1) := by decide +kernel
theorem d_L_inverse_28 : decode c_L_inverse 28 = .ok (.getfield 11, 3) := by decide +kernel
theorem d_L_inverse_31 : decode c_L_inverse 31 = .ok (.iload_n 3, 1) := by decide +kernel
theorem d_L_inverse_32 : decode c_L_inverse 32 = .ok (.aaload, 1) := by decide +kernel
theorem d_L_inverse_33 : decode c_L_inverse 33 = .ok (.getfield 63, 3) := by decide +kernel
theorem d_L_inverse_36 : decode c_L_inverse 36 = .ok (.invokevirtual 164, 3) := by decide +kernel
theorem d_L_inverse_39 : decode c_L_inverse 39 = .ok (.aload_n 0, 1) := by decide +kernel
theorem d_L_inverse_40 : decode c_L_inverse 40 = .ok (.getfield 51, 3) := by decide +kernel
theorem d_L_inverse_43 : decode c_L_inverse 43 = .ok (.aload_n 0, 1) := by decide +kernel
theorem d_L_inverse_44 : decode c_L_inverse 44 = .ok (.getfield 11, 3) := by decide +kernel
theorem d_L_inverse_47 : decode c_L_inverse 47 = .ok (.iload_n 3, 1) := by decide +kernel
theorem d_L_inverse_48 : decode c_L_inverse 48 = .ok (.aaload, 1) := by decide +kernel
theorem d_L_inverse_49 : decode c_L_inverse 49 = .ok (.getfield 63, 3) := by decide +kernel
theorem d_L_inverse_52 : decode c_L_inverse 52 = .ok (.aload_n 0, 1) := by decide +kernel
theorem d_L_inverse_53 : decode c_L_inverse 53 = .ok (.getfield 44, 3) := by decide +kernel
theorem d_L_inverse_56 : decode c_L_inverse 56 = .ok (.getfield 163, 3) := by decide +kernel
theorem d_L_inverse_59 : decode c_L_inverse 59 = .ok (.invokevirtual 150, 3) := by decide +kernel
theorem d_L_inverse_62 : decode c_L_inverse 62 = .ok (.aload_n 0, 1) := by decide +kernel
theorem d_L_inverse_63 : decode c_L_inverse 63 = .ok (.getfield 51, 3) := by decide +kernel
theorem d_L_inverse_66 : decode c_L_inverse 66 = .ok (.getfield 151, 3) := by decide +kernel
theorem d_L_inverse_69 : decode c_L_inverse 69 = .ok (.invokevirtual 168, 3) := by decide +kernel
theorem d_L_inverse_72 : decode c_L_inverse 72 = .ok (.ifCond .ne 13, 3) := by decide +kernel
theorem d_L_inverse_75 : decode c_L_inverse 75 = .ok (.new 171, 3) := by decide +kernel
theorem d_L_inverse_78 : decode c_L_inverse 78 = .ok (.dup, 1) := by decide +kernel
theorem d_L_inverse_79 : decode c_L_inverse 79 = .ok (.ldc 173, 2) := by decide +kernel
theorem d_L_inverse_81 : decode c_L_inverse 81 = .ok (.invokespecial 175, 3) := by decide +kernel
theorem d_L_inverse_84 : decode c_L_inverse 84 = .ok (.athrow, 1) := by decide +kernel
theorem d_L_inverse_85 : decode c_L_inverse 85 = .ok (.aload_n 0, 1) := by decide +kernel
theorem d_L_inverse_86 : decode c_L_inverse 86 = .ok (.getfield 51, 3) := by decide +kernel
theorem d_L_inverse_89 : decode c_L_inverse 89 = .ok (.aload_n 0, 1) := by decide +kernel
theorem d_L_inverse_90 : decode c_L_inverse 90 = .ok (.getfield 11, 3) := by decide +kernel
theorem d_L_inverse_93 : decode c_L_inverse 93 = .ok (.iload_n 3, 1) := by decide +kernel
theorem d_L_inverse_94 : decode c_L_inverse 94 = .ok (.aaload, 1) := by decide +kernel
theorem d_L_inverse_95 : decode c_L_inverse 95 = .ok (.getfield 63, 3) := by decide +kernel
theorem d_L_inverse_98 : decode c_L_inverse 98 = .ok (.invokevirtual 176, 3) := by decide +kernel
theorem d_L_inverse_101 : decode c_L_inverse 101 = .ok (.aload_n 0, 1) := by decide +kernel
theorem d_L_inverse_102 : decode c_L_inverse 102 = .ok (.getfield 11, 3) := by decide +kernel
theorem d_L_inverse_105 : decode c_L_inverse 105 = .ok (.iload_n 1, 1) := by decide +kernel
theorem d_L_inverse_106 : decode c_L_inverse 106 = .ok (.aaload, 1) := by decide +kernel
theorem d_L_inverse_107 : decode c_L_inverse 107 = .ok (.aload_n 0, 1) := by decide +kernel
theorem d_L_inverse_108 : decode c_L_inverse 108 = .ok (.getfield 51, 3) := by decide +kernel
theorem d_L_inverse_111 : decode c_L_inverse 111 = .ok (.getfield 179, 3) := by decide +kernel
theorem d_L_inverse_114 : decode c_L_inverse 114 = .ok (.iconst 0, 1) := by decide +kernel
theorem d_L_inverse_115 : decode c_L_inverse 115 = .ok (.invokevirtual 71, 3) := by decide +kernel
theorem d_L_inverse_118 : decode c_L_inverse 118 = .ok (.return_, 1) := by decide +kernel
theorem d_L_keepAnswer_0 : decode c_L_keepAnswer 0 = .ok (.aload_n 0, 1) := by decide +kernel
theorem d_L_keepAnswer_1 : decode c_L_keepAnswer 1 = .ok (.getfield 16, 3) := by decide +kernel
theorem d_L_keepAnswer_4 : decode c_L_keepAnswer 4 = .ok (.getfield 63, 3) := by decide +kernel
theorem d_L_keepAnswer_7 : decode c_L_keepAnswer 7 = .ok (.invokevirtual 128, 3) := by decide +kernel
theorem d_L_keepAnswer_10 : decode c_L_keepAnswer 10 = .ok (.sipush 1024, 3) := by decide +kernel
theorem d_L_keepAnswer_13 : decode c_L_keepAnswer 13 = .ok (.if_icmp .le 13, 3) := by decide +kernel
theorem d_L_keepAnswer_16 : decode c_L_keepAnswer 16 = .ok (.new 132, 3) := by decide +kernel
theorem d_L_keepAnswer_19 : decode c_L_keepAnswer 19 = .ok (.dup, 1) := by decide +kernel
theorem d_L_keepAnswer_20 : decode c_L_keepAnswer 20 = .ok (.ldc 134, 2) := by decide +kernel
theorem d_L_keepAnswer_22 : decode c_L_keepAnswer 22 = .ok (.invokespecial 136, 3) := by decide +kernel
theorem d_L_keepAnswer_25 : decode c_L_keepAnswer 25 = .ok (.athrow, 1) := by decide +kernel
theorem d_L_keepAnswer_26 : decode c_L_keepAnswer 26 = .ok (.aload_n 0, 1) := by decide +kernel
theorem d_L_keepAnswer_27 : decode c_L_keepAnswer 27 = .ok (.getfield 11, 3) := by decide +kernel
theorem d_L_keepAnswer_30 : decode c_L_keepAnswer 30 = .ok (.iload_n 1, 1) := by decide +kernel
theorem d_L_keepAnswer_31 : decode c_L_keepAnswer 31 = .ok (.aaload, 1) := by decide +kernel
theorem d_L_keepAnswer_32 : decode c_L_keepAnswer 32 = .ok (.aload_n 0, 1) := by decide +kernel
theorem d_L_keepAnswer_33 : decode c_L_keepAnswer 33 = .ok (.getfield 16, 3) := by decide +kernel
theorem d_L_keepAnswer_36 : decode c_L_keepAnswer 36 = .ok (.getfield 63, 3) := by decide +kernel
theorem d_L_keepAnswer_39 : decode c_L_keepAnswer 39 = .ok (.aload_n 0, 1) := by decide +kernel
theorem d_L_keepAnswer_40 : decode c_L_keepAnswer 40 = .ok (.getfield 16, 3) := by decide +kernel
theorem d_L_keepAnswer_43 : decode c_L_keepAnswer 43 = .ok (.getfield 67, 3) := by decide +kernel
theorem d_L_keepAnswer_46 : decode c_L_keepAnswer 46 = .ok (.invokevirtual 71, 3) := by decide +kernel
theorem d_L_keepAnswer_49 : decode c_L_keepAnswer 49 = .ok (.return_, 1) := by decide +kernel
theorem d_L_low_0 : decode c_L_low 0 = .ok (.iload_n 1, 1) := by decide +kernel
theorem d_L_low_1 : decode c_L_low 1 = .ok (.invokestatic 55, 3) := by decide +kernel
theorem d_L_low_4 : decode c_L_low 4 = .ok (.aload_n 0, 1) := by decide +kernel
theorem d_L_low_5 : decode c_L_low 5 = .ok (.getfield 11, 3) := by decide +kernel
theorem d_L_low_8 : decode c_L_low 8 = .ok (.iload_n 1, 1) := by decide +kernel
theorem d_L_low_9 : decode c_L_low 9 = .ok (.aaload, 1) := by decide +kernel
theorem d_L_low_10 : decode c_L_low 10 = .ok (.getfield 63, 3) := by decide +kernel
theorem d_L_low_13 : decode c_L_low 13 = .ok (.invokevirtual 195, 3) := by decide +kernel
theorem d_L_low_16 : decode c_L_low 16 = .ok (.lstore_n 2, 1) := by decide +kernel
theorem d_L_low_17 : decode c_L_low 17 = .ok (.aload_n 0, 1) := by decide +kernel
theorem d_L_low_18 : decode c_L_low 18 = .ok (.getfield 11, 3) := by decide +kernel
theorem d_L_low_21 : decode c_L_low 21 = .ok (.iload_n 1, 1) := by decide +kernel
theorem d_L_low_22 : decode c_L_low 22 = .ok (.aaload, 1) := by decide +kernel
theorem d_L_low_23 : decode c_L_low 23 = .ok (.getfield 67, 3) := by decide +kernel
theorem d_L_low_26 : decode c_L_low 26 = .ok (.ifCond .eq 8, 3) := by decide +kernel
theorem d_L_low_29 : decode c_L_low 29 = .ok (.lload_n 2, 1) := by decide +kernel
theorem d_L_low_30 : decode c_L_low 30 = .ok (.lneg, 1) := by decide +kernel
theorem d_L_low_31 : decode c_L_low 31 = .ok (.goto 4, 3) := by decide +kernel
theorem d_L_low_34 : decode c_L_low 34 = .ok (.lload_n 2, 1) := by decide +kernel
theorem d_L_low_35 : decode c_L_low 35 = .ok (.lreturn, 1) := by decide +kernel
theorem d_L_multiply_0 : decode c_L_multiply 0 = .ok (.iload_n 1, 1) := by decide +kernel
theorem d_L_multiply_1 : decode c_L_multiply 1 = .ok (.invokestatic 55, 3) := by decide +kernel
theorem d_L_multiply_4 : decode c_L_multiply 4 = .ok (.iload_n 2, 1) := by decide +kernel
theorem d_L_multiply_5 : decode c_L_multiply 5 = .ok (.invokestatic 55, 3) := by decide +kernel
theorem d_L_multiply_8 : decode c_L_multiply 8 = .ok (.iload_n 3, 1) := by decide +kernel
theorem d_L_multiply_9 : decode c_L_multiply 9 = .ok (.invokestatic 55, 3) := by decide +kernel
theorem d_L_multiply_12 : decode c_L_multiply 12 = .ok (.aload_n 0, 1) := by decide +kernel
theorem d_L_multiply_13 : decode c_L_multiply 13 = .ok (.getfield 16, 3) := by decide +kernel
theorem d_L_multiply_16 : decode c_L_multiply 16 = .ok (.aload_n 0, 1) := by decide +kernel
theorem d_L_multiply_17 : decode c_L_multiply 17 = .ok (.getfield 11, 3) := by decide +kernel
theorem d_L_multiply_20 : decode c_L_multiply 20 = .ok (.iload_n 2, 1) := by decide +kernel
theorem d_L_multiply_21 : decode c_L_multiply 21 = .ok (.aaload, 1) := by decide +kernel
theorem d_L_multiply_22 : decode c_L_multiply 22 = .ok (.aload_n 0, 1) := by decide +kernel
theorem d_L_multiply_23 : decode c_L_multiply 23 = .ok (.getfield 11, 3) := by decide +kernel
theorem d_L_multiply_26 : decode c_L_multiply 26 = .ok (.iload_n 3, 1) := by decide +kernel
theorem d_L_multiply_27 : decode c_L_multiply 27 = .ok (.aaload, 1) := by decide +kernel
theorem d_L_multiply_28 : decode c_L_multiply 28 = .ok (.invokevirtual 82, 3) := by decide +kernel
theorem d_L_multiply_31 : decode c_L_multiply 31 = .ok (.aload_n 0, 1) := by decide +kernel
theorem d_L_multiply_32 : decode c_L_multiply 32 = .ok (.iload_n 1, 1) := by decide +kernel
theorem d_L_multiply_33 : decode c_L_multiply 33 = .ok (.invokevirtual 79, 3) := by decide +kernel
theorem d_L_multiply_36 : decode c_L_multiply 36 = .ok (.return_, 1) := by decide +kernel
theorem d_L_needModulus_0 : decode c_L_needModulus 0 = .ok (.aload_n 0, 1) := by decide +kernel
theorem d_L_needModulus_1 : decode c_L_needModulus 1 = .ok (.getfield 11, 3) := by decide +kernel
theorem d_L_needModulus_4 : decode c_L_needModulus 4 = .ok (.iload_n 1, 1) := by decide +kernel
theorem d_L_needModulus_5 : decode c_L_needModulus 5 = .ok (.aaload, 1) := by decide +kernel
theorem d_L_needModulus_6 : decode c_L_needModulus 6 = .ok (.getfield 67, 3) := by decide +kernel
theorem d_L_needModulus_9 : decode c_L_needModulus 9 = .ok (.ifCond .ne 18, 3) := by decide +kernel
theorem d_L_needModulus_12 : decode c_L_needModulus 12 = .ok (.aload_n 0, 1) := by decide +kernel
theorem d_L_needModulus_13 : decode c_L_needModulus 13 = .ok (.getfield 11, 3) := by decide +kernel
theorem d_L_needModulus_16 : decode c_L_needModulus 16 = .ok (.iload_n 1, 1) := by decide +kernel
theorem d_L_needModulus_17 : decode c_L_needModulus 17 = .ok (.aaload, 1) := by decide +kernel
theorem d_L_needModulus_18 : decode c_L_needModulus 18 = .ok (.getfield 63, 3) := by decide +kernel
theorem d_L_needModulus_21 : decode c_L_needModulus 21 = .ok (.invokevirtual 93, 3) := by decide +kernel
theorem d_L_needModulus_24 : decode c_L_needModulus 24 = .ok (.ifCond .eq 13, 3) := by decide +kernel
theorem d_L_needModulus_27 : decode c_L_needModulus 27 = .ok (.new 99, 3) := by decide +kernel
theorem d_L_needModulus_30 : decode c_L_needModulus 30 = .ok (.dup, 1) := by decide +kernel
theorem d_L_needModulus_31 : decode c_L_needModulus 31 = .ok (.ldc 247, 2) := by decide +kernel
theorem d_L_needModulus_33 : decode c_L_needModulus 33 = .ok (.invokespecial 103, 3) := by decide +kernel
theorem d_L_needModulus_36 : decode c_L_needModulus 36 = .ok (.athrow, 1) := by decide +kernel
theorem d_L_needModulus_37 : decode c_L_needModulus 37 = .ok (.return_, 1) := by decide +kernel
theorem d_L_needRadix_0 : decode c_L_needRadix 0 = .ok (.iload_n 0, 1) := by decide +kernel
theorem d_L_needRadix_1 : decode c_L_needRadix 1 = .ok (.iconst 2, 1) := by decide +kernel
theorem d_L_needRadix_2 : decode c_L_needRadix 2 = .ok (.if_icmp .lt 9, 3) := by decide +kernel
theorem d_L_needRadix_5 : decode c_L_needRadix 5 = .ok (.iload_n 0, 1) := by decide +kernel
theorem d_L_needRadix_6 : decode c_L_needRadix 6 = .ok (.bipush 36, 2) := by decide +kernel
theorem d_L_needRadix_8 : decode c_L_needRadix 8 = .ok (.if_icmp .le 13, 3) := by decide +kernel
theorem d_L_needRadix_11 : decode c_L_needRadix 11 = .ok (.new 86, 3) := by decide +kernel
theorem d_L_needRadix_14 : decode c_L_needRadix 14 = .ok (.dup, 1) := by decide +kernel
theorem d_L_needRadix_15 : decode c_L_needRadix 15 = .ok (.ldc 245, 2) := by decide +kernel
theorem d_L_needRadix_17 : decode c_L_needRadix 17 = .ok (.invokespecial 90, 3) := by decide +kernel
theorem d_L_needRadix_20 : decode c_L_needRadix 20 = .ok (.athrow, 1) := by decide +kernel
theorem d_L_needRadix_21 : decode c_L_needRadix 21 = .ok (.return_, 1) := by decide +kernel
theorem d_L_needRegister_0 : decode c_L_needRegister 0 = .ok (.iload_n 0, 1) := by decide +kernel
theorem d_L_needRegister_1 : decode c_L_needRegister 1 = .ok (.ifCond .lt 9, 3) := by decide +kernel
theorem d_L_needRegister_4 : decode c_L_needRegister 4 = .ok (.iload_n 0, 1) := by decide +kernel
theorem d_L_needRegister_5 : decode c_L_needRegister 5 = .ok (.bipush 12, 2) := by decide +kernel
theorem d_L_needRegister_7 : decode c_L_needRegister 7 = .ok (.if_icmp .lt 13, 3) := by decide +kernel
theorem d_L_needRegister_10 : decode c_L_needRegister 10 = .ok (.new 186, 3) := by decide +kernel
theorem d_L_needRegister_13 : decode c_L_needRegister 13 = .ok (.dup, 1) := by decide +kernel
theorem d_L_needRegister_14 : decode c_L_needRegister 14 = .ok (.ldc 243, 2) := by decide +kernel
theorem d_L_needRegister_16 : decode c_L_needRegister 16 = .ok (.invokespecial 190, 3) := by decide +kernel
theorem d_L_needRegister_19 : decode c_L_needRegister 19 = .ok (.athrow, 1) := by decide +kernel
theorem d_L_needRegister_20 : decode c_L_needRegister 20 = .ok (.return_, 1) := by decide +kernel
theorem d_L_parse_0 : decode c_L_parse 0 = .ok (.iload_n 1, 1) := by decide +kernel
theorem d_L_parse_1 : decode c_L_parse 1 = .ok (.invokestatic 55, 3) := by decide +kernel
theorem d_L_parse_4 : decode c_L_parse 4 = .ok (.iload_n 2, 1) := by decide +kernel
theorem d_L_parse_5 : decode c_L_parse 5 = .ok (.invokestatic 220, 3) := by decide +kernel
theorem d_L_parse_8 : decode c_L_parse 8 = .ok (.aload_n 0, 1) := by decide +kernel
theorem d_L_parse_9 : decode c_L_parse 9 = .ok (.getfield 23, 3) := by decide +kernel
theorem d_L_parse_12 : decode c_L_parse 12 = .ok (.iload_n 2, 1) := by decide +kernel
theorem d_L_parse_13 : decode c_L_parse 13 = .ok (.invokevirtual 223, 3) := by decide +kernel
theorem d_L_parse_16 : decode c_L_parse 16 = .ok (.ifCond .ne 13, 3) := by decide +kernel
theorem d_L_parse_19 : decode c_L_parse 19 = .ok (.new 211, 3) := by decide +kernel
theorem d_L_parse_22 : decode c_L_parse 22 = .ok (.dup, 1) := by decide +kernel
theorem d_L_parse_23 : decode c_L_parse 23 = .ok (.ldc 226, 2) := by decide +kernel
theorem d_L_parse_25 : decode c_L_parse 25 = .ok (.invokespecial 215, 3) := by decide +kernel
theorem d_L_parse_28 : decode c_L_parse 28 = .ok (.athrow, 1) := by decide +kernel
theorem d_L_parse_29 : decode c_L_parse 29 = .ok (.aload_n 0, 1) := by decide +kernel
theorem d_L_parse_30 : decode c_L_parse 30 = .ok (.getfield 23, 3) := by decide +kernel
theorem d_L_parse_33 : decode c_L_parse 33 = .ok (.aload_n 0, 1) := by decide +kernel
theorem d_L_parse_34 : decode c_L_parse 34 = .ok (.getfield 16, 3) := by decide +kernel
theorem d_L_parse_37 : decode c_L_parse 37 = .ok (.iload_n 2, 1) := by decide +kernel
theorem d_L_parse_38 : decode c_L_parse 38 = .ok (.invokevirtual 228, 3) := by decide +kernel
theorem d_L_parse_41 : decode c_L_parse 41 = .ok (.aload_n 0, 1) := by decide +kernel
theorem d_L_parse_42 : decode c_L_parse 42 = .ok (.iload_n 1, 1) := by decide +kernel
theorem d_L_parse_43 : decode c_L_parse 43 = .ok (.invokevirtual 79, 3) := by decide +kernel
theorem d_L_parse_46 : decode c_L_parse 46 = .ok (.aload_n 0, 1) := by decide +kernel
theorem d_L_parse_47 : decode c_L_parse 47 = .ok (.getfield 23, 3) := by decide +kernel
theorem d_L_parse_50 : decode c_L_parse 50 = .ok (.getfield 207, 3) := by decide +kernel
theorem d_L_parse_53 : decode c_L_parse 53 = .ok (.aload_n 0, 1) := by decide +kernel
theorem d_L_parse_54 : decode c_L_parse 54 = .ok (.getfield 23, 3) := by decide +kernel
theorem d_L_parse_57 : decode c_L_parse 57 = .ok (.invokevirtual 231, 3) := by decide +kernel
theorem d_L_parse_60 : decode c_L_parse 60 = .ok (.isub, 1) := by decide +kernel
theorem d_L_parse_61 : decode c_L_parse 61 = .ok (.istore_n 3, 1) := by decide +kernel
theorem d_L_parse_62 : decode c_L_parse 62 = .ok (.aload_n 0, 1) := by decide +kernel
theorem d_L_parse_63 : decode c_L_parse 63 = .ok (.getfield 23, 3) := by decide +kernel
theorem d_L_parse_66 : decode c_L_parse 66 = .ok (.iconst 0, 1) := by decide +kernel
theorem d_L_parse_67 : decode c_L_parse 67 = .ok (.putfield 207, 3) := by decide +kernel
theorem d_L_parse_70 : decode c_L_parse 70 = .ok (.iload_n 3, 1) := by decide +kernel
theorem d_L_parse_71 : decode c_L_parse 71 = .ok (.ireturn, 1) := by decide +kernel
theorem d_L_power_0 : decode c_L_power 0 = .ok (.iload_n 1, 1) := by decide +kernel
theorem d_L_power_1 : decode c_L_power 1 = .ok (.invokestatic 55, 3) := by decide +kernel
theorem d_L_power_4 : decode c_L_power 4 = .ok (.iload_n 2, 1) := by decide +kernel
theorem d_L_power_5 : decode c_L_power 5 = .ok (.invokestatic 55, 3) := by decide +kernel
theorem d_L_power_8 : decode c_L_power 8 = .ok (.iload_n 3, 1) := by decide +kernel
theorem d_L_power_9 : decode c_L_power 9 = .ok (.invokestatic 55, 3) := by decide +kernel
theorem d_L_power_12 : decode c_L_power 12 = .ok (.iload 4, 2) := by decide +kernel
theorem d_L_power_14 : decode c_L_power 14 = .ok (.invokestatic 55, 3) := by decide +kernel
theorem d_L_power_17 : decode c_L_power 17 = .ok (.aload_n 0, 1) := by decide +kernel
theorem d_L_power_18 : decode c_L_power 18 = .ok (.iload 4, 2) := by decide +kernel
theorem d_L_power_20 : decode c_L_power 20 = .ok (.invokevirtual 154, 3) := by decide +kernel
theorem d_L_power_23 : decode c_L_power 23 = .ok (.aload_n 0, 1) := by decide +kernel
theorem d_L_power_24 : decode c_L_power 24 = .ok (.getfield 11, 3) := by decide +kernel
theorem d_L_power_27 : decode c_L_power 27 = .ok (.iload_n 3, 1) := by decide +kernel
theorem d_L_power_28 : decode c_L_power 28 = .ok (.aaload, 1) := by decide +kernel
theorem d_L_power_29 : decode c_L_power 29 = .ok (.getfield 67, 3) := by decide +kernel
theorem d_L_power_32 : decode c_L_power 32 = .ok (.ifCond .eq 13, 3) := by decide +kernel
theorem d_L_power_35 : decode c_L_power 35 = .ok (.new 99, 3) := by decide +kernel
theorem d_L_power_38 : decode c_L_power 38 = .ok (.dup, 1) := by decide +kernel
theorem d_L_power_39 : decode c_L_power 39 = .ok (.ldc 157, 2) := by decide +kernel
theorem d_L_power_41 : decode c_L_power 41 = .ok (.invokespecial 103, 3) := by decide +kernel
theorem d_L_power_44 : decode c_L_power 44 = .ok (.athrow, 1) := by decide +kernel
theorem d_L_power_45 : decode c_L_power 45 = .ok (.aload_n 0, 1) := by decide +kernel
theorem d_L_power_46 : decode c_L_power 46 = .ok (.getfield 44, 3) := by decide +kernel
theorem d_L_power_49 : decode c_L_power 49 = .ok (.aload_n 0, 1) := by decide +kernel
theorem d_L_power_50 : decode c_L_power 50 = .ok (.getfield 11, 3) := by decide +kernel
theorem d_L_power_53 : decode c_L_power 53 = .ok (.iload_n 2, 1) := by decide +kernel
theorem d_L_power_54 : decode c_L_power 54 = .ok (.aaload, 1) := by decide +kernel
theorem d_L_power_55 : decode c_L_power 55 = .ok (.aload_n 0, 1) := by decide +kernel
theorem d_L_power_56 : decode c_L_power 56 = .ok (.getfield 11, 3) := by decide +kernel
theorem d_L_power_59 : decode c_L_power 59 = .ok (.iload_n 3, 1) := by decide +kernel
theorem d_L_power_60 : decode c_L_power 60 = .ok (.aaload, 1) := by decide +kernel
theorem d_L_power_61 : decode c_L_power 61 = .ok (.getfield 63, 3) := by decide +kernel
theorem d_L_power_64 : decode c_L_power 64 = .ok (.aload_n 0, 1) := by decide +kernel
theorem d_L_power_65 : decode c_L_power 65 = .ok (.getfield 11, 3) := by decide +kernel
theorem d_L_power_68 : decode c_L_power 68 = .ok (.iload 4, 2) := by decide +kernel
theorem d_L_power_70 : decode c_L_power 70 = .ok (.aaload, 1) := by decide +kernel
theorem d_L_power_71 : decode c_L_power 71 = .ok (.getfield 63, 3) := by decide +kernel
theorem d_L_power_74 : decode c_L_power 74 = .ok (.invokevirtual 159, 3) := by decide +kernel
theorem d_L_power_77 : decode c_L_power 77 = .ok (.aload_n 0, 1) := by decide +kernel
theorem d_L_power_78 : decode c_L_power 78 = .ok (.getfield 11, 3) := by decide +kernel
theorem d_L_power_81 : decode c_L_power 81 = .ok (.iload_n 1, 1) := by decide +kernel
theorem d_L_power_82 : decode c_L_power 82 = .ok (.aaload, 1) := by decide +kernel
theorem d_L_power_83 : decode c_L_power 83 = .ok (.aload_n 0, 1) := by decide +kernel
theorem d_L_power_84 : decode c_L_power 84 = .ok (.getfield 44, 3) := by decide +kernel
theorem d_L_power_87 : decode c_L_power 87 = .ok (.getfield 163, 3) := by decide +kernel
theorem d_L_power_90 : decode c_L_power 90 = .ok (.iconst 0, 1) := by decide +kernel
theorem d_L_power_91 : decode c_L_power 91 = .ok (.invokevirtual 71, 3) := by decide +kernel
theorem d_L_power_94 : decode c_L_power 94 = .ok (.return_, 1) := by decide +kernel
theorem d_L_print_0 : decode c_L_print 0 = .ok (.iload_n 1, 1) := by decide +kernel
theorem d_L_print_1 : decode c_L_print 1 = .ok (.invokestatic 55, 3) := by decide +kernel
theorem d_L_print_4 : decode c_L_print 4 = .ok (.iload_n 2, 1) := by decide +kernel
theorem d_L_print_5 : decode c_L_print 5 = .ok (.invokestatic 220, 3) := by decide +kernel
theorem d_L_print_8 : decode c_L_print 8 = .ok (.aload_n 0, 1) := by decide +kernel
theorem d_L_print_9 : decode c_L_print 9 = .ok (.getfield 16, 3) := by decide +kernel
theorem d_L_print_12 : decode c_L_print 12 = .ok (.aload_n 0, 1) := by decide +kernel
theorem d_L_print_13 : decode c_L_print 13 = .ok (.getfield 11, 3) := by decide +kernel
theorem d_L_print_16 : decode c_L_print 16 = .ok (.iload_n 1, 1) := by decide +kernel
theorem d_L_print_17 : decode c_L_print 17 = .ok (.aaload, 1) := by decide +kernel
theorem d_L_print_18 : decode c_L_print 18 = .ok (.getfield 63, 3) := by decide +kernel
theorem d_L_print_21 : decode c_L_print 21 = .ok (.aload_n 0, 1) := by decide +kernel
theorem d_L_print_22 : decode c_L_print 22 = .ok (.getfield 11, 3) := by decide +kernel
theorem d_L_print_25 : decode c_L_print 25 = .ok (.iload_n 1, 1) := by decide +kernel
theorem d_L_print_26 : decode c_L_print 26 = .ok (.aaload, 1) := by decide +kernel
theorem d_L_print_27 : decode c_L_print 27 = .ok (.getfield 67, 3) := by decide +kernel
theorem d_L_print_30 : decode c_L_print 30 = .ok (.invokevirtual 71, 3) := by decide +kernel
theorem d_L_print_33 : decode c_L_print 33 = .ok (.aload_n 0, 1) := by decide +kernel
theorem d_L_print_34 : decode c_L_print 34 = .ok (.getfield 23, 3) := by decide +kernel
theorem d_L_print_37 : decode c_L_print 37 = .ok (.aload_n 0, 1) := by decide +kernel
theorem d_L_print_38 : decode c_L_print 38 = .ok (.getfield 16, 3) := by decide +kernel
theorem d_L_print_41 : decode c_L_print 41 = .ok (.iload_n 2, 1) := by decide +kernel
theorem d_L_print_42 : decode c_L_print 42 = .ok (.invokevirtual 234, 3) := by decide +kernel
theorem d_L_print_45 : decode c_L_print 45 = .ok (.aload_n 0, 1) := by decide +kernel
theorem d_L_print_46 : decode c_L_print 46 = .ok (.getfield 23, 3) := by decide +kernel
theorem d_L_print_49 : decode c_L_print 49 = .ok (.getfield 207, 3) := by decide +kernel
theorem d_L_print_52 : decode c_L_print 52 = .ok (.ireturn, 1) := by decide +kernel
theorem d_L_root_0 : decode c_L_root 0 = .ok (.iload_n 1, 1) := by decide +kernel
theorem d_L_root_1 : decode c_L_root 1 = .ok (.invokestatic 55, 3) := by decide +kernel
theorem d_L_root_4 : decode c_L_root 4 = .ok (.iload_n 2, 1) := by decide +kernel
theorem d_L_root_5 : decode c_L_root 5 = .ok (.invokestatic 55, 3) := by decide +kernel
theorem d_L_root_8 : decode c_L_root 8 = .ok (.iload_n 3, 1) := by decide +kernel
theorem d_L_root_9 : decode c_L_root 9 = .ok (.iconst 1, 1) := by decide +kernel
theorem d_L_root_10 : decode c_L_root 10 = .ok (.if_icmp .ge 13, 3) := by decide +kernel
theorem d_L_root_13 : decode c_L_root 13 = .ok (.new 86, 3) := by decide +kernel
theorem d_L_root_16 : decode c_L_root 16 = .ok (.dup, 1) := by decide +kernel
theorem d_L_root_17 : decode c_L_root 17 = .ok (.ldc 140, 2) := by decide +kernel
theorem d_L_root_19 : decode c_L_root 19 = .ok (.invokespecial 90, 3) := by decide +kernel
theorem d_L_root_22 : decode c_L_root 22 = .ok (.athrow, 1) := by decide +kernel
theorem d_L_root_23 : decode c_L_root 23 = .ok (.aload_n 0, 1) := by decide +kernel
theorem d_L_root_24 : decode c_L_root 24 = .ok (.getfield 11, 3) := by decide +kernel
theorem d_L_root_27 : decode c_L_root 27 = .ok (.iload_n 2, 1) := by decide +kernel
theorem d_L_root_28 : decode c_L_root 28 = .ok (.aaload, 1) := by decide +kernel
theorem d_L_root_29 : decode c_L_root 29 = .ok (.getfield 67, 3) := by decide +kernel
theorem d_L_root_32 : decode c_L_root 32 = .ok (.ifCond .eq 13, 3) := by decide +kernel
theorem d_L_root_35 : decode c_L_root 35 = .ok (.new 99, 3) := by decide +kernel
theorem d_L_root_38 : decode c_L_root 38 = .ok (.dup, 1) := by decide +kernel
theorem d_L_root_39 : decode c_L_root 39 = .ok (.ldc 142, 2) := by decide +kernel
theorem d_L_root_41 : decode c_L_root 41 = .ok (.invokespecial 103, 3) := by decide +kernel
theorem d_L_root_44 : decode c_L_root 44 = .ok (.athrow, 1) := by decide +kernel
theorem d_L_root_45 : decode c_L_root 45 = .ok (.aload_n 0, 1) := by decide +kernel
theorem d_L_root_46 : decode c_L_root 46 = .ok (.getfield 37, 3) := by decide +kernel
theorem d_L_root_49 : decode c_L_root 49 = .ok (.aload_n 0, 1) := by decide +kernel
theorem d_L_root_50 : decode c_L_root 50 = .ok (.getfield 11, 3) := by decide +kernel
theorem d_L_root_53 : decode c_L_root 53 = .ok (.iload_n 2, 1) := by decide +kernel
theorem d_L_root_54 : decode c_L_root 54 = .ok (.aaload, 1) := by decide +kernel
theorem d_L_root_55 : decode c_L_root 55 = .ok (.getfield 63, 3) := by decide +kernel
theorem d_L_root_58 : decode c_L_root 58 = .ok (.iload_n 3, 1) := by decide +kernel
theorem d_L_root_59 : decode c_L_root 59 = .ok (.invokevirtual 144, 3) := by decide +kernel
theorem d_L_root_62 : decode c_L_root 62 = .ok (.aload_n 0, 1) := by decide +kernel
theorem d_L_root_63 : decode c_L_root 63 = .ok (.getfield 11, 3) := by decide +kernel
theorem d_L_root_66 : decode c_L_root 66 = .ok (.iload_n 1, 1) := by decide +kernel
theorem d_L_root_67 : decode c_L_root 67 = .ok (.aaload, 1) := by decide +kernel
theorem d_L_root_68 : decode c_L_root 68 = .ok (.aload_n 0, 1) := by decide +kernel
theorem d_L_root_69 : decode c_L_root 69 = .ok (.getfield 37, 3) := by decide +kernel
theorem d_L_root_72 : decode c_L_root 72 = .ok (.getfield 147, 3) := by decide +kernel
theorem d_L_root_75 : decode c_L_root 75 = .ok (.iconst 0, 1) := by decide +kernel
theorem d_L_root_76 : decode c_L_root 76 = .ok (.invokevirtual 71, 3) := by decide +kernel
theorem d_L_root_79 : decode c_L_root 79 = .ok (.return_, 1) := by decide +kernel
theorem d_L_set_0 : decode c_L_set 0 = .ok (.iload_n 1, 1) := by decide +kernel
theorem d_L_set_1 : decode c_L_set 1 = .ok (.invokestatic 55, 3) := by decide +kernel
theorem d_L_set_4 : decode c_L_set 4 = .ok (.aload_n 0, 1) := by decide +kernel
theorem d_L_set_5 : decode c_L_set 5 = .ok (.getfield 11, 3) := by decide +kernel
theorem d_L_set_8 : decode c_L_set 8 = .ok (.iload_n 1, 1) := by decide +kernel
theorem d_L_set_9 : decode c_L_set 9 = .ok (.aaload, 1) := by decide +kernel
theorem d_L_set_10 : decode c_L_set 10 = .ok (.lload_n 2, 1) := by decide +kernel
theorem d_L_set_11 : decode c_L_set 11 = .ok (.invokevirtual 59, 3) := by decide +kernel
theorem d_L_set_14 : decode c_L_set 14 = .ok (.return_, 1) := by decide +kernel
theorem d_L_shift_0 : decode c_L_shift 0 = .ok (.iload_n 1, 1) := by decide +kernel
theorem d_L_shift_1 : decode c_L_shift 1 = .ok (.invokestatic 55, 3) := by decide +kernel
theorem d_L_shift_4 : decode c_L_shift 4 = .ok (.iload_n 2, 1) := by decide +kernel
theorem d_L_shift_5 : decode c_L_shift 5 = .ok (.invokestatic 55, 3) := by decide +kernel
theorem d_L_shift_8 : decode c_L_shift 8 = .ok (.aload_n 0, 1) := by decide +kernel
theorem d_L_shift_9 : decode c_L_shift 9 = .ok (.getfield 11, 3) := by decide +kernel
theorem d_L_shift_12 : decode c_L_shift 12 = .ok (.iload_n 2, 1) := by decide +kernel
theorem d_L_shift_13 : decode c_L_shift 13 = .ok (.aaload, 1) := by decide +kernel
theorem d_L_shift_14 : decode c_L_shift 14 = .ok (.astore 4, 2) := by decide +kernel
theorem d_L_shift_16 : decode c_L_shift 16 = .ok (.iload_n 3, 1) := by decide +kernel
theorem d_L_shift_17 : decode c_L_shift 17 = .ok (.ifCond .gt 23, 3) := by decide +kernel
theorem d_L_shift_20 : decode c_L_shift 20 = .ok (.aload_n 0, 1) := by decide +kernel
theorem d_L_shift_21 : decode c_L_shift 21 = .ok (.getfield 16, 3) := by decide +kernel
theorem d_L_shift_24 : decode c_L_shift 24 = .ok (.aload 4, 2) := by decide +kernel
theorem d_L_shift_26 : decode c_L_shift 26 = .ok (.iload_n 3, 1) := by decide +kernel
theorem d_L_shift_27 : decode c_L_shift 27 = .ok (.sipush (-1024), 3) := by decide +kernel
theorem d_L_shift_30 : decode c_L_shift 30 = .ok (.invokestatic 118, 3) := by decide +kernel
theorem d_L_shift_33 : decode c_L_shift 33 = .ok (.ineg, 1) := by decide +kernel
theorem d_L_shift_34 : decode c_L_shift 34 = .ok (.invokevirtual 124, 3) := by decide +kernel
theorem d_L_shift_37 : decode c_L_shift 37 = .ok (.goto 61, 3) := by decide +kernel
theorem d_L_shift_40 : decode c_L_shift 40 = .ok (.aload 4, 2) := by decide +kernel
theorem d_L_shift_42 : decode c_L_shift 42 = .ok (.getfield 63, 3) := by decide +kernel
theorem d_L_shift_45 : decode c_L_shift 45 = .ok (.invokevirtual 93, 3) := by decide +kernel
theorem d_L_shift_48 : decode c_L_shift 48 = .ok (.ifCond .eq 14, 3) := by decide +kernel
theorem d_L_shift_51 : decode c_L_shift 51 = .ok (.aload_n 0, 1) := by decide +kernel
theorem d_L_shift_52 : decode c_L_shift 52 = .ok (.getfield 16, 3) := by decide +kernel
theorem d_L_shift_55 : decode c_L_shift 55 = .ok (.lconst 0, 1) := by decide +kernel
theorem d_L_shift_56 : decode c_L_shift 56 = .ok (.invokevirtual 59, 3) := by decide +kernel
theorem d_L_shift_59 : decode c_L_shift 59 = .ok (.goto 39, 3) := by decide +kernel
theorem d_L_shift_62 : decode c_L_shift 62 = .ok (.iload_n 3, 1) := by decide +kernel
theorem d_L_shift_63 : decode c_L_shift 63 = .ok (.sipush 1024, 3) := by decide +kernel
theorem d_L_shift_66 : decode c_L_shift 66 = .ok (.aload 4, 2) := by decide +kernel
theorem d_L_shift_68 : decode c_L_shift 68 = .ok (.getfield 63, 3) := by decide +kernel
theorem d_L_shift_71 : decode c_L_shift 71 = .ok (.invokevirtual 128, 3) := by decide +kernel
theorem d_L_shift_74 : decode c_L_shift 74 = .ok (.isub, 1) := by decide +kernel
theorem d_L_shift_75 : decode c_L_shift 75 = .ok (.if_icmp .le 13, 3) := by decide +kernel
theorem d_L_shift_78 : decode c_L_shift 78 = .ok (.new 132, 3) := by decide +kernel
theorem d_L_shift_81 : decode c_L_shift 81 = .ok (.dup, 1) := by decide +kernel
theorem d_L_shift_82 : decode c_L_shift 82 = .ok (.ldc 134, 2) := by decide +kernel
theorem d_L_shift_84 : decode c_L_shift 84 = .ok (.invokespecial 136, 3) := by decide +kernel
theorem d_L_shift_87 : decode c_L_shift 87 = .ok (.athrow, 1) := by decide +kernel
theorem d_L_shift_88 : decode c_L_shift 88 = .ok (.aload_n 0, 1) := by decide +kernel
theorem d_L_shift_89 : decode c_L_shift 89 = .ok (.getfield 16, 3) := by decide +kernel
theorem d_L_shift_92 : decode c_L_shift 92 = .ok (.aload 4, 2) := by decide +kernel
theorem d_L_shift_94 : decode c_L_shift 94 = .ok (.iload_n 3, 1) := by decide +kernel
theorem d_L_shift_95 : decode c_L_shift 95 = .ok (.invokevirtual 137, 3) := by decide +kernel
theorem d_L_shift_98 : decode c_L_shift 98 = .ok (.aload_n 0, 1) := by decide +kernel
theorem d_L_shift_99 : decode c_L_shift 99 = .ok (.iload_n 1, 1) := by decide +kernel
theorem d_L_shift_100 : decode c_L_shift 100 = .ok (.invokevirtual 79, 3) := by decide +kernel
theorem d_L_shift_103 : decode c_L_shift 103 = .ok (.return_, 1) := by decide +kernel
theorem d_L_subtract_0 : decode c_L_subtract 0 = .ok (.iload_n 1, 1) := by decide +kernel
theorem d_L_subtract_1 : decode c_L_subtract 1 = .ok (.invokestatic 55, 3) := by decide +kernel
theorem d_L_subtract_4 : decode c_L_subtract 4 = .ok (.iload_n 2, 1) := by decide +kernel
theorem d_L_subtract_5 : decode c_L_subtract 5 = .ok (.invokestatic 55, 3) := by decide +kernel
theorem d_L_subtract_8 : decode c_L_subtract 8 = .ok (.iload_n 3, 1) := by decide +kernel
theorem d_L_subtract_9 : decode c_L_subtract 9 = .ok (.invokestatic 55, 3) := by decide +kernel
theorem d_L_subtract_12 : decode c_L_subtract 12 = .ok (.aload_n 0, 1) := by decide +kernel
theorem d_L_subtract_13 : decode c_L_subtract 13 = .ok (.getfield 16, 3) := by decide +kernel
theorem d_L_subtract_16 : decode c_L_subtract 16 = .ok (.aload_n 0, 1) := by decide +kernel
theorem d_L_subtract_17 : decode c_L_subtract 17 = .ok (.getfield 11, 3) := by decide +kernel
theorem d_L_subtract_20 : decode c_L_subtract 20 = .ok (.iload_n 2, 1) := by decide +kernel
theorem d_L_subtract_21 : decode c_L_subtract 21 = .ok (.aaload, 1) := by decide +kernel
theorem d_L_subtract_22 : decode c_L_subtract 22 = .ok (.aload_n 0, 1) := by decide +kernel
theorem d_L_subtract_23 : decode c_L_subtract 23 = .ok (.getfield 11, 3) := by decide +kernel
theorem d_L_subtract_26 : decode c_L_subtract 26 = .ok (.iload_n 3, 1) := by decide +kernel
theorem d_L_subtract_27 : decode c_L_subtract 27 = .ok (.aaload, 1) := by decide +kernel
theorem d_L_subtract_28 : decode c_L_subtract 28 = .ok (.iconst 1, 1) := by decide +kernel
theorem d_L_subtract_29 : decode c_L_subtract 29 = .ok (.invokevirtual 75, 3) := by decide +kernel
theorem d_L_subtract_32 : decode c_L_subtract 32 = .ok (.aload_n 0, 1) := by decide +kernel
theorem d_L_subtract_33 : decode c_L_subtract 33 = .ok (.iload_n 1, 1) := by decide +kernel
theorem d_L_subtract_34 : decode c_L_subtract 34 = .ok (.invokevirtual 79, 3) := by decide +kernel
theorem d_L_subtract_37 : decode c_L_subtract 37 = .ok (.return_, 1) := by decide +kernel
theorem d_L_type_0 : decode c_L_type 0 = .ok (.iload_n 3, 1) := by decide +kernel
theorem d_L_type_1 : decode c_L_type 1 = .ok (.iconst 1, 1) := by decide +kernel
theorem d_L_type_2 : decode c_L_type 2 = .ok (.if_icmp .lt 9, 3) := by decide +kernel
theorem d_L_type_5 : decode c_L_type 5 = .ok (.iload_n 3, 1) := by decide +kernel
theorem d_L_type_6 : decode c_L_type 6 = .ok (.bipush 8, 2) := by decide +kernel
theorem d_L_type_8 : decode c_L_type 8 = .ok (.if_icmp .le 13, 3) := by decide +kernel
theorem d_L_type_11 : decode c_L_type 11 = .ok (.new 86, 3) := by decide +kernel
theorem d_L_type_14 : decode c_L_type 14 = .ok (.dup, 1) := by decide +kernel
theorem d_L_type_15 : decode c_L_type 15 = .ok (.ldc 199, 2) := by decide +kernel
theorem d_L_type_17 : decode c_L_type 17 = .ok (.invokespecial 90, 3) := by decide +kernel
theorem d_L_type_20 : decode c_L_type 20 = .ok (.athrow, 1) := by decide +kernel
theorem d_L_type_21 : decode c_L_type 21 = .ok (.lload_n 1, 1) := by decide +kernel
theorem d_L_type_22 : decode c_L_type 22 = .ok (.iload_n 3, 1) := by decide +kernel
theorem d_L_type_23 : decode c_L_type 23 = .ok (.invokestatic 201, 3) := by decide +kernel
theorem d_L_type_26 : decode c_L_type 26 = .ok (.ifCond .ne 13, 3) := by decide +kernel
theorem d_L_type_29 : decode c_L_type 29 = .ok (.new 86, 3) := by decide +kernel
theorem d_L_type_32 : decode c_L_type 32 = .ok (.dup, 1) := by decide +kernel
theorem d_L_type_33 : decode c_L_type 33 = .ok (.ldc 205, 2) := by decide +kernel
theorem d_L_type_35 : decode c_L_type 35 = .ok (.invokespecial 90, 3) := by decide +kernel
theorem d_L_type_38 : decode c_L_type 38 = .ok (.athrow, 1) := by decide +kernel
theorem d_L_type_39 : decode c_L_type 39 = .ok (.aload_n 0, 1) := by decide +kernel
theorem d_L_type_40 : decode c_L_type 40 = .ok (.getfield 23, 3) := by decide +kernel
theorem d_L_type_43 : decode c_L_type 43 = .ok (.getfield 207, 3) := by decide +kernel
theorem d_L_type_46 : decode c_L_type 46 = .ok (.iload_n 3, 1) := by decide +kernel
theorem d_L_type_47 : decode c_L_type 47 = .ok (.iadd, 1) := by decide +kernel
theorem d_L_type_48 : decode c_L_type 48 = .ok (.sipush 1200, 3) := by decide +kernel
theorem d_L_type_51 : decode c_L_type 51 = .ok (.if_icmp .le 13, 3) := by decide +kernel
theorem d_L_type_54 : decode c_L_type 54 = .ok (.new 211, 3) := by decide +kernel
theorem d_L_type_57 : decode c_L_type 57 = .ok (.dup, 1) := by decide +kernel
theorem d_L_type_58 : decode c_L_type 58 = .ok (.ldc 213, 2) := by decide +kernel
theorem d_L_type_60 : decode c_L_type 60 = .ok (.invokespecial 215, 3) := by decide +kernel
theorem d_L_type_63 : decode c_L_type 63 = .ok (.athrow, 1) := by decide +kernel
theorem d_L_type_64 : decode c_L_type 64 = .ok (.aload_n 0, 1) := by decide +kernel
theorem d_L_type_65 : decode c_L_type 65 = .ok (.getfield 23, 3) := by decide +kernel
theorem d_L_type_68 : decode c_L_type 68 = .ok (.lload_n 1, 1) := by decide +kernel
theorem d_L_type_69 : decode c_L_type 69 = .ok (.iload_n 3, 1) := by decide +kernel
theorem d_L_type_70 : decode c_L_type 70 = .ok (.invokevirtual 216, 3) := by decide +kernel
theorem d_L_type_73 : decode c_L_type 73 = .ok (.aload_n 0, 1) := by decide +kernel
theorem d_L_type_74 : decode c_L_type 74 = .ok (.getfield 23, 3) := by decide +kernel
theorem d_L_type_77 : decode c_L_type 77 = .ok (.getfield 207, 3) := by decide +kernel
theorem d_L_type_80 : decode c_L_type 80 = .ok (.ireturn, 1) := by decide +kernel
theorem d_L_wipe_0 : decode c_L_wipe 0 = .ok (.aload_n 0, 1) := by decide +kernel
theorem d_L_wipe_1 : decode c_L_wipe 1 = .ok (.getfield 23, 3) := by decide +kernel
theorem d_L_wipe_4 : decode c_L_wipe 4 = .ok (.getfield 207, 3) := by decide +kernel
theorem d_L_wipe_7 : decode c_L_wipe 7 = .ok (.istore_n 1, 1) := by decide +kernel
theorem d_L_wipe_8 : decode c_L_wipe 8 = .ok (.aload_n 0, 1) := by decide +kernel
theorem d_L_wipe_9 : decode c_L_wipe 9 = .ok (.getfield 23, 3) := by decide +kernel
theorem d_L_wipe_12 : decode c_L_wipe 12 = .ok (.iconst 0, 1) := by decide +kernel
theorem d_L_wipe_13 : decode c_L_wipe 13 = .ok (.putfield 207, 3) := by decide +kernel
theorem d_L_wipe_16 : decode c_L_wipe 16 = .ok (.iload_n 1, 1) := by decide +kernel
theorem d_L_wipe_17 : decode c_L_wipe 17 = .ok (.ireturn, 1) := by decide +kernel
/-! throws: the words of each kind -/
theorem xa_103 : ∀ w ∈ vx_atS "LimbRegisters" 103 "java/lang/ArithmeticException" ["java/lang/RuntimeException", "java/lang/Exception"], w ∈ bg ∨ w ∈ xW := by
  have h1 : ((vx_atS "LimbRegisters" 103 "java/lang/ArithmeticException" ["java/lang/RuntimeException", "java/lang/Exception"]).filter goodWord).all (fun w => lw_tbl.elem w) = true := by decide +kernel
  have h2 : ((vx_atS "LimbRegisters" 103 "java/lang/ArithmeticException" ["java/lang/RuntimeException", "java/lang/Exception"]).filter (fun w => !goodWord w)).all (fun w => xW.elem w) = true := by decide +kernel
  intro w hw
  by_cases g : goodWord w = true
  · exact Or.inl (List.mem_filter.mpr ⟨List.elem_iff.mp (List.all_eq_true.mp h1 w (List.mem_filter.mpr ⟨hw, g⟩)), g⟩)
  · exact Or.inr (List.elem_iff.mp (List.all_eq_true.mp h2 w (List.mem_filter.mpr ⟨hw, by simpa using g⟩)))
theorem xa_90 : ∀ w ∈ vx_atS "LimbRegisters" 90 "java/lang/IllegalArgumentException" ["java/lang/RuntimeException", "java/lang/Exception"], w ∈ bg ∨ w ∈ xW := by
  have h1 : ((vx_atS "LimbRegisters" 90 "java/lang/IllegalArgumentException" ["java/lang/RuntimeException", "java/lang/Exception"]).filter goodWord).all (fun w => lw_tbl.elem w) = true := by decide +kernel
  have h2 : ((vx_atS "LimbRegisters" 90 "java/lang/IllegalArgumentException" ["java/lang/RuntimeException", "java/lang/Exception"]).filter (fun w => !goodWord w)).all (fun w => xW.elem w) = true := by decide +kernel
  intro w hw
  by_cases g : goodWord w = true
  · exact Or.inl (List.mem_filter.mpr ⟨List.elem_iff.mp (List.all_eq_true.mp h1 w (List.mem_filter.mpr ⟨hw, g⟩)), g⟩)
  · exact Or.inr (List.elem_iff.mp (List.all_eq_true.mp h2 w (List.mem_filter.mpr ⟨hw, by simpa using g⟩)))
theorem xa_215 : ∀ w ∈ vx_atS "LimbRegisters" 215 "java/lang/IllegalStateException" ["java/lang/RuntimeException", "java/lang/Exception"], w ∈ bg ∨ w ∈ xW := by
  have h1 : ((vx_atS "LimbRegisters" 215 "java/lang/IllegalStateException" ["java/lang/RuntimeException", "java/lang/Exception"]).filter goodWord).all (fun w => lw_tbl.elem w) = true := by decide +kernel
  have h2 : ((vx_atS "LimbRegisters" 215 "java/lang/IllegalStateException" ["java/lang/RuntimeException", "java/lang/Exception"]).filter (fun w => !goodWord w)).all (fun w => xW.elem w) = true := by decide +kernel
  intro w hw
  by_cases g : goodWord w = true
  · exact Or.inl (List.mem_filter.mpr ⟨List.elem_iff.mp (List.all_eq_true.mp h1 w (List.mem_filter.mpr ⟨hw, g⟩)), g⟩)
  · exact Or.inr (List.elem_iff.mp (List.all_eq_true.mp h2 w (List.mem_filter.mpr ⟨hw, by simpa using g⟩)))
theorem xa_190 : ∀ w ∈ vx_atS "LimbRegisters" 190 "java/lang/IndexOutOfBoundsException" ["java/lang/RuntimeException", "java/lang/Exception"], w ∈ bg ∨ w ∈ xW := by
  have h1 : ((vx_atS "LimbRegisters" 190 "java/lang/IndexOutOfBoundsException" ["java/lang/RuntimeException", "java/lang/Exception"]).filter goodWord).all (fun w => lw_tbl.elem w) = true := by decide +kernel
  have h2 : ((vx_atS "LimbRegisters" 190 "java/lang/IndexOutOfBoundsException" ["java/lang/RuntimeException", "java/lang/Exception"]).filter (fun w => !goodWord w)).all (fun w => xW.elem w) = true := by decide +kernel
  intro w hw
  by_cases g : goodWord w = true
  · exact Or.inl (List.mem_filter.mpr ⟨List.elem_iff.mp (List.all_eq_true.mp h1 w (List.mem_filter.mpr ⟨hw, g⟩)), g⟩)
  · exact Or.inr (List.elem_iff.mp (List.all_eq_true.mp h2 w (List.mem_filter.mpr ⟨hw, by simpa using g⟩)))
theorem xa_136 : ∀ w ∈ vx_atS "LimbRegisters" 136 "java/lang/UnsupportedOperationException" ["java/lang/RuntimeException", "java/lang/Exception"], w ∈ bg ∨ w ∈ xW := by
  have h1 : ((vx_atS "LimbRegisters" 136 "java/lang/UnsupportedOperationException" ["java/lang/RuntimeException", "java/lang/Exception"]).filter goodWord).all (fun w => lw_tbl.elem w) = true := by decide +kernel
  have h2 : ((vx_atS "LimbRegisters" 136 "java/lang/UnsupportedOperationException" ["java/lang/RuntimeException", "java/lang/Exception"]).filter (fun w => !goodWord w)).all (fun w => xW.elem w) = true := by decide +kernel
  intro w hw
  by_cases g : goodWord w = true
  · exact Or.inl (List.mem_filter.mpr ⟨List.elem_iff.mp (List.all_eq_true.mp h1 w (List.mem_filter.mpr ⟨hw, g⟩)), g⟩)
  · exact Or.inr (List.elem_iff.mp (List.all_eq_true.mp h2 w (List.mem_filter.mpr ⟨hw, by simpa using g⟩)))
theorem xt_188 : xT "java/lang/IndexOutOfBoundsException" 186 188 190 ["java/lang/RuntimeException", "java/lang/Exception"] "no such bit" := ⟨by decide +kernel, by decide +kernel, by decide +kernel, by decide +kernel, by decide +kernel, xa_190⟩
theorem xt_237 : xT "java/lang/IndexOutOfBoundsException" 186 237 190 ["java/lang/RuntimeException", "java/lang/Exception"] "no such character" := ⟨by decide +kernel, by decide +kernel, by decide +kernel, by decide +kernel, by decide +kernel, xa_190⟩
theorem xt_88 : xT "java/lang/IllegalArgumentException" 86 88 90 ["java/lang/RuntimeException", "java/lang/Exception"] "quotient and rest in the same register" := ⟨by decide +kernel, by decide +kernel, by decide +kernel, by decide +kernel, by decide +kernel, xa_90⟩
theorem xt_101 : xT "java/lang/ArithmeticException" 99 101 103 ["java/lang/RuntimeException", "java/lang/Exception"] "division by 0" := ⟨by decide +kernel, by decide +kernel, by decide +kernel, by decide +kernel, by decide +kernel, xa_103⟩
theorem xt_134 : xT "java/lang/UnsupportedOperationException" 132 134 136 ["java/lang/RuntimeException", "java/lang/Exception"] "too great" := ⟨by decide +kernel, by decide +kernel, by decide +kernel, by decide +kernel, by decide +kernel, xa_136⟩
theorem xt_247 : xT "java/lang/ArithmeticException" 99 247 103 ["java/lang/RuntimeException", "java/lang/Exception"] "the modulus is not above 0" := ⟨by decide +kernel, by decide +kernel, by decide +kernel, by decide +kernel, by decide +kernel, xa_103⟩
theorem xt_245 : xT "java/lang/IllegalArgumentException" 86 245 90 ["java/lang/RuntimeException", "java/lang/Exception"] "the radix is not 2 to 36" := ⟨by decide +kernel, by decide +kernel, by decide +kernel, by decide +kernel, by decide +kernel, xa_90⟩
theorem xt_243 : xT "java/lang/IndexOutOfBoundsException" 186 243 190 ["java/lang/RuntimeException", "java/lang/Exception"] "no such register" := ⟨by decide +kernel, by decide +kernel, by decide +kernel, by decide +kernel, by decide +kernel, xa_190⟩
theorem xt_226 : xT "java/lang/IllegalStateException" 211 226 215 ["java/lang/RuntimeException", "java/lang/Exception"] "the text is no numeral in this radix" := ⟨by decide +kernel, by decide +kernel, by decide +kernel, by decide +kernel, by decide +kernel, xa_215⟩
theorem xt_157 : xT "java/lang/ArithmeticException" 99 157 103 ["java/lang/RuntimeException", "java/lang/Exception"] "the exponent is below 0" := ⟨by decide +kernel, by decide +kernel, by decide +kernel, by decide +kernel, by decide +kernel, xa_103⟩
theorem xt_140 : xT "java/lang/IllegalArgumentException" 86 140 90 ["java/lang/RuntimeException", "java/lang/Exception"] "the root's degree is below 1" := ⟨by decide +kernel, by decide +kernel, by decide +kernel, by decide +kernel, by decide +kernel, xa_90⟩
theorem xt_142 : xT "java/lang/ArithmeticException" 99 142 103 ["java/lang/RuntimeException", "java/lang/Exception"] "root of a number below 0" := ⟨by decide +kernel, by decide +kernel, by decide +kernel, by decide +kernel, by decide +kernel, xa_103⟩
theorem xt_199 : xT "java/lang/IllegalArgumentException" 86 199 90 ["java/lang/RuntimeException", "java/lang/Exception"] "not 1 to 8 characters" := ⟨by decide +kernel, by decide +kernel, by decide +kernel, by decide +kernel, by decide +kernel, xa_90⟩
theorem xt_205 : xT "java/lang/IllegalArgumentException" 86 205 90 ["java/lang/RuntimeException", "java/lang/Exception"] "a code that is not 32 to 126" := ⟨by decide +kernel, by decide +kernel, by decide +kernel, by decide +kernel, by decide +kernel, xa_90⟩
theorem xt_213 : xT "java/lang/IllegalStateException" 211 213 215 ["java/lang/RuntimeException", "java/lang/Exception"] "the text would have more than 1200 characters" := ⟨by decide +kernel, by decide +kernel, by decide +kernel, by decide +kernel, by decide +kernel, xa_215⟩
