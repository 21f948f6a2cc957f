/-! decode rows -/
theorem d_M_add_0 : decode c_M_add 0 = .ok (.aload_n 0, 1) := by decide +kernel
theorem d_M_add_1 : decode c_M_add 1 = .ok (.iload_n 1, 1) := by decide +kernel
theorem d_M_add_2 : decode c_M_add 2 = .ok (.iload_n 2, 1) := by decide +kernel
theorem d_M_add_3 : decode c_M_add 3 = .ok (.iload_n 3, 1) := by decide +kernel
theorem d_M_add_4 : decode c_M_add 4 = .ok (.invokevirtual 76, 3) := by decide +kernel
theorem d_M_add_7 : decode c_M_add 7 = .ok (.ifCond .eq 16, 3) := by decide +kernel
theorem d_M_add_10 : decode c_M_add 10 = .ok (.aload_n 0, 1) := by decide +kernel
theorem d_M_add_11 : decode c_M_add 11 = .ok (.iload_n 1, 1) := by decide +kernel
theorem d_M_add_12 : decode c_M_add 12 = .ok (.iload_n 2, 1) := by decide +kernel
theorem d_M_add_13 : decode c_M_add 13 = .ok (.iload_n 3, 1) := by decide +kernel
theorem d_M_add_14 : decode c_M_add 14 = .ok (.aload_n 0, 1) := by decide +kernel
theorem d_M_add_15 : decode c_M_add 15 = .ok (.getfield 16, 3) := by decide +kernel
theorem d_M_add_18 : decode c_M_add 18 = .ok (.iload_n 3, 1) := by decide +kernel
theorem d_M_add_19 : decode c_M_add 19 = .ok (.iaload, 1) := by decide +kernel
theorem d_M_add_20 : decode c_M_add 20 = .ok (.invokevirtual 90, 3) := by decide +kernel
theorem d_M_add_23 : decode c_M_add 23 = .ok (.return_, 1) := by decide +kernel
theorem d_M_bit_0 : decode c_M_bit 0 = .ok (.aload_n 0, 1) := by decide +kernel
theorem d_M_bit_1 : decode c_M_bit 1 = .ok (.iload_n 1, 1) := by decide +kernel
theorem d_M_bit_2 : decode c_M_bit 2 = .ok (.invokestatic 66, 3) := by decide +kernel
theorem d_M_bit_5 : decode c_M_bit 5 = .ok (.ifCond .eq 11, 3) := by decide +kernel
theorem d_M_bit_8 : decode c_M_bit 8 = .ok (.iload_n 2, 1) := by decide +kernel
theorem d_M_bit_9 : decode c_M_bit 9 = .ok (.ifCond .lt 7, 3) := by decide +kernel
theorem d_M_bit_12 : decode c_M_bit 12 = .ok (.iconst 0, 1) := by decide +kernel
theorem d_M_bit_13 : decode c_M_bit 13 = .ok (.goto 4, 3) := by decide +kernel
theorem d_M_bit_16 : decode c_M_bit 16 = .ok (.iconst 1, 1) := by decide +kernel
theorem d_M_bit_17 : decode c_M_bit 17 = .ok (.putfield 22, 3) := by decide +kernel
theorem d_M_bit_20 : decode c_M_bit 20 = .ok (.aload_n 0, 1) := by decide +kernel
theorem d_M_bit_21 : decode c_M_bit 21 = .ok (.getfield 22, 3) := by decide +kernel
theorem d_M_bit_24 : decode c_M_bit 24 = .ok (.ifCond .le 5, 3) := by decide +kernel
theorem d_M_bit_27 : decode c_M_bit 27 = .ok (.iconst 0, 1) := by decide +kernel
theorem d_M_bit_28 : decode c_M_bit 28 = .ok (.ireturn, 1) := by decide +kernel
theorem d_M_bit_29 : decode c_M_bit 29 = .ok (.aload_n 0, 1) := by decide +kernel
theorem d_M_bit_30 : decode c_M_bit 30 = .ok (.getfield 16, 3) := by decide +kernel
theorem d_M_bit_33 : decode c_M_bit 33 = .ok (.iload_n 1, 1) := by decide +kernel
theorem d_M_bit_34 : decode c_M_bit 34 = .ok (.iaload, 1) := by decide +kernel
theorem d_M_bit_35 : decode c_M_bit 35 = .ok (.ifCond .lt 10, 3) := by decide +kernel
theorem d_M_bit_38 : decode c_M_bit 38 = .ok (.aload_n 0, 1) := by decide +kernel
theorem d_M_bit_39 : decode c_M_bit 39 = .ok (.iload_n 1, 1) := by decide +kernel
theorem d_M_bit_40 : decode c_M_bit 40 = .ok (.iload_n 2, 1) := by decide +kernel
theorem d_M_bit_41 : decode c_M_bit 41 = .ok (.invokevirtual 100, 3) := by decide +kernel
theorem d_M_bit_44 : decode c_M_bit 44 = .ok (.ireturn, 1) := by decide +kernel
theorem d_M_bit_45 : decode c_M_bit 45 = .ok (.aload_n 0, 1) := by decide +kernel
theorem d_M_bit_46 : decode c_M_bit 46 = .ok (.bipush 12, 2) := by decide +kernel
theorem d_M_bit_48 : decode c_M_bit 48 = .ok (.iconst 1, 1) := by decide +kernel
theorem d_M_bit_49 : decode c_M_bit 49 = .ok (.invokevirtual 93, 3) := by decide +kernel
theorem d_M_bit_52 : decode c_M_bit 52 = .ok (.aload_n 0, 1) := by decide +kernel
theorem d_M_bit_53 : decode c_M_bit 53 = .ok (.iload_n 1, 1) := by decide +kernel
theorem d_M_bit_54 : decode c_M_bit 54 = .ok (.bipush 12, 2) := by decide +kernel
theorem d_M_bit_56 : decode c_M_bit 56 = .ok (.bipush 12, 2) := by decide +kernel
theorem d_M_bit_58 : decode c_M_bit 58 = .ok (.invokevirtual 59, 3) := by decide +kernel
theorem d_M_bit_61 : decode c_M_bit 61 = .ok (.aload_n 0, 1) := by decide +kernel
theorem d_M_bit_62 : decode c_M_bit 62 = .ok (.bipush 12, 2) := by decide +kernel
theorem d_M_bit_64 : decode c_M_bit 64 = .ok (.iload_n 2, 1) := by decide +kernel
theorem d_M_bit_65 : decode c_M_bit 65 = .ok (.invokevirtual 100, 3) := by decide +kernel
theorem d_M_bit_68 : decode c_M_bit 68 = .ok (.ifCond .ne 7, 3) := by decide +kernel
theorem d_M_bit_71 : decode c_M_bit 71 = .ok (.iconst 1, 1) := by decide +kernel
theorem d_M_bit_72 : decode c_M_bit 72 = .ok (.goto 4, 3) := by decide +kernel
theorem d_M_bit_75 : decode c_M_bit 75 = .ok (.iconst 0, 1) := by decide +kernel
theorem d_M_bit_76 : decode c_M_bit 76 = .ok (.ireturn, 1) := by decide +kernel
theorem d_M_bitOf_0 : decode c_M_bitOf 0 = .ok (.iload_n 2, 1) := by decide +kernel
theorem d_M_bitOf_1 : decode c_M_bitOf 1 = .ok (.bipush 20, 2) := by decide +kernel
theorem d_M_bitOf_3 : decode c_M_bitOf 3 = .ok (.idiv, 1) := by decide +kernel
theorem d_M_bitOf_4 : decode c_M_bitOf 4 = .ok (.bipush 108, 2) := by decide +kernel
theorem d_M_bitOf_6 : decode c_M_bitOf 6 = .ok (.if_icmp .ge 32, 3) := by decide +kernel
theorem d_M_bitOf_9 : decode c_M_bitOf 9 = .ok (.aload_n 0, 1) := by decide +kernel
theorem d_M_bitOf_10 : decode c_M_bitOf 10 = .ok (.getfield 7, 3) := by decide +kernel
theorem d_M_bitOf_13 : decode c_M_bitOf 13 = .ok (.bipush 108, 2) := by decide +kernel
theorem d_M_bitOf_15 : decode c_M_bitOf 15 = .ok (.iload_n 1, 1) := by decide +kernel
theorem d_M_bitOf_16 : decode c_M_bitOf 16 = .ok (.imul, 1) := by decide +kernel
theorem d_M_bitOf_17 : decode c_M_bitOf 17 = .ok (.iload_n 2, 1) := by decide +kernel
theorem d_M_bitOf_18 : decode c_M_bitOf 18 = .ok (.bipush 20, 2) := by decide +kernel
theorem d_M_bitOf_20 : decode c_M_bitOf 20 = .ok (.idiv, 1) := by decide +kernel
theorem d_M_bitOf_21 : decode c_M_bitOf 21 = .ok (.iadd, 1) := by decide +kernel
theorem d_M_bitOf_22 : decode c_M_bitOf 22 = .ok (.iaload, 1) := by decide +kernel
theorem d_M_bitOf_23 : decode c_M_bitOf 23 = .ok (.iload_n 2, 1) := by decide +kernel
theorem d_M_bitOf_24 : decode c_M_bitOf 24 = .ok (.bipush 20, 2) := by decide +kernel
theorem d_M_bitOf_26 : decode c_M_bitOf 26 = .ok (.irem, 1) := by decide +kernel
theorem d_M_bitOf_27 : decode c_M_bitOf 27 = .ok (.ishr, 1) := by decide +kernel
theorem d_M_bitOf_28 : decode c_M_bitOf 28 = .ok (.iconst 1, 1) := by decide +kernel
theorem d_M_bitOf_29 : decode c_M_bitOf 29 = .ok (.iand, 1) := by decide +kernel
theorem d_M_bitOf_30 : decode c_M_bitOf 30 = .ok (.iconst 1, 1) := by decide +kernel
theorem d_M_bitOf_31 : decode c_M_bitOf 31 = .ok (.if_icmp .ne 7, 3) := by decide +kernel
theorem d_M_bitOf_34 : decode c_M_bitOf 34 = .ok (.iconst 1, 1) := by decide +kernel
theorem d_M_bitOf_35 : decode c_M_bitOf 35 = .ok (.goto 4, 3) := by decide +kernel
theorem d_M_bitOf_38 : decode c_M_bitOf 38 = .ok (.iconst 0, 1) := by decide +kernel
theorem d_M_bitOf_39 : decode c_M_bitOf 39 = .ok (.ireturn, 1) := by decide +kernel
theorem d_M_bits_0 : decode c_M_bits 0 = .ok (.aload_n 0, 1) := by decide +kernel
theorem d_M_bits_1 : decode c_M_bits 1 = .ok (.iload_n 1, 1) := by decide +kernel
theorem d_M_bits_2 : decode c_M_bits 2 = .ok (.invokestatic 66, 3) := by decide +kernel
theorem d_M_bits_5 : decode c_M_bits 5 = .ok (.ifCond .eq 7, 3) := by decide +kernel
theorem d_M_bits_8 : decode c_M_bits 8 = .ok (.iconst 0, 1) := by decide +kernel
theorem d_M_bits_9 : decode c_M_bits 9 = .ok (.goto 4, 3) := by decide +kernel
theorem d_M_bits_12 : decode c_M_bits 12 = .ok (.iconst 1, 1) := by decide +kernel
theorem d_M_bits_13 : decode c_M_bits 13 = .ok (.putfield 22, 3) := by decide +kernel
theorem d_M_bits_16 : decode c_M_bits 16 = .ok (.aload_n 0, 1) := by decide +kernel
theorem d_M_bits_17 : decode c_M_bits 17 = .ok (.getfield 22, 3) := by decide +kernel
theorem d_M_bits_20 : decode c_M_bits 20 = .ok (.ifCond .ne 11, 3) := by decide +kernel
theorem d_M_bits_23 : decode c_M_bits 23 = .ok (.aload_n 0, 1) := by decide +kernel
theorem d_M_bits_24 : decode c_M_bits 24 = .ok (.iload_n 1, 1) := by decide +kernel
theorem d_M_bits_25 : decode c_M_bits 25 = .ok (.invokevirtual 96, 3) := by decide +kernel
theorem d_M_bits_28 : decode c_M_bits 28 = .ok (.goto 4, 3) := by decide +kernel
theorem d_M_bits_31 : decode c_M_bits 31 = .ok (.iconst 0, 1) := by decide +kernel
theorem d_M_bits_32 : decode c_M_bits 32 = .ok (.ireturn, 1) := by decide +kernel
theorem d_M_bitsOf_0 : decode c_M_bitsOf 0 = .ok (.aload_n 0, 1) := by decide +kernel
theorem d_M_bitsOf_1 : decode c_M_bitsOf 1 = .ok (.getfield 13, 3) := by decide +kernel
theorem d_M_bitsOf_4 : decode c_M_bitsOf 4 = .ok (.iload_n 1, 1) := by decide +kernel
theorem d_M_bitsOf_5 : decode c_M_bitsOf 5 = .ok (.iaload, 1) := by decide +kernel
theorem d_M_bitsOf_6 : decode c_M_bitsOf 6 = .ok (.ifCond .ne 5, 3) := by decide +kernel
theorem d_M_bitsOf_9 : decode c_M_bitsOf 9 = .ok (.iconst 0, 1) := by decide +kernel
theorem d_M_bitsOf_10 : decode c_M_bitsOf 10 = .ok (.ireturn, 1) := by decide +kernel
theorem d_M_bitsOf_11 : decode c_M_bitsOf 11 = .ok (.bipush 20, 2) := by decide +kernel
theorem d_M_bitsOf_13 : decode c_M_bitsOf 13 = .ok (.aload_n 0, 1) := by decide +kernel
theorem d_M_bitsOf_14 : decode c_M_bitsOf 14 = .ok (.getfield 13, 3) := by decide +kernel
theorem d_M_bitsOf_17 : decode c_M_bitsOf 17 = .ok (.iload_n 1, 1) := by decide +kernel
theorem d_M_bitsOf_18 : decode c_M_bitsOf 18 = .ok (.iaload, 1) := by decide +kernel
theorem d_M_bitsOf_19 : decode c_M_bitsOf 19 = .ok (.iconst 1, 1) := by decide +kernel
theorem d_M_bitsOf_20 : decode c_M_bitsOf 20 = .ok (.isub, 1) := by decide +kernel
theorem d_M_bitsOf_21 : decode c_M_bitsOf 21 = .ok (.imul, 1) := by decide +kernel
theorem d_M_bitsOf_22 : decode c_M_bitsOf 22 = .ok (.istore_n 2, 1) := by decide +kernel
theorem d_M_bitsOf_23 : decode c_M_bitsOf 23 = .ok (.aload_n 0, 1) := by decide +kernel
theorem d_M_bitsOf_24 : decode c_M_bitsOf 24 = .ok (.getfield 7, 3) := by decide +kernel
theorem d_M_bitsOf_27 : decode c_M_bitsOf 27 = .ok (.bipush 108, 2) := by decide +kernel
theorem d_M_bitsOf_29 : decode c_M_bitsOf 29 = .ok (.iload_n 1, 1) := by decide +kernel
theorem d_M_bitsOf_30 : decode c_M_bitsOf 30 = .ok (.imul, 1) := by decide +kernel
theorem d_M_bitsOf_31 : decode c_M_bitsOf 31 = .ok (.aload_n 0, 1) := by decide +kernel
theorem d_M_bitsOf_32 : decode c_M_bitsOf 32 = .ok (.getfield 13, 3) := by decide +kernel
theorem d_M_bitsOf_35 : decode c_M_bitsOf 35 = .ok (.iload_n 1, 1) := by decide +kernel
theorem d_M_bitsOf_36 : decode c_M_bitsOf 36 = .ok (.iaload, 1) := by decide +kernel
theorem d_M_bitsOf_37 : decode c_M_bitsOf 37 = .ok (.iadd, 1) := by decide +kernel
theorem d_M_bitsOf_38 : decode c_M_bitsOf 38 = .ok (.iconst 1, 1) := by decide +kernel
theorem d_M_bitsOf_39 : decode c_M_bitsOf 39 = .ok (.isub, 1) := by decide +kernel
theorem d_M_bitsOf_40 : decode c_M_bitsOf 40 = .ok (.iaload, 1) := by decide +kernel
theorem d_M_bitsOf_41 : decode c_M_bitsOf 41 = .ok (.istore_n 3, 1) := by decide +kernel
theorem d_M_bitsOf_42 : decode c_M_bitsOf 42 = .ok (.iload_n 3, 1) := by decide +kernel
theorem d_M_bitsOf_43 : decode c_M_bitsOf 43 = .ok (.ifCond .le 13, 3) := by decide +kernel
theorem d_M_bitsOf_46 : decode c_M_bitsOf 46 = .ok (.iinc 2 1, 3) := by decide +kernel
theorem d_M_bitsOf_49 : decode c_M_bitsOf 49 = .ok (.iload_n 3, 1) := by decide +kernel
theorem d_M_bitsOf_50 : decode c_M_bitsOf 50 = .ok (.iconst 1, 1) := by decide +kernel
theorem d_M_bitsOf_51 : decode c_M_bitsOf 51 = .ok (.ishr, 1) := by decide +kernel
theorem d_M_bitsOf_52 : decode c_M_bitsOf 52 = .ok (.istore_n 3, 1) := by decide +kernel
theorem d_M_bitsOf_53 : decode c_M_bitsOf 53 = .ok (.goto (-11), 3) := by decide +kernel
theorem d_M_bitsOf_56 : decode c_M_bitsOf 56 = .ok (.iload_n 2, 1) := by decide +kernel
theorem d_M_bitsOf_57 : decode c_M_bitsOf 57 = .ok (.ireturn, 1) := by decide +kernel
theorem d_M_character_0 : decode c_M_character 0 = .ok (.aload_n 0, 1) := by decide +kernel
theorem d_M_character_1 : decode c_M_character 1 = .ok (.iload_n 1, 1) := by decide +kernel
theorem d_M_character_2 : decode c_M_character 2 = .ok (.ifCond .lt 15, 3) := by decide +kernel
theorem d_M_character_5 : decode c_M_character 5 = .ok (.iload_n 1, 1) := by decide +kernel
theorem d_M_character_6 : decode c_M_character 6 = .ok (.aload_n 0, 1) := by decide +kernel
theorem d_M_character_7 : decode c_M_character 7 = .ok (.getfield 127, 3) := by decide +kernel
theorem d_M_character_10 : decode c_M_character 10 = .ok (.if_icmp .ge 7, 3) := by decide +kernel
theorem d_M_character_13 : decode c_M_character 13 = .ok (.iconst 0, 1) := by decide +kernel
theorem d_M_character_14 : decode c_M_character 14 = .ok (.goto 4, 3) := by decide +kernel
theorem d_M_character_17 : decode c_M_character 17 = .ok (.iconst 1, 1) := by decide +kernel
theorem d_M_character_18 : decode c_M_character 18 = .ok (.putfield 22, 3) := by decide +kernel
theorem d_M_character_21 : decode c_M_character 21 = .ok (.aload_n 0, 1) := by decide +kernel
theorem d_M_character_22 : decode c_M_character 22 = .ok (.getfield 22, 3) := by decide +kernel
theorem d_M_character_25 : decode c_M_character 25 = .ok (.ifCond .ne 12, 3) := by decide +kernel
theorem d_M_character_28 : decode c_M_character 28 = .ok (.aload_n 0, 1) := by decide +kernel
theorem d_M_character_29 : decode c_M_character 29 = .ok (.getfield 19, 3) := by decide +kernel
theorem d_M_character_32 : decode c_M_character 32 = .ok (.iload_n 1, 1) := by decide +kernel
theorem d_M_character_33 : decode c_M_character 33 = .ok (.iaload, 1) := by decide +kernel
theorem d_M_character_34 : decode c_M_character 34 = .ok (.goto 4, 3) := by decide +kernel
theorem d_M_character_37 : decode c_M_character 37 = .ok (.iconst 0, 1) := by decide +kernel
theorem d_M_character_38 : decode c_M_character 38 = .ok (.ireturn, 1) := by decide +kernel
theorem d_M_clear_0 : decode c_M_clear 0 = .ok (.iconst 0, 1) := by decide +kernel
theorem d_M_clear_1 : decode c_M_clear 1 = .ok (.istore_n 2, 1) := by decide +kernel
theorem d_M_clear_2 : decode c_M_clear 2 = .ok (.iload_n 2, 1) := by decide +kernel
theorem d_M_clear_3 : decode c_M_clear 3 = .ok (.bipush 108, 2) := by decide +kernel
theorem d_M_clear_5 : decode c_M_clear 5 = .ok (.if_icmp .ge 21, 3) := by decide +kernel
theorem d_M_clear_8 : decode c_M_clear 8 = .ok (.aload_n 0, 1) := by decide +kernel
theorem d_M_clear_9 : decode c_M_clear 9 = .ok (.getfield 7, 3) := by decide +kernel
theorem d_M_clear_12 : decode c_M_clear 12 = .ok (.bipush 108, 2) := by decide +kernel
theorem d_M_clear_14 : decode c_M_clear 14 = .ok (.iload_n 1, 1) := by decide +kernel
theorem d_M_clear_15 : decode c_M_clear 15 = .ok (.imul, 1) := by decide +kernel
theorem d_M_clear_16 : decode c_M_clear 16 = .ok (.iload_n 2, 1) := by decide +kernel
theorem d_M_clear_17 : decode c_M_clear 17 = .ok (.iadd, 1) := by decide +kernel
theorem d_M_clear_18 : decode c_M_clear 18 = .ok (.iconst 0, 1) := by decide +kernel
theorem d_M_clear_19 : decode c_M_clear 19 = .ok (.iastore, 1) := by decide +kernel
theorem d_M_clear_20 : decode c_M_clear 20 = .ok (.iinc 2 1, 3) := by decide +kernel
theorem d_M_clear_23 : decode c_M_clear 23 = .ok (.goto (-21), 3) := by decide +kernel
theorem d_M_clear_26 : decode c_M_clear 26 = .ok (.aload_n 0, 1) := by decide +kernel
theorem d_M_clear_27 : decode c_M_clear 27 = .ok (.getfield 13, 3) := by decide +kernel
theorem d_M_clear_30 : decode c_M_clear 30 = .ok (.iload_n 1, 1) := by decide +kernel
theorem d_M_clear_31 : decode c_M_clear 31 = .ok (.iconst 0, 1) := by decide +kernel
theorem d_M_clear_32 : decode c_M_clear 32 = .ok (.iastore, 1) := by decide +kernel
theorem d_M_clear_33 : decode c_M_clear 33 = .ok (.return_, 1) := by decide +kernel
theorem d_M_compare_0 : decode c_M_compare 0 = .ok (.aload_n 0, 1) := by decide +kernel
theorem d_M_compare_1 : decode c_M_compare 1 = .ok (.iload_n 1, 1) := by decide +kernel
theorem d_M_compare_2 : decode c_M_compare 2 = .ok (.iload_n 2, 1) := by decide +kernel
theorem d_M_compare_3 : decode c_M_compare 3 = .ok (.iload_n 2, 1) := by decide +kernel
theorem d_M_compare_4 : decode c_M_compare 4 = .ok (.invokevirtual 76, 3) := by decide +kernel
theorem d_M_compare_7 : decode c_M_compare 7 = .ok (.ifCond .ne 5, 3) := by decide +kernel
theorem d_M_compare_10 : decode c_M_compare 10 = .ok (.iconst 0, 1) := by decide +kernel
theorem d_M_compare_11 : decode c_M_compare 11 = .ok (.ireturn, 1) := by decide +kernel
theorem d_M_compare_12 : decode c_M_compare 12 = .ok (.aload_n 0, 1) := by decide +kernel
theorem d_M_compare_13 : decode c_M_compare 13 = .ok (.getfield 16, 3) := by decide +kernel
theorem d_M_compare_16 : decode c_M_compare 16 = .ok (.iload_n 1, 1) := by decide +kernel
theorem d_M_compare_17 : decode c_M_compare 17 = .ok (.iaload, 1) := by decide +kernel
theorem d_M_compare_18 : decode c_M_compare 18 = .ok (.aload_n 0, 1) := by decide +kernel
theorem d_M_compare_19 : decode c_M_compare 19 = .ok (.getfield 16, 3) := by decide +kernel
theorem d_M_compare_22 : decode c_M_compare 22 = .ok (.iload_n 2, 1) := by decide +kernel
theorem d_M_compare_23 : decode c_M_compare 23 = .ok (.iaload, 1) := by decide +kernel
theorem d_M_compare_24 : decode c_M_compare 24 = .ok (.if_icmp .eq 24, 3) := by decide +kernel
theorem d_M_compare_27 : decode c_M_compare 27 = .ok (.aload_n 0, 1) := by decide +kernel
theorem d_M_compare_28 : decode c_M_compare 28 = .ok (.getfield 16, 3) := by decide +kernel
theorem d_M_compare_31 : decode c_M_compare 31 = .ok (.iload_n 1, 1) := by decide +kernel
theorem d_M_compare_32 : decode c_M_compare 32 = .ok (.iaload, 1) := by decide +kernel
theorem d_M_compare_33 : decode c_M_compare 33 = .ok (.aload_n 0, 1) := by decide +kernel
theorem d_M_compare_34 : decode c_M_compare 34 = .ok (.getfield 16, 3) := by decide +kernel
theorem d_M_compare_37 : decode c_M_compare 37 = .ok (.iload_n 2, 1) := by decide +kernel
theorem d_M_compare_38 : decode c_M_compare 38 = .ok (.iaload, 1) := by decide +kernel
theorem d_M_compare_39 : decode c_M_compare 39 = .ok (.if_icmp .ge 7, 3) := by decide +kernel
theorem d_M_compare_42 : decode c_M_compare 42 = .ok (.iconst (-1), 1) := by decide +kernel
theorem d_M_compare_43 : decode c_M_compare 43 = .ok (.goto 4, 3) := by decide +kernel
theorem d_M_compare_46 : decode c_M_compare 46 = .ok (.iconst 1, 1) := by decide +kernel
theorem d_M_compare_47 : decode c_M_compare 47 = .ok (.ireturn, 1) := by decide +kernel
theorem d_M_compare_48 : decode c_M_compare 48 = .ok (.aload_n 0, 1) := by decide +kernel
theorem d_M_compare_49 : decode c_M_compare 49 = .ok (.getfield 16, 3) := by decide +kernel
theorem d_M_compare_52 : decode c_M_compare 52 = .ok (.iload_n 1, 1) := by decide +kernel
theorem d_M_compare_53 : decode c_M_compare 53 = .ok (.iaload, 1) := by decide +kernel
theorem d_M_compare_54 : decode c_M_compare 54 = .ok (.aload_n 0, 1) := by decide +kernel
theorem d_M_compare_55 : decode c_M_compare 55 = .ok (.iload_n 1, 1) := by decide +kernel
theorem d_M_compare_56 : decode c_M_compare 56 = .ok (.iload_n 2, 1) := by decide +kernel
theorem d_M_compare_57 : decode c_M_compare 57 = .ok (.invokevirtual 79, 3) := by decide +kernel
theorem d_M_compare_60 : decode c_M_compare 60 = .ok (.imul, 1) := by decide +kernel
theorem d_M_compare_61 : decode c_M_compare 61 = .ok (.ireturn, 1) := by decide +kernel
theorem d_M_copy_0 : decode c_M_copy 0 = .ok (.aload_n 0, 1) := by decide +kernel
theorem d_M_copy_1 : decode c_M_copy 1 = .ok (.iload_n 1, 1) := by decide +kernel
theorem d_M_copy_2 : decode c_M_copy 2 = .ok (.iload_n 2, 1) := by decide +kernel
theorem d_M_copy_3 : decode c_M_copy 3 = .ok (.iload_n 2, 1) := by decide +kernel
theorem d_M_copy_4 : decode c_M_copy 4 = .ok (.invokevirtual 76, 3) := by decide +kernel
theorem d_M_copy_7 : decode c_M_copy 7 = .ok (.ifCond .eq 37, 3) := by decide +kernel
theorem d_M_copy_10 : decode c_M_copy 10 = .ok (.aload_n 0, 1) := by decide +kernel
theorem d_M_copy_11 : decode c_M_copy 11 = .ok (.iload_n 2, 1) := by decide +kernel
theorem d_M_copy_12 : decode c_M_copy 12 = .ok (.bipush 12, 2) := by decide +kernel
theorem d_M_copy_14 : decode c_M_copy 14 = .ok (.invokevirtual 40, 3) := by decide +kernel
theorem d_M_copy_17 : decode c_M_copy 17 = .ok (.aload_n 0, 1) := by decide +kernel
theorem d_M_copy_18 : decode c_M_copy 18 = .ok (.bipush 12, 2) := by decide +kernel
theorem d_M_copy_20 : decode c_M_copy 20 = .ok (.iload_n 1, 1) := by decide +kernel
theorem d_M_copy_21 : decode c_M_copy 21 = .ok (.iload_n 3, 1) := by decide +kernel
theorem d_M_copy_22 : decode c_M_copy 22 = .ok (.ifCond .eq 13, 3) := by decide +kernel
theorem d_M_copy_25 : decode c_M_copy 25 = .ok (.aload_n 0, 1) := by decide +kernel
theorem d_M_copy_26 : decode c_M_copy 26 = .ok (.getfield 16, 3) := by decide +kernel
theorem d_M_copy_29 : decode c_M_copy 29 = .ok (.iload_n 2, 1) := by decide +kernel
theorem d_M_copy_30 : decode c_M_copy 30 = .ok (.iaload, 1) := by decide +kernel
theorem d_M_copy_31 : decode c_M_copy 31 = .ok (.ineg, 1) := by decide +kernel
theorem d_M_copy_32 : decode c_M_copy 32 = .ok (.goto 9, 3) := by decide +kernel
theorem d_M_copy_35 : decode c_M_copy 35 = .ok (.aload_n 0, 1) := by decide +kernel
theorem d_M_copy_36 : decode c_M_copy 36 = .ok (.getfield 16, 3) := by decide +kernel
theorem d_M_copy_39 : decode c_M_copy 39 = .ok (.iload_n 2, 1) := by decide +kernel
theorem d_M_copy_40 : decode c_M_copy 40 = .ok (.iaload, 1) := by decide +kernel
theorem d_M_copy_41 : decode c_M_copy 41 = .ok (.invokevirtual 73, 3) := by decide +kernel
theorem d_M_copy_44 : decode c_M_copy 44 = .ok (.return_, 1) := by decide +kernel
theorem d_M_digit_0 : decode c_M_digit 0 = .ok (.iload_n 0, 1) := by decide +kernel
theorem d_M_digit_1 : decode c_M_digit 1 = .ok (.bipush 48, 2) := by decide +kernel
theorem d_M_digit_3 : decode c_M_digit 3 = .ok (.if_icmp .lt 16, 3) := by decide +kernel
theorem d_M_digit_6 : decode c_M_digit 6 = .ok (.iload_n 0, 1) := by decide +kernel
theorem d_M_digit_7 : decode c_M_digit 7 = .ok (.bipush 57, 2) := by decide +kernel
theorem d_M_digit_9 : decode c_M_digit 9 = .ok (.if_icmp .gt 10, 3) := by decide +kernel
theorem d_M_digit_12 : decode c_M_digit 12 = .ok (.iload_n 0, 1) := by decide +kernel
theorem d_M_digit_13 : decode c_M_digit 13 = .ok (.bipush 48, 2) := by decide +kernel
theorem d_M_digit_15 : decode c_M_digit 15 = .ok (.isub, 1) := by decide +kernel
theorem d_M_digit_16 : decode c_M_digit 16 = .ok (.goto 43, 3) := by decide +kernel
theorem d_M_digit_19 : decode c_M_digit 19 = .ok (.iload_n 0, 1) := by decide +kernel
theorem d_M_digit_20 : decode c_M_digit 20 = .ok (.bipush 97, 2) := by decide +kernel
theorem d_M_digit_22 : decode c_M_digit 22 = .ok (.if_icmp .lt 16, 3) := by decide +kernel
theorem d_M_digit_25 : decode c_M_digit 25 = .ok (.iload_n 0, 1) := by decide +kernel
theorem d_M_digit_26 : decode c_M_digit 26 = .ok (.bipush 122, 2) := by decide +kernel
theorem d_M_digit_28 : decode c_M_digit 28 = .ok (.if_icmp .gt 10, 3) := by decide +kernel
theorem d_M_digit_31 : decode c_M_digit 31 = .ok (.iload_n 0, 1) := by decide +kernel
theorem d_M_digit_32 : decode c_M_digit 32 = .ok (.bipush 87, 2) := by decide +kernel
theorem d_M_digit_34 : decode c_M_digit 34 = .ok (.isub, 1) := by decide +kernel
theorem d_M_digit_35 : decode c_M_digit 35 = .ok (.goto 24, 3) := by decide +kernel
theorem d_M_digit_38 : decode c_M_digit 38 = .ok (.iload_n 0, 1) := by decide +kernel
theorem d_M_digit_39 : decode c_M_digit 39 = .ok (.bipush 65, 2) := by decide +kernel
theorem d_M_digit_41 : decode c_M_digit 41 = .ok (.if_icmp .lt 16, 3) := by decide +kernel
theorem d_M_digit_44 : decode c_M_digit 44 = .ok (.iload_n 0, 1) := by decide +kernel
theorem d_M_digit_45 : decode c_M_digit 45 = .ok (.bipush 90, 2) := by decide +kernel
theorem d_M_digit_47 : decode c_M_digit 47 = .ok (.if_icmp .gt 10, 3) := by decide +kernel
theorem d_M_digit_50 : decode c_M_digit 50 = .ok (.iload_n 0, 1) := by decide +kernel
theorem d_M_digit_51 : decode c_M_digit 51 = .ok (.bipush 55, 2) := by decide +kernel
theorem d_M_digit_53 : decode c_M_digit 53 = .ok (.isub, 1) := by decide +kernel
theorem d_M_digit_54 : decode c_M_digit 54 = .ok (.goto 5, 3) := by decide +kernel
theorem d_M_digit_57 : decode c_M_digit 57 = .ok (.bipush 99, 2) := by decide +kernel
theorem d_M_digit_59 : decode c_M_digit 59 = .ok (.ireturn, 1) := by decide +kernel
theorem d_M_divide_0 : decode c_M_divide 0 = .ok (.aload_n 0, 1) := by decide +kernel
theorem d_M_divide_1 : decode c_M_divide 1 = .ok (.iload_n 1, 1) := by decide +kernel
theorem d_M_divide_2 : decode c_M_divide 2 = .ok (.invokestatic 66, 3) := by decide +kernel
theorem d_M_divide_5 : decode c_M_divide 5 = .ok (.ifCond .eq 25, 3) := by decide +kernel
theorem d_M_divide_8 : decode c_M_divide 8 = .ok (.iload_n 2, 1) := by decide +kernel
theorem d_M_divide_9 : decode c_M_divide 9 = .ok (.invokestatic 66, 3) := by decide +kernel
theorem d_M_divide_12 : decode c_M_divide 12 = .ok (.ifCond .eq 18, 3) := by decide +kernel
theorem d_M_divide_15 : decode c_M_divide 15 = .ok (.iload_n 3, 1) := by decide +kernel
theorem d_M_divide_16 : decode c_M_divide 16 = .ok (.invokestatic 66, 3) := by decide +kernel
theorem d_M_divide_19 : decode c_M_divide 19 = .ok (.ifCond .eq 11, 3) := by decide +kernel
theorem d_M_divide_22 : decode c_M_divide 22 = .ok (.iload 4, 2) := by decide +kernel
theorem d_M_divide_24 : decode c_M_divide 24 = .ok (.invokestatic 66, 3) := by decide +kernel
theorem d_M_divide_27 : decode c_M_divide 27 = .ok (.ifCond .ne 7, 3) := by decide +kernel
theorem d_M_divide_30 : decode c_M_divide 30 = .ok (.iconst 1, 1) := by decide +kernel
theorem d_M_divide_31 : decode c_M_divide 31 = .ok (.goto 27, 3) := by decide +kernel
theorem d_M_divide_34 : decode c_M_divide 34 = .ok (.iload_n 1, 1) := by decide +kernel
theorem d_M_divide_35 : decode c_M_divide 35 = .ok (.iload_n 2, 1) := by decide +kernel
theorem d_M_divide_36 : decode c_M_divide 36 = .ok (.if_icmp .ne 7, 3) := by decide +kernel
theorem d_M_divide_39 : decode c_M_divide 39 = .ok (.iconst 2, 1) := by decide +kernel
theorem d_M_divide_40 : decode c_M_divide 40 = .ok (.goto 18, 3) := by decide +kernel
theorem d_M_divide_43 : decode c_M_divide 43 = .ok (.aload_n 0, 1) := by decide +kernel
theorem d_M_divide_44 : decode c_M_divide 44 = .ok (.getfield 16, 3) := by decide +kernel
theorem d_M_divide_47 : decode c_M_divide 47 = .ok (.iload 4, 2) := by decide +kernel
theorem d_M_divide_49 : decode c_M_divide 49 = .ok (.iaload, 1) := by decide +kernel
theorem d_M_divide_50 : decode c_M_divide 50 = .ok (.ifCond .ne 7, 3) := by decide +kernel
theorem d_M_divide_53 : decode c_M_divide 53 = .ok (.iconst 3, 1) := by decide +kernel
theorem d_M_divide_54 : decode c_M_divide 54 = .ok (.goto 4, 3) := by decide +kernel
theorem d_M_divide_57 : decode c_M_divide 57 = .ok (.iconst 0, 1) := by decide +kernel
theorem d_M_divide_58 : decode c_M_divide 58 = .ok (.putfield 22, 3) := by decide +kernel
theorem d_M_divide_61 : decode c_M_divide 61 = .ok (.aload_n 0, 1) := by decide +kernel
theorem d_M_divide_62 : decode c_M_divide 62 = .ok (.getfield 22, 3) := by decide +kernel
theorem d_M_divide_65 : decode c_M_divide 65 = .ok (.ifCond .le 4, 3) := by decide +kernel
theorem d_M_divide_68 : decode c_M_divide 68 = .ok (.return_, 1) := by decide +kernel
theorem d_M_divide_69 : decode c_M_divide 69 = .ok (.aload_n 0, 1) := by decide +kernel
theorem d_M_divide_70 : decode c_M_divide 70 = .ok (.getfield 16, 3) := by decide +kernel
theorem d_M_divide_73 : decode c_M_divide 73 = .ok (.iload_n 3, 1) := by decide +kernel
theorem d_M_divide_74 : decode c_M_divide 74 = .ok (.iaload, 1) := by decide +kernel
theorem d_M_divide_75 : decode c_M_divide 75 = .ok (.istore 6, 2) := by decide +kernel
theorem d_M_divide_77 : decode c_M_divide 77 = .ok (.aload_n 0, 1) := by decide +kernel
theorem d_M_divide_78 : decode c_M_divide 78 = .ok (.getfield 16, 3) := by decide +kernel
theorem d_M_divide_81 : decode c_M_divide 81 = .ok (.iload 4, 2) := by decide +kernel
theorem d_M_divide_83 : decode c_M_divide 83 = .ok (.iaload, 1) := by decide +kernel
theorem d_M_divide_84 : decode c_M_divide 84 = .ok (.istore 7, 2) := by decide +kernel
theorem d_M_divide_86 : decode c_M_divide 86 = .ok (.aload_n 0, 1) := by decide +kernel
theorem d_M_divide_87 : decode c_M_divide 87 = .ok (.iload_n 3, 1) := by decide +kernel
theorem d_M_divide_88 : decode c_M_divide 88 = .ok (.iload 4, 2) := by decide +kernel
theorem d_M_divide_90 : decode c_M_divide 90 = .ok (.invokevirtual 56, 3) := by decide +kernel
theorem d_M_divide_93 : decode c_M_divide 93 = .ok (.iload 5, 2) := by decide +kernel
theorem d_M_divide_95 : decode c_M_divide 95 = .ok (.ifCond .eq 63, 3) := by decide +kernel
theorem d_M_divide_98 : decode c_M_divide 98 = .ok (.iload 6, 2) := by decide +kernel
theorem d_M_divide_100 : decode c_M_divide 100 = .ok (.iload 7, 2) := by decide +kernel
theorem d_M_divide_102 : decode c_M_divide 102 = .ok (.imul, 1) := by decide +kernel
theorem d_M_divide_103 : decode c_M_divide 103 = .ok (.ifCond .ge 55, 3) := by decide +kernel
theorem d_M_divide_106 : decode c_M_divide 106 = .ok (.aload_n 0, 1) := by decide +kernel
theorem d_M_divide_107 : decode c_M_divide 107 = .ok (.getfield 13, 3) := by decide +kernel
theorem d_M_divide_110 : decode c_M_divide 110 = .ok (.bipush 16, 2) := by decide +kernel
theorem d_M_divide_112 : decode c_M_divide 112 = .ok (.iaload, 1) := by decide +kernel
theorem d_M_divide_113 : decode c_M_divide 113 = .ok (.ifCond .le 45, 3) := by decide +kernel
theorem d_M_divide_116 : decode c_M_divide 116 = .ok (.aload_n 0, 1) := by decide +kernel
theorem d_M_divide_117 : decode c_M_divide 117 = .ok (.bipush 12, 2) := by decide +kernel
theorem d_M_divide_119 : decode c_M_divide 119 = .ok (.iconst 1, 1) := by decide +kernel
theorem d_M_divide_120 : decode c_M_divide 120 = .ok (.invokevirtual 93, 3) := by decide +kernel
theorem d_M_divide_123 : decode c_M_divide 123 = .ok (.aload_n 0, 1) := by decide +kernel
theorem d_M_divide_124 : decode c_M_divide 124 = .ok (.bipush 15, 2) := by decide +kernel
theorem d_M_divide_126 : decode c_M_divide 126 = .ok (.bipush 12, 2) := by decide +kernel
theorem d_M_divide_128 : decode c_M_divide 128 = .ok (.bipush 15, 2) := by decide +kernel
theorem d_M_divide_130 : decode c_M_divide 130 = .ok (.invokevirtual 83, 3) := by decide +kernel
theorem d_M_divide_133 : decode c_M_divide 133 = .ok (.aload_n 0, 1) := by decide +kernel
theorem d_M_divide_134 : decode c_M_divide 134 = .ok (.iload 4, 2) := by decide +kernel
theorem d_M_divide_136 : decode c_M_divide 136 = .ok (.bipush 16, 2) := by decide +kernel
theorem d_M_divide_138 : decode c_M_divide 138 = .ok (.bipush 16, 2) := by decide +kernel
theorem d_M_divide_140 : decode c_M_divide 140 = .ok (.invokevirtual 59, 3) := by decide +kernel
theorem d_M_divide_143 : decode c_M_divide 143 = .ok (.iload 7, 2) := by decide +kernel
theorem d_M_divide_145 : decode c_M_divide 145 = .ok (.istore 6, 2) := by decide +kernel
theorem d_M_divide_147 : decode c_M_divide 147 = .ok (.aload_n 0, 1) := by decide +kernel
theorem d_M_divide_148 : decode c_M_divide 148 = .ok (.bipush 15, 2) := by decide +kernel
theorem d_M_divide_150 : decode c_M_divide 150 = .ok (.iload_n 1, 1) := by decide +kernel
theorem d_M_divide_151 : decode c_M_divide 151 = .ok (.iconst (-1), 1) := by decide +kernel
theorem d_M_divide_152 : decode c_M_divide 152 = .ok (.invokevirtual 73, 3) := by decide +kernel
theorem d_M_divide_155 : decode c_M_divide 155 = .ok (.goto 15, 3) := by decide +kernel
theorem d_M_divide_158 : decode c_M_divide 158 = .ok (.aload_n 0, 1) := by decide +kernel
theorem d_M_divide_159 : decode c_M_divide 159 = .ok (.bipush 15, 2) := by decide +kernel
theorem d_M_divide_161 : decode c_M_divide 161 = .ok (.iload_n 1, 1) := by decide +kernel
theorem d_M_divide_162 : decode c_M_divide 162 = .ok (.iload 6, 2) := by decide +kernel
theorem d_M_divide_164 : decode c_M_divide 164 = .ok (.iload 7, 2) := by decide +kernel
theorem d_M_divide_166 : decode c_M_divide 166 = .ok (.imul, 1) := by decide +kernel
theorem d_M_divide_167 : decode c_M_divide 167 = .ok (.invokevirtual 73, 3) := by decide +kernel
theorem d_M_divide_170 : decode c_M_divide 170 = .ok (.aload_n 0, 1) := by decide +kernel
theorem d_M_divide_171 : decode c_M_divide 171 = .ok (.bipush 16, 2) := by decide +kernel
theorem d_M_divide_173 : decode c_M_divide 173 = .ok (.iload_n 2, 1) := by decide +kernel
theorem d_M_divide_174 : decode c_M_divide 174 = .ok (.iload 6, 2) := by decide +kernel
theorem d_M_divide_176 : decode c_M_divide 176 = .ok (.invokevirtual 73, 3) := by decide +kernel
theorem d_M_divide_179 : decode c_M_divide 179 = .ok (.return_, 1) := by decide +kernel
theorem d_M_finish_0 : decode c_M_finish 0 = .ok (.aload_n 0, 1) := by decide +kernel
theorem d_M_finish_1 : decode c_M_finish 1 = .ok (.iload_n 1, 1) := by decide +kernel
theorem d_M_finish_2 : decode c_M_finish 2 = .ok (.invokevirtual 70, 3) := by decide +kernel
theorem d_M_finish_5 : decode c_M_finish 5 = .ok (.ifCond .eq 12, 3) := by decide +kernel
theorem d_M_finish_8 : decode c_M_finish 8 = .ok (.aload_n 0, 1) := by decide +kernel
theorem d_M_finish_9 : decode c_M_finish 9 = .ok (.iload 4, 2) := by decide +kernel
theorem d_M_finish_11 : decode c_M_finish 11 = .ok (.putfield 22, 3) := by decide +kernel
theorem d_M_finish_14 : decode c_M_finish 14 = .ok (.goto 10, 3) := by decide +kernel
theorem d_M_finish_17 : decode c_M_finish 17 = .ok (.aload_n 0, 1) := by decide +kernel
theorem d_M_finish_18 : decode c_M_finish 18 = .ok (.iload_n 1, 1) := by decide +kernel
theorem d_M_finish_19 : decode c_M_finish 19 = .ok (.iload_n 2, 1) := by decide +kernel
theorem d_M_finish_20 : decode c_M_finish 20 = .ok (.iload_n 3, 1) := by decide +kernel
theorem d_M_finish_21 : decode c_M_finish 21 = .ok (.invokevirtual 73, 3) := by decide +kernel
theorem d_M_finish_24 : decode c_M_finish 24 = .ok (.return_, 1) := by decide +kernel
theorem d_M_fits_0 : decode c_M_fits 0 = .ok (.aload_n 0, 1) := by decide +kernel
theorem d_M_fits_1 : decode c_M_fits 1 = .ok (.bipush 13, 2) := by decide +kernel
theorem d_M_fits_3 : decode c_M_fits 3 = .ok (.iconst 1, 1) := by decide +kernel
theorem d_M_fits_4 : decode c_M_fits 4 = .ok (.invokevirtual 93, 3) := by decide +kernel
theorem d_M_fits_7 : decode c_M_fits 7 = .ok (.aload_n 0, 1) := by decide +kernel
theorem d_M_fits_8 : decode c_M_fits 8 = .ok (.bipush 12, 2) := by decide +kernel
theorem d_M_fits_10 : decode c_M_fits 10 = .ok (.bipush 13, 2) := by decide +kernel
theorem d_M_fits_12 : decode c_M_fits 12 = .ok (.invokevirtual 79, 3) := by decide +kernel
theorem d_M_fits_15 : decode c_M_fits 15 = .ok (.ifCond .gt 5, 3) := by decide +kernel
theorem d_M_fits_18 : decode c_M_fits 18 = .ok (.iconst 1, 1) := by decide +kernel
theorem d_M_fits_19 : decode c_M_fits 19 = .ok (.ireturn, 1) := by decide +kernel
theorem d_M_fits_20 : decode c_M_fits 20 = .ok (.iconst 0, 1) := by decide +kernel
theorem d_M_fits_21 : decode c_M_fits 21 = .ok (.istore_n 3, 1) := by decide +kernel
theorem d_M_fits_22 : decode c_M_fits 22 = .ok (.iload_n 3, 1) := by decide +kernel
theorem d_M_fits_23 : decode c_M_fits 23 = .ok (.iload_n 2, 1) := by decide +kernel
theorem d_M_fits_24 : decode c_M_fits 24 = .ok (.if_icmp .ge 39, 3) := by decide +kernel
theorem d_M_fits_27 : decode c_M_fits 27 = .ok (.aload_n 0, 1) := by decide +kernel
theorem d_M_fits_28 : decode c_M_fits 28 = .ok (.bipush 12, 2) := by decide +kernel
theorem d_M_fits_30 : decode c_M_fits 30 = .ok (.bipush 13, 2) := by decide +kernel
theorem d_M_fits_32 : decode c_M_fits 32 = .ok (.bipush 14, 2) := by decide +kernel
theorem d_M_fits_34 : decode c_M_fits 34 = .ok (.invokevirtual 63, 3) := by decide +kernel
theorem d_M_fits_37 : decode c_M_fits 37 = .ok (.aload_n 0, 1) := by decide +kernel
theorem d_M_fits_38 : decode c_M_fits 38 = .ok (.bipush 14, 2) := by decide +kernel
theorem d_M_fits_40 : decode c_M_fits 40 = .ok (.iload_n 1, 1) := by decide +kernel
theorem d_M_fits_41 : decode c_M_fits 41 = .ok (.invokevirtual 79, 3) := by decide +kernel
theorem d_M_fits_44 : decode c_M_fits 44 = .ok (.ifCond .le 5, 3) := by decide +kernel
theorem d_M_fits_47 : decode c_M_fits 47 = .ok (.iconst 0, 1) := by decide +kernel
theorem d_M_fits_48 : decode c_M_fits 48 = .ok (.ireturn, 1) := by decide +kernel
theorem d_M_fits_49 : decode c_M_fits 49 = .ok (.aload_n 0, 1) := by decide +kernel
theorem d_M_fits_50 : decode c_M_fits 50 = .ok (.bipush 14, 2) := by decide +kernel
theorem d_M_fits_52 : decode c_M_fits 52 = .ok (.bipush 13, 2) := by decide +kernel
theorem d_M_fits_54 : decode c_M_fits 54 = .ok (.invokevirtual 40, 3) := by decide +kernel
theorem d_M_fits_57 : decode c_M_fits 57 = .ok (.iinc 3 1, 3) := by decide +kernel
theorem d_M_fits_60 : decode c_M_fits 60 = .ok (.goto (-38), 3) := by decide +kernel
theorem d_M_fits_63 : decode c_M_fits 63 = .ok (.iconst 1, 1) := by decide +kernel
theorem d_M_fits_64 : decode c_M_fits 64 = .ok (.ireturn, 1) := by decide +kernel
theorem d_M_gcd_0 : decode c_M_gcd 0 = .ok (.aload_n 0, 1) := by decide +kernel
theorem d_M_gcd_1 : decode c_M_gcd 1 = .ok (.iload_n 1, 1) := by decide +kernel
theorem d_M_gcd_2 : decode c_M_gcd 2 = .ok (.iload_n 2, 1) := by decide +kernel
theorem d_M_gcd_3 : decode c_M_gcd 3 = .ok (.iload_n 3, 1) := by decide +kernel
theorem d_M_gcd_4 : decode c_M_gcd 4 = .ok (.invokevirtual 76, 3) := by decide +kernel
theorem d_M_gcd_7 : decode c_M_gcd 7 = .ok (.ifCond .ne 4, 3) := by decide +kernel
theorem d_M_gcd_10 : decode c_M_gcd 10 = .ok (.return_, 1) := by decide +kernel
theorem d_M_gcd_11 : decode c_M_gcd 11 = .ok (.aload_n 0, 1) := by decide +kernel
theorem d_M_gcd_12 : decode c_M_gcd 12 = .ok (.iload_n 2, 1) := by decide +kernel
theorem d_M_gcd_13 : decode c_M_gcd 13 = .ok (.bipush 17, 2) := by decide +kernel
theorem d_M_gcd_15 : decode c_M_gcd 15 = .ok (.invokevirtual 40, 3) := by decide +kernel
theorem d_M_gcd_18 : decode c_M_gcd 18 = .ok (.aload_n 0, 1) := by decide +kernel
theorem d_M_gcd_19 : decode c_M_gcd 19 = .ok (.iload_n 3, 1) := by decide +kernel
theorem d_M_gcd_20 : decode c_M_gcd 20 = .ok (.bipush 18, 2) := by decide +kernel
theorem d_M_gcd_22 : decode c_M_gcd 22 = .ok (.invokevirtual 40, 3) := by decide +kernel
theorem d_M_gcd_25 : decode c_M_gcd 25 = .ok (.aload_n 0, 1) := by decide +kernel
theorem d_M_gcd_26 : decode c_M_gcd 26 = .ok (.getfield 13, 3) := by decide +kernel
theorem d_M_gcd_29 : decode c_M_gcd 29 = .ok (.bipush 18, 2) := by decide +kernel
theorem d_M_gcd_31 : decode c_M_gcd 31 = .ok (.iaload, 1) := by decide +kernel
theorem d_M_gcd_32 : decode c_M_gcd 32 = .ok (.ifCond .le 30, 3) := by decide +kernel
theorem d_M_gcd_35 : decode c_M_gcd 35 = .ok (.aload_n 0, 1) := by decide +kernel
theorem d_M_gcd_36 : decode c_M_gcd 36 = .ok (.bipush 17, 2) := by decide +kernel
theorem d_M_gcd_38 : decode c_M_gcd 38 = .ok (.bipush 18, 2) := by decide +kernel
theorem d_M_gcd_40 : decode c_M_gcd 40 = .ok (.invokevirtual 56, 3) := by decide +kernel
theorem d_M_gcd_43 : decode c_M_gcd 43 = .ok (.aload_n 0, 1) := by decide +kernel
theorem d_M_gcd_44 : decode c_M_gcd 44 = .ok (.bipush 18, 2) := by decide +kernel
theorem d_M_gcd_46 : decode c_M_gcd 46 = .ok (.bipush 17, 2) := by decide +kernel
theorem d_M_gcd_48 : decode c_M_gcd 48 = .ok (.invokevirtual 40, 3) := by decide +kernel
theorem d_M_gcd_51 : decode c_M_gcd 51 = .ok (.aload_n 0, 1) := by decide +kernel
theorem d_M_gcd_52 : decode c_M_gcd 52 = .ok (.bipush 16, 2) := by decide +kernel
theorem d_M_gcd_54 : decode c_M_gcd 54 = .ok (.bipush 18, 2) := by decide +kernel
theorem d_M_gcd_56 : decode c_M_gcd 56 = .ok (.invokevirtual 40, 3) := by decide +kernel
theorem d_M_gcd_59 : decode c_M_gcd 59 = .ok (.goto (-34), 3) := by decide +kernel
theorem d_M_gcd_62 : decode c_M_gcd 62 = .ok (.aload_n 0, 1) := by decide +kernel
theorem d_M_gcd_63 : decode c_M_gcd 63 = .ok (.bipush 17, 2) := by decide +kernel
theorem d_M_gcd_65 : decode c_M_gcd 65 = .ok (.iload_n 1, 1) := by decide +kernel
theorem d_M_gcd_66 : decode c_M_gcd 66 = .ok (.iconst 1, 1) := by decide +kernel
theorem d_M_gcd_67 : decode c_M_gcd 67 = .ok (.invokevirtual 73, 3) := by decide +kernel
theorem d_M_gcd_70 : decode c_M_gcd 70 = .ok (.return_, 1) := by decide +kernel
theorem d_M_goes_0 : decode c_M_goes 0 = .ok (.aload_n 0, 1) := by decide +kernel
theorem d_M_goes_1 : decode c_M_goes 1 = .ok (.iload_n 2, 1) := by decide +kernel
theorem d_M_goes_2 : decode c_M_goes 2 = .ok (.iload_n 3, 1) := by decide +kernel
theorem d_M_goes_3 : decode c_M_goes 3 = .ok (.iadd, 1) := by decide +kernel
theorem d_M_goes_4 : decode c_M_goes 4 = .ok (.invokevirtual 36, 3) := by decide +kernel
theorem d_M_goes_7 : decode c_M_goes 7 = .ok (.lconst 0, 1) := by decide +kernel
theorem d_M_goes_8 : decode c_M_goes 8 = .ok (.lcmp, 1) := by decide +kernel
theorem d_M_goes_9 : decode c_M_goes 9 = .ok (.ifCond .le 5, 3) := by decide +kernel
theorem d_M_goes_12 : decode c_M_goes 12 = .ok (.iconst 1, 1) := by decide +kernel
theorem d_M_goes_13 : decode c_M_goes 13 = .ok (.ireturn, 1) := by decide +kernel
theorem d_M_goes_14 : decode c_M_goes 14 = .ok (.iload_n 2, 1) := by decide +kernel
theorem d_M_goes_15 : decode c_M_goes 15 = .ok (.iconst 1, 1) := by decide +kernel
theorem d_M_goes_16 : decode c_M_goes 16 = .ok (.isub, 1) := by decide +kernel
theorem d_M_goes_17 : decode c_M_goes 17 = .ok (.istore 4, 2) := by decide +kernel
theorem d_M_goes_19 : decode c_M_goes 19 = .ok (.iload 4, 2) := by decide +kernel
theorem d_M_goes_21 : decode c_M_goes 21 = .ok (.ifCond .lt 58, 3) := by decide +kernel
theorem d_M_goes_24 : decode c_M_goes 24 = .ok (.aload_n 0, 1) := by decide +kernel
theorem d_M_goes_25 : decode c_M_goes 25 = .ok (.getfield 7, 3) := by decide +kernel
theorem d_M_goes_28 : decode c_M_goes 28 = .ok (.sipush 1728, 3) := by decide +kernel
theorem d_M_goes_31 : decode c_M_goes 31 = .ok (.iload_n 3, 1) := by decide +kernel
theorem d_M_goes_32 : decode c_M_goes 32 = .ok (.iadd, 1) := by decide +kernel
theorem d_M_goes_33 : decode c_M_goes 33 = .ok (.iload 4, 2) := by decide +kernel
theorem d_M_goes_35 : decode c_M_goes 35 = .ok (.iadd, 1) := by decide +kernel
theorem d_M_goes_36 : decode c_M_goes 36 = .ok (.iaload, 1) := by decide +kernel
theorem d_M_goes_37 : decode c_M_goes 37 = .ok (.istore 5, 2) := by decide +kernel
theorem d_M_goes_39 : decode c_M_goes 39 = .ok (.aload_n 0, 1) := by decide +kernel
theorem d_M_goes_40 : decode c_M_goes 40 = .ok (.getfield 7, 3) := by decide +kernel
theorem d_M_goes_43 : decode c_M_goes 43 = .ok (.bipush 108, 2) := by decide +kernel
theorem d_M_goes_45 : decode c_M_goes 45 = .ok (.iload_n 1, 1) := by decide +kernel
theorem d_M_goes_46 : decode c_M_goes 46 = .ok (.imul, 1) := by decide +kernel
theorem d_M_goes_47 : decode c_M_goes 47 = .ok (.iload 4, 2) := by decide +kernel
theorem d_M_goes_49 : decode c_M_goes 49 = .ok (.iadd, 1) := by decide +kernel
theorem d_M_goes_50 : decode c_M_goes 50 = .ok (.iaload, 1) := by decide +kernel
theorem d_M_goes_51 : decode c_M_goes 51 = .ok (.istore 6, 2) := by decide +kernel
theorem d_M_goes_53 : decode c_M_goes 53 = .ok (.iload 5, 2) := by decide +kernel
theorem d_M_goes_55 : decode c_M_goes 55 = .ok (.iload 6, 2) := by decide +kernel
theorem d_M_goes_57 : decode c_M_goes 57 = .ok (.if_icmp .eq 16, 3) := by decide +kernel
theorem d_M_goes_60 : decode c_M_goes 60 = .ok (.iload 5, 2) := by decide +kernel
theorem d_M_goes_62 : decode c_M_goes 62 = .ok (.iload 6, 2) := by decide +kernel
theorem d_M_goes_64 : decode c_M_goes 64 = .ok (.if_icmp .le 7, 3) := by decide +kernel
theorem d_M_goes_67 : decode c_M_goes 67 = .ok (.iconst 1, 1) := by decide +kernel
theorem d_M_goes_68 : decode c_M_goes 68 = .ok (.goto 4, 3) := by decide +kernel
theorem d_M_goes_71 : decode c_M_goes 71 = .ok (.iconst 0, 1) := by decide +kernel
theorem d_M_goes_72 : decode c_M_goes 72 = .ok (.ireturn, 1) := by decide +kernel
theorem d_M_goes_73 : decode c_M_goes 73 = .ok (.iinc 4 (-1), 3) := by decide +kernel
theorem d_M_goes_76 : decode c_M_goes 76 = .ok (.goto (-57), 3) := by decide +kernel
theorem d_M_goes_79 : decode c_M_goes 79 = .ok (.iconst 1, 1) := by decide +kernel
theorem d_M_goes_80 : decode c_M_goes 80 = .ok (.ireturn, 1) := by decide +kernel
theorem d_M_grow_0 : decode c_M_grow 0 = .ok (.iload_n 2, 1) := by decide +kernel
theorem d_M_grow_1 : decode c_M_grow 1 = .ok (.i2l, 1) := by decide +kernel
theorem d_M_grow_2 : decode c_M_grow 2 = .ok (.lstore_n 3, 1) := by decide +kernel
theorem d_M_grow_3 : decode c_M_grow 3 = .ok (.iconst 0, 1) := by decide +kernel
theorem d_M_grow_4 : decode c_M_grow 4 = .ok (.istore 5, 2) := by decide +kernel
theorem d_M_grow_6 : decode c_M_grow 6 = .ok (.iload 5, 2) := by decide +kernel
theorem d_M_grow_8 : decode c_M_grow 8 = .ok (.bipush 108, 2) := by decide +kernel
theorem d_M_grow_10 : decode c_M_grow 10 = .ok (.if_icmp .ge 52, 3) := by decide +kernel
theorem d_M_grow_13 : decode c_M_grow 13 = .ok (.aload_n 0, 1) := by decide +kernel
theorem d_M_grow_14 : decode c_M_grow 14 = .ok (.getfield 7, 3) := by decide +kernel
theorem d_M_grow_17 : decode c_M_grow 17 = .ok (.sipush 1296, 3) := by decide +kernel
theorem d_M_grow_20 : decode c_M_grow 20 = .ok (.iload 5, 2) := by decide +kernel
theorem d_M_grow_22 : decode c_M_grow 22 = .ok (.iadd, 1) := by decide +kernel
theorem d_M_grow_23 : decode c_M_grow 23 = .ok (.iaload, 1) := by decide +kernel
theorem d_M_grow_24 : decode c_M_grow 24 = .ok (.i2l, 1) := by decide +kernel
theorem d_M_grow_25 : decode c_M_grow 25 = .ok (.iload_n 1, 1) := by decide +kernel
theorem d_M_grow_26 : decode c_M_grow 26 = .ok (.i2l, 1) := by decide +kernel
theorem d_M_grow_27 : decode c_M_grow 27 = .ok (.lmul, 1) := by decide +kernel
theorem d_M_grow_28 : decode c_M_grow 28 = .ok (.lload_n 3, 1) := by decide +kernel
theorem d_M_grow_29 : decode c_M_grow 29 = .ok (.ladd, 1) := by decide +kernel
theorem d_M_grow_30 : decode c_M_grow 30 = .ok (.lstore 6, 2) := by decide +kernel
theorem d_M_grow_32 : decode c_M_grow 32 = .ok (.aload_n 0, 1) := by decide +kernel
theorem d_M_grow_33 : decode c_M_grow 33 = .ok (.getfield 7, 3) := by decide +kernel
theorem d_M_grow_36 : decode c_M_grow 36 = .ok (.sipush 1296, 3) := by decide +kernel
theorem d_M_grow_39 : decode c_M_grow 39 = .ok (.iload 5, 2) := by decide +kernel
theorem d_M_grow_41 : decode c_M_grow 41 = .ok (.iadd, 1) := by decide +kernel
theorem d_M_grow_42 : decode c_M_grow 42 = .ok (.lload 6, 2) := by decide +kernel
theorem d_M_grow_44 : decode c_M_grow 44 = .ok (.ldc2_w 34, 3) := by decide +kernel
theorem d_M_grow_47 : decode c_M_grow 47 = .ok (.land, 1) := by decide +kernel
theorem d_M_grow_48 : decode c_M_grow 48 = .ok (.l2i, 1) := by decide +kernel
theorem d_M_grow_49 : decode c_M_grow 49 = .ok (.iastore, 1) := by decide +kernel
theorem d_M_grow_50 : decode c_M_grow 50 = .ok (.lload 6, 2) := by decide +kernel
theorem d_M_grow_52 : decode c_M_grow 52 = .ok (.bipush 20, 2) := by decide +kernel
theorem d_M_grow_54 : decode c_M_grow 54 = .ok (.lshr, 1) := by decide +kernel
theorem d_M_grow_55 : decode c_M_grow 55 = .ok (.lstore_n 3, 1) := by decide +kernel
theorem d_M_grow_56 : decode c_M_grow 56 = .ok (.iinc 5 1, 3) := by decide +kernel
theorem d_M_grow_59 : decode c_M_grow 59 = .ok (.goto (-53), 3) := by decide +kernel
theorem d_M_grow_62 : decode c_M_grow 62 = .ok (.aload_n 0, 1) := by decide +kernel
theorem d_M_grow_63 : decode c_M_grow 63 = .ok (.bipush 12, 2) := by decide +kernel
theorem d_M_grow_65 : decode c_M_grow 65 = .ok (.invokevirtual 30, 3) := by decide +kernel
theorem d_M_grow_68 : decode c_M_grow 68 = .ok (.return_, 1) := by decide +kernel
theorem d_M_guess_0 : decode c_M_guess 0 = .ok (.aload_n 0, 1) := by decide +kernel
theorem d_M_guess_1 : decode c_M_guess 1 = .ok (.iload_n 2, 1) := by decide +kernel
theorem d_M_guess_2 : decode c_M_guess 2 = .ok (.iload_n 3, 1) := by decide +kernel
theorem d_M_guess_3 : decode c_M_guess 3 = .ok (.iadd, 1) := by decide +kernel
theorem d_M_guess_4 : decode c_M_guess 4 = .ok (.invokevirtual 36, 3) := by decide +kernel
theorem d_M_guess_7 : decode c_M_guess 7 = .ok (.bipush 40, 2) := by decide +kernel
theorem d_M_guess_9 : decode c_M_guess 9 = .ok (.lshl, 1) := by decide +kernel
theorem d_M_guess_10 : decode c_M_guess 10 = .ok (.aload_n 0, 1) := by decide +kernel
theorem d_M_guess_11 : decode c_M_guess 11 = .ok (.iload_n 2, 1) := by decide +kernel
theorem d_M_guess_12 : decode c_M_guess 12 = .ok (.iload_n 3, 1) := by decide +kernel
theorem d_M_guess_13 : decode c_M_guess 13 = .ok (.iadd, 1) := by decide +kernel
theorem d_M_guess_14 : decode c_M_guess 14 = .ok (.iconst 1, 1) := by decide +kernel
theorem d_M_guess_15 : decode c_M_guess 15 = .ok (.isub, 1) := by decide +kernel
theorem d_M_guess_16 : decode c_M_guess 16 = .ok (.invokevirtual 36, 3) := by decide +kernel
theorem d_M_guess_19 : decode c_M_guess 19 = .ok (.bipush 20, 2) := by decide +kernel
theorem d_M_guess_21 : decode c_M_guess 21 = .ok (.lshl, 1) := by decide +kernel
theorem d_M_guess_22 : decode c_M_guess 22 = .ok (.ladd, 1) := by decide +kernel
theorem d_M_guess_23 : decode c_M_guess 23 = .ok (.aload_n 0, 1) := by decide +kernel
theorem d_M_guess_24 : decode c_M_guess 24 = .ok (.iload_n 2, 1) := by decide +kernel
theorem d_M_guess_25 : decode c_M_guess 25 = .ok (.iload_n 3, 1) := by decide +kernel
theorem d_M_guess_26 : decode c_M_guess 26 = .ok (.iadd, 1) := by decide +kernel
theorem d_M_guess_27 : decode c_M_guess 27 = .ok (.iconst 2, 1) := by decide +kernel
theorem d_M_guess_28 : decode c_M_guess 28 = .ok (.isub, 1) := by decide +kernel
theorem d_M_guess_29 : decode c_M_guess 29 = .ok (.invokevirtual 36, 3) := by decide +kernel
theorem d_M_guess_32 : decode c_M_guess 32 = .ok (.ladd, 1) := by decide +kernel
theorem d_M_guess_33 : decode c_M_guess 33 = .ok (.lstore 4, 2) := by decide +kernel
theorem d_M_guess_35 : decode c_M_guess 35 = .ok (.aload_n 0, 1) := by decide +kernel
theorem d_M_guess_36 : decode c_M_guess 36 = .ok (.getfield 7, 3) := by decide +kernel
theorem d_M_guess_39 : decode c_M_guess 39 = .ok (.bipush 108, 2) := by decide +kernel
theorem d_M_guess_41 : decode c_M_guess 41 = .ok (.iload_n 1, 1) := by decide +kernel
theorem d_M_guess_42 : decode c_M_guess 42 = .ok (.imul, 1) := by decide +kernel
theorem d_M_guess_43 : decode c_M_guess 43 = .ok (.iload_n 2, 1) := by decide +kernel
theorem d_M_guess_44 : decode c_M_guess 44 = .ok (.iadd, 1) := by decide +kernel
theorem d_M_guess_45 : decode c_M_guess 45 = .ok (.iconst 1, 1) := by decide +kernel
theorem d_M_guess_46 : decode c_M_guess 46 = .ok (.isub, 1) := by decide +kernel
theorem d_M_guess_47 : decode c_M_guess 47 = .ok (.iaload, 1) := by decide +kernel
theorem d_M_guess_48 : decode c_M_guess 48 = .ok (.i2l, 1) := by decide +kernel
theorem d_M_guess_49 : decode c_M_guess 49 = .ok (.bipush 20, 2) := by decide +kernel
theorem d_M_guess_51 : decode c_M_guess 51 = .ok (.lshl, 1) := by decide +kernel
theorem d_M_guess_52 : decode c_M_guess 52 = .ok (.iload_n 2, 1) := by decide +kernel
theorem d_M_guess_53 : decode c_M_guess 53 = .ok (.iconst 1, 1) := by decide +kernel
theorem d_M_guess_54 : decode c_M_guess 54 = .ok (.if_icmp .le 19, 3) := by decide +kernel
theorem d_M_guess_57 : decode c_M_guess 57 = .ok (.aload_n 0, 1) := by decide +kernel
theorem d_M_guess_58 : decode c_M_guess 58 = .ok (.getfield 7, 3) := by decide +kernel
theorem d_M_guess_61 : decode c_M_guess 61 = .ok (.bipush 108, 2) := by decide +kernel
theorem d_M_guess_63 : decode c_M_guess 63 = .ok (.iload_n 1, 1) := by decide +kernel
theorem d_M_guess_64 : decode c_M_guess 64 = .ok (.imul, 1) := by decide +kernel
theorem d_M_guess_65 : decode c_M_guess 65 = .ok (.iload_n 2, 1) := by decide +kernel
theorem d_M_guess_66 : decode c_M_guess 66 = .ok (.iadd, 1) := by decide +kernel
theorem d_M_guess_67 : decode c_M_guess 67 = .ok (.iconst 2, 1) := by decide +kernel
theorem d_M_guess_68 : decode c_M_guess 68 = .ok (.isub, 1) := by decide +kernel
theorem d_M_guess_69 : decode c_M_guess 69 = .ok (.iaload, 1) := by decide +kernel
theorem d_M_guess_70 : decode c_M_guess 70 = .ok (.goto 4, 3) := by decide +kernel
theorem d_M_guess_73 : decode c_M_guess 73 = .ok (.iconst 0, 1) := by decide +kernel
theorem d_M_guess_74 : decode c_M_guess 74 = .ok (.i2l, 1) := by decide +kernel
theorem d_M_guess_75 : decode c_M_guess 75 = .ok (.ladd, 1) := by decide +kernel
theorem d_M_guess_76 : decode c_M_guess 76 = .ok (.lstore 6, 2) := by decide +kernel
theorem d_M_guess_78 : decode c_M_guess 78 = .ok (.lload 4, 2) := by decide +kernel
theorem d_M_guess_80 : decode c_M_guess 80 = .ok (.lload 6, 2) := by decide +kernel
theorem d_M_guess_82 : decode c_M_guess 82 = .ok (.lconst 1, 1) := by decide +kernel
theorem d_M_guess_83 : decode c_M_guess 83 = .ok (.ladd, 1) := by decide +kernel
theorem d_M_guess_84 : decode c_M_guess 84 = .ok (.ldiv, 1) := by decide +kernel
theorem d_M_guess_85 : decode c_M_guess 85 = .ok (.lreturn, 1) := by decide +kernel
theorem d_M_inverse_0 : decode c_M_inverse 0 = .ok (.aload_n 0, 1) := by decide +kernel
theorem d_M_inverse_1 : decode c_M_inverse 1 = .ok (.iload_n 1, 1) := by decide +kernel
theorem d_M_inverse_2 : decode c_M_inverse 2 = .ok (.invokestatic 66, 3) := by decide +kernel
theorem d_M_inverse_5 : decode c_M_inverse 5 = .ok (.ifCond .eq 17, 3) := by decide +kernel
theorem d_M_inverse_8 : decode c_M_inverse 8 = .ok (.iload_n 2, 1) := by decide +kernel
theorem d_M_inverse_9 : decode c_M_inverse 9 = .ok (.invokestatic 66, 3) := by decide +kernel
theorem d_M_inverse_12 : decode c_M_inverse 12 = .ok (.ifCond .eq 10, 3) := by decide +kernel
theorem d_M_inverse_15 : decode c_M_inverse 15 = .ok (.iload_n 3, 1) := by decide +kernel
theorem d_M_inverse_16 : decode c_M_inverse 16 = .ok (.invokestatic 66, 3) := by decide +kernel
theorem d_M_inverse_19 : decode c_M_inverse 19 = .ok (.ifCond .ne 7, 3) := by decide +kernel
theorem d_M_inverse_22 : decode c_M_inverse 22 = .ok (.iconst 1, 1) := by decide +kernel
theorem d_M_inverse_23 : decode c_M_inverse 23 = .ok (.goto 17, 3) := by decide +kernel
theorem d_M_inverse_26 : decode c_M_inverse 26 = .ok (.aload_n 0, 1) := by decide +kernel
theorem d_M_inverse_27 : decode c_M_inverse 27 = .ok (.getfield 16, 3) := by decide +kernel
theorem d_M_inverse_30 : decode c_M_inverse 30 = .ok (.iload_n 3, 1) := by decide +kernel
theorem d_M_inverse_31 : decode c_M_inverse 31 = .ok (.iaload, 1) := by decide +kernel
theorem d_M_inverse_32 : decode c_M_inverse 32 = .ok (.ifCond .gt 7, 3) := by decide +kernel
theorem d_M_inverse_35 : decode c_M_inverse 35 = .ok (.iconst 2, 1) := by decide +kernel
theorem d_M_inverse_36 : decode c_M_inverse 36 = .ok (.goto 4, 3) := by decide +kernel
theorem d_M_inverse_39 : decode c_M_inverse 39 = .ok (.iconst 0, 1) := by decide +kernel
theorem d_M_inverse_40 : decode c_M_inverse 40 = .ok (.putfield 22, 3) := by decide +kernel
theorem d_M_inverse_43 : decode c_M_inverse 43 = .ok (.aload_n 0, 1) := by decide +kernel
theorem d_M_inverse_44 : decode c_M_inverse 44 = .ok (.getfield 22, 3) := by decide +kernel
theorem d_M_inverse_47 : decode c_M_inverse 47 = .ok (.ifCond .le 4, 3) := by decide +kernel
theorem d_M_inverse_50 : decode c_M_inverse 50 = .ok (.return_, 1) := by decide +kernel
theorem d_M_inverse_51 : decode c_M_inverse 51 = .ok (.aload_n 0, 1) := by decide +kernel
theorem d_M_inverse_52 : decode c_M_inverse 52 = .ok (.iload_n 3, 1) := by decide +kernel
theorem d_M_inverse_53 : decode c_M_inverse 53 = .ok (.bipush 17, 2) := by decide +kernel
theorem d_M_inverse_55 : decode c_M_inverse 55 = .ok (.invokevirtual 40, 3) := by decide +kernel
theorem d_M_inverse_58 : decode c_M_inverse 58 = .ok (.aload_n 0, 1) := by decide +kernel
theorem d_M_inverse_59 : decode c_M_inverse 59 = .ok (.iload_n 2, 1) := by decide +kernel
theorem d_M_inverse_60 : decode c_M_inverse 60 = .ok (.iload_n 3, 1) := by decide +kernel
theorem d_M_inverse_61 : decode c_M_inverse 61 = .ok (.bipush 18, 2) := by decide +kernel
theorem d_M_inverse_63 : decode c_M_inverse 63 = .ok (.invokevirtual 115, 3) := by decide +kernel
theorem d_M_inverse_66 : decode c_M_inverse 66 = .ok (.aload_n 0, 1) := by decide +kernel
theorem d_M_inverse_67 : decode c_M_inverse 67 = .ok (.bipush 12, 2) := by decide +kernel
theorem d_M_inverse_69 : decode c_M_inverse 69 = .ok (.invokevirtual 26, 3) := by decide +kernel
theorem d_M_inverse_72 : decode c_M_inverse 72 = .ok (.aload_n 0, 1) := by decide +kernel
theorem d_M_inverse_73 : decode c_M_inverse 73 = .ok (.bipush 13, 2) := by decide +kernel
theorem d_M_inverse_75 : decode c_M_inverse 75 = .ok (.iconst 1, 1) := by decide +kernel
theorem d_M_inverse_76 : decode c_M_inverse 76 = .ok (.invokevirtual 93, 3) := by decide +kernel
theorem d_M_inverse_79 : decode c_M_inverse 79 = .ok (.aload_n 0, 1) := by decide +kernel
theorem d_M_inverse_80 : decode c_M_inverse 80 = .ok (.getfield 13, 3) := by decide +kernel
theorem d_M_inverse_83 : decode c_M_inverse 83 = .ok (.bipush 18, 2) := by decide +kernel
theorem d_M_inverse_85 : decode c_M_inverse 85 = .ok (.iaload, 1) := by decide +kernel
theorem d_M_inverse_86 : decode c_M_inverse 86 = .ok (.ifCond .le 95, 3) := by decide +kernel
theorem d_M_inverse_89 : decode c_M_inverse 89 = .ok (.aload_n 0, 1) := by decide +kernel
theorem d_M_inverse_90 : decode c_M_inverse 90 = .ok (.bipush 17, 2) := by decide +kernel
theorem d_M_inverse_92 : decode c_M_inverse 92 = .ok (.bipush 18, 2) := by decide +kernel
theorem d_M_inverse_94 : decode c_M_inverse 94 = .ok (.invokevirtual 56, 3) := by decide +kernel
theorem d_M_inverse_97 : decode c_M_inverse 97 = .ok (.aload_n 0, 1) := by decide +kernel
theorem d_M_inverse_98 : decode c_M_inverse 98 = .ok (.bipush 18, 2) := by decide +kernel
theorem d_M_inverse_100 : decode c_M_inverse 100 = .ok (.bipush 17, 2) := by decide +kernel
theorem d_M_inverse_102 : decode c_M_inverse 102 = .ok (.invokevirtual 40, 3) := by decide +kernel
theorem d_M_inverse_105 : decode c_M_inverse 105 = .ok (.aload_n 0, 1) := by decide +kernel
theorem d_M_inverse_106 : decode c_M_inverse 106 = .ok (.bipush 16, 2) := by decide +kernel
theorem d_M_inverse_108 : decode c_M_inverse 108 = .ok (.bipush 18, 2) := by decide +kernel
theorem d_M_inverse_110 : decode c_M_inverse 110 = .ok (.invokevirtual 40, 3) := by decide +kernel
theorem d_M_inverse_113 : decode c_M_inverse 113 = .ok (.aload_n 0, 1) := by decide +kernel
theorem d_M_inverse_114 : decode c_M_inverse 114 = .ok (.bipush 15, 2) := by decide +kernel
theorem d_M_inverse_116 : decode c_M_inverse 116 = .ok (.bipush 19, 2) := by decide +kernel
theorem d_M_inverse_118 : decode c_M_inverse 118 = .ok (.invokevirtual 40, 3) := by decide +kernel
theorem d_M_inverse_121 : decode c_M_inverse 121 = .ok (.aload_n 0, 1) := by decide +kernel
theorem d_M_inverse_122 : decode c_M_inverse 122 = .ok (.bipush 19, 2) := by decide +kernel
theorem d_M_inverse_124 : decode c_M_inverse 124 = .ok (.bipush 13, 2) := by decide +kernel
theorem d_M_inverse_126 : decode c_M_inverse 126 = .ok (.iload_n 3, 1) := by decide +kernel
theorem d_M_inverse_127 : decode c_M_inverse 127 = .ok (.bipush 19, 2) := by decide +kernel
theorem d_M_inverse_129 : decode c_M_inverse 129 = .ok (.invokevirtual 118, 3) := by decide +kernel
theorem d_M_inverse_132 : decode c_M_inverse 132 = .ok (.aload_n 0, 1) := by decide +kernel
theorem d_M_inverse_133 : decode c_M_inverse 133 = .ok (.bipush 12, 2) := by decide +kernel
theorem d_M_inverse_135 : decode c_M_inverse 135 = .ok (.bipush 19, 2) := by decide +kernel
theorem d_M_inverse_137 : decode c_M_inverse 137 = .ok (.invokevirtual 79, 3) := by decide +kernel
theorem d_M_inverse_140 : decode c_M_inverse 140 = .ok (.ifCond .ge 12, 3) := by decide +kernel
theorem d_M_inverse_143 : decode c_M_inverse 143 = .ok (.aload_n 0, 1) := by decide +kernel
theorem d_M_inverse_144 : decode c_M_inverse 144 = .ok (.bipush 12, 2) := by decide +kernel
theorem d_M_inverse_146 : decode c_M_inverse 146 = .ok (.iload_n 3, 1) := by decide +kernel
theorem d_M_inverse_147 : decode c_M_inverse 147 = .ok (.bipush 12, 2) := by decide +kernel
theorem d_M_inverse_149 : decode c_M_inverse 149 = .ok (.invokevirtual 83, 3) := by decide +kernel
theorem d_M_inverse_152 : decode c_M_inverse 152 = .ok (.aload_n 0, 1) := by decide +kernel
theorem d_M_inverse_153 : decode c_M_inverse 153 = .ok (.bipush 12, 2) := by decide +kernel
theorem d_M_inverse_155 : decode c_M_inverse 155 = .ok (.bipush 19, 2) := by decide +kernel
theorem d_M_inverse_157 : decode c_M_inverse 157 = .ok (.bipush 19, 2) := by decide +kernel
theorem d_M_inverse_159 : decode c_M_inverse 159 = .ok (.invokevirtual 59, 3) := by decide +kernel
theorem d_M_inverse_162 : decode c_M_inverse 162 = .ok (.aload_n 0, 1) := by decide +kernel
theorem d_M_inverse_163 : decode c_M_inverse 163 = .ok (.bipush 13, 2) := by decide +kernel
theorem d_M_inverse_165 : decode c_M_inverse 165 = .ok (.bipush 12, 2) := by decide +kernel
theorem d_M_inverse_167 : decode c_M_inverse 167 = .ok (.invokevirtual 40, 3) := by decide +kernel
theorem d_M_inverse_170 : decode c_M_inverse 170 = .ok (.aload_n 0, 1) := by decide +kernel
theorem d_M_inverse_171 : decode c_M_inverse 171 = .ok (.bipush 19, 2) := by decide +kernel
theorem d_M_inverse_173 : decode c_M_inverse 173 = .ok (.bipush 13, 2) := by decide +kernel
theorem d_M_inverse_175 : decode c_M_inverse 175 = .ok (.invokevirtual 40, 3) := by decide +kernel
theorem d_M_inverse_178 : decode c_M_inverse 178 = .ok (.goto (-99), 3) := by decide +kernel
theorem d_M_inverse_181 : decode c_M_inverse 181 = .ok (.aload_n 0, 1) := by decide +kernel
theorem d_M_inverse_182 : decode c_M_inverse 182 = .ok (.bipush 19, 2) := by decide +kernel
theorem d_M_inverse_184 : decode c_M_inverse 184 = .ok (.iconst 1, 1) := by decide +kernel
theorem d_M_inverse_185 : decode c_M_inverse 185 = .ok (.invokevirtual 93, 3) := by decide +kernel
theorem d_M_inverse_188 : decode c_M_inverse 188 = .ok (.aload_n 0, 1) := by decide +kernel
theorem d_M_inverse_189 : decode c_M_inverse 189 = .ok (.aload_n 0, 1) := by decide +kernel
theorem d_M_inverse_190 : decode c_M_inverse 190 = .ok (.bipush 17, 2) := by decide +kernel
theorem d_M_inverse_192 : decode c_M_inverse 192 = .ok (.bipush 19, 2) := by decide +kernel
theorem d_M_inverse_194 : decode c_M_inverse 194 = .ok (.invokevirtual 79, 3) := by decide +kernel
theorem d_M_inverse_197 : decode c_M_inverse 197 = .ok (.ifCond .ne 7, 3) := by decide +kernel
theorem d_M_inverse_200 : decode c_M_inverse 200 = .ok (.iconst 0, 1) := by decide +kernel
theorem d_M_inverse_201 : decode c_M_inverse 201 = .ok (.goto 4, 3) := by decide +kernel
theorem d_M_inverse_204 : decode c_M_inverse 204 = .ok (.iconst 3, 1) := by decide +kernel
theorem d_M_inverse_205 : decode c_M_inverse 205 = .ok (.putfield 22, 3) := by decide +kernel
theorem d_M_inverse_208 : decode c_M_inverse 208 = .ok (.aload_n 0, 1) := by decide +kernel
theorem d_M_inverse_209 : decode c_M_inverse 209 = .ok (.getfield 22, 3) := by decide +kernel
theorem d_M_inverse_212 : decode c_M_inverse 212 = .ok (.ifCond .ne 11, 3) := by decide +kernel
theorem d_M_inverse_215 : decode c_M_inverse 215 = .ok (.aload_n 0, 1) := by decide +kernel
theorem d_M_inverse_216 : decode c_M_inverse 216 = .ok (.bipush 12, 2) := by decide +kernel
theorem d_M_inverse_218 : decode c_M_inverse 218 = .ok (.iload_n 1, 1) := by decide +kernel
theorem d_M_inverse_219 : decode c_M_inverse 219 = .ok (.iconst 1, 1) := by decide +kernel
theorem d_M_inverse_220 : decode c_M_inverse 220 = .ok (.invokevirtual 73, 3) := by decide +kernel
theorem d_M_inverse_223 : decode c_M_inverse 223 = .ok (.return_, 1) := by decide +kernel
theorem d_M_is_0 : decode c_M_is 0 = .ok (.iload_n 0, 1) := by decide +kernel
theorem d_M_is_1 : decode c_M_is 1 = .ok (.ifCond .lt 13, 3) := by decide +kernel
theorem d_M_is_4 : decode c_M_is 4 = .ok (.iload_n 0, 1) := by decide +kernel
theorem d_M_is_5 : decode c_M_is 5 = .ok (.bipush 12, 2) := by decide +kernel
theorem d_M_is_7 : decode c_M_is 7 = .ok (.if_icmp .ge 7, 3) := by decide +kernel
theorem d_M_is_10 : decode c_M_is 10 = .ok (.iconst 1, 1) := by decide +kernel
theorem d_M_is_11 : decode c_M_is 11 = .ok (.goto 4, 3) := by decide +kernel
theorem d_M_is_14 : decode c_M_is 14 = .ok (.iconst 0, 1) := by decide +kernel
theorem d_M_is_15 : decode c_M_is 15 = .ok (.ireturn, 1) := by decide +kernel
theorem d_M_isGreat_0 : decode c_M_isGreat 0 = .ok (.aload_n 0, 1) := by decide +kernel
theorem d_M_isGreat_1 : decode c_M_isGreat 1 = .ok (.getfield 13, 3) := by decide +kernel
theorem d_M_isGreat_4 : decode c_M_isGreat 4 = .ok (.iload_n 1, 1) := by decide +kernel
theorem d_M_isGreat_5 : decode c_M_isGreat 5 = .ok (.iaload, 1) := by decide +kernel
theorem d_M_isGreat_6 : decode c_M_isGreat 6 = .ok (.bipush 52, 2) := by decide +kernel
theorem d_M_isGreat_8 : decode c_M_isGreat 8 = .ok (.if_icmp .gt 31, 3) := by decide +kernel
theorem d_M_isGreat_11 : decode c_M_isGreat 11 = .ok (.aload_n 0, 1) := by decide +kernel
theorem d_M_isGreat_12 : decode c_M_isGreat 12 = .ok (.getfield 13, 3) := by decide +kernel
theorem d_M_isGreat_15 : decode c_M_isGreat 15 = .ok (.iload_n 1, 1) := by decide +kernel
theorem d_M_isGreat_16 : decode c_M_isGreat 16 = .ok (.iaload, 1) := by decide +kernel
theorem d_M_isGreat_17 : decode c_M_isGreat 17 = .ok (.bipush 52, 2) := by decide +kernel
theorem d_M_isGreat_19 : decode c_M_isGreat 19 = .ok (.if_icmp .ne 24, 3) := by decide +kernel
theorem d_M_isGreat_22 : decode c_M_isGreat 22 = .ok (.aload_n 0, 1) := by decide +kernel
theorem d_M_isGreat_23 : decode c_M_isGreat 23 = .ok (.getfield 7, 3) := by decide +kernel
theorem d_M_isGreat_26 : decode c_M_isGreat 26 = .ok (.bipush 108, 2) := by decide +kernel
theorem d_M_isGreat_28 : decode c_M_isGreat 28 = .ok (.iload_n 1, 1) := by decide +kernel
theorem d_M_isGreat_29 : decode c_M_isGreat 29 = .ok (.imul, 1) := by decide +kernel
theorem d_M_isGreat_30 : decode c_M_isGreat 30 = .ok (.bipush 51, 2) := by decide +kernel
theorem d_M_isGreat_32 : decode c_M_isGreat 32 = .ok (.iadd, 1) := by decide +kernel
theorem d_M_isGreat_33 : decode c_M_isGreat 33 = .ok (.iaload, 1) := by decide +kernel
theorem d_M_isGreat_34 : decode c_M_isGreat 34 = .ok (.bipush 15, 2) := by decide +kernel
theorem d_M_isGreat_36 : decode c_M_isGreat 36 = .ok (.if_icmp .le 7, 3) := by decide +kernel
theorem d_M_isGreat_39 : decode c_M_isGreat 39 = .ok (.iconst 1, 1) := by decide +kernel
theorem d_M_isGreat_40 : decode c_M_isGreat 40 = .ok (.goto 4, 3) := by decide +kernel
theorem d_M_isGreat_43 : decode c_M_isGreat 43 = .ok (.iconst 0, 1) := by decide +kernel
theorem d_M_isGreat_44 : decode c_M_isGreat 44 = .ok (.ireturn, 1) := by decide +kernel
theorem d_M_join_0 : decode c_M_join 0 = .ok (.aload_n 0, 1) := by decide +kernel
theorem d_M_join_1 : decode c_M_join 1 = .ok (.iload_n 2, 1) := by decide +kernel
theorem d_M_join_2 : decode c_M_join 2 = .ok (.iload_n 3, 1) := by decide +kernel
theorem d_M_join_3 : decode c_M_join 3 = .ok (.invokevirtual 79, 3) := by decide +kernel
theorem d_M_join_6 : decode c_M_join 6 = .ok (.istore 5, 2) := by decide +kernel
theorem d_M_join_8 : decode c_M_join 8 = .ok (.aload_n 0, 1) := by decide +kernel
theorem d_M_join_9 : decode c_M_join 9 = .ok (.getfield 16, 3) := by decide +kernel
theorem d_M_join_12 : decode c_M_join 12 = .ok (.iload_n 2, 1) := by decide +kernel
theorem d_M_join_13 : decode c_M_join 13 = .ok (.iaload, 1) := by decide +kernel
theorem d_M_join_14 : decode c_M_join 14 = .ok (.iload 4, 2) := by decide +kernel
theorem d_M_join_16 : decode c_M_join 16 = .ok (.imul, 1) := by decide +kernel
theorem d_M_join_17 : decode c_M_join 17 = .ok (.ifCond .lt 42, 3) := by decide +kernel
theorem d_M_join_20 : decode c_M_join 20 = .ok (.aload_n 0, 1) := by decide +kernel
theorem d_M_join_21 : decode c_M_join 21 = .ok (.iload_n 2, 1) := by decide +kernel
theorem d_M_join_22 : decode c_M_join 22 = .ok (.iload_n 3, 1) := by decide +kernel
theorem d_M_join_23 : decode c_M_join 23 = .ok (.bipush 12, 2) := by decide +kernel
theorem d_M_join_25 : decode c_M_join 25 = .ok (.invokevirtual 83, 3) := by decide +kernel
theorem d_M_join_28 : decode c_M_join 28 = .ok (.aload_n 0, 1) := by decide +kernel
theorem d_M_join_29 : decode c_M_join 29 = .ok (.bipush 12, 2) := by decide +kernel
theorem d_M_join_31 : decode c_M_join 31 = .ok (.iload_n 1, 1) := by decide +kernel
theorem d_M_join_32 : decode c_M_join 32 = .ok (.aload_n 0, 1) := by decide +kernel
theorem d_M_join_33 : decode c_M_join 33 = .ok (.getfield 16, 3) := by decide +kernel
theorem d_M_join_36 : decode c_M_join 36 = .ok (.iload_n 2, 1) := by decide +kernel
theorem d_M_join_37 : decode c_M_join 37 = .ok (.iaload, 1) := by decide +kernel
theorem d_M_join_38 : decode c_M_join 38 = .ok (.ifCond .eq 12, 3) := by decide +kernel
theorem d_M_join_41 : decode c_M_join 41 = .ok (.aload_n 0, 1) := by decide +kernel
theorem d_M_join_42 : decode c_M_join 42 = .ok (.getfield 16, 3) := by decide +kernel
theorem d_M_join_45 : decode c_M_join 45 = .ok (.iload_n 2, 1) := by decide +kernel
theorem d_M_join_46 : decode c_M_join 46 = .ok (.iaload, 1) := by decide +kernel
theorem d_M_join_47 : decode c_M_join 47 = .ok (.goto 5, 3) := by decide +kernel
theorem d_M_join_50 : decode c_M_join 50 = .ok (.iload 4, 2) := by decide +kernel
theorem d_M_join_52 : decode c_M_join 52 = .ok (.iconst 2, 1) := by decide +kernel
theorem d_M_join_53 : decode c_M_join 53 = .ok (.invokevirtual 86, 3) := by decide +kernel
theorem d_M_join_56 : decode c_M_join 56 = .ok (.goto 51, 3) := by decide +kernel
theorem d_M_join_59 : decode c_M_join 59 = .ok (.iload 5, 2) := by decide +kernel
theorem d_M_join_61 : decode c_M_join 61 = .ok (.ifCond .lt 28, 3) := by decide +kernel
theorem d_M_join_64 : decode c_M_join 64 = .ok (.aload_n 0, 1) := by decide +kernel
theorem d_M_join_65 : decode c_M_join 65 = .ok (.iload_n 2, 1) := by decide +kernel
theorem d_M_join_66 : decode c_M_join 66 = .ok (.iload_n 3, 1) := by decide +kernel
theorem d_M_join_67 : decode c_M_join 67 = .ok (.bipush 12, 2) := by decide +kernel
theorem d_M_join_69 : decode c_M_join 69 = .ok (.invokevirtual 59, 3) := by decide +kernel
theorem d_M_join_72 : decode c_M_join 72 = .ok (.aload_n 0, 1) := by decide +kernel
theorem d_M_join_73 : decode c_M_join 73 = .ok (.bipush 12, 2) := by decide +kernel
theorem d_M_join_75 : decode c_M_join 75 = .ok (.iload_n 1, 1) := by decide +kernel
theorem d_M_join_76 : decode c_M_join 76 = .ok (.aload_n 0, 1) := by decide +kernel
theorem d_M_join_77 : decode c_M_join 77 = .ok (.getfield 16, 3) := by decide +kernel
theorem d_M_join_80 : decode c_M_join 80 = .ok (.iload_n 2, 1) := by decide +kernel
theorem d_M_join_81 : decode c_M_join 81 = .ok (.iaload, 1) := by decide +kernel
theorem d_M_join_82 : decode c_M_join 82 = .ok (.iconst 2, 1) := by decide +kernel
theorem d_M_join_83 : decode c_M_join 83 = .ok (.invokevirtual 86, 3) := by decide +kernel
theorem d_M_join_86 : decode c_M_join 86 = .ok (.goto 21, 3) := by decide +kernel
theorem d_M_join_89 : decode c_M_join 89 = .ok (.aload_n 0, 1) := by decide +kernel
theorem d_M_join_90 : decode c_M_join 90 = .ok (.iload_n 3, 1) := by decide +kernel
theorem d_M_join_91 : decode c_M_join 91 = .ok (.iload_n 2, 1) := by decide +kernel
theorem d_M_join_92 : decode c_M_join 92 = .ok (.bipush 12, 2) := by decide +kernel
theorem d_M_join_94 : decode c_M_join 94 = .ok (.invokevirtual 59, 3) := by decide +kernel
theorem d_M_join_97 : decode c_M_join 97 = .ok (.aload_n 0, 1) := by decide +kernel
theorem d_M_join_98 : decode c_M_join 98 = .ok (.bipush 12, 2) := by decide +kernel
theorem d_M_join_100 : decode c_M_join 100 = .ok (.iload_n 1, 1) := by decide +kernel
theorem d_M_join_101 : decode c_M_join 101 = .ok (.iload 4, 2) := by decide +kernel
theorem d_M_join_103 : decode c_M_join 103 = .ok (.iconst 2, 1) := by decide +kernel
theorem d_M_join_104 : decode c_M_join 104 = .ok (.invokevirtual 86, 3) := by decide +kernel
theorem d_M_join_107 : decode c_M_join 107 = .ok (.return_, 1) := by decide +kernel
theorem d_M_low_0 : decode c_M_low 0 = .ok (.aload_n 0, 1) := by decide +kernel
theorem d_M_low_1 : decode c_M_low 1 = .ok (.iload_n 1, 1) := by decide +kernel
theorem d_M_low_2 : decode c_M_low 2 = .ok (.invokestatic 66, 3) := by decide +kernel
theorem d_M_low_5 : decode c_M_low 5 = .ok (.ifCond .eq 7, 3) := by decide +kernel
theorem d_M_low_8 : decode c_M_low 8 = .ok (.iconst 0, 1) := by decide +kernel
theorem d_M_low_9 : decode c_M_low 9 = .ok (.goto 4, 3) := by decide +kernel
theorem d_M_low_12 : decode c_M_low 12 = .ok (.iconst 1, 1) := by decide +kernel
theorem d_M_low_13 : decode c_M_low 13 = .ok (.putfield 22, 3) := by decide +kernel
theorem d_M_low_16 : decode c_M_low 16 = .ok (.lconst 0, 1) := by decide +kernel
theorem d_M_low_17 : decode c_M_low 17 = .ok (.lstore_n 2, 1) := by decide +kernel
theorem d_M_low_18 : decode c_M_low 18 = .ok (.iconst 0, 1) := by decide +kernel
theorem d_M_low_19 : decode c_M_low 19 = .ok (.istore 4, 2) := by decide +kernel
theorem d_M_low_21 : decode c_M_low 21 = .ok (.iload 4, 2) := by decide +kernel
theorem d_M_low_23 : decode c_M_low 23 = .ok (.iconst 4, 1) := by decide +kernel
theorem d_M_low_24 : decode c_M_low 24 = .ok (.if_icmp .ge 38, 3) := by decide +kernel
theorem d_M_low_27 : decode c_M_low 27 = .ok (.aload_n 0, 1) := by decide +kernel
theorem d_M_low_28 : decode c_M_low 28 = .ok (.getfield 22, 3) := by decide +kernel
theorem d_M_low_31 : decode c_M_low 31 = .ok (.ifCond .ne 31, 3) := by decide +kernel
theorem d_M_low_34 : decode c_M_low 34 = .ok (.lload_n 2, 1) := by decide +kernel
theorem d_M_low_35 : decode c_M_low 35 = .ok (.aload_n 0, 1) := by decide +kernel
theorem d_M_low_36 : decode c_M_low 36 = .ok (.getfield 7, 3) := by decide +kernel
theorem d_M_low_39 : decode c_M_low 39 = .ok (.bipush 108, 2) := by decide +kernel
theorem d_M_low_41 : decode c_M_low 41 = .ok (.iload_n 1, 1) := by decide +kernel
theorem d_M_low_42 : decode c_M_low 42 = .ok (.imul, 1) := by decide +kernel
theorem d_M_low_43 : decode c_M_low 43 = .ok (.iload 4, 2) := by decide +kernel
theorem d_M_low_45 : decode c_M_low 45 = .ok (.iadd, 1) := by decide +kernel
theorem d_M_low_46 : decode c_M_low 46 = .ok (.iaload, 1) := by decide +kernel
theorem d_M_low_47 : decode c_M_low 47 = .ok (.i2l, 1) := by decide +kernel
theorem d_M_low_48 : decode c_M_low 48 = .ok (.bipush 20, 2) := by decide +kernel
theorem d_M_low_50 : decode c_M_low 50 = .ok (.iload 4, 2) := by decide +kernel
theorem d_M_low_52 : decode c_M_low 52 = .ok (.imul, 1) := by decide +kernel
theorem d_M_low_53 : decode c_M_low 53 = .ok (.lshl, 1) := by decide +kernel
theorem d_M_low_54 : decode c_M_low 54 = .ok (.lor, 1) := by decide +kernel
theorem d_M_low_55 : decode c_M_low 55 = .ok (.lstore_n 2, 1) := by decide +kernel
theorem d_M_low_56 : decode c_M_low 56 = .ok (.iinc 4 1, 3) := by decide +kernel
theorem d_M_low_59 : decode c_M_low 59 = .ok (.goto (-38), 3) := by decide +kernel
theorem d_M_low_62 : decode c_M_low 62 = .ok (.aload_n 0, 1) := by decide +kernel
theorem d_M_low_63 : decode c_M_low 63 = .ok (.getfield 22, 3) := by decide +kernel
theorem d_M_low_66 : decode c_M_low 66 = .ok (.ifCond .ne 17, 3) := by decide +kernel
theorem d_M_low_69 : decode c_M_low 69 = .ok (.aload_n 0, 1) := by decide +kernel
theorem d_M_low_70 : decode c_M_low 70 = .ok (.getfield 16, 3) := by decide +kernel
theorem d_M_low_73 : decode c_M_low 73 = .ok (.iload_n 1, 1) := by decide +kernel
theorem d_M_low_74 : decode c_M_low 74 = .ok (.iaload, 1) := by decide +kernel
theorem d_M_low_75 : decode c_M_low 75 = .ok (.ifCond .ge 8, 3) := by decide +kernel
theorem d_M_low_78 : decode c_M_low 78 = .ok (.lload_n 2, 1) := by decide +kernel
theorem d_M_low_79 : decode c_M_low 79 = .ok (.lneg, 1) := by decide +kernel
theorem d_M_low_80 : decode c_M_low 80 = .ok (.goto 4, 3) := by decide +kernel
theorem d_M_low_83 : decode c_M_low 83 = .ok (.lload_n 2, 1) := by decide +kernel
theorem d_M_low_84 : decode c_M_low 84 = .ok (.lreturn, 1) := by decide +kernel
theorem d_M_minus_0 : decode c_M_minus 0 = .ok (.iconst 0, 1) := by decide +kernel
theorem d_M_minus_1 : decode c_M_minus 1 = .ok (.istore 4, 2) := by decide +kernel
theorem d_M_minus_3 : decode c_M_minus 3 = .ok (.iconst 0, 1) := by decide +kernel
theorem d_M_minus_4 : decode c_M_minus 4 = .ok (.istore 5, 2) := by decide +kernel
theorem d_M_minus_6 : decode c_M_minus 6 = .ok (.iload 5, 2) := by decide +kernel
theorem d_M_minus_8 : decode c_M_minus 8 = .ok (.bipush 108, 2) := by decide +kernel
theorem d_M_minus_10 : decode c_M_minus 10 = .ok (.if_icmp .ge 63, 3) := by decide +kernel
theorem d_M_minus_13 : decode c_M_minus 13 = .ok (.aload_n 0, 1) := by decide +kernel
theorem d_M_minus_14 : decode c_M_minus 14 = .ok (.getfield 7, 3) := by decide +kernel
theorem d_M_minus_17 : decode c_M_minus 17 = .ok (.bipush 108, 2) := by decide +kernel
theorem d_M_minus_19 : decode c_M_minus 19 = .ok (.iload_n 1, 1) := by decide +kernel
theorem d_M_minus_20 : decode c_M_minus 20 = .ok (.imul, 1) := by decide +kernel
theorem d_M_minus_21 : decode c_M_minus 21 = .ok (.iload 5, 2) := by decide +kernel
theorem d_M_minus_23 : decode c_M_minus 23 = .ok (.iadd, 1) := by decide +kernel
theorem d_M_minus_24 : decode c_M_minus 24 = .ok (.iaload, 1) := by decide +kernel
theorem d_M_minus_25 : decode c_M_minus 25 = .ok (.aload_n 0, 1) := by decide +kernel
theorem d_M_minus_26 : decode c_M_minus 26 = .ok (.getfield 7, 3) := by decide +kernel
theorem d_M_minus_29 : decode c_M_minus 29 = .ok (.bipush 108, 2) := by decide +kernel
theorem d_M_minus_31 : decode c_M_minus 31 = .ok (.iload_n 2, 1) := by decide +kernel
theorem d_M_minus_32 : decode c_M_minus 32 = .ok (.imul, 1) := by decide +kernel
theorem d_M_minus_33 : decode c_M_minus 33 = .ok (.iload 5, 2) := by decide +kernel
theorem d_M_minus_35 : decode c_M_minus 35 = .ok (.iadd, 1) := by decide +kernel
theorem d_M_minus_36 : decode c_M_minus 36 = .ok (.iaload, 1) := by decide +kernel
theorem d_M_minus_37 : decode c_M_minus 37 = .ok (.isub, 1) := by decide +kernel
theorem d_M_minus_38 : decode c_M_minus 38 = .ok (.iload 4, 2) := by decide +kernel
theorem d_M_minus_40 : decode c_M_minus 40 = .ok (.iadd, 1) := by decide +kernel
theorem d_M_minus_41 : decode c_M_minus 41 = .ok (.istore 6, 2) := by decide +kernel
theorem d_M_minus_43 : decode c_M_minus 43 = .ok (.aload_n 0, 1) := by decide +kernel
theorem d_M_minus_44 : decode c_M_minus 44 = .ok (.getfield 7, 3) := by decide +kernel
theorem d_M_minus_47 : decode c_M_minus 47 = .ok (.bipush 108, 2) := by decide +kernel
theorem d_M_minus_49 : decode c_M_minus 49 = .ok (.iload_n 3, 1) := by decide +kernel
theorem d_M_minus_50 : decode c_M_minus 50 = .ok (.imul, 1) := by decide +kernel
theorem d_M_minus_51 : decode c_M_minus 51 = .ok (.iload 5, 2) := by decide +kernel
theorem d_M_minus_53 : decode c_M_minus 53 = .ok (.iadd, 1) := by decide +kernel
theorem d_M_minus_54 : decode c_M_minus 54 = .ok (.iload 6, 2) := by decide +kernel
theorem d_M_minus_56 : decode c_M_minus 56 = .ok (.ldc 33, 2) := by decide +kernel
theorem d_M_minus_58 : decode c_M_minus 58 = .ok (.iand, 1) := by decide +kernel
theorem d_M_minus_59 : decode c_M_minus 59 = .ok (.iastore, 1) := by decide +kernel
theorem d_M_minus_60 : decode c_M_minus 60 = .ok (.iload 6, 2) := by decide +kernel
theorem d_M_minus_62 : decode c_M_minus 62 = .ok (.bipush 20, 2) := by decide +kernel
theorem d_M_minus_64 : decode c_M_minus 64 = .ok (.ishr, 1) := by decide +kernel
theorem d_M_minus_65 : decode c_M_minus 65 = .ok (.istore 4, 2) := by decide +kernel
theorem d_M_minus_67 : decode c_M_minus 67 = .ok (.iinc 5 1, 3) := by decide +kernel
theorem d_M_minus_70 : decode c_M_minus 70 = .ok (.goto (-64), 3) := by decide +kernel
theorem d_M_minus_73 : decode c_M_minus 73 = .ok (.aload_n 0, 1) := by decide +kernel
theorem d_M_minus_74 : decode c_M_minus 74 = .ok (.iload_n 3, 1) := by decide +kernel
theorem d_M_minus_75 : decode c_M_minus 75 = .ok (.invokevirtual 30, 3) := by decide +kernel
theorem d_M_minus_78 : decode c_M_minus 78 = .ok (.return_, 1) := by decide +kernel
theorem d_M_move_0 : decode c_M_move 0 = .ok (.iconst 0, 1) := by decide +kernel
theorem d_M_move_1 : decode c_M_move 1 = .ok (.istore_n 3, 1) := by decide +kernel
theorem d_M_move_2 : decode c_M_move 2 = .ok (.iload_n 3, 1) := by decide +kernel
theorem d_M_move_3 : decode c_M_move 3 = .ok (.bipush 108, 2) := by decide +kernel
theorem d_M_move_5 : decode c_M_move 5 = .ok (.if_icmp .ge 31, 3) := by decide +kernel
theorem d_M_move_8 : decode c_M_move 8 = .ok (.aload_n 0, 1) := by decide +kernel
theorem d_M_move_9 : decode c_M_move 9 = .ok (.getfield 7, 3) := by decide +kernel
theorem d_M_move_12 : decode c_M_move 12 = .ok (.bipush 108, 2) := by decide +kernel
theorem d_M_move_14 : decode c_M_move 14 = .ok (.iload_n 2, 1) := by decide +kernel
theorem d_M_move_15 : decode c_M_move 15 = .ok (.imul, 1) := by decide +kernel
theorem d_M_move_16 : decode c_M_move 16 = .ok (.iload_n 3, 1) := by decide +kernel
theorem d_M_move_17 : decode c_M_move 17 = .ok (.iadd, 1) := by decide +kernel
theorem d_M_move_18 : decode c_M_move 18 = .ok (.aload_n 0, 1) := by decide +kernel
theorem d_M_move_19 : decode c_M_move 19 = .ok (.getfield 7, 3) := by decide +kernel
theorem d_M_move_22 : decode c_M_move 22 = .ok (.bipush 108, 2) := by decide +kernel
theorem d_M_move_24 : decode c_M_move 24 = .ok (.iload_n 1, 1) := by decide +kernel
theorem d_M_move_25 : decode c_M_move 25 = .ok (.imul, 1) := by decide +kernel
theorem d_M_move_26 : decode c_M_move 26 = .ok (.iload_n 3, 1) := by decide +kernel
theorem d_M_move_27 : decode c_M_move 27 = .ok (.iadd, 1) := by decide +kernel
theorem d_M_move_28 : decode c_M_move 28 = .ok (.iaload, 1) := by decide +kernel
theorem d_M_move_29 : decode c_M_move 29 = .ok (.iastore, 1) := by decide +kernel
theorem d_M_move_30 : decode c_M_move 30 = .ok (.iinc 3 1, 3) := by decide +kernel
theorem d_M_move_33 : decode c_M_move 33 = .ok (.goto (-31), 3) := by decide +kernel
theorem d_M_move_36 : decode c_M_move 36 = .ok (.aload_n 0, 1) := by decide +kernel
theorem d_M_move_37 : decode c_M_move 37 = .ok (.getfield 13, 3) := by decide +kernel
theorem d_M_move_40 : decode c_M_move 40 = .ok (.iload_n 2, 1) := by decide +kernel
theorem d_M_move_41 : decode c_M_move 41 = .ok (.aload_n 0, 1) := by decide +kernel
theorem d_M_move_42 : decode c_M_move 42 = .ok (.getfield 13, 3) := by decide +kernel
theorem d_M_move_45 : decode c_M_move 45 = .ok (.iload_n 1, 1) := by decide +kernel
theorem d_M_move_46 : decode c_M_move 46 = .ok (.iaload, 1) := by decide +kernel
theorem d_M_move_47 : decode c_M_move 47 = .ok (.iastore, 1) := by decide +kernel
theorem d_M_move_48 : decode c_M_move 48 = .ok (.return_, 1) := by decide +kernel
theorem d_M_multiply_0 : decode c_M_multiply 0 = .ok (.aload_n 0, 1) := by decide +kernel
theorem d_M_multiply_1 : decode c_M_multiply 1 = .ok (.iload_n 1, 1) := by decide +kernel
theorem d_M_multiply_2 : decode c_M_multiply 2 = .ok (.iload_n 2, 1) := by decide +kernel
theorem d_M_multiply_3 : decode c_M_multiply 3 = .ok (.iload_n 3, 1) := by decide +kernel
theorem d_M_multiply_4 : decode c_M_multiply 4 = .ok (.invokevirtual 76, 3) := by decide +kernel
theorem d_M_multiply_7 : decode c_M_multiply 7 = .ok (.ifCond .eq 32, 3) := by decide +kernel
theorem d_M_multiply_10 : decode c_M_multiply 10 = .ok (.aload_n 0, 1) := by decide +kernel
theorem d_M_multiply_11 : decode c_M_multiply 11 = .ok (.iload_n 2, 1) := by decide +kernel
theorem d_M_multiply_12 : decode c_M_multiply 12 = .ok (.iload_n 3, 1) := by decide +kernel
theorem d_M_multiply_13 : decode c_M_multiply 13 = .ok (.bipush 14, 2) := by decide +kernel
theorem d_M_multiply_15 : decode c_M_multiply 15 = .ok (.invokevirtual 63, 3) := by decide +kernel
theorem d_M_multiply_18 : decode c_M_multiply 18 = .ok (.aload_n 0, 1) := by decide +kernel
theorem d_M_multiply_19 : decode c_M_multiply 19 = .ok (.bipush 14, 2) := by decide +kernel
theorem d_M_multiply_21 : decode c_M_multiply 21 = .ok (.iload_n 1, 1) := by decide +kernel
theorem d_M_multiply_22 : decode c_M_multiply 22 = .ok (.aload_n 0, 1) := by decide +kernel
theorem d_M_multiply_23 : decode c_M_multiply 23 = .ok (.getfield 16, 3) := by decide +kernel
theorem d_M_multiply_26 : decode c_M_multiply 26 = .ok (.iload_n 2, 1) := by decide +kernel
theorem d_M_multiply_27 : decode c_M_multiply 27 = .ok (.iaload, 1) := by decide +kernel
theorem d_M_multiply_28 : decode c_M_multiply 28 = .ok (.aload_n 0, 1) := by decide +kernel
theorem d_M_multiply_29 : decode c_M_multiply 29 = .ok (.getfield 16, 3) := by decide +kernel
theorem d_M_multiply_32 : decode c_M_multiply 32 = .ok (.iload_n 3, 1) := by decide +kernel
theorem d_M_multiply_33 : decode c_M_multiply 33 = .ok (.iaload, 1) := by decide +kernel
theorem d_M_multiply_34 : decode c_M_multiply 34 = .ok (.imul, 1) := by decide +kernel
theorem d_M_multiply_35 : decode c_M_multiply 35 = .ok (.iconst 2, 1) := by decide +kernel
theorem d_M_multiply_36 : decode c_M_multiply 36 = .ok (.invokevirtual 86, 3) := by decide +kernel
theorem d_M_multiply_39 : decode c_M_multiply 39 = .ok (.return_, 1) := by decide +kernel
theorem d_M_order_0 : decode c_M_order 0 = .ok (.aload_n 0, 1) := by decide +kernel
theorem d_M_order_1 : decode c_M_order 1 = .ok (.getfield 13, 3) := by decide +kernel
theorem d_M_order_4 : decode c_M_order 4 = .ok (.iload_n 1, 1) := by decide +kernel
theorem d_M_order_5 : decode c_M_order 5 = .ok (.iaload, 1) := by decide +kernel
theorem d_M_order_6 : decode c_M_order 6 = .ok (.aload_n 0, 1) := by decide +kernel
theorem d_M_order_7 : decode c_M_order 7 = .ok (.getfield 13, 3) := by decide +kernel
theorem d_M_order_10 : decode c_M_order 10 = .ok (.iload_n 2, 1) := by decide +kernel
theorem d_M_order_11 : decode c_M_order 11 = .ok (.iaload, 1) := by decide +kernel
theorem d_M_order_12 : decode c_M_order 12 = .ok (.if_icmp .eq 24, 3) := by decide +kernel
theorem d_M_order_15 : decode c_M_order 15 = .ok (.aload_n 0, 1) := by decide +kernel
theorem d_M_order_16 : decode c_M_order 16 = .ok (.getfield 13, 3) := by decide +kernel
theorem d_M_order_19 : decode c_M_order 19 = .ok (.iload_n 1, 1) := by decide +kernel
theorem d_M_order_20 : decode c_M_order 20 = .ok (.iaload, 1) := by decide +kernel
theorem d_M_order_21 : decode c_M_order 21 = .ok (.aload_n 0, 1) := by decide +kernel
theorem d_M_order_22 : decode c_M_order 22 = .ok (.getfield 13, 3) := by decide +kernel
theorem d_M_order_25 : decode c_M_order 25 = .ok (.iload_n 2, 1) := by decide +kernel
theorem d_M_order_26 : decode c_M_order 26 = .ok (.iaload, 1) := by decide +kernel
theorem d_M_order_27 : decode c_M_order 27 = .ok (.if_icmp .ge 7, 3) := by decide +kernel
theorem d_M_order_30 : decode c_M_order 30 = .ok (.iconst (-1), 1) := by decide +kernel
theorem d_M_order_31 : decode c_M_order 31 = .ok (.goto 4, 3) := by decide +kernel
theorem d_M_order_34 : decode c_M_order 34 = .ok (.iconst 1, 1) := by decide +kernel
theorem d_M_order_35 : decode c_M_order 35 = .ok (.ireturn, 1) := by decide +kernel
theorem d_M_order_36 : decode c_M_order 36 = .ok (.aload_n 0, 1) := by decide +kernel
theorem d_M_order_37 : decode c_M_order 37 = .ok (.getfield 13, 3) := by decide +kernel
theorem d_M_order_40 : decode c_M_order 40 = .ok (.iload_n 1, 1) := by decide +kernel
theorem d_M_order_41 : decode c_M_order 41 = .ok (.iaload, 1) := by decide +kernel
theorem d_M_order_42 : decode c_M_order 42 = .ok (.iconst 1, 1) := by decide +kernel
theorem d_M_order_43 : decode c_M_order 43 = .ok (.isub, 1) := by decide +kernel
theorem d_M_order_44 : decode c_M_order 44 = .ok (.istore_n 3, 1) := by decide +kernel
theorem d_M_order_45 : decode c_M_order 45 = .ok (.iload_n 3, 1) := by decide +kernel
theorem d_M_order_46 : decode c_M_order 46 = .ok (.ifCond .lt 55, 3) := by decide +kernel
theorem d_M_order_49 : decode c_M_order 49 = .ok (.aload_n 0, 1) := by decide +kernel
theorem d_M_order_50 : decode c_M_order 50 = .ok (.getfield 7, 3) := by decide +kernel
theorem d_M_order_53 : decode c_M_order 53 = .ok (.bipush 108, 2) := by decide +kernel
theorem d_M_order_55 : decode c_M_order 55 = .ok (.iload_n 1, 1) := by decide +kernel
theorem d_M_order_56 : decode c_M_order 56 = .ok (.imul, 1) := by decide +kernel
theorem d_M_order_57 : decode c_M_order 57 = .ok (.iload_n 3, 1) := by decide +kernel
theorem d_M_order_58 : decode c_M_order 58 = .ok (.iadd, 1) := by decide +kernel
theorem d_M_order_59 : decode c_M_order 59 = .ok (.iaload, 1) := by decide +kernel
theorem d_M_order_60 : decode c_M_order 60 = .ok (.istore 4, 2) := by decide +kernel
theorem d_M_order_62 : decode c_M_order 62 = .ok (.aload_n 0, 1) := by decide +kernel
theorem d_M_order_63 : decode c_M_order 63 = .ok (.getfield 7, 3) := by decide +kernel
theorem d_M_order_66 : decode c_M_order 66 = .ok (.bipush 108, 2) := by decide +kernel
theorem d_M_order_68 : decode c_M_order 68 = .ok (.iload_n 2, 1) := by decide +kernel
theorem d_M_order_69 : decode c_M_order 69 = .ok (.imul, 1) := by decide +kernel
theorem d_M_order_70 : decode c_M_order 70 = .ok (.iload_n 3, 1) := by decide +kernel
theorem d_M_order_71 : decode c_M_order 71 = .ok (.iadd, 1) := by decide +kernel
theorem d_M_order_72 : decode c_M_order 72 = .ok (.iaload, 1) := by decide +kernel
theorem d_M_order_73 : decode c_M_order 73 = .ok (.istore 5, 2) := by decide +kernel
theorem d_M_order_75 : decode c_M_order 75 = .ok (.iload 4, 2) := by decide +kernel
theorem d_M_order_77 : decode c_M_order 77 = .ok (.iload 5, 2) := by decide +kernel
theorem d_M_order_79 : decode c_M_order 79 = .ok (.if_icmp .eq 16, 3) := by decide +kernel
theorem d_M_order_82 : decode c_M_order 82 = .ok (.iload 4, 2) := by decide +kernel
theorem d_M_order_84 : decode c_M_order 84 = .ok (.iload 5, 2) := by decide +kernel
theorem d_M_order_86 : decode c_M_order 86 = .ok (.if_icmp .ge 7, 3) := by decide +kernel
theorem d_M_order_89 : decode c_M_order 89 = .ok (.iconst (-1), 1) := by decide +kernel
theorem d_M_order_90 : decode c_M_order 90 = .ok (.goto 4, 3) := by decide +kernel
theorem d_M_order_93 : decode c_M_order 93 = .ok (.iconst 1, 1) := by decide +kernel
theorem d_M_order_94 : decode c_M_order 94 = .ok (.ireturn, 1) := by decide +kernel
theorem d_M_order_95 : decode c_M_order 95 = .ok (.iinc 3 (-1), 3) := by decide +kernel
theorem d_M_order_98 : decode c_M_order 98 = .ok (.goto (-53), 3) := by decide +kernel
theorem d_M_order_101 : decode c_M_order 101 = .ok (.iconst 0, 1) := by decide +kernel
theorem d_M_order_102 : decode c_M_order 102 = .ok (.ireturn, 1) := by decide +kernel
theorem d_M_parse_0 : decode c_M_parse 0 = .ok (.aload_n 0, 1) := by decide +kernel
theorem d_M_parse_1 : decode c_M_parse 1 = .ok (.getfield 127, 3) := by decide +kernel
theorem d_M_parse_4 : decode c_M_parse 4 = .ok (.ifCond .le 18, 3) := by decide +kernel
theorem d_M_parse_7 : decode c_M_parse 7 = .ok (.aload_n 0, 1) := by decide +kernel
theorem d_M_parse_8 : decode c_M_parse 8 = .ok (.getfield 19, 3) := by decide +kernel
theorem d_M_parse_11 : decode c_M_parse 11 = .ok (.iconst 0, 1) := by decide +kernel
theorem d_M_parse_12 : decode c_M_parse 12 = .ok (.iaload, 1) := by decide +kernel
theorem d_M_parse_13 : decode c_M_parse 13 = .ok (.bipush 45, 2) := by decide +kernel
theorem d_M_parse_15 : decode c_M_parse 15 = .ok (.if_icmp .ne 7, 3) := by decide +kernel
theorem d_M_parse_18 : decode c_M_parse 18 = .ok (.iconst 1, 1) := by decide +kernel
theorem d_M_parse_19 : decode c_M_parse 19 = .ok (.goto 4, 3) := by decide +kernel
theorem d_M_parse_22 : decode c_M_parse 22 = .ok (.iconst 0, 1) := by decide +kernel
theorem d_M_parse_23 : decode c_M_parse 23 = .ok (.istore_n 3, 1) := by decide +kernel
theorem d_M_parse_24 : decode c_M_parse 24 = .ok (.aload_n 0, 1) := by decide +kernel
theorem d_M_parse_25 : decode c_M_parse 25 = .ok (.getfield 127, 3) := by decide +kernel
theorem d_M_parse_28 : decode c_M_parse 28 = .ok (.iload_n 3, 1) := by decide +kernel
theorem d_M_parse_29 : decode c_M_parse 29 = .ok (.if_icmp .le 7, 3) := by decide +kernel
theorem d_M_parse_32 : decode c_M_parse 32 = .ok (.iconst 1, 1) := by decide +kernel
theorem d_M_parse_33 : decode c_M_parse 33 = .ok (.goto 4, 3) := by decide +kernel
theorem d_M_parse_36 : decode c_M_parse 36 = .ok (.iconst 0, 1) := by decide +kernel
theorem d_M_parse_37 : decode c_M_parse 37 = .ok (.istore 4, 2) := by decide +kernel
theorem d_M_parse_39 : decode c_M_parse 39 = .ok (.iload_n 3, 1) := by decide +kernel
theorem d_M_parse_40 : decode c_M_parse 40 = .ok (.istore 5, 2) := by decide +kernel
theorem d_M_parse_42 : decode c_M_parse 42 = .ok (.iload 5, 2) := by decide +kernel
theorem d_M_parse_44 : decode c_M_parse 44 = .ok (.aload_n 0, 1) := by decide +kernel
theorem d_M_parse_45 : decode c_M_parse 45 = .ok (.getfield 127, 3) := by decide +kernel
theorem d_M_parse_48 : decode c_M_parse 48 = .ok (.if_icmp .ge 35, 3) := by decide +kernel
theorem d_M_parse_51 : decode c_M_parse 51 = .ok (.iload 4, 2) := by decide +kernel
theorem d_M_parse_53 : decode c_M_parse 53 = .ok (.ifCond .eq 21, 3) := by decide +kernel
theorem d_M_parse_56 : decode c_M_parse 56 = .ok (.aload_n 0, 1) := by decide +kernel
theorem d_M_parse_57 : decode c_M_parse 57 = .ok (.getfield 19, 3) := by decide +kernel
theorem d_M_parse_60 : decode c_M_parse 60 = .ok (.iload 5, 2) := by decide +kernel
theorem d_M_parse_62 : decode c_M_parse 62 = .ok (.iaload, 1) := by decide +kernel
theorem d_M_parse_63 : decode c_M_parse 63 = .ok (.invokestatic 130, 3) := by decide +kernel
theorem d_M_parse_66 : decode c_M_parse 66 = .ok (.iload_n 2, 1) := by decide +kernel
theorem d_M_parse_67 : decode c_M_parse 67 = .ok (.if_icmp .ge 7, 3) := by decide +kernel
theorem d_M_parse_70 : decode c_M_parse 70 = .ok (.iconst 1, 1) := by decide +kernel
theorem d_M_parse_71 : decode c_M_parse 71 = .ok (.goto 4, 3) := by decide +kernel
theorem d_M_parse_74 : decode c_M_parse 74 = .ok (.iconst 0, 1) := by decide +kernel
theorem d_M_parse_75 : decode c_M_parse 75 = .ok (.istore 4, 2) := by decide +kernel
theorem d_M_parse_77 : decode c_M_parse 77 = .ok (.iinc 5 1, 3) := by decide +kernel
theorem d_M_parse_80 : decode c_M_parse 80 = .ok (.goto (-38), 3) := by decide +kernel
theorem d_M_parse_83 : decode c_M_parse 83 = .ok (.aload_n 0, 1) := by decide +kernel
theorem d_M_parse_84 : decode c_M_parse 84 = .ok (.iload_n 1, 1) := by decide +kernel
theorem d_M_parse_85 : decode c_M_parse 85 = .ok (.invokestatic 66, 3) := by decide +kernel
theorem d_M_parse_88 : decode c_M_parse 88 = .ok (.ifCond .ne 7, 3) := by decide +kernel
theorem d_M_parse_91 : decode c_M_parse 91 = .ok (.iconst 1, 1) := by decide +kernel
theorem d_M_parse_92 : decode c_M_parse 92 = .ok (.goto 28, 3) := by decide +kernel
theorem d_M_parse_95 : decode c_M_parse 95 = .ok (.iload_n 2, 1) := by decide +kernel
theorem d_M_parse_96 : decode c_M_parse 96 = .ok (.iconst 2, 1) := by decide +kernel
theorem d_M_parse_97 : decode c_M_parse 97 = .ok (.if_icmp .lt 9, 3) := by decide +kernel
theorem d_M_parse_100 : decode c_M_parse 100 = .ok (.iload_n 2, 1) := by decide +kernel
theorem d_M_parse_101 : decode c_M_parse 101 = .ok (.bipush 36, 2) := by decide +kernel
theorem d_M_parse_103 : decode c_M_parse 103 = .ok (.if_icmp .le 7, 3) := by decide +kernel
theorem d_M_parse_106 : decode c_M_parse 106 = .ok (.iconst 2, 1) := by decide +kernel
theorem d_M_parse_107 : decode c_M_parse 107 = .ok (.goto 13, 3) := by decide +kernel
theorem d_M_parse_110 : decode c_M_parse 110 = .ok (.iload 4, 2) := by decide +kernel
theorem d_M_parse_112 : decode c_M_parse 112 = .ok (.ifCond .ne 7, 3) := by decide +kernel
theorem d_M_parse_115 : decode c_M_parse 115 = .ok (.iconst 3, 1) := by decide +kernel
theorem d_M_parse_116 : decode c_M_parse 116 = .ok (.goto 4, 3) := by decide +kernel
theorem d_M_parse_119 : decode c_M_parse 119 = .ok (.iconst 0, 1) := by decide +kernel
theorem d_M_parse_120 : decode c_M_parse 120 = .ok (.putfield 22, 3) := by decide +kernel
theorem d_M_parse_123 : decode c_M_parse 123 = .ok (.aload_n 0, 1) := by decide +kernel
theorem d_M_parse_124 : decode c_M_parse 124 = .ok (.bipush 12, 2) := by decide +kernel
theorem d_M_parse_126 : decode c_M_parse 126 = .ok (.invokevirtual 26, 3) := by decide +kernel
theorem d_M_parse_129 : decode c_M_parse 129 = .ok (.iload_n 3, 1) := by decide +kernel
theorem d_M_parse_130 : decode c_M_parse 130 = .ok (.istore 5, 2) := by decide +kernel
theorem d_M_parse_132 : decode c_M_parse 132 = .ok (.iload 5, 2) := by decide +kernel
theorem d_M_parse_134 : decode c_M_parse 134 = .ok (.aload_n 0, 1) := by decide +kernel
theorem d_M_parse_135 : decode c_M_parse 135 = .ok (.getfield 127, 3) := by decide +kernel
theorem d_M_parse_138 : decode c_M_parse 138 = .ok (.if_icmp .ge 49, 3) := by decide +kernel
theorem d_M_parse_141 : decode c_M_parse 141 = .ok (.aload_n 0, 1) := by decide +kernel
theorem d_M_parse_142 : decode c_M_parse 142 = .ok (.getfield 22, 3) := by decide +kernel
theorem d_M_parse_145 : decode c_M_parse 145 = .ok (.ifCond .ne 42, 3) := by decide +kernel
theorem d_M_parse_148 : decode c_M_parse 148 = .ok (.aload_n 0, 1) := by decide +kernel
theorem d_M_parse_149 : decode c_M_parse 149 = .ok (.iload_n 2, 1) := by decide +kernel
theorem d_M_parse_150 : decode c_M_parse 150 = .ok (.aload_n 0, 1) := by decide +kernel
theorem d_M_parse_151 : decode c_M_parse 151 = .ok (.getfield 19, 3) := by decide +kernel
theorem d_M_parse_154 : decode c_M_parse 154 = .ok (.iload 5, 2) := by decide +kernel
theorem d_M_parse_156 : decode c_M_parse 156 = .ok (.iaload, 1) := by decide +kernel
theorem d_M_parse_157 : decode c_M_parse 157 = .ok (.invokestatic 130, 3) := by decide +kernel
theorem d_M_parse_160 : decode c_M_parse 160 = .ok (.invokevirtual 133, 3) := by decide +kernel
theorem d_M_parse_163 : decode c_M_parse 163 = .ok (.aload_n 0, 1) := by decide +kernel
theorem d_M_parse_164 : decode c_M_parse 164 = .ok (.aload_n 0, 1) := by decide +kernel
theorem d_M_parse_165 : decode c_M_parse 165 = .ok (.bipush 12, 2) := by decide +kernel
theorem d_M_parse_167 : decode c_M_parse 167 = .ok (.invokevirtual 70, 3) := by decide +kernel
theorem d_M_parse_170 : decode c_M_parse 170 = .ok (.ifCond .eq 7, 3) := by decide +kernel
theorem d_M_parse_173 : decode c_M_parse 173 = .ok (.iconst 4, 1) := by decide +kernel
theorem d_M_parse_174 : decode c_M_parse 174 = .ok (.goto 4, 3) := by decide +kernel
theorem d_M_parse_177 : decode c_M_parse 177 = .ok (.iconst 0, 1) := by decide +kernel
theorem d_M_parse_178 : decode c_M_parse 178 = .ok (.putfield 22, 3) := by decide +kernel
theorem d_M_parse_181 : decode c_M_parse 181 = .ok (.iinc 5 1, 3) := by decide +kernel
theorem d_M_parse_184 : decode c_M_parse 184 = .ok (.goto (-52), 3) := by decide +kernel
theorem d_M_parse_187 : decode c_M_parse 187 = .ok (.aload_n 0, 1) := by decide +kernel
theorem d_M_parse_188 : decode c_M_parse 188 = .ok (.getfield 22, 3) := by decide +kernel
theorem d_M_parse_191 : decode c_M_parse 191 = .ok (.ifCond .le 5, 3) := by decide +kernel
theorem d_M_parse_194 : decode c_M_parse 194 = .ok (.iconst 0, 1) := by decide +kernel
theorem d_M_parse_195 : decode c_M_parse 195 = .ok (.ireturn, 1) := by decide +kernel
theorem d_M_parse_196 : decode c_M_parse 196 = .ok (.aload_n 0, 1) := by decide +kernel
theorem d_M_parse_197 : decode c_M_parse 197 = .ok (.bipush 12, 2) := by decide +kernel
theorem d_M_parse_199 : decode c_M_parse 199 = .ok (.iload_n 1, 1) := by decide +kernel
theorem d_M_parse_200 : decode c_M_parse 200 = .ok (.iload_n 3, 1) := by decide +kernel
theorem d_M_parse_201 : decode c_M_parse 201 = .ok (.iconst 1, 1) := by decide +kernel
theorem d_M_parse_202 : decode c_M_parse 202 = .ok (.if_icmp .ne 7, 3) := by decide +kernel
theorem d_M_parse_205 : decode c_M_parse 205 = .ok (.iconst (-1), 1) := by decide +kernel
theorem d_M_parse_206 : decode c_M_parse 206 = .ok (.goto 4, 3) := by decide +kernel
theorem d_M_parse_209 : decode c_M_parse 209 = .ok (.iconst 1, 1) := by decide +kernel
theorem d_M_parse_210 : decode c_M_parse 210 = .ok (.invokevirtual 73, 3) := by decide +kernel
theorem d_M_parse_213 : decode c_M_parse 213 = .ok (.aload_n 0, 1) := by decide +kernel
theorem d_M_parse_214 : decode c_M_parse 214 = .ok (.getfield 127, 3) := by decide +kernel
theorem d_M_parse_217 : decode c_M_parse 217 = .ok (.iload_n 3, 1) := by decide +kernel
theorem d_M_parse_218 : decode c_M_parse 218 = .ok (.isub, 1) := by decide +kernel
theorem d_M_parse_219 : decode c_M_parse 219 = .ok (.istore 5, 2) := by decide +kernel
theorem d_M_parse_221 : decode c_M_parse 221 = .ok (.aload_n 0, 1) := by decide +kernel
theorem d_M_parse_222 : decode c_M_parse 222 = .ok (.iconst 0, 1) := by decide +kernel
theorem d_M_parse_223 : decode c_M_parse 223 = .ok (.putfield 127, 3) := by decide +kernel
theorem d_M_parse_226 : decode c_M_parse 226 = .ok (.iload 5, 2) := by decide +kernel
theorem d_M_parse_228 : decode c_M_parse 228 = .ok (.ireturn, 1) := by decide +kernel
theorem d_M_plus_0 : decode c_M_plus 0 = .ok (.iconst 0, 1) := by decide +kernel
theorem d_M_plus_1 : decode c_M_plus 1 = .ok (.istore 4, 2) := by decide +kernel
theorem d_M_plus_3 : decode c_M_plus 3 = .ok (.iconst 0, 1) := by decide +kernel
theorem d_M_plus_4 : decode c_M_plus 4 = .ok (.istore 5, 2) := by decide +kernel
theorem d_M_plus_6 : decode c_M_plus 6 = .ok (.iload 5, 2) := by decide +kernel
theorem d_M_plus_8 : decode c_M_plus 8 = .ok (.bipush 108, 2) := by decide +kernel
theorem d_M_plus_10 : decode c_M_plus 10 = .ok (.if_icmp .ge 63, 3) := by decide +kernel
theorem d_M_plus_13 : decode c_M_plus 13 = .ok (.aload_n 0, 1) := by decide +kernel
theorem d_M_plus_14 : decode c_M_plus 14 = .ok (.getfield 7, 3) := by decide +kernel
theorem d_M_plus_17 : decode c_M_plus 17 = .ok (.bipush 108, 2) := by decide +kernel
theorem d_M_plus_19 : decode c_M_plus 19 = .ok (.iload_n 1, 1) := by decide +kernel
theorem d_M_plus_20 : decode c_M_plus 20 = .ok (.imul, 1) := by decide +kernel
theorem d_M_plus_21 : decode c_M_plus 21 = .ok (.iload 5, 2) := by decide +kernel
theorem d_M_plus_23 : decode c_M_plus 23 = .ok (.iadd, 1) := by decide +kernel
theorem d_M_plus_24 : decode c_M_plus 24 = .ok (.iaload, 1) := by decide +kernel
theorem d_M_plus_25 : decode c_M_plus 25 = .ok (.aload_n 0, 1) := by decide +kernel
theorem d_M_plus_26 : decode c_M_plus 26 = .ok (.getfield 7, 3) := by decide +kernel
theorem d_M_plus_29 : decode c_M_plus 29 = .ok (.bipush 108, 2) := by decide +kernel
theorem d_M_plus_31 : decode c_M_plus 31 = .ok (.iload_n 2, 1) := by decide +kernel
theorem d_M_plus_32 : decode c_M_plus 32 = .ok (.imul, 1) := by decide +kernel
theorem d_M_plus_33 : decode c_M_plus 33 = .ok (.iload 5, 2) := by decide +kernel
theorem d_M_plus_35 : decode c_M_plus 35 = .ok (.iadd, 1) := by decide +kernel
theorem d_M_plus_36 : decode c_M_plus 36 = .ok (.iaload, 1) := by decide +kernel
theorem d_M_plus_37 : decode c_M_plus 37 = .ok (.iadd, 1) := by decide +kernel
theorem d_M_plus_38 : decode c_M_plus 38 = .ok (.iload 4, 2) := by decide +kernel
theorem d_M_plus_40 : decode c_M_plus 40 = .ok (.iadd, 1) := by decide +kernel
theorem d_M_plus_41 : decode c_M_plus 41 = .ok (.istore 6, 2) := by decide +kernel
theorem d_M_plus_43 : decode c_M_plus 43 = .ok (.aload_n 0, 1) := by decide +kernel
theorem d_M_plus_44 : decode c_M_plus 44 = .ok (.getfield 7, 3) := by decide +kernel
theorem d_M_plus_47 : decode c_M_plus 47 = .ok (.bipush 108, 2) := by decide +kernel
theorem d_M_plus_49 : decode c_M_plus 49 = .ok (.iload_n 3, 1) := by decide +kernel
theorem d_M_plus_50 : decode c_M_plus 50 = .ok (.imul, 1) := by decide +kernel
theorem d_M_plus_51 : decode c_M_plus 51 = .ok (.iload 5, 2) := by decide +kernel
theorem d_M_plus_53 : decode c_M_plus 53 = .ok (.iadd, 1) := by decide +kernel
theorem d_M_plus_54 : decode c_M_plus 54 = .ok (.iload 6, 2) := by decide +kernel
theorem d_M_plus_56 : decode c_M_plus 56 = .ok (.ldc 33, 2) := by decide +kernel
theorem d_M_plus_58 : decode c_M_plus 58 = .ok (.iand, 1) := by decide +kernel
theorem d_M_plus_59 : decode c_M_plus 59 = .ok (.iastore, 1) := by decide +kernel
theorem d_M_plus_60 : decode c_M_plus 60 = .ok (.iload 6, 2) := by decide +kernel
theorem d_M_plus_62 : decode c_M_plus 62 = .ok (.bipush 20, 2) := by decide +kernel
theorem d_M_plus_64 : decode c_M_plus 64 = .ok (.ishr, 1) := by decide +kernel
theorem d_M_plus_65 : decode c_M_plus 65 = .ok (.istore 4, 2) := by decide +kernel
theorem d_M_plus_67 : decode c_M_plus 67 = .ok (.iinc 5 1, 3) := by decide +kernel
theorem d_M_plus_70 : decode c_M_plus 70 = .ok (.goto (-64), 3) := by decide +kernel
theorem d_M_plus_73 : decode c_M_plus 73 = .ok (.aload_n 0, 1) := by decide +kernel
theorem d_M_plus_74 : decode c_M_plus 74 = .ok (.iload_n 3, 1) := by decide +kernel
theorem d_M_plus_75 : decode c_M_plus 75 = .ok (.invokevirtual 30, 3) := by decide +kernel
theorem d_M_plus_78 : decode c_M_plus 78 = .ok (.return_, 1) := by decide +kernel
theorem d_M_power_0 : decode c_M_power 0 = .ok (.aload_n 0, 1) := by decide +kernel
theorem d_M_power_1 : decode c_M_power 1 = .ok (.iload_n 1, 1) := by decide +kernel
theorem d_M_power_2 : decode c_M_power 2 = .ok (.invokestatic 66, 3) := by decide +kernel
theorem d_M_power_5 : decode c_M_power 5 = .ok (.ifCond .eq 25, 3) := by decide +kernel
theorem d_M_power_8 : decode c_M_power 8 = .ok (.iload_n 2, 1) := by decide +kernel
theorem d_M_power_9 : decode c_M_power 9 = .ok (.invokestatic 66, 3) := by decide +kernel
theorem d_M_power_12 : decode c_M_power 12 = .ok (.ifCond .eq 18, 3) := by decide +kernel
theorem d_M_power_15 : decode c_M_power 15 = .ok (.iload_n 3, 1) := by decide +kernel
theorem d_M_power_16 : decode c_M_power 16 = .ok (.invokestatic 66, 3) := by decide +kernel
theorem d_M_power_19 : decode c_M_power 19 = .ok (.ifCond .eq 11, 3) := by decide +kernel
theorem d_M_power_22 : decode c_M_power 22 = .ok (.iload 4, 2) := by decide +kernel
theorem d_M_power_24 : decode c_M_power 24 = .ok (.invokestatic 66, 3) := by decide +kernel
theorem d_M_power_27 : decode c_M_power 27 = .ok (.ifCond .ne 7, 3) := by decide +kernel
theorem d_M_power_30 : decode c_M_power 30 = .ok (.iconst 1, 1) := by decide +kernel
theorem d_M_power_31 : decode c_M_power 31 = .ok (.goto 27, 3) := by decide +kernel
theorem d_M_power_34 : decode c_M_power 34 = .ok (.aload_n 0, 1) := by decide +kernel
theorem d_M_power_35 : decode c_M_power 35 = .ok (.getfield 16, 3) := by decide +kernel
theorem d_M_power_38 : decode c_M_power 38 = .ok (.iload 4, 2) := by decide +kernel
theorem d_M_power_40 : decode c_M_power 40 = .ok (.iaload, 1) := by decide +kernel
theorem d_M_power_41 : decode c_M_power 41 = .ok (.ifCond .le 12, 3) := by decide +kernel
theorem d_M_power_44 : decode c_M_power 44 = .ok (.aload_n 0, 1) := by decide +kernel
theorem d_M_power_45 : decode c_M_power 45 = .ok (.getfield 16, 3) := by decide +kernel
theorem d_M_power_48 : decode c_M_power 48 = .ok (.iload_n 3, 1) := by decide +kernel
theorem d_M_power_49 : decode c_M_power 49 = .ok (.iaload, 1) := by decide +kernel
theorem d_M_power_50 : decode c_M_power 50 = .ok (.ifCond .ge 7, 3) := by decide +kernel
theorem d_M_power_53 : decode c_M_power 53 = .ok (.iconst 2, 1) := by decide +kernel
theorem d_M_power_54 : decode c_M_power 54 = .ok (.goto 4, 3) := by decide +kernel
theorem d_M_power_57 : decode c_M_power 57 = .ok (.iconst 0, 1) := by decide +kernel
theorem d_M_power_58 : decode c_M_power 58 = .ok (.putfield 22, 3) := by decide +kernel
theorem d_M_power_61 : decode c_M_power 61 = .ok (.aload_n 0, 1) := by decide +kernel
theorem d_M_power_62 : decode c_M_power 62 = .ok (.getfield 22, 3) := by decide +kernel
theorem d_M_power_65 : decode c_M_power 65 = .ok (.ifCond .le 4, 3) := by decide +kernel
theorem d_M_power_68 : decode c_M_power 68 = .ok (.return_, 1) := by decide +kernel
theorem d_M_power_69 : decode c_M_power 69 = .ok (.aload_n 0, 1) := by decide +kernel
theorem d_M_power_70 : decode c_M_power 70 = .ok (.iload_n 2, 1) := by decide +kernel
theorem d_M_power_71 : decode c_M_power 71 = .ok (.iload 4, 2) := by decide +kernel
theorem d_M_power_73 : decode c_M_power 73 = .ok (.bipush 17, 2) := by decide +kernel
theorem d_M_power_75 : decode c_M_power 75 = .ok (.invokevirtual 115, 3) := by decide +kernel
theorem d_M_power_78 : decode c_M_power 78 = .ok (.aload_n 0, 1) := by decide +kernel
theorem d_M_power_79 : decode c_M_power 79 = .ok (.bipush 12, 2) := by decide +kernel
theorem d_M_power_81 : decode c_M_power 81 = .ok (.iconst 1, 1) := by decide +kernel
theorem d_M_power_82 : decode c_M_power 82 = .ok (.invokevirtual 93, 3) := by decide +kernel
theorem d_M_power_85 : decode c_M_power 85 = .ok (.aload_n 0, 1) := by decide +kernel
theorem d_M_power_86 : decode c_M_power 86 = .ok (.bipush 12, 2) := by decide +kernel
theorem d_M_power_88 : decode c_M_power 88 = .ok (.iload 4, 2) := by decide +kernel
theorem d_M_power_90 : decode c_M_power 90 = .ok (.invokevirtual 56, 3) := by decide +kernel
theorem d_M_power_93 : decode c_M_power 93 = .ok (.aload_n 0, 1) := by decide +kernel
theorem d_M_power_94 : decode c_M_power 94 = .ok (.bipush 16, 2) := by decide +kernel
theorem d_M_power_96 : decode c_M_power 96 = .ok (.bipush 18, 2) := by decide +kernel
theorem d_M_power_98 : decode c_M_power 98 = .ok (.invokevirtual 40, 3) := by decide +kernel
theorem d_M_power_101 : decode c_M_power 101 = .ok (.aload_n 0, 1) := by decide +kernel
theorem d_M_power_102 : decode c_M_power 102 = .ok (.iload_n 3, 1) := by decide +kernel
theorem d_M_power_103 : decode c_M_power 103 = .ok (.invokevirtual 96, 3) := by decide +kernel
theorem d_M_power_106 : decode c_M_power 106 = .ok (.iconst 1, 1) := by decide +kernel
theorem d_M_power_107 : decode c_M_power 107 = .ok (.isub, 1) := by decide +kernel
theorem d_M_power_108 : decode c_M_power 108 = .ok (.istore 5, 2) := by decide +kernel
theorem d_M_power_110 : decode c_M_power 110 = .ok (.iload 5, 2) := by decide +kernel
theorem d_M_power_112 : decode c_M_power 112 = .ok (.ifCond .lt 43, 3) := by decide +kernel
theorem d_M_power_115 : decode c_M_power 115 = .ok (.aload_n 0, 1) := by decide +kernel
theorem d_M_power_116 : decode c_M_power 116 = .ok (.bipush 18, 2) := by decide +kernel
theorem d_M_power_118 : decode c_M_power 118 = .ok (.bipush 18, 2) := by decide +kernel
theorem d_M_power_120 : decode c_M_power 120 = .ok (.iload 4, 2) := by decide +kernel
theorem d_M_power_122 : decode c_M_power 122 = .ok (.bipush 18, 2) := by decide +kernel
theorem d_M_power_124 : decode c_M_power 124 = .ok (.invokevirtual 118, 3) := by decide +kernel
theorem d_M_power_127 : decode c_M_power 127 = .ok (.aload_n 0, 1) := by decide +kernel
theorem d_M_power_128 : decode c_M_power 128 = .ok (.iload_n 3, 1) := by decide +kernel
theorem d_M_power_129 : decode c_M_power 129 = .ok (.iload 5, 2) := by decide +kernel
theorem d_M_power_131 : decode c_M_power 131 = .ok (.invokevirtual 100, 3) := by decide +kernel
theorem d_M_power_134 : decode c_M_power 134 = .ok (.ifCond .eq 15, 3) := by decide +kernel
theorem d_M_power_137 : decode c_M_power 137 = .ok (.aload_n 0, 1) := by decide +kernel
theorem d_M_power_138 : decode c_M_power 138 = .ok (.bipush 18, 2) := by decide +kernel
theorem d_M_power_140 : decode c_M_power 140 = .ok (.bipush 17, 2) := by decide +kernel
theorem d_M_power_142 : decode c_M_power 142 = .ok (.iload 4, 2) := by decide +kernel
theorem d_M_power_144 : decode c_M_power 144 = .ok (.bipush 18, 2) := by decide +kernel
theorem d_M_power_146 : decode c_M_power 146 = .ok (.invokevirtual 118, 3) := by decide +kernel
theorem d_M_power_149 : decode c_M_power 149 = .ok (.iinc 5 (-1), 3) := by decide +kernel
theorem d_M_power_152 : decode c_M_power 152 = .ok (.goto (-42), 3) := by decide +kernel
theorem d_M_power_155 : decode c_M_power 155 = .ok (.aload_n 0, 1) := by decide +kernel
theorem d_M_power_156 : decode c_M_power 156 = .ok (.bipush 18, 2) := by decide +kernel
theorem d_M_power_158 : decode c_M_power 158 = .ok (.iload_n 1, 1) := by decide +kernel
theorem d_M_power_159 : decode c_M_power 159 = .ok (.iconst 1, 1) := by decide +kernel
theorem d_M_power_160 : decode c_M_power 160 = .ok (.invokevirtual 73, 3) := by decide +kernel
theorem d_M_power_163 : decode c_M_power 163 = .ok (.return_, 1) := by decide +kernel
theorem d_M_print_0 : decode c_M_print 0 = .ok (.aload_n 0, 1) := by decide +kernel
theorem d_M_print_1 : decode c_M_print 1 = .ok (.iload_n 1, 1) := by decide +kernel
theorem d_M_print_2 : decode c_M_print 2 = .ok (.invokestatic 66, 3) := by decide +kernel
theorem d_M_print_5 : decode c_M_print 5 = .ok (.ifCond .ne 7, 3) := by decide +kernel
theorem d_M_print_8 : decode c_M_print 8 = .ok (.iconst 1, 1) := by decide +kernel
theorem d_M_print_9 : decode c_M_print 9 = .ok (.goto 19, 3) := by decide +kernel
theorem d_M_print_12 : decode c_M_print 12 = .ok (.iload_n 2, 1) := by decide +kernel
theorem d_M_print_13 : decode c_M_print 13 = .ok (.iconst 2, 1) := by decide +kernel
theorem d_M_print_14 : decode c_M_print 14 = .ok (.if_icmp .lt 9, 3) := by decide +kernel
theorem d_M_print_17 : decode c_M_print 17 = .ok (.iload_n 2, 1) := by decide +kernel
theorem d_M_print_18 : decode c_M_print 18 = .ok (.bipush 36, 2) := by decide +kernel
theorem d_M_print_20 : decode c_M_print 20 = .ok (.if_icmp .le 7, 3) := by decide +kernel
theorem d_M_print_23 : decode c_M_print 23 = .ok (.iconst 2, 1) := by decide +kernel
theorem d_M_print_24 : decode c_M_print 24 = .ok (.goto 4, 3) := by decide +kernel
theorem d_M_print_27 : decode c_M_print 27 = .ok (.iconst 0, 1) := by decide +kernel
theorem d_M_print_28 : decode c_M_print 28 = .ok (.putfield 22, 3) := by decide +kernel
theorem d_M_print_31 : decode c_M_print 31 = .ok (.aload_n 0, 1) := by decide +kernel
theorem d_M_print_32 : decode c_M_print 32 = .ok (.getfield 22, 3) := by decide +kernel
theorem d_M_print_35 : decode c_M_print 35 = .ok (.ifCond .le 5, 3) := by decide +kernel
theorem d_M_print_38 : decode c_M_print 38 = .ok (.iconst 0, 1) := by decide +kernel
theorem d_M_print_39 : decode c_M_print 39 = .ok (.ireturn, 1) := by decide +kernel
theorem d_M_print_40 : decode c_M_print 40 = .ok (.aload_n 0, 1) := by decide +kernel
theorem d_M_print_41 : decode c_M_print 41 = .ok (.iload_n 1, 1) := by decide +kernel
theorem d_M_print_42 : decode c_M_print 42 = .ok (.bipush 12, 2) := by decide +kernel
theorem d_M_print_44 : decode c_M_print 44 = .ok (.invokevirtual 40, 3) := by decide +kernel
theorem d_M_print_47 : decode c_M_print 47 = .ok (.aload_n 0, 1) := by decide +kernel
theorem d_M_print_48 : decode c_M_print 48 = .ok (.iconst 0, 1) := by decide +kernel
theorem d_M_print_49 : decode c_M_print 49 = .ok (.putfield 127, 3) := by decide +kernel
theorem d_M_print_52 : decode c_M_print 52 = .ok (.aload_n 0, 1) := by decide +kernel
theorem d_M_print_53 : decode c_M_print 53 = .ok (.iload_n 2, 1) := by decide +kernel
theorem d_M_print_54 : decode c_M_print 54 = .ok (.invokevirtual 136, 3) := by decide +kernel
theorem d_M_print_57 : decode c_M_print 57 = .ok (.istore_n 3, 1) := by decide +kernel
theorem d_M_print_58 : decode c_M_print 58 = .ok (.aload_n 0, 1) := by decide +kernel
theorem d_M_print_59 : decode c_M_print 59 = .ok (.getfield 19, 3) := by decide +kernel
theorem d_M_print_62 : decode c_M_print 62 = .ok (.aload_n 0, 1) := by decide +kernel
theorem d_M_print_63 : decode c_M_print 63 = .ok (.getfield 127, 3) := by decide +kernel
theorem d_M_print_66 : decode c_M_print 66 = .ok (.iload_n 3, 1) := by decide +kernel
theorem d_M_print_67 : decode c_M_print 67 = .ok (.bipush 10, 2) := by decide +kernel
theorem d_M_print_69 : decode c_M_print 69 = .ok (.if_icmp .ge 10, 3) := by decide +kernel
theorem d_M_print_72 : decode c_M_print 72 = .ok (.bipush 48, 2) := by decide +kernel
theorem d_M_print_74 : decode c_M_print 74 = .ok (.iload_n 3, 1) := by decide +kernel
theorem d_M_print_75 : decode c_M_print 75 = .ok (.iadd, 1) := by decide +kernel
theorem d_M_print_76 : decode c_M_print 76 = .ok (.goto 7, 3) := by decide +kernel
theorem d_M_print_79 : decode c_M_print 79 = .ok (.bipush 87, 2) := by decide +kernel
theorem d_M_print_81 : decode c_M_print 81 = .ok (.iload_n 3, 1) := by decide +kernel
theorem d_M_print_82 : decode c_M_print 82 = .ok (.iadd, 1) := by decide +kernel
theorem d_M_print_83 : decode c_M_print 83 = .ok (.iastore, 1) := by decide +kernel
theorem d_M_print_84 : decode c_M_print 84 = .ok (.aload_n 0, 1) := by decide +kernel
theorem d_M_print_85 : decode c_M_print 85 = .ok (.dup, 1) := by decide +kernel
theorem d_M_print_86 : decode c_M_print 86 = .ok (.getfield 127, 3) := by decide +kernel
theorem d_M_print_89 : decode c_M_print 89 = .ok (.iconst 1, 1) := by decide +kernel
theorem d_M_print_90 : decode c_M_print 90 = .ok (.iadd, 1) := by decide +kernel
theorem d_M_print_91 : decode c_M_print 91 = .ok (.putfield 127, 3) := by decide +kernel
theorem d_M_print_94 : decode c_M_print 94 = .ok (.aload_n 0, 1) := by decide +kernel
theorem d_M_print_95 : decode c_M_print 95 = .ok (.getfield 13, 3) := by decide +kernel
theorem d_M_print_98 : decode c_M_print 98 = .ok (.bipush 12, 2) := by decide +kernel
theorem d_M_print_100 : decode c_M_print 100 = .ok (.iaload, 1) := by decide +kernel
theorem d_M_print_101 : decode c_M_print 101 = .ok (.ifCond .gt (-49), 3) := by decide +kernel
theorem d_M_print_104 : decode c_M_print 104 = .ok (.aload_n 0, 1) := by decide +kernel
theorem d_M_print_105 : decode c_M_print 105 = .ok (.getfield 16, 3) := by decide +kernel
theorem d_M_print_108 : decode c_M_print 108 = .ok (.iload_n 1, 1) := by decide +kernel
theorem d_M_print_109 : decode c_M_print 109 = .ok (.iaload, 1) := by decide +kernel
theorem d_M_print_110 : decode c_M_print 110 = .ok (.ifCond .ge 24, 3) := by decide +kernel
theorem d_M_print_113 : decode c_M_print 113 = .ok (.aload_n 0, 1) := by decide +kernel
theorem d_M_print_114 : decode c_M_print 114 = .ok (.getfield 19, 3) := by decide +kernel
theorem d_M_print_117 : decode c_M_print 117 = .ok (.aload_n 0, 1) := by decide +kernel
theorem d_M_print_118 : decode c_M_print 118 = .ok (.getfield 127, 3) := by decide +kernel
theorem d_M_print_121 : decode c_M_print 121 = .ok (.bipush 45, 2) := by decide +kernel
theorem d_M_print_123 : decode c_M_print 123 = .ok (.iastore, 1) := by decide +kernel
theorem d_M_print_124 : decode c_M_print 124 = .ok (.aload_n 0, 1) := by decide +kernel
theorem d_M_print_125 : decode c_M_print 125 = .ok (.dup, 1) := by decide +kernel
theorem d_M_print_126 : decode c_M_print 126 = .ok (.getfield 127, 3) := by decide +kernel
theorem d_M_print_129 : decode c_M_print 129 = .ok (.iconst 1, 1) := by decide +kernel
theorem d_M_print_130 : decode c_M_print 130 = .ok (.iadd, 1) := by decide +kernel
theorem d_M_print_131 : decode c_M_print 131 = .ok (.putfield 127, 3) := by decide +kernel
theorem d_M_print_134 : decode c_M_print 134 = .ok (.iconst 0, 1) := by decide +kernel
theorem d_M_print_135 : decode c_M_print 135 = .ok (.istore_n 3, 1) := by decide +kernel
theorem d_M_print_136 : decode c_M_print 136 = .ok (.iload_n 3, 1) := by decide +kernel
theorem d_M_print_137 : decode c_M_print 137 = .ok (.aload_n 0, 1) := by decide +kernel
theorem d_M_print_138 : decode c_M_print 138 = .ok (.getfield 127, 3) := by decide +kernel
theorem d_M_print_141 : decode c_M_print 141 = .ok (.iconst 2, 1) := by decide +kernel
theorem d_M_print_142 : decode c_M_print 142 = .ok (.idiv, 1) := by decide +kernel
theorem d_M_print_143 : decode c_M_print 143 = .ok (.if_icmp .ge 51, 3) := by decide +kernel
theorem d_M_print_146 : decode c_M_print 146 = .ok (.aload_n 0, 1) := by decide +kernel
theorem d_M_print_147 : decode c_M_print 147 = .ok (.getfield 19, 3) := by decide +kernel
theorem d_M_print_150 : decode c_M_print 150 = .ok (.iload_n 3, 1) := by decide +kernel
theorem d_M_print_151 : decode c_M_print 151 = .ok (.iaload, 1) := by decide +kernel
theorem d_M_print_152 : decode c_M_print 152 = .ok (.istore 4, 2) := by decide +kernel
theorem d_M_print_154 : decode c_M_print 154 = .ok (.aload_n 0, 1) := by decide +kernel
theorem d_M_print_155 : decode c_M_print 155 = .ok (.getfield 19, 3) := by decide +kernel
theorem d_M_print_158 : decode c_M_print 158 = .ok (.iload_n 3, 1) := by decide +kernel
theorem d_M_print_159 : decode c_M_print 159 = .ok (.aload_n 0, 1) := by decide +kernel
theorem d_M_print_160 : decode c_M_print 160 = .ok (.getfield 19, 3) := by decide +kernel
theorem d_M_print_163 : decode c_M_print 163 = .ok (.aload_n 0, 1) := by decide +kernel
theorem d_M_print_164 : decode c_M_print 164 = .ok (.getfield 127, 3) := by decide +kernel
theorem d_M_print_167 : decode c_M_print 167 = .ok (.iconst 1, 1) := by decide +kernel
theorem d_M_print_168 : decode c_M_print 168 = .ok (.isub, 1) := by decide +kernel
theorem d_M_print_169 : decode c_M_print 169 = .ok (.iload_n 3, 1) := by decide +kernel
theorem d_M_print_170 : decode c_M_print 170 = .ok (.isub, 1) := by decide +kernel
theorem d_M_print_171 : decode c_M_print 171 = .ok (.iaload, 1) := by decide +kernel
theorem d_M_print_172 : decode c_M_print 172 = .ok (.iastore, 1) := by decide +kernel
theorem d_M_print_173 : decode c_M_print 173 = .ok (.aload_n 0, 1) := by decide +kernel
theorem d_M_print_174 : decode c_M_print 174 = .ok (.getfield 19, 3) := by decide +kernel
theorem d_M_print_177 : decode c_M_print 177 = .ok (.aload_n 0, 1) := by decide +kernel
theorem d_M_print_178 : decode c_M_print 178 = .ok (.getfield 127, 3) := by decide +kernel
theorem d_M_print_181 : decode c_M_print 181 = .ok (.iconst 1, 1) := by decide +kernel
theorem d_M_print_182 : decode c_M_print 182 = .ok (.isub, 1) := by decide +kernel
theorem d_M_print_183 : decode c_M_print 183 = .ok (.iload_n 3, 1) := by decide +kernel
theorem d_M_print_184 : decode c_M_print 184 = .ok (.isub, 1) := by decide +kernel
theorem d_M_print_185 : decode c_M_print 185 = .ok (.iload 4, 2) := by decide +kernel
theorem d_M_print_187 : decode c_M_print 187 = .ok (.iastore, 1) := by decide +kernel
theorem d_M_print_188 : decode c_M_print 188 = .ok (.iinc 3 1, 3) := by decide +kernel
theorem d_M_print_191 : decode c_M_print 191 = .ok (.goto (-55), 3) := by decide +kernel
theorem d_M_print_194 : decode c_M_print 194 = .ok (.aload_n 0, 1) := by decide +kernel
theorem d_M_print_195 : decode c_M_print 195 = .ok (.getfield 127, 3) := by decide +kernel
theorem d_M_print_198 : decode c_M_print 198 = .ok (.ireturn, 1) := by decide +kernel
theorem d_M_raise_0 : decode c_M_raise 0 = .ok (.aload_n 0, 1) := by decide +kernel
theorem d_M_raise_1 : decode c_M_raise 1 = .ok (.getfield 7, 3) := by decide +kernel
theorem d_M_raise_4 : decode c_M_raise 4 = .ok (.bipush 108, 2) := by decide +kernel
theorem d_M_raise_6 : decode c_M_raise 6 = .ok (.iload_n 1, 1) := by decide +kernel
theorem d_M_raise_7 : decode c_M_raise 7 = .ok (.imul, 1) := by decide +kernel
theorem d_M_raise_8 : decode c_M_raise 8 = .ok (.iload_n 2, 1) := by decide +kernel
theorem d_M_raise_9 : decode c_M_raise 9 = .ok (.bipush 20, 2) := by decide +kernel
theorem d_M_raise_11 : decode c_M_raise 11 = .ok (.idiv, 1) := by decide +kernel
theorem d_M_raise_12 : decode c_M_raise 12 = .ok (.iadd, 1) := by decide +kernel
theorem d_M_raise_13 : decode c_M_raise 13 = .ok (.dup2, 1) := by decide +kernel
theorem d_M_raise_14 : decode c_M_raise 14 = .ok (.iaload, 1) := by decide +kernel
theorem d_M_raise_15 : decode c_M_raise 15 = .ok (.iconst 1, 1) := by decide +kernel
theorem d_M_raise_16 : decode c_M_raise 16 = .ok (.iload_n 2, 1) := by decide +kernel
theorem d_M_raise_17 : decode c_M_raise 17 = .ok (.bipush 20, 2) := by decide +kernel
theorem d_M_raise_19 : decode c_M_raise 19 = .ok (.irem, 1) := by decide +kernel
theorem d_M_raise_20 : decode c_M_raise 20 = .ok (.ishl, 1) := by decide +kernel
theorem d_M_raise_21 : decode c_M_raise 21 = .ok (.ior, 1) := by decide +kernel
theorem d_M_raise_22 : decode c_M_raise 22 = .ok (.iastore, 1) := by decide +kernel
theorem d_M_raise_23 : decode c_M_raise 23 = .ok (.return_, 1) := by decide +kernel
theorem d_M_reduce_0 : decode c_M_reduce 0 = .ok (.aload_n 0, 1) := by decide +kernel
theorem d_M_reduce_1 : decode c_M_reduce 1 = .ok (.iload_n 1, 1) := by decide +kernel
theorem d_M_reduce_2 : decode c_M_reduce 2 = .ok (.iload_n 2, 1) := by decide +kernel
theorem d_M_reduce_3 : decode c_M_reduce 3 = .ok (.invokevirtual 56, 3) := by decide +kernel
theorem d_M_reduce_6 : decode c_M_reduce 6 = .ok (.aload_n 0, 1) := by decide +kernel
theorem d_M_reduce_7 : decode c_M_reduce 7 = .ok (.getfield 16, 3) := by decide +kernel
theorem d_M_reduce_10 : decode c_M_reduce 10 = .ok (.iload_n 1, 1) := by decide +kernel
theorem d_M_reduce_11 : decode c_M_reduce 11 = .ok (.iaload, 1) := by decide +kernel
theorem d_M_reduce_12 : decode c_M_reduce 12 = .ok (.ifCond .ge 24, 3) := by decide +kernel
theorem d_M_reduce_15 : decode c_M_reduce 15 = .ok (.aload_n 0, 1) := by decide +kernel
theorem d_M_reduce_16 : decode c_M_reduce 16 = .ok (.getfield 13, 3) := by decide +kernel
theorem d_M_reduce_19 : decode c_M_reduce 19 = .ok (.bipush 16, 2) := by decide +kernel
theorem d_M_reduce_21 : decode c_M_reduce 21 = .ok (.iaload, 1) := by decide +kernel
theorem d_M_reduce_22 : decode c_M_reduce 22 = .ok (.ifCond .le 14, 3) := by decide +kernel
theorem d_M_reduce_25 : decode c_M_reduce 25 = .ok (.aload_n 0, 1) := by decide +kernel
theorem d_M_reduce_26 : decode c_M_reduce 26 = .ok (.iload_n 2, 1) := by decide +kernel
theorem d_M_reduce_27 : decode c_M_reduce 27 = .ok (.bipush 16, 2) := by decide +kernel
theorem d_M_reduce_29 : decode c_M_reduce 29 = .ok (.iload_n 3, 1) := by decide +kernel
theorem d_M_reduce_30 : decode c_M_reduce 30 = .ok (.invokevirtual 59, 3) := by decide +kernel
theorem d_M_reduce_33 : decode c_M_reduce 33 = .ok (.goto 10, 3) := by decide +kernel
theorem d_M_reduce_36 : decode c_M_reduce 36 = .ok (.aload_n 0, 1) := by decide +kernel
theorem d_M_reduce_37 : decode c_M_reduce 37 = .ok (.bipush 16, 2) := by decide +kernel
theorem d_M_reduce_39 : decode c_M_reduce 39 = .ok (.iload_n 3, 1) := by decide +kernel
theorem d_M_reduce_40 : decode c_M_reduce 40 = .ok (.invokevirtual 40, 3) := by decide +kernel
theorem d_M_reduce_43 : decode c_M_reduce 43 = .ok (.return_, 1) := by decide +kernel
theorem d_M_restAt_0 : decode c_M_restAt 0 = .ok (.iload_n 1, 1) := by decide +kernel
theorem d_M_restAt_1 : decode c_M_restAt 1 = .ok (.ifCond .ge 7, 3) := by decide +kernel
theorem d_M_restAt_4 : decode c_M_restAt 4 = .ok (.lconst 0, 1) := by decide +kernel
theorem d_M_restAt_5 : decode c_M_restAt 5 = .ok (.goto 14, 3) := by decide +kernel
theorem d_M_restAt_8 : decode c_M_restAt 8 = .ok (.aload_n 0, 1) := by decide +kernel
theorem d_M_restAt_9 : decode c_M_restAt 9 = .ok (.getfield 7, 3) := by decide +kernel
theorem d_M_restAt_12 : decode c_M_restAt 12 = .ok (.sipush 1728, 3) := by decide +kernel
theorem d_M_restAt_15 : decode c_M_restAt 15 = .ok (.iload_n 1, 1) := by decide +kernel
theorem d_M_restAt_16 : decode c_M_restAt 16 = .ok (.iadd, 1) := by decide +kernel
theorem d_M_restAt_17 : decode c_M_restAt 17 = .ok (.iaload, 1) := by decide +kernel
theorem d_M_restAt_18 : decode c_M_restAt 18 = .ok (.i2l, 1) := by decide +kernel
theorem d_M_restAt_19 : decode c_M_restAt 19 = .ok (.lreturn, 1) := by decide +kernel
theorem d_M_root_0 : decode c_M_root 0 = .ok (.aload_n 0, 1) := by decide +kernel
theorem d_M_root_1 : decode c_M_root 1 = .ok (.iload_n 1, 1) := by decide +kernel
theorem d_M_root_2 : decode c_M_root 2 = .ok (.invokestatic 66, 3) := by decide +kernel
theorem d_M_root_5 : decode c_M_root 5 = .ok (.ifCond .eq 10, 3) := by decide +kernel
theorem d_M_root_8 : decode c_M_root 8 = .ok (.iload_n 2, 1) := by decide +kernel
theorem d_M_root_9 : decode c_M_root 9 = .ok (.invokestatic 66, 3) := by decide +kernel
theorem d_M_root_12 : decode c_M_root 12 = .ok (.ifCond .ne 7, 3) := by decide +kernel
theorem d_M_root_15 : decode c_M_root 15 = .ok (.iconst 1, 1) := by decide +kernel
theorem d_M_root_16 : decode c_M_root 16 = .ok (.goto 26, 3) := by decide +kernel
theorem d_M_root_19 : decode c_M_root 19 = .ok (.iload_n 3, 1) := by decide +kernel
theorem d_M_root_20 : decode c_M_root 20 = .ok (.iconst 1, 1) := by decide +kernel
theorem d_M_root_21 : decode c_M_root 21 = .ok (.if_icmp .ge 7, 3) := by decide +kernel
theorem d_M_root_24 : decode c_M_root 24 = .ok (.iconst 2, 1) := by decide +kernel
theorem d_M_root_25 : decode c_M_root 25 = .ok (.goto 17, 3) := by decide +kernel
theorem d_M_root_28 : decode c_M_root 28 = .ok (.aload_n 0, 1) := by decide +kernel
theorem d_M_root_29 : decode c_M_root 29 = .ok (.getfield 16, 3) := by decide +kernel
theorem d_M_root_32 : decode c_M_root 32 = .ok (.iload_n 2, 1) := by decide +kernel
theorem d_M_root_33 : decode c_M_root 33 = .ok (.iaload, 1) := by decide +kernel
theorem d_M_root_34 : decode c_M_root 34 = .ok (.ifCond .ge 7, 3) := by decide +kernel
theorem d_M_root_37 : decode c_M_root 37 = .ok (.iconst 3, 1) := by decide +kernel
theorem d_M_root_38 : decode c_M_root 38 = .ok (.goto 4, 3) := by decide +kernel
theorem d_M_root_41 : decode c_M_root 41 = .ok (.iconst 0, 1) := by decide +kernel
theorem d_M_root_42 : decode c_M_root 42 = .ok (.putfield 22, 3) := by decide +kernel
theorem d_M_root_45 : decode c_M_root 45 = .ok (.aload_n 0, 1) := by decide +kernel
theorem d_M_root_46 : decode c_M_root 46 = .ok (.getfield 22, 3) := by decide +kernel
theorem d_M_root_49 : decode c_M_root 49 = .ok (.ifCond .le 4, 3) := by decide +kernel
theorem d_M_root_52 : decode c_M_root 52 = .ok (.return_, 1) := by decide +kernel
theorem d_M_root_53 : decode c_M_root 53 = .ok (.aload_n 0, 1) := by decide +kernel
theorem d_M_root_54 : decode c_M_root 54 = .ok (.bipush 17, 2) := by decide +kernel
theorem d_M_root_56 : decode c_M_root 56 = .ok (.invokevirtual 26, 3) := by decide +kernel
theorem d_M_root_59 : decode c_M_root 59 = .ok (.aload_n 0, 1) := by decide +kernel
theorem d_M_root_60 : decode c_M_root 60 = .ok (.getfield 16, 3) := by decide +kernel
theorem d_M_root_63 : decode c_M_root 63 = .ok (.iload_n 2, 1) := by decide +kernel
theorem d_M_root_64 : decode c_M_root 64 = .ok (.iaload, 1) := by decide +kernel
theorem d_M_root_65 : decode c_M_root 65 = .ok (.ifCond .ne 7, 3) := by decide +kernel
theorem d_M_root_68 : decode c_M_root 68 = .ok (.iconst (-1), 1) := by decide +kernel
theorem d_M_root_69 : decode c_M_root 69 = .ok (.goto 12, 3) := by decide +kernel
theorem d_M_root_72 : decode c_M_root 72 = .ok (.aload_n 0, 1) := by decide +kernel
theorem d_M_root_73 : decode c_M_root 73 = .ok (.iload_n 2, 1) := by decide +kernel
theorem d_M_root_74 : decode c_M_root 74 = .ok (.invokevirtual 96, 3) := by decide +kernel
theorem d_M_root_77 : decode c_M_root 77 = .ok (.iconst 1, 1) := by decide +kernel
theorem d_M_root_78 : decode c_M_root 78 = .ok (.isub, 1) := by decide +kernel
theorem d_M_root_79 : decode c_M_root 79 = .ok (.iload_n 3, 1) := by decide +kernel
theorem d_M_root_80 : decode c_M_root 80 = .ok (.idiv, 1) := by decide +kernel
theorem d_M_root_81 : decode c_M_root 81 = .ok (.istore 4, 2) := by decide +kernel
theorem d_M_root_83 : decode c_M_root 83 = .ok (.iload 4, 2) := by decide +kernel
theorem d_M_root_85 : decode c_M_root 85 = .ok (.ifCond .lt 48, 3) := by decide +kernel
theorem d_M_root_88 : decode c_M_root 88 = .ok (.aload_n 0, 1) := by decide +kernel
theorem d_M_root_89 : decode c_M_root 89 = .ok (.bipush 17, 2) := by decide +kernel
theorem d_M_root_91 : decode c_M_root 91 = .ok (.bipush 12, 2) := by decide +kernel
theorem d_M_root_93 : decode c_M_root 93 = .ok (.invokevirtual 40, 3) := by decide +kernel
theorem d_M_root_96 : decode c_M_root 96 = .ok (.aload_n 0, 1) := by decide +kernel
theorem d_M_root_97 : decode c_M_root 97 = .ok (.bipush 12, 2) := by decide +kernel
theorem d_M_root_99 : decode c_M_root 99 = .ok (.iload 4, 2) := by decide +kernel
theorem d_M_root_101 : decode c_M_root 101 = .ok (.invokevirtual 104, 3) := by decide +kernel
theorem d_M_root_104 : decode c_M_root 104 = .ok (.aload_n 0, 1) := by decide +kernel
theorem d_M_root_105 : decode c_M_root 105 = .ok (.bipush 12, 2) := by decide +kernel
theorem d_M_root_107 : decode c_M_root 107 = .ok (.invokevirtual 30, 3) := by decide +kernel
theorem d_M_root_110 : decode c_M_root 110 = .ok (.aload_n 0, 1) := by decide +kernel
theorem d_M_root_111 : decode c_M_root 111 = .ok (.iload_n 2, 1) := by decide +kernel
theorem d_M_root_112 : decode c_M_root 112 = .ok (.iload_n 3, 1) := by decide +kernel
theorem d_M_root_113 : decode c_M_root 113 = .ok (.invokevirtual 112, 3) := by decide +kernel
theorem d_M_root_116 : decode c_M_root 116 = .ok (.ifCond .eq 11, 3) := by decide +kernel
theorem d_M_root_119 : decode c_M_root 119 = .ok (.aload_n 0, 1) := by decide +kernel
theorem d_M_root_120 : decode c_M_root 120 = .ok (.bipush 12, 2) := by decide +kernel
theorem d_M_root_122 : decode c_M_root 122 = .ok (.bipush 17, 2) := by decide +kernel
theorem d_M_root_124 : decode c_M_root 124 = .ok (.invokevirtual 40, 3) := by decide +kernel
theorem d_M_root_127 : decode c_M_root 127 = .ok (.iinc 4 (-1), 3) := by decide +kernel
theorem d_M_root_130 : decode c_M_root 130 = .ok (.goto (-47), 3) := by decide +kernel
theorem d_M_root_133 : decode c_M_root 133 = .ok (.aload_n 0, 1) := by decide +kernel
theorem d_M_root_134 : decode c_M_root 134 = .ok (.bipush 17, 2) := by decide +kernel
theorem d_M_root_136 : decode c_M_root 136 = .ok (.iload_n 1, 1) := by decide +kernel
theorem d_M_root_137 : decode c_M_root 137 = .ok (.iconst 1, 1) := by decide +kernel
theorem d_M_root_138 : decode c_M_root 138 = .ok (.invokevirtual 73, 3) := by decide +kernel
theorem d_M_root_141 : decode c_M_root 141 = .ok (.return_, 1) := by decide +kernel
theorem d_M_set_0 : decode c_M_set 0 = .ok (.aload_n 0, 1) := by decide +kernel
theorem d_M_set_1 : decode c_M_set 1 = .ok (.iload_n 1, 1) := by decide +kernel
theorem d_M_set_2 : decode c_M_set 2 = .ok (.invokestatic 66, 3) := by decide +kernel
theorem d_M_set_5 : decode c_M_set 5 = .ok (.ifCond .eq 7, 3) := by decide +kernel
theorem d_M_set_8 : decode c_M_set 8 = .ok (.iconst 0, 1) := by decide +kernel
theorem d_M_set_9 : decode c_M_set 9 = .ok (.goto 4, 3) := by decide +kernel
theorem d_M_set_12 : decode c_M_set 12 = .ok (.iconst 1, 1) := by decide +kernel
theorem d_M_set_13 : decode c_M_set 13 = .ok (.putfield 22, 3) := by decide +kernel
theorem d_M_set_16 : decode c_M_set 16 = .ok (.aload_n 0, 1) := by decide +kernel
theorem d_M_set_17 : decode c_M_set 17 = .ok (.getfield 22, 3) := by decide +kernel
theorem d_M_set_20 : decode c_M_set 20 = .ok (.ifCond .le 4, 3) := by decide +kernel
theorem d_M_set_23 : decode c_M_set 23 = .ok (.return_, 1) := by decide +kernel
theorem d_M_set_24 : decode c_M_set 24 = .ok (.lload_n 2, 1) := by decide +kernel
theorem d_M_set_25 : decode c_M_set 25 = .ok (.lconst 0, 1) := by decide +kernel
theorem d_M_set_26 : decode c_M_set 26 = .ok (.lcmp, 1) := by decide +kernel
theorem d_M_set_27 : decode c_M_set 27 = .ok (.ifCond .ge 8, 3) := by decide +kernel
theorem d_M_set_30 : decode c_M_set 30 = .ok (.lload_n 2, 1) := by decide +kernel
theorem d_M_set_31 : decode c_M_set 31 = .ok (.lneg, 1) := by decide +kernel
theorem d_M_set_32 : decode c_M_set 32 = .ok (.goto 4, 3) := by decide +kernel
theorem d_M_set_35 : decode c_M_set 35 = .ok (.lload_n 2, 1) := by decide +kernel
theorem d_M_set_36 : decode c_M_set 36 = .ok (.lstore 4, 2) := by decide +kernel
theorem d_M_set_38 : decode c_M_set 38 = .ok (.aload_n 0, 1) := by decide +kernel
theorem d_M_set_39 : decode c_M_set 39 = .ok (.bipush 12, 2) := by decide +kernel
theorem d_M_set_41 : decode c_M_set 41 = .ok (.invokevirtual 26, 3) := by decide +kernel
theorem d_M_set_44 : decode c_M_set 44 = .ok (.iconst 0, 1) := by decide +kernel
theorem d_M_set_45 : decode c_M_set 45 = .ok (.istore 6, 2) := by decide +kernel
theorem d_M_set_47 : decode c_M_set 47 = .ok (.iload 6, 2) := by decide +kernel
theorem d_M_set_49 : decode c_M_set 49 = .ok (.iconst 4, 1) := by decide +kernel
theorem d_M_set_50 : decode c_M_set 50 = .ok (.if_icmp .ge 33, 3) := by decide +kernel
theorem d_M_set_53 : decode c_M_set 53 = .ok (.aload_n 0, 1) := by decide +kernel
theorem d_M_set_54 : decode c_M_set 54 = .ok (.getfield 7, 3) := by decide +kernel
theorem d_M_set_57 : decode c_M_set 57 = .ok (.sipush 1296, 3) := by decide +kernel
theorem d_M_set_60 : decode c_M_set 60 = .ok (.iload 6, 2) := by decide +kernel
theorem d_M_set_62 : decode c_M_set 62 = .ok (.iadd, 1) := by decide +kernel
theorem d_M_set_63 : decode c_M_set 63 = .ok (.lload 4, 2) := by decide +kernel
theorem d_M_set_65 : decode c_M_set 65 = .ok (.bipush 20, 2) := by decide +kernel
theorem d_M_set_67 : decode c_M_set 67 = .ok (.iload 6, 2) := by decide +kernel
theorem d_M_set_69 : decode c_M_set 69 = .ok (.imul, 1) := by decide +kernel
theorem d_M_set_70 : decode c_M_set 70 = .ok (.lushr, 1) := by decide +kernel
theorem d_M_set_71 : decode c_M_set 71 = .ok (.ldc2_w 34, 3) := by decide +kernel
theorem d_M_set_74 : decode c_M_set 74 = .ok (.land, 1) := by decide +kernel
theorem d_M_set_75 : decode c_M_set 75 = .ok (.l2i, 1) := by decide +kernel
theorem d_M_set_76 : decode c_M_set 76 = .ok (.iastore, 1) := by decide +kernel
theorem d_M_set_77 : decode c_M_set 77 = .ok (.iinc 6 1, 3) := by decide +kernel
theorem d_M_set_80 : decode c_M_set 80 = .ok (.goto (-33), 3) := by decide +kernel
theorem d_M_set_83 : decode c_M_set 83 = .ok (.aload_n 0, 1) := by decide +kernel
theorem d_M_set_84 : decode c_M_set 84 = .ok (.bipush 12, 2) := by decide +kernel
theorem d_M_set_86 : decode c_M_set 86 = .ok (.invokevirtual 30, 3) := by decide +kernel
theorem d_M_set_89 : decode c_M_set 89 = .ok (.aload_n 0, 1) := by decide +kernel
theorem d_M_set_90 : decode c_M_set 90 = .ok (.bipush 12, 2) := by decide +kernel
theorem d_M_set_92 : decode c_M_set 92 = .ok (.iload_n 1, 1) := by decide +kernel
theorem d_M_set_93 : decode c_M_set 93 = .ok (.lload_n 2, 1) := by decide +kernel
theorem d_M_set_94 : decode c_M_set 94 = .ok (.lconst 0, 1) := by decide +kernel
theorem d_M_set_95 : decode c_M_set 95 = .ok (.lcmp, 1) := by decide +kernel
theorem d_M_set_96 : decode c_M_set 96 = .ok (.ifCond .ge 7, 3) := by decide +kernel
theorem d_M_set_99 : decode c_M_set 99 = .ok (.iconst (-1), 1) := by decide +kernel
theorem d_M_set_100 : decode c_M_set 100 = .ok (.goto 4, 3) := by decide +kernel
theorem d_M_set_103 : decode c_M_set 103 = .ok (.iconst 1, 1) := by decide +kernel
theorem d_M_set_104 : decode c_M_set 104 = .ok (.invokevirtual 73, 3) := by decide +kernel
theorem d_M_set_107 : decode c_M_set 107 = .ok (.return_, 1) := by decide +kernel
theorem d_M_shift_0 : decode c_M_shift 0 = .ok (.aload_n 0, 1) := by decide +kernel
theorem d_M_shift_1 : decode c_M_shift 1 = .ok (.iload_n 1, 1) := by decide +kernel
theorem d_M_shift_2 : decode c_M_shift 2 = .ok (.iload_n 2, 1) := by decide +kernel
theorem d_M_shift_3 : decode c_M_shift 3 = .ok (.iload_n 2, 1) := by decide +kernel
theorem d_M_shift_4 : decode c_M_shift 4 = .ok (.invokevirtual 76, 3) := by decide +kernel
theorem d_M_shift_7 : decode c_M_shift 7 = .ok (.ifCond .ne 4, 3) := by decide +kernel
theorem d_M_shift_10 : decode c_M_shift 10 = .ok (.return_, 1) := by decide +kernel
theorem d_M_shift_11 : decode c_M_shift 11 = .ok (.aload_n 0, 1) := by decide +kernel
theorem d_M_shift_12 : decode c_M_shift 12 = .ok (.getfield 16, 3) := by decide +kernel
theorem d_M_shift_15 : decode c_M_shift 15 = .ok (.iload_n 2, 1) := by decide +kernel
theorem d_M_shift_16 : decode c_M_shift 16 = .ok (.iaload, 1) := by decide +kernel
theorem d_M_shift_17 : decode c_M_shift 17 = .ok (.ifCond .eq 25, 3) := by decide +kernel
theorem d_M_shift_20 : decode c_M_shift 20 = .ok (.aload_n 0, 1) := by decide +kernel
theorem d_M_shift_21 : decode c_M_shift 21 = .ok (.iload_n 2, 1) := by decide +kernel
theorem d_M_shift_22 : decode c_M_shift 22 = .ok (.invokevirtual 96, 3) := by decide +kernel
theorem d_M_shift_25 : decode c_M_shift 25 = .ok (.i2l, 1) := by decide +kernel
theorem d_M_shift_26 : decode c_M_shift 26 = .ok (.iload_n 3, 1) := by decide +kernel
theorem d_M_shift_27 : decode c_M_shift 27 = .ok (.i2l, 1) := by decide +kernel
theorem d_M_shift_28 : decode c_M_shift 28 = .ok (.ladd, 1) := by decide +kernel
theorem d_M_shift_29 : decode c_M_shift 29 = .ok (.ldc2_w 107, 3) := by decide +kernel
theorem d_M_shift_32 : decode c_M_shift 32 = .ok (.lcmp, 1) := by decide +kernel
theorem d_M_shift_33 : decode c_M_shift 33 = .ok (.ifCond .le 9, 3) := by decide +kernel
theorem d_M_shift_36 : decode c_M_shift 36 = .ok (.aload_n 0, 1) := by decide +kernel
theorem d_M_shift_37 : decode c_M_shift 37 = .ok (.iconst 2, 1) := by decide +kernel
theorem d_M_shift_38 : decode c_M_shift 38 = .ok (.putfield 22, 3) := by decide +kernel
theorem d_M_shift_41 : decode c_M_shift 41 = .ok (.return_, 1) := by decide +kernel
theorem d_M_shift_42 : decode c_M_shift 42 = .ok (.aload_n 0, 1) := by decide +kernel
theorem d_M_shift_43 : decode c_M_shift 43 = .ok (.getfield 16, 3) := by decide +kernel
theorem d_M_shift_46 : decode c_M_shift 46 = .ok (.iload_n 2, 1) := by decide +kernel
theorem d_M_shift_47 : decode c_M_shift 47 = .ok (.iaload, 1) := by decide +kernel
theorem d_M_shift_48 : decode c_M_shift 48 = .ok (.istore 4, 2) := by decide +kernel
theorem d_M_shift_50 : decode c_M_shift 50 = .ok (.aload_n 0, 1) := by decide +kernel
theorem d_M_shift_51 : decode c_M_shift 51 = .ok (.iload_n 2, 1) := by decide +kernel
theorem d_M_shift_52 : decode c_M_shift 52 = .ok (.iload_n 3, 1) := by decide +kernel
theorem d_M_shift_53 : decode c_M_shift 53 = .ok (.invokevirtual 109, 3) := by decide +kernel
theorem d_M_shift_56 : decode c_M_shift 56 = .ok (.istore 5, 2) := by decide +kernel
theorem d_M_shift_58 : decode c_M_shift 58 = .ok (.iload 5, 2) := by decide +kernel
theorem d_M_shift_60 : decode c_M_shift 60 = .ok (.ifCond .eq 25, 3) := by decide +kernel
theorem d_M_shift_63 : decode c_M_shift 63 = .ok (.iload 4, 2) := by decide +kernel
theorem d_M_shift_65 : decode c_M_shift 65 = .ok (.ifCond .ge 20, 3) := by decide +kernel
theorem d_M_shift_68 : decode c_M_shift 68 = .ok (.aload_n 0, 1) := by decide +kernel
theorem d_M_shift_69 : decode c_M_shift 69 = .ok (.bipush 13, 2) := by decide +kernel
theorem d_M_shift_71 : decode c_M_shift 71 = .ok (.iconst 1, 1) := by decide +kernel
theorem d_M_shift_72 : decode c_M_shift 72 = .ok (.invokevirtual 93, 3) := by decide +kernel
theorem d_M_shift_75 : decode c_M_shift 75 = .ok (.aload_n 0, 1) := by decide +kernel
theorem d_M_shift_76 : decode c_M_shift 76 = .ok (.bipush 12, 2) := by decide +kernel
theorem d_M_shift_78 : decode c_M_shift 78 = .ok (.bipush 13, 2) := by decide +kernel
theorem d_M_shift_80 : decode c_M_shift 80 = .ok (.bipush 12, 2) := by decide +kernel
theorem d_M_shift_82 : decode c_M_shift 82 = .ok (.invokevirtual 83, 3) := by decide +kernel
theorem d_M_shift_85 : decode c_M_shift 85 = .ok (.aload_n 0, 1) := by decide +kernel
theorem d_M_shift_86 : decode c_M_shift 86 = .ok (.bipush 12, 2) := by decide +kernel
theorem d_M_shift_88 : decode c_M_shift 88 = .ok (.iload_n 1, 1) := by decide +kernel
theorem d_M_shift_89 : decode c_M_shift 89 = .ok (.iload 4, 2) := by decide +kernel
theorem d_M_shift_91 : decode c_M_shift 91 = .ok (.invokevirtual 73, 3) := by decide +kernel
theorem d_M_shift_94 : decode c_M_shift 94 = .ok (.return_, 1) := by decide +kernel
theorem d_M_shrink_0 : decode c_M_shrink 0 = .ok (.lconst 0, 1) := by decide +kernel
theorem d_M_shrink_1 : decode c_M_shrink 1 = .ok (.lstore_n 2, 1) := by decide +kernel
theorem d_M_shrink_2 : decode c_M_shrink 2 = .ok (.bipush 107, 2) := by decide +kernel
theorem d_M_shrink_4 : decode c_M_shrink 4 = .ok (.istore 4, 2) := by decide +kernel
theorem d_M_shrink_6 : decode c_M_shrink 6 = .ok (.iload 4, 2) := by decide +kernel
theorem d_M_shrink_8 : decode c_M_shrink 8 = .ok (.ifCond .lt 51, 3) := by decide +kernel
theorem d_M_shrink_11 : decode c_M_shrink 11 = .ok (.lload_n 2, 1) := by decide +kernel
theorem d_M_shrink_12 : decode c_M_shrink 12 = .ok (.bipush 20, 2) := by decide +kernel
theorem d_M_shrink_14 : decode c_M_shrink 14 = .ok (.lshl, 1) := by decide +kernel
theorem d_M_shrink_15 : decode c_M_shrink 15 = .ok (.aload_n 0, 1) := by decide +kernel
theorem d_M_shrink_16 : decode c_M_shrink 16 = .ok (.getfield 7, 3) := by decide +kernel
theorem d_M_shrink_19 : decode c_M_shrink 19 = .ok (.sipush 1296, 3) := by decide +kernel
theorem d_M_shrink_22 : decode c_M_shrink 22 = .ok (.iload 4, 2) := by decide +kernel
theorem d_M_shrink_24 : decode c_M_shrink 24 = .ok (.iadd, 1) := by decide +kernel
theorem d_M_shrink_25 : decode c_M_shrink 25 = .ok (.iaload, 1) := by decide +kernel
theorem d_M_shrink_26 : decode c_M_shrink 26 = .ok (.i2l, 1) := by decide +kernel
theorem d_M_shrink_27 : decode c_M_shrink 27 = .ok (.ladd, 1) := by decide +kernel
theorem d_M_shrink_28 : decode c_M_shrink 28 = .ok (.lstore 5, 2) := by decide +kernel
theorem d_M_shrink_30 : decode c_M_shrink 30 = .ok (.aload_n 0, 1) := by decide +kernel
theorem d_M_shrink_31 : decode c_M_shrink 31 = .ok (.getfield 7, 3) := by decide +kernel
theorem d_M_shrink_34 : decode c_M_shrink 34 = .ok (.sipush 1296, 3) := by decide +kernel
theorem d_M_shrink_37 : decode c_M_shrink 37 = .ok (.iload 4, 2) := by decide +kernel
theorem d_M_shrink_39 : decode c_M_shrink 39 = .ok (.iadd, 1) := by decide +kernel
theorem d_M_shrink_40 : decode c_M_shrink 40 = .ok (.lload 5, 2) := by decide +kernel
theorem d_M_shrink_42 : decode c_M_shrink 42 = .ok (.iload_n 1, 1) := by decide +kernel
theorem d_M_shrink_43 : decode c_M_shrink 43 = .ok (.i2l, 1) := by decide +kernel
theorem d_M_shrink_44 : decode c_M_shrink 44 = .ok (.ldiv, 1) := by decide +kernel
theorem d_M_shrink_45 : decode c_M_shrink 45 = .ok (.l2i, 1) := by decide +kernel
theorem d_M_shrink_46 : decode c_M_shrink 46 = .ok (.iastore, 1) := by decide +kernel
theorem d_M_shrink_47 : decode c_M_shrink 47 = .ok (.lload 5, 2) := by decide +kernel
theorem d_M_shrink_49 : decode c_M_shrink 49 = .ok (.iload_n 1, 1) := by decide +kernel
theorem d_M_shrink_50 : decode c_M_shrink 50 = .ok (.i2l, 1) := by decide +kernel
theorem d_M_shrink_51 : decode c_M_shrink 51 = .ok (.lrem, 1) := by decide +kernel
theorem d_M_shrink_52 : decode c_M_shrink 52 = .ok (.lstore_n 2, 1) := by decide +kernel
theorem d_M_shrink_53 : decode c_M_shrink 53 = .ok (.iinc 4 (-1), 3) := by decide +kernel
theorem d_M_shrink_56 : decode c_M_shrink 56 = .ok (.goto (-50), 3) := by decide +kernel
theorem d_M_shrink_59 : decode c_M_shrink 59 = .ok (.aload_n 0, 1) := by decide +kernel
theorem d_M_shrink_60 : decode c_M_shrink 60 = .ok (.bipush 12, 2) := by decide +kernel
theorem d_M_shrink_62 : decode c_M_shrink 62 = .ok (.invokevirtual 30, 3) := by decide +kernel
theorem d_M_shrink_65 : decode c_M_shrink 65 = .ok (.lload_n 2, 1) := by decide +kernel
theorem d_M_shrink_66 : decode c_M_shrink 66 = .ok (.l2i, 1) := by decide +kernel
theorem d_M_shrink_67 : decode c_M_shrink 67 = .ok (.ireturn, 1) := by decide +kernel
theorem d_M_slide_0 : decode c_M_slide 0 = .ok (.aload_n 0, 1) := by decide +kernel
theorem d_M_slide_1 : decode c_M_slide 1 = .ok (.bipush 12, 2) := by decide +kernel
theorem d_M_slide_3 : decode c_M_slide 3 = .ok (.invokevirtual 26, 3) := by decide +kernel
theorem d_M_slide_6 : decode c_M_slide 6 = .ok (.iconst 0, 1) := by decide +kernel
theorem d_M_slide_7 : decode c_M_slide 7 = .ok (.istore_n 3, 1) := by decide +kernel
theorem d_M_slide_8 : decode c_M_slide 8 = .ok (.iconst 0, 1) := by decide +kernel
theorem d_M_slide_9 : decode c_M_slide 9 = .ok (.istore 4, 2) := by decide +kernel
theorem d_M_slide_11 : decode c_M_slide 11 = .ok (.iload 4, 2) := by decide +kernel
theorem d_M_slide_13 : decode c_M_slide 13 = .ok (.aload_n 0, 1) := by decide +kernel
theorem d_M_slide_14 : decode c_M_slide 14 = .ok (.iload_n 1, 1) := by decide +kernel
theorem d_M_slide_15 : decode c_M_slide 15 = .ok (.invokevirtual 96, 3) := by decide +kernel
theorem d_M_slide_18 : decode c_M_slide 18 = .ok (.if_icmp .ge 60, 3) := by decide +kernel
theorem d_M_slide_21 : decode c_M_slide 21 = .ok (.iload 4, 2) := by decide +kernel
theorem d_M_slide_23 : decode c_M_slide 23 = .ok (.i2l, 1) := by decide +kernel
theorem d_M_slide_24 : decode c_M_slide 24 = .ok (.iload_n 2, 1) := by decide +kernel
theorem d_M_slide_25 : decode c_M_slide 25 = .ok (.i2l, 1) := by decide +kernel
theorem d_M_slide_26 : decode c_M_slide 26 = .ok (.ladd, 1) := by decide +kernel
theorem d_M_slide_27 : decode c_M_slide 27 = .ok (.lstore 5, 2) := by decide +kernel
theorem d_M_slide_29 : decode c_M_slide 29 = .ok (.aload_n 0, 1) := by decide +kernel
theorem d_M_slide_30 : decode c_M_slide 30 = .ok (.iload_n 1, 1) := by decide +kernel
theorem d_M_slide_31 : decode c_M_slide 31 = .ok (.iload 4, 2) := by decide +kernel
theorem d_M_slide_33 : decode c_M_slide 33 = .ok (.invokevirtual 100, 3) := by decide +kernel
theorem d_M_slide_36 : decode c_M_slide 36 = .ok (.ifCond .eq 36, 3) := by decide +kernel
theorem d_M_slide_39 : decode c_M_slide 39 = .ok (.iload_n 3, 1) := by decide +kernel
theorem d_M_slide_40 : decode c_M_slide 40 = .ok (.ifCond .ne 10, 3) := by decide +kernel
theorem d_M_slide_43 : decode c_M_slide 43 = .ok (.lload 5, 2) := by decide +kernel
theorem d_M_slide_45 : decode c_M_slide 45 = .ok (.lconst 0, 1) := by decide +kernel
theorem d_M_slide_46 : decode c_M_slide 46 = .ok (.lcmp, 1) := by decide +kernel
theorem d_M_slide_47 : decode c_M_slide 47 = .ok (.ifCond .ge 7, 3) := by decide +kernel
theorem d_M_slide_50 : decode c_M_slide 50 = .ok (.iconst 1, 1) := by decide +kernel
theorem d_M_slide_51 : decode c_M_slide 51 = .ok (.goto 4, 3) := by decide +kernel
theorem d_M_slide_54 : decode c_M_slide 54 = .ok (.iconst 0, 1) := by decide +kernel
theorem d_M_slide_55 : decode c_M_slide 55 = .ok (.istore_n 3, 1) := by decide +kernel
theorem d_M_slide_56 : decode c_M_slide 56 = .ok (.lload 5, 2) := by decide +kernel
theorem d_M_slide_58 : decode c_M_slide 58 = .ok (.lconst 0, 1) := by decide +kernel
theorem d_M_slide_59 : decode c_M_slide 59 = .ok (.lcmp, 1) := by decide +kernel
theorem d_M_slide_60 : decode c_M_slide 60 = .ok (.ifCond .lt 12, 3) := by decide +kernel
theorem d_M_slide_63 : decode c_M_slide 63 = .ok (.aload_n 0, 1) := by decide +kernel
theorem d_M_slide_64 : decode c_M_slide 64 = .ok (.bipush 12, 2) := by decide +kernel
theorem d_M_slide_66 : decode c_M_slide 66 = .ok (.lload 5, 2) := by decide +kernel
theorem d_M_slide_68 : decode c_M_slide 68 = .ok (.l2i, 1) := by decide +kernel
theorem d_M_slide_69 : decode c_M_slide 69 = .ok (.invokevirtual 104, 3) := by decide +kernel
theorem d_M_slide_72 : decode c_M_slide 72 = .ok (.iinc 4 1, 3) := by decide +kernel
theorem d_M_slide_75 : decode c_M_slide 75 = .ok (.goto (-64), 3) := by decide +kernel
theorem d_M_slide_78 : decode c_M_slide 78 = .ok (.aload_n 0, 1) := by decide +kernel
theorem d_M_slide_79 : decode c_M_slide 79 = .ok (.bipush 12, 2) := by decide +kernel
theorem d_M_slide_81 : decode c_M_slide 81 = .ok (.invokevirtual 30, 3) := by decide +kernel
theorem d_M_slide_84 : decode c_M_slide 84 = .ok (.iload_n 3, 1) := by decide +kernel
theorem d_M_slide_85 : decode c_M_slide 85 = .ok (.ireturn, 1) := by decide +kernel
theorem d_M_small_0 : decode c_M_small 0 = .ok (.aload_n 0, 1) := by decide +kernel
theorem d_M_small_1 : decode c_M_small 1 = .ok (.iload_n 1, 1) := by decide +kernel
theorem d_M_small_2 : decode c_M_small 2 = .ok (.invokevirtual 26, 3) := by decide +kernel
theorem d_M_small_5 : decode c_M_small 5 = .ok (.aload_n 0, 1) := by decide +kernel
theorem d_M_small_6 : decode c_M_small 6 = .ok (.getfield 7, 3) := by decide +kernel
theorem d_M_small_9 : decode c_M_small 9 = .ok (.bipush 108, 2) := by decide +kernel
theorem d_M_small_11 : decode c_M_small 11 = .ok (.iload_n 1, 1) := by decide +kernel
theorem d_M_small_12 : decode c_M_small 12 = .ok (.imul, 1) := by decide +kernel
theorem d_M_small_13 : decode c_M_small 13 = .ok (.iload_n 2, 1) := by decide +kernel
theorem d_M_small_14 : decode c_M_small 14 = .ok (.iastore, 1) := by decide +kernel
theorem d_M_small_15 : decode c_M_small 15 = .ok (.aload_n 0, 1) := by decide +kernel
theorem d_M_small_16 : decode c_M_small 16 = .ok (.iload_n 1, 1) := by decide +kernel
theorem d_M_small_17 : decode c_M_small 17 = .ok (.invokevirtual 30, 3) := by decide +kernel
theorem d_M_small_20 : decode c_M_small 20 = .ok (.return_, 1) := by decide +kernel
theorem d_M_split_0 : decode c_M_split 0 = .ok (.aload_n 0, 1) := by decide +kernel
theorem d_M_split_1 : decode c_M_split 1 = .ok (.iload_n 1, 1) := by decide +kernel
theorem d_M_split_2 : decode c_M_split 2 = .ok (.bipush 16, 2) := by decide +kernel
theorem d_M_split_4 : decode c_M_split 4 = .ok (.invokevirtual 40, 3) := by decide +kernel
theorem d_M_split_7 : decode c_M_split 7 = .ok (.aload_n 0, 1) := by decide +kernel
theorem d_M_split_8 : decode c_M_split 8 = .ok (.bipush 15, 2) := by decide +kernel
theorem d_M_split_10 : decode c_M_split 10 = .ok (.invokevirtual 26, 3) := by decide +kernel
theorem d_M_split_13 : decode c_M_split 13 = .ok (.aload_n 0, 1) := by decide +kernel
theorem d_M_split_14 : decode c_M_split 14 = .ok (.getfield 13, 3) := by decide +kernel
theorem d_M_split_17 : decode c_M_split 17 = .ok (.iload_n 2, 1) := by decide +kernel
theorem d_M_split_18 : decode c_M_split 18 = .ok (.iaload, 1) := by decide +kernel
theorem d_M_split_19 : decode c_M_split 19 = .ok (.istore_n 3, 1) := by decide +kernel
theorem d_M_split_20 : decode c_M_split 20 = .ok (.aload_n 0, 1) := by decide +kernel
theorem d_M_split_21 : decode c_M_split 21 = .ok (.getfield 13, 3) := by decide +kernel
theorem d_M_split_24 : decode c_M_split 24 = .ok (.iload_n 1, 1) := by decide +kernel
theorem d_M_split_25 : decode c_M_split 25 = .ok (.iaload, 1) := by decide +kernel
theorem d_M_split_26 : decode c_M_split 26 = .ok (.iload_n 3, 1) := by decide +kernel
theorem d_M_split_27 : decode c_M_split 27 = .ok (.isub, 1) := by decide +kernel
theorem d_M_split_28 : decode c_M_split 28 = .ok (.istore 4, 2) := by decide +kernel
theorem d_M_split_30 : decode c_M_split 30 = .ok (.iload 4, 2) := by decide +kernel
theorem d_M_split_32 : decode c_M_split 32 = .ok (.ifCond .lt 104, 3) := by decide +kernel
theorem d_M_split_35 : decode c_M_split 35 = .ok (.lconst 0, 1) := by decide +kernel
theorem d_M_split_36 : decode c_M_split 36 = .ok (.lstore 5, 2) := by decide +kernel
theorem d_M_split_38 : decode c_M_split 38 = .ok (.iconst 1, 1) := by decide +kernel
theorem d_M_split_39 : decode c_M_split 39 = .ok (.istore 7, 2) := by decide +kernel
theorem d_M_split_41 : decode c_M_split 41 = .ok (.iload 7, 2) := by decide +kernel
theorem d_M_split_43 : decode c_M_split 43 = .ok (.ifCond .eq 73, 3) := by decide +kernel
theorem d_M_split_46 : decode c_M_split 46 = .ok (.aload_n 0, 1) := by decide +kernel
theorem d_M_split_47 : decode c_M_split 47 = .ok (.iload_n 2, 1) := by decide +kernel
theorem d_M_split_48 : decode c_M_split 48 = .ok (.iload_n 3, 1) := by decide +kernel
theorem d_M_split_49 : decode c_M_split 49 = .ok (.iload 4, 2) := by decide +kernel
theorem d_M_split_51 : decode c_M_split 51 = .ok (.invokevirtual 44, 3) := by decide +kernel
theorem d_M_split_54 : decode c_M_split 54 = .ok (.lstore 8, 2) := by decide +kernel
theorem d_M_split_56 : decode c_M_split 56 = .ok (.lload 8, 2) := by decide +kernel
theorem d_M_split_58 : decode c_M_split 58 = .ok (.lconst 0, 1) := by decide +kernel
theorem d_M_split_59 : decode c_M_split 59 = .ok (.lcmp, 1) := by decide +kernel
theorem d_M_split_60 : decode c_M_split 60 = .ok (.ifCond .ne 18, 3) := by decide +kernel
theorem d_M_split_63 : decode c_M_split 63 = .ok (.aload_n 0, 1) := by decide +kernel
theorem d_M_split_64 : decode c_M_split 64 = .ok (.iload_n 2, 1) := by decide +kernel
theorem d_M_split_65 : decode c_M_split 65 = .ok (.iload_n 3, 1) := by decide +kernel
theorem d_M_split_66 : decode c_M_split 66 = .ok (.iload 4, 2) := by decide +kernel
theorem d_M_split_68 : decode c_M_split 68 = .ok (.invokevirtual 48, 3) := by decide +kernel
theorem d_M_split_71 : decode c_M_split 71 = .ok (.ifCond .eq 7, 3) := by decide +kernel
theorem d_M_split_74 : decode c_M_split 74 = .ok (.lconst 1, 1) := by decide +kernel
theorem d_M_split_75 : decode c_M_split 75 = .ok (.goto 5, 3) := by decide +kernel
theorem d_M_split_78 : decode c_M_split 78 = .ok (.lload 8, 2) := by decide +kernel
theorem d_M_split_80 : decode c_M_split 80 = .ok (.lstore 8, 2) := by decide +kernel
theorem d_M_split_82 : decode c_M_split 82 = .ok (.aload_n 0, 1) := by decide +kernel
theorem d_M_split_83 : decode c_M_split 83 = .ok (.iload_n 2, 1) := by decide +kernel
theorem d_M_split_84 : decode c_M_split 84 = .ok (.iload_n 3, 1) := by decide +kernel
theorem d_M_split_85 : decode c_M_split 85 = .ok (.iload 4, 2) := by decide +kernel
theorem d_M_split_87 : decode c_M_split 87 = .ok (.lload 8, 2) := by decide +kernel
theorem d_M_split_89 : decode c_M_split 89 = .ok (.invokevirtual 52, 3) := by decide +kernel
theorem d_M_split_92 : decode c_M_split 92 = .ok (.lload 5, 2) := by decide +kernel
theorem d_M_split_94 : decode c_M_split 94 = .ok (.lload 8, 2) := by decide +kernel
theorem d_M_split_96 : decode c_M_split 96 = .ok (.ladd, 1) := by decide +kernel
theorem d_M_split_97 : decode c_M_split 97 = .ok (.lstore 5, 2) := by decide +kernel
theorem d_M_split_99 : decode c_M_split 99 = .ok (.lload 8, 2) := by decide +kernel
theorem d_M_split_101 : decode c_M_split 101 = .ok (.lconst 0, 1) := by decide +kernel
theorem d_M_split_102 : decode c_M_split 102 = .ok (.lcmp, 1) := by decide +kernel
theorem d_M_split_103 : decode c_M_split 103 = .ok (.ifCond .le 7, 3) := by decide +kernel
theorem d_M_split_106 : decode c_M_split 106 = .ok (.iconst 1, 1) := by decide +kernel
theorem d_M_split_107 : decode c_M_split 107 = .ok (.goto 4, 3) := by decide +kernel
theorem d_M_split_110 : decode c_M_split 110 = .ok (.iconst 0, 1) := by decide +kernel
theorem d_M_split_111 : decode c_M_split 111 = .ok (.istore 7, 2) := by decide +kernel
theorem d_M_split_113 : decode c_M_split 113 = .ok (.goto (-72), 3) := by decide +kernel
theorem d_M_split_116 : decode c_M_split 116 = .ok (.aload_n 0, 1) := by decide +kernel
theorem d_M_split_117 : decode c_M_split 117 = .ok (.getfield 7, 3) := by decide +kernel
theorem d_M_split_120 : decode c_M_split 120 = .ok (.sipush 1620, 3) := by decide +kernel
theorem d_M_split_123 : decode c_M_split 123 = .ok (.iload 4, 2) := by decide +kernel
theorem d_M_split_125 : decode c_M_split 125 = .ok (.iadd, 1) := by decide +kernel
theorem d_M_split_126 : decode c_M_split 126 = .ok (.lload 5, 2) := by decide +kernel
theorem d_M_split_128 : decode c_M_split 128 = .ok (.l2i, 1) := by decide +kernel
theorem d_M_split_129 : decode c_M_split 129 = .ok (.iastore, 1) := by decide +kernel
theorem d_M_split_130 : decode c_M_split 130 = .ok (.iinc 4 (-1), 3) := by decide +kernel
theorem d_M_split_133 : decode c_M_split 133 = .ok (.goto (-103), 3) := by decide +kernel
theorem d_M_split_136 : decode c_M_split 136 = .ok (.aload_n 0, 1) := by decide +kernel
theorem d_M_split_137 : decode c_M_split 137 = .ok (.bipush 15, 2) := by decide +kernel
theorem d_M_split_139 : decode c_M_split 139 = .ok (.invokevirtual 30, 3) := by decide +kernel
theorem d_M_split_142 : decode c_M_split 142 = .ok (.aload_n 0, 1) := by decide +kernel
theorem d_M_split_143 : decode c_M_split 143 = .ok (.bipush 16, 2) := by decide +kernel
theorem d_M_split_145 : decode c_M_split 145 = .ok (.invokevirtual 30, 3) := by decide +kernel
theorem d_M_split_148 : decode c_M_split 148 = .ok (.return_, 1) := by decide +kernel
theorem d_M_store_0 : decode c_M_store 0 = .ok (.aload_n 0, 1) := by decide +kernel
theorem d_M_store_1 : decode c_M_store 1 = .ok (.iload_n 1, 1) := by decide +kernel
theorem d_M_store_2 : decode c_M_store 2 = .ok (.iload_n 2, 1) := by decide +kernel
theorem d_M_store_3 : decode c_M_store 3 = .ok (.invokevirtual 40, 3) := by decide +kernel
theorem d_M_store_6 : decode c_M_store 6 = .ok (.aload_n 0, 1) := by decide +kernel
theorem d_M_store_7 : decode c_M_store 7 = .ok (.getfield 16, 3) := by decide +kernel
theorem d_M_store_10 : decode c_M_store 10 = .ok (.iload_n 2, 1) := by decide +kernel
theorem d_M_store_11 : decode c_M_store 11 = .ok (.aload_n 0, 1) := by decide +kernel
theorem d_M_store_12 : decode c_M_store 12 = .ok (.getfield 13, 3) := by decide +kernel
theorem d_M_store_15 : decode c_M_store 15 = .ok (.iload_n 1, 1) := by decide +kernel
theorem d_M_store_16 : decode c_M_store 16 = .ok (.iaload, 1) := by decide +kernel
theorem d_M_store_17 : decode c_M_store 17 = .ok (.ifCond .ne 7, 3) := by decide +kernel
theorem d_M_store_20 : decode c_M_store 20 = .ok (.iconst 0, 1) := by decide +kernel
theorem d_M_store_21 : decode c_M_store 21 = .ok (.goto 4, 3) := by decide +kernel
theorem d_M_store_24 : decode c_M_store 24 = .ok (.iload_n 3, 1) := by decide +kernel
theorem d_M_store_25 : decode c_M_store 25 = .ok (.iastore, 1) := by decide +kernel
theorem d_M_store_26 : decode c_M_store 26 = .ok (.return_, 1) := by decide +kernel
theorem d_M_subtract_0 : decode c_M_subtract 0 = .ok (.aload_n 0, 1) := by decide +kernel
theorem d_M_subtract_1 : decode c_M_subtract 1 = .ok (.iload_n 1, 1) := by decide +kernel
theorem d_M_subtract_2 : decode c_M_subtract 2 = .ok (.iload_n 2, 1) := by decide +kernel
theorem d_M_subtract_3 : decode c_M_subtract 3 = .ok (.iload_n 3, 1) := by decide +kernel
theorem d_M_subtract_4 : decode c_M_subtract 4 = .ok (.invokevirtual 76, 3) := by decide +kernel
theorem d_M_subtract_7 : decode c_M_subtract 7 = .ok (.ifCond .eq 17, 3) := by decide +kernel
theorem d_M_subtract_10 : decode c_M_subtract 10 = .ok (.aload_n 0, 1) := by decide +kernel
theorem d_M_subtract_11 : decode c_M_subtract 11 = .ok (.iload_n 1, 1) := by decide +kernel
theorem d_M_subtract_12 : decode c_M_subtract 12 = .ok (.iload_n 2, 1) := by decide +kernel
theorem d_M_subtract_13 : decode c_M_subtract 13 = .ok (.iload_n 3, 1) := by decide +kernel
theorem d_M_subtract_14 : decode c_M_subtract 14 = .ok (.aload_n 0, 1) := by decide +kernel
theorem d_M_subtract_15 : decode c_M_subtract 15 = .ok (.getfield 16, 3) := by decide +kernel
theorem d_M_subtract_18 : decode c_M_subtract 18 = .ok (.iload_n 3, 1) := by decide +kernel
theorem d_M_subtract_19 : decode c_M_subtract 19 = .ok (.iaload, 1) := by decide +kernel
theorem d_M_subtract_20 : decode c_M_subtract 20 = .ok (.ineg, 1) := by decide +kernel
theorem d_M_subtract_21 : decode c_M_subtract 21 = .ok (.invokevirtual 90, 3) := by decide +kernel
theorem d_M_subtract_24 : decode c_M_subtract 24 = .ok (.return_, 1) := by decide +kernel
theorem d_M_takeAway_0 : decode c_M_takeAway 0 = .ok (.lconst 0, 1) := by decide +kernel
theorem d_M_takeAway_1 : decode c_M_takeAway 1 = .ok (.lstore 6, 2) := by decide +kernel
theorem d_M_takeAway_3 : decode c_M_takeAway 3 = .ok (.iconst 0, 1) := by decide +kernel
theorem d_M_takeAway_4 : decode c_M_takeAway 4 = .ok (.istore 8, 2) := by decide +kernel
theorem d_M_takeAway_6 : decode c_M_takeAway 6 = .ok (.iload 8, 2) := by decide +kernel
theorem d_M_takeAway_8 : decode c_M_takeAway 8 = .ok (.iload_n 2, 1) := by decide +kernel
theorem d_M_takeAway_9 : decode c_M_takeAway 9 = .ok (.if_icmp .ge 72, 3) := by decide +kernel
theorem d_M_takeAway_12 : decode c_M_takeAway 12 = .ok (.aload_n 0, 1) := by decide +kernel
theorem d_M_takeAway_13 : decode c_M_takeAway 13 = .ok (.getfield 7, 3) := by decide +kernel
theorem d_M_takeAway_16 : decode c_M_takeAway 16 = .ok (.sipush 1728, 3) := by decide +kernel
theorem d_M_takeAway_19 : decode c_M_takeAway 19 = .ok (.iload_n 3, 1) := by decide +kernel
theorem d_M_takeAway_20 : decode c_M_takeAway 20 = .ok (.iadd, 1) := by decide +kernel
theorem d_M_takeAway_21 : decode c_M_takeAway 21 = .ok (.iload 8, 2) := by decide +kernel
theorem d_M_takeAway_23 : decode c_M_takeAway 23 = .ok (.iadd, 1) := by decide +kernel
theorem d_M_takeAway_24 : decode c_M_takeAway 24 = .ok (.iaload, 1) := by decide +kernel
theorem d_M_takeAway_25 : decode c_M_takeAway 25 = .ok (.i2l, 1) := by decide +kernel
theorem d_M_takeAway_26 : decode c_M_takeAway 26 = .ok (.lload 4, 2) := by decide +kernel
theorem d_M_takeAway_28 : decode c_M_takeAway 28 = .ok (.aload_n 0, 1) := by decide +kernel
theorem d_M_takeAway_29 : decode c_M_takeAway 29 = .ok (.getfield 7, 3) := by decide +kernel
theorem d_M_takeAway_32 : decode c_M_takeAway 32 = .ok (.bipush 108, 2) := by decide +kernel
theorem d_M_takeAway_34 : decode c_M_takeAway 34 = .ok (.iload_n 1, 1) := by decide +kernel
theorem d_M_takeAway_35 : decode c_M_takeAway 35 = .ok (.imul, 1) := by decide +kernel
theorem d_M_takeAway_36 : decode c_M_takeAway 36 = .ok (.iload 8, 2) := by decide +kernel
theorem d_M_takeAway_38 : decode c_M_takeAway 38 = .ok (.iadd, 1) := by decide +kernel
theorem d_M_takeAway_39 : decode c_M_takeAway 39 = .ok (.iaload, 1) := by decide +kernel
theorem d_M_takeAway_40 : decode c_M_takeAway 40 = .ok (.i2l, 1) := by decide +kernel
theorem d_M_takeAway_41 : decode c_M_takeAway 41 = .ok (.lmul, 1) := by decide +kernel
theorem d_M_takeAway_42 : decode c_M_takeAway 42 = .ok (.lsub, 1) := by decide +kernel
theorem d_M_takeAway_43 : decode c_M_takeAway 43 = .ok (.lload 6, 2) := by decide +kernel
theorem d_M_takeAway_45 : decode c_M_takeAway 45 = .ok (.ladd, 1) := by decide +kernel
theorem d_M_takeAway_46 : decode c_M_takeAway 46 = .ok (.lstore 9, 2) := by decide +kernel
theorem d_M_takeAway_48 : decode c_M_takeAway 48 = .ok (.aload_n 0, 1) := by decide +kernel
theorem d_M_takeAway_49 : decode c_M_takeAway 49 = .ok (.getfield 7, 3) := by decide +kernel
theorem d_M_takeAway_52 : decode c_M_takeAway 52 = .ok (.sipush 1728, 3) := by decide +kernel
theorem d_M_takeAway_55 : decode c_M_takeAway 55 = .ok (.iload_n 3, 1) := by decide +kernel
theorem d_M_takeAway_56 : decode c_M_takeAway 56 = .ok (.iadd, 1) := by decide +kernel
theorem d_M_takeAway_57 : decode c_M_takeAway 57 = .ok (.iload 8, 2) := by decide +kernel
theorem d_M_takeAway_59 : decode c_M_takeAway 59 = .ok (.iadd, 1) := by decide +kernel
theorem d_M_takeAway_60 : decode c_M_takeAway 60 = .ok (.lload 9, 2) := by decide +kernel
theorem d_M_takeAway_62 : decode c_M_takeAway 62 = .ok (.ldc2_w 34, 3) := by decide +kernel
theorem d_M_takeAway_65 : decode c_M_takeAway 65 = .ok (.land, 1) := by decide +kernel
theorem d_M_takeAway_66 : decode c_M_takeAway 66 = .ok (.l2i, 1) := by decide +kernel
theorem d_M_takeAway_67 : decode c_M_takeAway 67 = .ok (.iastore, 1) := by decide +kernel
theorem d_M_takeAway_68 : decode c_M_takeAway 68 = .ok (.lload 9, 2) := by decide +kernel
theorem d_M_takeAway_70 : decode c_M_takeAway 70 = .ok (.bipush 20, 2) := by decide +kernel
theorem d_M_takeAway_72 : decode c_M_takeAway 72 = .ok (.lshr, 1) := by decide +kernel
theorem d_M_takeAway_73 : decode c_M_takeAway 73 = .ok (.lstore 6, 2) := by decide +kernel
theorem d_M_takeAway_75 : decode c_M_takeAway 75 = .ok (.iinc 8 1, 3) := by decide +kernel
theorem d_M_takeAway_78 : decode c_M_takeAway 78 = .ok (.goto (-72), 3) := by decide +kernel
theorem d_M_takeAway_81 : decode c_M_takeAway 81 = .ok (.aload_n 0, 1) := by decide +kernel
theorem d_M_takeAway_82 : decode c_M_takeAway 82 = .ok (.getfield 7, 3) := by decide +kernel
theorem d_M_takeAway_85 : decode c_M_takeAway 85 = .ok (.sipush 1728, 3) := by decide +kernel
theorem d_M_takeAway_88 : decode c_M_takeAway 88 = .ok (.iload_n 3, 1) := by decide +kernel
theorem d_M_takeAway_89 : decode c_M_takeAway 89 = .ok (.iadd, 1) := by decide +kernel
theorem d_M_takeAway_90 : decode c_M_takeAway 90 = .ok (.iload_n 2, 1) := by decide +kernel
theorem d_M_takeAway_91 : decode c_M_takeAway 91 = .ok (.iadd, 1) := by decide +kernel
theorem d_M_takeAway_92 : decode c_M_takeAway 92 = .ok (.dup2, 1) := by decide +kernel
theorem d_M_takeAway_93 : decode c_M_takeAway 93 = .ok (.iaload, 1) := by decide +kernel
theorem d_M_takeAway_94 : decode c_M_takeAway 94 = .ok (.lload 6, 2) := by decide +kernel
theorem d_M_takeAway_96 : decode c_M_takeAway 96 = .ok (.l2i, 1) := by decide +kernel
theorem d_M_takeAway_97 : decode c_M_takeAway 97 = .ok (.iadd, 1) := by decide +kernel
theorem d_M_takeAway_98 : decode c_M_takeAway 98 = .ok (.iastore, 1) := by decide +kernel
theorem d_M_takeAway_99 : decode c_M_takeAway 99 = .ok (.return_, 1) := by decide +kernel
theorem d_M_three_0 : decode c_M_three 0 = .ok (.aload_n 0, 1) := by decide +kernel
theorem d_M_three_1 : decode c_M_three 1 = .ok (.iload_n 1, 1) := by decide +kernel
theorem d_M_three_2 : decode c_M_three 2 = .ok (.invokestatic 66, 3) := by decide +kernel
theorem d_M_three_5 : decode c_M_three 5 = .ok (.ifCond .eq 21, 3) := by decide +kernel
theorem d_M_three_8 : decode c_M_three 8 = .ok (.iload_n 2, 1) := by decide +kernel
theorem d_M_three_9 : decode c_M_three 9 = .ok (.invokestatic 66, 3) := by decide +kernel
theorem d_M_three_12 : decode c_M_three 12 = .ok (.ifCond .eq 14, 3) := by decide +kernel
theorem d_M_three_15 : decode c_M_three 15 = .ok (.iload_n 3, 1) := by decide +kernel
theorem d_M_three_16 : decode c_M_three 16 = .ok (.invokestatic 66, 3) := by decide +kernel
theorem d_M_three_19 : decode c_M_three 19 = .ok (.ifCond .eq 7, 3) := by decide +kernel
theorem d_M_three_22 : decode c_M_three 22 = .ok (.iconst 0, 1) := by decide +kernel
theorem d_M_three_23 : decode c_M_three 23 = .ok (.goto 4, 3) := by decide +kernel
theorem d_M_three_26 : decode c_M_three 26 = .ok (.iconst 1, 1) := by decide +kernel
theorem d_M_three_27 : decode c_M_three 27 = .ok (.putfield 22, 3) := by decide +kernel
theorem d_M_three_30 : decode c_M_three 30 = .ok (.aload_n 0, 1) := by decide +kernel
theorem d_M_three_31 : decode c_M_three 31 = .ok (.getfield 22, 3) := by decide +kernel
theorem d_M_three_34 : decode c_M_three 34 = .ok (.ifCond .ne 7, 3) := by decide +kernel
theorem d_M_three_37 : decode c_M_three 37 = .ok (.iconst 1, 1) := by decide +kernel
theorem d_M_three_38 : decode c_M_three 38 = .ok (.goto 4, 3) := by decide +kernel
theorem d_M_three_41 : decode c_M_three 41 = .ok (.iconst 0, 1) := by decide +kernel
theorem d_M_three_42 : decode c_M_three 42 = .ok (.ireturn, 1) := by decide +kernel
theorem d_M_thrown_0 : decode c_M_thrown 0 = .ok (.aload_n 0, 1) := by decide +kernel
theorem d_M_thrown_1 : decode c_M_thrown 1 = .ok (.getfield 22, 3) := by decide +kernel
theorem d_M_thrown_4 : decode c_M_thrown 4 = .ok (.ireturn, 1) := by decide +kernel
theorem d_M_times_0 : decode c_M_times 0 = .ok (.aload_n 0, 1) := by decide +kernel
theorem d_M_times_1 : decode c_M_times 1 = .ok (.iload_n 3, 1) := by decide +kernel
theorem d_M_times_2 : decode c_M_times 2 = .ok (.invokevirtual 26, 3) := by decide +kernel
theorem d_M_times_5 : decode c_M_times 5 = .ok (.iconst 0, 1) := by decide +kernel
theorem d_M_times_6 : decode c_M_times 6 = .ok (.istore 4, 2) := by decide +kernel
theorem d_M_times_8 : decode c_M_times 8 = .ok (.iload 4, 2) := by decide +kernel
theorem d_M_times_10 : decode c_M_times 10 = .ok (.aload_n 0, 1) := by decide +kernel
theorem d_M_times_11 : decode c_M_times 11 = .ok (.getfield 13, 3) := by decide +kernel
theorem d_M_times_14 : decode c_M_times 14 = .ok (.iload_n 1, 1) := by decide +kernel
theorem d_M_times_15 : decode c_M_times 15 = .ok (.iaload, 1) := by decide +kernel
theorem d_M_times_16 : decode c_M_times 16 = .ok (.if_icmp .ge 132, 3) := by decide +kernel
theorem d_M_times_19 : decode c_M_times 19 = .ok (.lconst 0, 1) := by decide +kernel
theorem d_M_times_20 : decode c_M_times 20 = .ok (.lstore 5, 2) := by decide +kernel
theorem d_M_times_22 : decode c_M_times 22 = .ok (.iconst 0, 1) := by decide +kernel
theorem d_M_times_23 : decode c_M_times 23 = .ok (.istore 7, 2) := by decide +kernel
theorem d_M_times_25 : decode c_M_times 25 = .ok (.iload 7, 2) := by decide +kernel
theorem d_M_times_27 : decode c_M_times 27 = .ok (.aload_n 0, 1) := by decide +kernel
theorem d_M_times_28 : decode c_M_times 28 = .ok (.getfield 13, 3) := by decide +kernel
theorem d_M_times_31 : decode c_M_times 31 = .ok (.iload_n 2, 1) := by decide +kernel
theorem d_M_times_32 : decode c_M_times 32 = .ok (.iaload, 1) := by decide +kernel
theorem d_M_times_33 : decode c_M_times 33 = .ok (.if_icmp .ge 87, 3) := by decide +kernel
theorem d_M_times_36 : decode c_M_times 36 = .ok (.aload_n 0, 1) := by decide +kernel
theorem d_M_times_37 : decode c_M_times 37 = .ok (.getfield 7, 3) := by decide +kernel
theorem d_M_times_40 : decode c_M_times 40 = .ok (.bipush 108, 2) := by decide +kernel
theorem d_M_times_42 : decode c_M_times 42 = .ok (.iload_n 3, 1) := by decide +kernel
theorem d_M_times_43 : decode c_M_times 43 = .ok (.imul, 1) := by decide +kernel
theorem d_M_times_44 : decode c_M_times 44 = .ok (.iload 4, 2) := by decide +kernel
theorem d_M_times_46 : decode c_M_times 46 = .ok (.iadd, 1) := by decide +kernel
theorem d_M_times_47 : decode c_M_times 47 = .ok (.iload 7, 2) := by decide +kernel
theorem d_M_times_49 : decode c_M_times 49 = .ok (.iadd, 1) := by decide +kernel
theorem d_M_times_50 : decode c_M_times 50 = .ok (.iaload, 1) := by decide +kernel
theorem d_M_times_51 : decode c_M_times 51 = .ok (.i2l, 1) := by decide +kernel
theorem d_M_times_52 : decode c_M_times 52 = .ok (.aload_n 0, 1) := by decide +kernel
theorem d_M_times_53 : decode c_M_times 53 = .ok (.getfield 7, 3) := by decide +kernel
theorem d_M_times_56 : decode c_M_times 56 = .ok (.bipush 108, 2) := by decide +kernel
theorem d_M_times_58 : decode c_M_times 58 = .ok (.iload_n 1, 1) := by decide +kernel
theorem d_M_times_59 : decode c_M_times 59 = .ok (.imul, 1) := by decide +kernel
theorem d_M_times_60 : decode c_M_times 60 = .ok (.iload 4, 2) := by decide +kernel
theorem d_M_times_62 : decode c_M_times 62 = .ok (.iadd, 1) := by decide +kernel
theorem d_M_times_63 : decode c_M_times 63 = .ok (.iaload, 1) := by decide +kernel
theorem d_M_times_64 : decode c_M_times 64 = .ok (.i2l, 1) := by decide +kernel
theorem d_M_times_65 : decode c_M_times 65 = .ok (.aload_n 0, 1) := by decide +kernel
theorem d_M_times_66 : decode c_M_times 66 = .ok (.getfield 7, 3) := by decide +kernel
theorem d_M_times_69 : decode c_M_times 69 = .ok (.bipush 108, 2) := by decide +kernel
theorem d_M_times_71 : decode c_M_times 71 = .ok (.iload_n 2, 1) := by decide +kernel
theorem d_M_times_72 : decode c_M_times 72 = .ok (.imul, 1) := by decide +kernel
theorem d_M_times_73 : decode c_M_times 73 = .ok (.iload 7, 2) := by decide +kernel
theorem d_M_times_75 : decode c_M_times 75 = .ok (.iadd, 1) := by decide +kernel
theorem d_M_times_76 : decode c_M_times 76 = .ok (.iaload, 1) := by decide +kernel
theorem d_M_times_77 : decode c_M_times 77 = .ok (.i2l, 1) := by decide +kernel
theorem d_M_times_78 : decode c_M_times 78 = .ok (.lmul, 1) := by decide +kernel
theorem d_M_times_79 : decode c_M_times 79 = .ok (.ladd, 1) := by decide +kernel
theorem d_M_times_80 : decode c_M_times 80 = .ok (.lload 5, 2) := by decide +kernel
theorem d_M_times_82 : decode c_M_times 82 = .ok (.ladd, 1) := by decide +kernel
theorem d_M_times_83 : decode c_M_times 83 = .ok (.lstore 8, 2) := by decide +kernel
theorem d_M_times_85 : decode c_M_times 85 = .ok (.aload_n 0, 1) := by decide +kernel
theorem d_M_times_86 : decode c_M_times 86 = .ok (.getfield 7, 3) := by decide +kernel
theorem d_M_times_89 : decode c_M_times 89 = .ok (.bipush 108, 2) := by decide +kernel
theorem d_M_times_91 : decode c_M_times 91 = .ok (.iload_n 3, 1) := by decide +kernel
theorem d_M_times_92 : decode c_M_times 92 = .ok (.imul, 1) := by decide +kernel
theorem d_M_times_93 : decode c_M_times 93 = .ok (.iload 4, 2) := by decide +kernel
theorem d_M_times_95 : decode c_M_times 95 = .ok (.iadd, 1) := by decide +kernel
theorem d_M_times_96 : decode c_M_times 96 = .ok (.iload 7, 2) := by decide +kernel
theorem d_M_times_98 : decode c_M_times 98 = .ok (.iadd, 1) := by decide +kernel
theorem d_M_times_99 : decode c_M_times 99 = .ok (.lload 8, 2) := by decide +kernel
theorem d_M_times_101 : decode c_M_times 101 = .ok (.ldc2_w 34, 3) := by decide +kernel
theorem d_M_times_104 : decode c_M_times 104 = .ok (.land, 1) := by decide +kernel
theorem d_M_times_105 : decode c_M_times 105 = .ok (.l2i, 1) := by decide +kernel
theorem d_M_times_106 : decode c_M_times 106 = .ok (.iastore, 1) := by decide +kernel
theorem d_M_times_107 : decode c_M_times 107 = .ok (.lload 8, 2) := by decide +kernel
theorem d_M_times_109 : decode c_M_times 109 = .ok (.bipush 20, 2) := by decide +kernel
theorem d_M_times_111 : decode c_M_times 111 = .ok (.lshr, 1) := by decide +kernel
theorem d_M_times_112 : decode c_M_times 112 = .ok (.lstore 5, 2) := by decide +kernel
theorem d_M_times_114 : decode c_M_times 114 = .ok (.iinc 7 1, 3) := by decide +kernel
theorem d_M_times_117 : decode c_M_times 117 = .ok (.goto (-92), 3) := by decide +kernel
theorem d_M_times_120 : decode c_M_times 120 = .ok (.aload_n 0, 1) := by decide +kernel
theorem d_M_times_121 : decode c_M_times 121 = .ok (.getfield 7, 3) := by decide +kernel
theorem d_M_times_124 : decode c_M_times 124 = .ok (.bipush 108, 2) := by decide +kernel
theorem d_M_times_126 : decode c_M_times 126 = .ok (.iload_n 3, 1) := by decide +kernel
theorem d_M_times_127 : decode c_M_times 127 = .ok (.imul, 1) := by decide +kernel
theorem d_M_times_128 : decode c_M_times 128 = .ok (.iload 4, 2) := by decide +kernel
theorem d_M_times_130 : decode c_M_times 130 = .ok (.iadd, 1) := by decide +kernel
theorem d_M_times_131 : decode c_M_times 131 = .ok (.aload_n 0, 1) := by decide +kernel
theorem d_M_times_132 : decode c_M_times 132 = .ok (.getfield 13, 3) := by decide +kernel
theorem d_M_times_135 : decode c_M_times 135 = .ok (.iload_n 2, 1) := by decide +kernel
theorem d_M_times_136 : decode c_M_times 136 = .ok (.iaload, 1) := by decide +kernel
theorem d_M_times_137 : decode c_M_times 137 = .ok (.iadd, 1) := by decide +kernel
theorem d_M_times_138 : decode c_M_times 138 = .ok (.lload 5, 2) := by decide +kernel
theorem d_M_times_140 : decode c_M_times 140 = .ok (.l2i, 1) := by decide +kernel
theorem d_M_times_141 : decode c_M_times 141 = .ok (.iastore, 1) := by decide +kernel
theorem d_M_times_142 : decode c_M_times 142 = .ok (.iinc 4 1, 3) := by decide +kernel
theorem d_M_times_145 : decode c_M_times 145 = .ok (.goto (-137), 3) := by decide +kernel
theorem d_M_times_148 : decode c_M_times 148 = .ok (.aload_n 0, 1) := by decide +kernel
theorem d_M_times_149 : decode c_M_times 149 = .ok (.iload_n 3, 1) := by decide +kernel
theorem d_M_times_150 : decode c_M_times 150 = .ok (.invokevirtual 30, 3) := by decide +kernel
theorem d_M_times_153 : decode c_M_times 153 = .ok (.return_, 1) := by decide +kernel
theorem d_M_timesBy_0 : decode c_M_timesBy 0 = .ok (.aload_n 0, 1) := by decide +kernel
theorem d_M_timesBy_1 : decode c_M_timesBy 1 = .ok (.iload_n 1, 1) := by decide +kernel
theorem d_M_timesBy_2 : decode c_M_timesBy 2 = .ok (.iload_n 2, 1) := by decide +kernel
theorem d_M_timesBy_3 : decode c_M_timesBy 3 = .ok (.bipush 14, 2) := by decide +kernel
theorem d_M_timesBy_5 : decode c_M_timesBy 5 = .ok (.invokevirtual 63, 3) := by decide +kernel
theorem d_M_timesBy_8 : decode c_M_timesBy 8 = .ok (.aload_n 0, 1) := by decide +kernel
theorem d_M_timesBy_9 : decode c_M_timesBy 9 = .ok (.bipush 14, 2) := by decide +kernel
theorem d_M_timesBy_11 : decode c_M_timesBy 11 = .ok (.iload_n 3, 1) := by decide +kernel
theorem d_M_timesBy_12 : decode c_M_timesBy 12 = .ok (.invokevirtual 56, 3) := by decide +kernel
theorem d_M_timesBy_15 : decode c_M_timesBy 15 = .ok (.aload_n 0, 1) := by decide +kernel
theorem d_M_timesBy_16 : decode c_M_timesBy 16 = .ok (.bipush 16, 2) := by decide +kernel
theorem d_M_timesBy_18 : decode c_M_timesBy 18 = .ok (.iload 4, 2) := by decide +kernel
theorem d_M_timesBy_20 : decode c_M_timesBy 20 = .ok (.invokevirtual 40, 3) := by decide +kernel
theorem d_M_timesBy_23 : decode c_M_timesBy 23 = .ok (.return_, 1) := by decide +kernel
theorem d_M_trim_0 : decode c_M_trim 0 = .ok (.bipush 108, 2) := by decide +kernel
theorem d_M_trim_2 : decode c_M_trim 2 = .ok (.istore_n 2, 1) := by decide +kernel
theorem d_M_trim_3 : decode c_M_trim 3 = .ok (.iload_n 2, 1) := by decide +kernel
theorem d_M_trim_4 : decode c_M_trim 4 = .ok (.ifCond .le 25, 3) := by decide +kernel
theorem d_M_trim_7 : decode c_M_trim 7 = .ok (.aload_n 0, 1) := by decide +kernel
theorem d_M_trim_8 : decode c_M_trim 8 = .ok (.getfield 7, 3) := by decide +kernel
theorem d_M_trim_11 : decode c_M_trim 11 = .ok (.bipush 108, 2) := by decide +kernel
theorem d_M_trim_13 : decode c_M_trim 13 = .ok (.iload_n 1, 1) := by decide +kernel
theorem d_M_trim_14 : decode c_M_trim 14 = .ok (.imul, 1) := by decide +kernel
theorem d_M_trim_15 : decode c_M_trim 15 = .ok (.iload_n 2, 1) := by decide +kernel
theorem d_M_trim_16 : decode c_M_trim 16 = .ok (.iadd, 1) := by decide +kernel
theorem d_M_trim_17 : decode c_M_trim 17 = .ok (.iconst 1, 1) := by decide +kernel
theorem d_M_trim_18 : decode c_M_trim 18 = .ok (.isub, 1) := by decide +kernel
theorem d_M_trim_19 : decode c_M_trim 19 = .ok (.iaload, 1) := by decide +kernel
theorem d_M_trim_20 : decode c_M_trim 20 = .ok (.ifCond .ne 9, 3) := by decide +kernel
theorem d_M_trim_23 : decode c_M_trim 23 = .ok (.iinc 2 (-1), 3) := by decide +kernel
theorem d_M_trim_26 : decode c_M_trim 26 = .ok (.goto (-23), 3) := by decide +kernel
theorem d_M_trim_29 : decode c_M_trim 29 = .ok (.aload_n 0, 1) := by decide +kernel
theorem d_M_trim_30 : decode c_M_trim 30 = .ok (.getfield 13, 3) := by decide +kernel
theorem d_M_trim_33 : decode c_M_trim 33 = .ok (.iload_n 1, 1) := by decide +kernel
theorem d_M_trim_34 : decode c_M_trim 34 = .ok (.iload_n 2, 1) := by decide +kernel
theorem d_M_trim_35 : decode c_M_trim 35 = .ok (.iastore, 1) := by decide +kernel
theorem d_M_trim_36 : decode c_M_trim 36 = .ok (.return_, 1) := by decide +kernel
theorem d_M_type_0 : decode c_M_type 0 = .ok (.iload_n 3, 1) := by decide +kernel
theorem d_M_type_1 : decode c_M_type 1 = .ok (.iconst 1, 1) := by decide +kernel
theorem d_M_type_2 : decode c_M_type 2 = .ok (.if_icmp .lt 13, 3) := by decide +kernel
theorem d_M_type_5 : decode c_M_type 5 = .ok (.iload_n 3, 1) := by decide +kernel
theorem d_M_type_6 : decode c_M_type 6 = .ok (.bipush 8, 2) := by decide +kernel
theorem d_M_type_8 : decode c_M_type 8 = .ok (.if_icmp .gt 7, 3) := by decide +kernel
theorem d_M_type_11 : decode c_M_type 11 = .ok (.iconst 1, 1) := by decide +kernel
theorem d_M_type_12 : decode c_M_type 12 = .ok (.goto 4, 3) := by decide +kernel
theorem d_M_type_15 : decode c_M_type 15 = .ok (.iconst 0, 1) := by decide +kernel
theorem d_M_type_16 : decode c_M_type 16 = .ok (.istore 4, 2) := by decide +kernel
theorem d_M_type_18 : decode c_M_type 18 = .ok (.iconst 0, 1) := by decide +kernel
theorem d_M_type_19 : decode c_M_type 19 = .ok (.istore 5, 2) := by decide +kernel
theorem d_M_type_21 : decode c_M_type 21 = .ok (.iload 5, 2) := by decide +kernel
theorem d_M_type_23 : decode c_M_type 23 = .ok (.iload_n 3, 1) := by decide +kernel
theorem d_M_type_24 : decode c_M_type 24 = .ok (.if_icmp .ge 52, 3) := by decide +kernel
theorem d_M_type_27 : decode c_M_type 27 = .ok (.iload 4, 2) := by decide +kernel
theorem d_M_type_29 : decode c_M_type 29 = .ok (.ifCond .eq 47, 3) := by decide +kernel
theorem d_M_type_32 : decode c_M_type 32 = .ok (.lload_n 1, 1) := by decide +kernel
theorem d_M_type_33 : decode c_M_type 33 = .ok (.bipush 8, 2) := by decide +kernel
theorem d_M_type_35 : decode c_M_type 35 = .ok (.iload 5, 2) := by decide +kernel
theorem d_M_type_37 : decode c_M_type 37 = .ok (.imul, 1) := by decide +kernel
theorem d_M_type_38 : decode c_M_type 38 = .ok (.lshr, 1) := by decide +kernel
theorem d_M_type_39 : decode c_M_type 39 = .ok (.ldc2_w 121, 3) := by decide +kernel
theorem d_M_type_42 : decode c_M_type 42 = .ok (.land, 1) := by decide +kernel
theorem d_M_type_43 : decode c_M_type 43 = .ok (.lstore 6, 2) := by decide +kernel
theorem d_M_type_45 : decode c_M_type 45 = .ok (.lload 6, 2) := by decide +kernel
theorem d_M_type_47 : decode c_M_type 47 = .ok (.ldc2_w 123, 3) := by decide +kernel
theorem d_M_type_50 : decode c_M_type 50 = .ok (.lcmp, 1) := by decide +kernel
theorem d_M_type_51 : decode c_M_type 51 = .ok (.ifCond .lt 16, 3) := by decide +kernel
theorem d_M_type_54 : decode c_M_type 54 = .ok (.lload 6, 2) := by decide +kernel
theorem d_M_type_56 : decode c_M_type 56 = .ok (.ldc2_w 125, 3) := by decide +kernel
theorem d_M_type_59 : decode c_M_type 59 = .ok (.lcmp, 1) := by decide +kernel
theorem d_M_type_60 : decode c_M_type 60 = .ok (.ifCond .gt 7, 3) := by decide +kernel
theorem d_M_type_63 : decode c_M_type 63 = .ok (.iconst 1, 1) := by decide +kernel
theorem d_M_type_64 : decode c_M_type 64 = .ok (.goto 4, 3) := by decide +kernel
theorem d_M_type_67 : decode c_M_type 67 = .ok (.iconst 0, 1) := by decide +kernel
theorem d_M_type_68 : decode c_M_type 68 = .ok (.istore 4, 2) := by decide +kernel
theorem d_M_type_70 : decode c_M_type 70 = .ok (.iinc 5 1, 3) := by decide +kernel
theorem d_M_type_73 : decode c_M_type 73 = .ok (.goto (-52), 3) := by decide +kernel
theorem d_M_type_76 : decode c_M_type 76 = .ok (.aload_n 0, 1) := by decide +kernel
theorem d_M_type_77 : decode c_M_type 77 = .ok (.iload 4, 2) := by decide +kernel
theorem d_M_type_79 : decode c_M_type 79 = .ok (.ifCond .ne 7, 3) := by decide +kernel
theorem d_M_type_82 : decode c_M_type 82 = .ok (.iconst 1, 1) := by decide +kernel
theorem d_M_type_83 : decode c_M_type 83 = .ok (.goto 20, 3) := by decide +kernel
theorem d_M_type_86 : decode c_M_type 86 = .ok (.aload_n 0, 1) := by decide +kernel
theorem d_M_type_87 : decode c_M_type 87 = .ok (.getfield 127, 3) := by decide +kernel
theorem d_M_type_90 : decode c_M_type 90 = .ok (.iload_n 3, 1) := by decide +kernel
theorem d_M_type_91 : decode c_M_type 91 = .ok (.iadd, 1) := by decide +kernel
theorem d_M_type_92 : decode c_M_type 92 = .ok (.sipush 1200, 3) := by decide +kernel
theorem d_M_type_95 : decode c_M_type 95 = .ok (.if_icmp .le 7, 3) := by decide +kernel
theorem d_M_type_98 : decode c_M_type 98 = .ok (.iconst 2, 1) := by decide +kernel
theorem d_M_type_99 : decode c_M_type 99 = .ok (.goto 4, 3) := by decide +kernel
theorem d_M_type_102 : decode c_M_type 102 = .ok (.iconst 0, 1) := by decide +kernel
theorem d_M_type_103 : decode c_M_type 103 = .ok (.putfield 22, 3) := by decide +kernel
theorem d_M_type_106 : decode c_M_type 106 = .ok (.aload_n 0, 1) := by decide +kernel
theorem d_M_type_107 : decode c_M_type 107 = .ok (.getfield 22, 3) := by decide +kernel
theorem d_M_type_110 : decode c_M_type 110 = .ok (.ifCond .le 5, 3) := by decide +kernel
theorem d_M_type_113 : decode c_M_type 113 = .ok (.iconst 0, 1) := by decide +kernel
theorem d_M_type_114 : decode c_M_type 114 = .ok (.ireturn, 1) := by decide +kernel
theorem d_M_type_115 : decode c_M_type 115 = .ok (.iload_n 3, 1) := by decide +kernel
theorem d_M_type_116 : decode c_M_type 116 = .ok (.iconst 1, 1) := by decide +kernel
theorem d_M_type_117 : decode c_M_type 117 = .ok (.isub, 1) := by decide +kernel
theorem d_M_type_118 : decode c_M_type 118 = .ok (.istore 5, 2) := by decide +kernel
theorem d_M_type_120 : decode c_M_type 120 = .ok (.iload 5, 2) := by decide +kernel
theorem d_M_type_122 : decode c_M_type 122 = .ok (.ifCond .lt 40, 3) := by decide +kernel
theorem d_M_type_125 : decode c_M_type 125 = .ok (.aload_n 0, 1) := by decide +kernel
theorem d_M_type_126 : decode c_M_type 126 = .ok (.getfield 19, 3) := by decide +kernel
theorem d_M_type_129 : decode c_M_type 129 = .ok (.aload_n 0, 1) := by decide +kernel
theorem d_M_type_130 : decode c_M_type 130 = .ok (.getfield 127, 3) := by decide +kernel
theorem d_M_type_133 : decode c_M_type 133 = .ok (.lload_n 1, 1) := by decide +kernel
theorem d_M_type_134 : decode c_M_type 134 = .ok (.bipush 8, 2) := by decide +kernel
theorem d_M_type_136 : decode c_M_type 136 = .ok (.iload 5, 2) := by decide +kernel
theorem d_M_type_138 : decode c_M_type 138 = .ok (.imul, 1) := by decide +kernel
theorem d_M_type_139 : decode c_M_type 139 = .ok (.lshr, 1) := by decide +kernel
theorem d_M_type_140 : decode c_M_type 140 = .ok (.ldc2_w 121, 3) := by decide +kernel
theorem d_M_type_143 : decode c_M_type 143 = .ok (.land, 1) := by decide +kernel
theorem d_M_type_144 : decode c_M_type 144 = .ok (.l2i, 1) := by decide +kernel
theorem d_M_type_145 : decode c_M_type 145 = .ok (.iastore, 1) := by decide +kernel
theorem d_M_type_146 : decode c_M_type 146 = .ok (.aload_n 0, 1) := by decide +kernel
theorem d_M_type_147 : decode c_M_type 147 = .ok (.dup, 1) := by decide +kernel
theorem d_M_type_148 : decode c_M_type 148 = .ok (.getfield 127, 3) := by decide +kernel
theorem d_M_type_151 : decode c_M_type 151 = .ok (.iconst 1, 1) := by decide +kernel
theorem d_M_type_152 : decode c_M_type 152 = .ok (.iadd, 1) := by decide +kernel
theorem d_M_type_153 : decode c_M_type 153 = .ok (.putfield 127, 3) := by decide +kernel
theorem d_M_type_156 : decode c_M_type 156 = .ok (.iinc 5 (-1), 3) := by decide +kernel
theorem d_M_type_159 : decode c_M_type 159 = .ok (.goto (-39), 3) := by decide +kernel
theorem d_M_type_162 : decode c_M_type 162 = .ok (.aload_n 0, 1) := by decide +kernel
theorem d_M_type_163 : decode c_M_type 163 = .ok (.getfield 127, 3) := by decide +kernel
theorem d_M_type_166 : decode c_M_type 166 = .ok (.ireturn, 1) := by decide +kernel
theorem d_M_wipe_0 : decode c_M_wipe 0 = .ok (.aload_n 0, 1) := by decide +kernel
theorem d_M_wipe_1 : decode c_M_wipe 1 = .ok (.iconst 0, 1) := by decide +kernel
theorem d_M_wipe_2 : decode c_M_wipe 2 = .ok (.putfield 22, 3) := by decide +kernel
theorem d_M_wipe_5 : decode c_M_wipe 5 = .ok (.aload_n 0, 1) := by decide +kernel
theorem d_M_wipe_6 : decode c_M_wipe 6 = .ok (.getfield 127, 3) := by decide +kernel
theorem d_M_wipe_9 : decode c_M_wipe 9 = .ok (.istore_n 1, 1) := by decide +kernel
theorem d_M_wipe_10 : decode c_M_wipe 10 = .ok (.aload_n 0, 1) := by decide +kernel
theorem d_M_wipe_11 : decode c_M_wipe 11 = .ok (.iconst 0, 1) := by decide +kernel
theorem d_M_wipe_12 : decode c_M_wipe 12 = .ok (.putfield 127, 3) := by decide +kernel
theorem d_M_wipe_15 : decode c_M_wipe 15 = .ok (.iload_n 1, 1) := by decide +kernel
theorem d_M_wipe_16 : decode c_M_wipe 16 = .ok (.ireturn, 1) := by decide +kernel
