/-! decode rows -/
theorem d_JI_numberOfLeadingZeros_0 : decode c_JI_numberOfLeadingZeros 0 = .ok (.iload_n 0, 1) := by decide +kernel
theorem d_JI_numberOfLeadingZeros_1 : decode c_JI_numberOfLeadingZeros 1 = .ok (.ifCond .gt 14, 3) := by decide +kernel
theorem d_JI_numberOfLeadingZeros_4 : decode c_JI_numberOfLeadingZeros 4 = .ok (.iload_n 0, 1) := by decide +kernel
theorem d_JI_numberOfLeadingZeros_5 : decode c_JI_numberOfLeadingZeros 5 = .ok (.ifCond .ne 8, 3) := by decide +kernel
theorem d_JI_numberOfLeadingZeros_8 : decode c_JI_numberOfLeadingZeros 8 = .ok (.bipush 32, 2) := by decide +kernel
theorem d_JI_numberOfLeadingZeros_10 : decode c_JI_numberOfLeadingZeros 10 = .ok (.goto 4, 3) := by decide +kernel
theorem d_JI_numberOfLeadingZeros_13 : decode c_JI_numberOfLeadingZeros 13 = .ok (.iconst 0, 1) := by decide +kernel
theorem d_JI_numberOfLeadingZeros_14 : decode c_JI_numberOfLeadingZeros 14 = .ok (.ireturn, 1) := by decide +kernel
theorem d_JI_numberOfLeadingZeros_15 : decode c_JI_numberOfLeadingZeros 15 = .ok (.bipush 31, 2) := by decide +kernel
theorem d_JI_numberOfLeadingZeros_17 : decode c_JI_numberOfLeadingZeros 17 = .ok (.istore_n 1, 1) := by decide +kernel
theorem d_JI_numberOfLeadingZeros_18 : decode c_JI_numberOfLeadingZeros 18 = .ok (.iload_n 0, 1) := by decide +kernel
theorem d_JI_numberOfLeadingZeros_19 : decode c_JI_numberOfLeadingZeros 19 = .ok (.ldc_w 264, 3) := by decide +kernel
theorem d_JI_numberOfLeadingZeros_22 : decode c_JI_numberOfLeadingZeros 22 = .ok (.if_icmp .lt 11, 3) := by decide +kernel
theorem d_JI_numberOfLeadingZeros_25 : decode c_JI_numberOfLeadingZeros 25 = .ok (.iinc 1 (-16), 3) := by decide +kernel
theorem d_JI_numberOfLeadingZeros_28 : decode c_JI_numberOfLeadingZeros 28 = .ok (.iload_n 0, 1) := by decide +kernel
theorem d_JI_numberOfLeadingZeros_29 : decode c_JI_numberOfLeadingZeros 29 = .ok (.bipush 16, 2) := by decide +kernel
theorem d_JI_numberOfLeadingZeros_31 : decode c_JI_numberOfLeadingZeros 31 = .ok (.iushr, 1) := by decide +kernel
theorem d_JI_numberOfLeadingZeros_32 : decode c_JI_numberOfLeadingZeros 32 = .ok (.istore_n 0, 1) := by decide +kernel
theorem d_JI_numberOfLeadingZeros_33 : decode c_JI_numberOfLeadingZeros 33 = .ok (.iload_n 0, 1) := by decide +kernel
theorem d_JI_numberOfLeadingZeros_34 : decode c_JI_numberOfLeadingZeros 34 = .ok (.sipush 256, 3) := by decide +kernel
theorem d_JI_numberOfLeadingZeros_37 : decode c_JI_numberOfLeadingZeros 37 = .ok (.if_icmp .lt 11, 3) := by decide +kernel
theorem d_JI_numberOfLeadingZeros_40 : decode c_JI_numberOfLeadingZeros 40 = .ok (.iinc 1 (-8), 3) := by decide +kernel
theorem d_JI_numberOfLeadingZeros_43 : decode c_JI_numberOfLeadingZeros 43 = .ok (.iload_n 0, 1) := by decide +kernel
theorem d_JI_numberOfLeadingZeros_44 : decode c_JI_numberOfLeadingZeros 44 = .ok (.bipush 8, 2) := by decide +kernel
theorem d_JI_numberOfLeadingZeros_46 : decode c_JI_numberOfLeadingZeros 46 = .ok (.iushr, 1) := by decide +kernel
theorem d_JI_numberOfLeadingZeros_47 : decode c_JI_numberOfLeadingZeros 47 = .ok (.istore_n 0, 1) := by decide +kernel
theorem d_JI_numberOfLeadingZeros_48 : decode c_JI_numberOfLeadingZeros 48 = .ok (.iload_n 0, 1) := by decide +kernel
theorem d_JI_numberOfLeadingZeros_49 : decode c_JI_numberOfLeadingZeros 49 = .ok (.bipush 16, 2) := by decide +kernel
theorem d_JI_numberOfLeadingZeros_51 : decode c_JI_numberOfLeadingZeros 51 = .ok (.if_icmp .lt 10, 3) := by decide +kernel
theorem d_JI_numberOfLeadingZeros_54 : decode c_JI_numberOfLeadingZeros 54 = .ok (.iinc 1 (-4), 3) := by decide +kernel
theorem d_JI_numberOfLeadingZeros_57 : decode c_JI_numberOfLeadingZeros 57 = .ok (.iload_n 0, 1) := by decide +kernel
theorem d_JI_numberOfLeadingZeros_58 : decode c_JI_numberOfLeadingZeros 58 = .ok (.iconst 4, 1) := by decide +kernel
theorem d_JI_numberOfLeadingZeros_59 : decode c_JI_numberOfLeadingZeros 59 = .ok (.iushr, 1) := by decide +kernel
theorem d_JI_numberOfLeadingZeros_60 : decode c_JI_numberOfLeadingZeros 60 = .ok (.istore_n 0, 1) := by decide +kernel
theorem d_JI_numberOfLeadingZeros_61 : decode c_JI_numberOfLeadingZeros 61 = .ok (.iload_n 0, 1) := by decide +kernel
theorem d_JI_numberOfLeadingZeros_62 : decode c_JI_numberOfLeadingZeros 62 = .ok (.iconst 4, 1) := by decide +kernel
theorem d_JI_numberOfLeadingZeros_63 : decode c_JI_numberOfLeadingZeros 63 = .ok (.if_icmp .lt 10, 3) := by decide +kernel
theorem d_JI_numberOfLeadingZeros_66 : decode c_JI_numberOfLeadingZeros 66 = .ok (.iinc 1 (-2), 3) := by decide +kernel
theorem d_JI_numberOfLeadingZeros_69 : decode c_JI_numberOfLeadingZeros 69 = .ok (.iload_n 0, 1) := by decide +kernel
theorem d_JI_numberOfLeadingZeros_70 : decode c_JI_numberOfLeadingZeros 70 = .ok (.iconst 2, 1) := by decide +kernel
theorem d_JI_numberOfLeadingZeros_71 : decode c_JI_numberOfLeadingZeros 71 = .ok (.iushr, 1) := by decide +kernel
theorem d_JI_numberOfLeadingZeros_72 : decode c_JI_numberOfLeadingZeros 72 = .ok (.istore_n 0, 1) := by decide +kernel
theorem d_JI_numberOfLeadingZeros_73 : decode c_JI_numberOfLeadingZeros 73 = .ok (.iload_n 1, 1) := by decide +kernel
theorem d_JI_numberOfLeadingZeros_74 : decode c_JI_numberOfLeadingZeros 74 = .ok (.iload_n 0, 1) := by decide +kernel
theorem d_JI_numberOfLeadingZeros_75 : decode c_JI_numberOfLeadingZeros 75 = .ok (.iconst 1, 1) := by decide +kernel
theorem d_JI_numberOfLeadingZeros_76 : decode c_JI_numberOfLeadingZeros 76 = .ok (.iushr, 1) := by decide +kernel
theorem d_JI_numberOfLeadingZeros_77 : decode c_JI_numberOfLeadingZeros 77 = .ok (.isub, 1) := by decide +kernel
theorem d_JI_numberOfLeadingZeros_78 : decode c_JI_numberOfLeadingZeros 78 = .ok (.ireturn, 1) := by decide +kernel
theorem d_JL_numberOfLeadingZeros_0 : decode c_JL_numberOfLeadingZeros 0 = .ok (.lload_n 0, 1) := by decide +kernel
theorem d_JL_numberOfLeadingZeros_1 : decode c_JL_numberOfLeadingZeros 1 = .ok (.bipush 32, 2) := by decide +kernel
theorem d_JL_numberOfLeadingZeros_3 : decode c_JL_numberOfLeadingZeros 3 = .ok (.lushr, 1) := by decide +kernel
theorem d_JL_numberOfLeadingZeros_4 : decode c_JL_numberOfLeadingZeros 4 = .ok (.l2i, 1) := by decide +kernel
theorem d_JL_numberOfLeadingZeros_5 : decode c_JL_numberOfLeadingZeros 5 = .ok (.istore_n 2, 1) := by decide +kernel
theorem d_JL_numberOfLeadingZeros_6 : decode c_JL_numberOfLeadingZeros 6 = .ok (.iload_n 2, 1) := by decide +kernel
theorem d_JL_numberOfLeadingZeros_7 : decode c_JL_numberOfLeadingZeros 7 = .ok (.ifCond .ne 14, 3) := by decide +kernel
theorem d_JL_numberOfLeadingZeros_10 : decode c_JL_numberOfLeadingZeros 10 = .ok (.bipush 32, 2) := by decide +kernel
theorem d_JL_numberOfLeadingZeros_12 : decode c_JL_numberOfLeadingZeros 12 = .ok (.lload_n 0, 1) := by decide +kernel
theorem d_JL_numberOfLeadingZeros_13 : decode c_JL_numberOfLeadingZeros 13 = .ok (.l2i, 1) := by decide +kernel
theorem d_JL_numberOfLeadingZeros_14 : decode c_JL_numberOfLeadingZeros 14 = .ok (.invokestatic 308, 3) := by decide +kernel
theorem d_JL_numberOfLeadingZeros_17 : decode c_JL_numberOfLeadingZeros 17 = .ok (.iadd, 1) := by decide +kernel
theorem d_JL_numberOfLeadingZeros_18 : decode c_JL_numberOfLeadingZeros 18 = .ok (.goto 7, 3) := by decide +kernel
theorem d_JL_numberOfLeadingZeros_21 : decode c_JL_numberOfLeadingZeros 21 = .ok (.iload_n 2, 1) := by decide +kernel
theorem d_JL_numberOfLeadingZeros_22 : decode c_JL_numberOfLeadingZeros 22 = .ok (.invokestatic 308, 3) := by decide +kernel
theorem d_JL_numberOfLeadingZeros_25 : decode c_JL_numberOfLeadingZeros 25 = .ok (.ireturn, 1) := by decide +kernel
theorem d_JM_maxI_0 : decode c_JM_maxI 0 = .ok (.iload_n 0, 1) := by decide +kernel
theorem d_JM_maxI_1 : decode c_JM_maxI 1 = .ok (.iload_n 1, 1) := by decide +kernel
theorem d_JM_maxI_2 : decode c_JM_maxI 2 = .ok (.if_icmp .lt 7, 3) := by decide +kernel
theorem d_JM_maxI_5 : decode c_JM_maxI 5 = .ok (.iload_n 0, 1) := by decide +kernel
theorem d_JM_maxI_6 : decode c_JM_maxI 6 = .ok (.goto 4, 3) := by decide +kernel
theorem d_JM_maxI_9 : decode c_JM_maxI 9 = .ok (.iload_n 1, 1) := by decide +kernel
theorem d_JM_maxI_10 : decode c_JM_maxI 10 = .ok (.ireturn, 1) := by decide +kernel
theorem d_JM_minI_0 : decode c_JM_minI 0 = .ok (.iload_n 0, 1) := by decide +kernel
theorem d_JM_minI_1 : decode c_JM_minI 1 = .ok (.iload_n 1, 1) := by decide +kernel
theorem d_JM_minI_2 : decode c_JM_minI 2 = .ok (.if_icmp .gt 7, 3) := by decide +kernel
theorem d_JM_minI_5 : decode c_JM_minI 5 = .ok (.iload_n 0, 1) := by decide +kernel
theorem d_JM_minI_6 : decode c_JM_minI 6 = .ok (.goto 4, 3) := by decide +kernel
theorem d_JM_minI_9 : decode c_JM_minI 9 = .ok (.iload_n 1, 1) := by decide +kernel
theorem d_JM_minI_10 : decode c_JM_minI 10 = .ok (.ireturn, 1) := by decide +kernel
theorem d_JM_minJ_0 : decode c_JM_minJ 0 = .ok (.lload_n 0, 1) := by decide +kernel
theorem d_JM_minJ_1 : decode c_JM_minJ 1 = .ok (.lload_n 2, 1) := by decide +kernel
theorem d_JM_minJ_2 : decode c_JM_minJ 2 = .ok (.lcmp, 1) := by decide +kernel
theorem d_JM_minJ_3 : decode c_JM_minJ 3 = .ok (.ifCond .gt 7, 3) := by decide +kernel
theorem d_JM_minJ_6 : decode c_JM_minJ 6 = .ok (.lload_n 0, 1) := by decide +kernel
theorem d_JM_minJ_7 : decode c_JM_minJ 7 = .ok (.goto 4, 3) := by decide +kernel
theorem d_JM_minJ_10 : decode c_JM_minJ 10 = .ok (.lload_n 2, 1) := by decide +kernel
theorem d_JM_minJ_11 : decode c_JM_minJ 11 = .ok (.lreturn, 1) := by decide +kernel
theorem d_N_at_0 : decode c_N_at 0 = .ok (.iload_n 1, 1) := by decide +kernel
theorem d_N_at_1 : decode c_N_at 1 = .ok (.ifCond .lt 20, 3) := by decide +kernel
theorem d_N_at_4 : decode c_N_at 4 = .ok (.iload_n 1, 1) := by decide +kernel
theorem d_N_at_5 : decode c_N_at 5 = .ok (.aload_n 0, 1) := by decide +kernel
theorem d_N_at_6 : decode c_N_at 6 = .ok (.getfield 15, 3) := by decide +kernel
theorem d_N_at_9 : decode c_N_at 9 = .ok (.if_icmp .ge 12, 3) := by decide +kernel
theorem d_N_at_12 : decode c_N_at 12 = .ok (.aload_n 0, 1) := by decide +kernel
theorem d_N_at_13 : decode c_N_at 13 = .ok (.getfield 9, 3) := by decide +kernel
theorem d_N_at_16 : decode c_N_at 16 = .ok (.iload_n 1, 1) := by decide +kernel
theorem d_N_at_17 : decode c_N_at 17 = .ok (.laload, 1) := by decide +kernel
theorem d_N_at_18 : decode c_N_at 18 = .ok (.goto 4, 3) := by decide +kernel
theorem d_N_at_21 : decode c_N_at 21 = .ok (.lconst 0, 1) := by decide +kernel
theorem d_N_at_22 : decode c_N_at 22 = .ok (.lreturn, 1) := by decide +kernel
theorem d_N_carryUp_0 : decode c_N_carryUp 0 = .ok (.lconst 0, 1) := by decide +kernel
theorem d_N_carryUp_1 : decode c_N_carryUp 1 = .ok (.lstore_n 2, 1) := by decide +kernel
theorem d_N_carryUp_2 : decode c_N_carryUp 2 = .ok (.iconst 0, 1) := by decide +kernel
theorem d_N_carryUp_3 : decode c_N_carryUp 3 = .ok (.istore 4, 2) := by decide +kernel
theorem d_N_carryUp_5 : decode c_N_carryUp 5 = .ok (.iload 4, 2) := by decide +kernel
theorem d_N_carryUp_7 : decode c_N_carryUp 7 = .ok (.iload_n 1, 1) := by decide +kernel
theorem d_N_carryUp_8 : decode c_N_carryUp 8 = .ok (.if_icmp .ge 36, 3) := by decide +kernel
theorem d_N_carryUp_11 : decode c_N_carryUp 11 = .ok (.lload_n 2, 1) := by decide +kernel
theorem d_N_carryUp_12 : decode c_N_carryUp 12 = .ok (.aload_n 0, 1) := by decide +kernel
theorem d_N_carryUp_13 : decode c_N_carryUp 13 = .ok (.getfield 9, 3) := by decide +kernel
theorem d_N_carryUp_16 : decode c_N_carryUp 16 = .ok (.iload 4, 2) := by decide +kernel
theorem d_N_carryUp_18 : decode c_N_carryUp 18 = .ok (.laload, 1) := by decide +kernel
theorem d_N_carryUp_19 : decode c_N_carryUp 19 = .ok (.ladd, 1) := by decide +kernel
theorem d_N_carryUp_20 : decode c_N_carryUp 20 = .ok (.lstore_n 2, 1) := by decide +kernel
theorem d_N_carryUp_21 : decode c_N_carryUp 21 = .ok (.aload_n 0, 1) := by decide +kernel
theorem d_N_carryUp_22 : decode c_N_carryUp 22 = .ok (.getfield 9, 3) := by decide +kernel
theorem d_N_carryUp_25 : decode c_N_carryUp 25 = .ok (.iload 4, 2) := by decide +kernel
theorem d_N_carryUp_27 : decode c_N_carryUp 27 = .ok (.lload_n 2, 1) := by decide +kernel
theorem d_N_carryUp_28 : decode c_N_carryUp 28 = .ok (.ldc2_w 43, 3) := by decide +kernel
theorem d_N_carryUp_31 : decode c_N_carryUp 31 = .ok (.land, 1) := by decide +kernel
theorem d_N_carryUp_32 : decode c_N_carryUp 32 = .ok (.lastore, 1) := by decide +kernel
theorem d_N_carryUp_33 : decode c_N_carryUp 33 = .ok (.lload_n 2, 1) := by decide +kernel
theorem d_N_carryUp_34 : decode c_N_carryUp 34 = .ok (.bipush 28, 2) := by decide +kernel
theorem d_N_carryUp_36 : decode c_N_carryUp 36 = .ok (.lshr, 1) := by decide +kernel
theorem d_N_carryUp_37 : decode c_N_carryUp 37 = .ok (.lstore_n 2, 1) := by decide +kernel
theorem d_N_carryUp_38 : decode c_N_carryUp 38 = .ok (.iinc 4 1, 3) := by decide +kernel
theorem d_N_carryUp_41 : decode c_N_carryUp 41 = .ok (.goto (-36), 3) := by decide +kernel
theorem d_N_carryUp_44 : decode c_N_carryUp 44 = .ok (.aload_n 0, 1) := by decide +kernel
theorem d_N_carryUp_45 : decode c_N_carryUp 45 = .ok (.iload_n 1, 1) := by decide +kernel
theorem d_N_carryUp_46 : decode c_N_carryUp 46 = .ok (.invokevirtual 39, 3) := by decide +kernel
theorem d_N_carryUp_49 : decode c_N_carryUp 49 = .ok (.return_, 1) := by decide +kernel
theorem d_N_clear_0 : decode c_N_clear 0 = .ok (.aload_n 0, 1) := by decide +kernel
theorem d_N_clear_1 : decode c_N_clear 1 = .ok (.iconst 0, 1) := by decide +kernel
theorem d_N_clear_2 : decode c_N_clear 2 = .ok (.invokevirtual 39, 3) := by decide +kernel
theorem d_N_clear_5 : decode c_N_clear 5 = .ok (.return_, 1) := by decide +kernel
theorem d_N_gather_0 : decode c_N_gather 0 = .ok (.aload_n 0, 1) := by decide +kernel
theorem d_N_gather_1 : decode c_N_gather 1 = .ok (.getfield 9, 3) := by decide +kernel
theorem d_N_gather_4 : decode c_N_gather 4 = .ok (.astore 6, 2) := by decide +kernel
theorem d_N_gather_6 : decode c_N_gather 6 = .ok (.aload_n 1, 1) := by decide +kernel
theorem d_N_gather_7 : decode c_N_gather 7 = .ok (.getfield 9, 3) := by decide +kernel
theorem d_N_gather_10 : decode c_N_gather 10 = .ok (.astore 7, 2) := by decide +kernel
theorem d_N_gather_12 : decode c_N_gather 12 = .ok (.aload_n 1, 1) := by decide +kernel
theorem d_N_gather_13 : decode c_N_gather 13 = .ok (.getfield 15, 3) := by decide +kernel
theorem d_N_gather_16 : decode c_N_gather 16 = .ok (.istore 8, 2) := by decide +kernel
theorem d_N_gather_18 : decode c_N_gather 18 = .ok (.iload_n 2, 1) := by decide +kernel
theorem d_N_gather_19 : decode c_N_gather 19 = .ok (.istore 9, 2) := by decide +kernel
theorem d_N_gather_21 : decode c_N_gather 21 = .ok (.iload 9, 2) := by decide +kernel
theorem d_N_gather_23 : decode c_N_gather 23 = .ok (.iload 8, 2) := by decide +kernel
theorem d_N_gather_25 : decode c_N_gather 25 = .ok (.if_icmp .ge 27, 3) := by decide +kernel
theorem d_N_gather_28 : decode c_N_gather 28 = .ok (.aload 6, 2) := by decide +kernel
theorem d_N_gather_30 : decode c_N_gather 30 = .ok (.iload_n 3, 1) := by decide +kernel
theorem d_N_gather_31 : decode c_N_gather 31 = .ok (.iload 9, 2) := by decide +kernel
theorem d_N_gather_33 : decode c_N_gather 33 = .ok (.iadd, 1) := by decide +kernel
theorem d_N_gather_34 : decode c_N_gather 34 = .ok (.dup2, 1) := by decide +kernel
theorem d_N_gather_35 : decode c_N_gather 35 = .ok (.laload, 1) := by decide +kernel
theorem d_N_gather_36 : decode c_N_gather 36 = .ok (.lload 4, 2) := by decide +kernel
theorem d_N_gather_38 : decode c_N_gather 38 = .ok (.aload 7, 2) := by decide +kernel
theorem d_N_gather_40 : decode c_N_gather 40 = .ok (.iload 9, 2) := by decide +kernel
theorem d_N_gather_42 : decode c_N_gather 42 = .ok (.laload, 1) := by decide +kernel
theorem d_N_gather_43 : decode c_N_gather 43 = .ok (.lmul, 1) := by decide +kernel
theorem d_N_gather_44 : decode c_N_gather 44 = .ok (.ladd, 1) := by decide +kernel
theorem d_N_gather_45 : decode c_N_gather 45 = .ok (.lastore, 1) := by decide +kernel
theorem d_N_gather_46 : decode c_N_gather 46 = .ok (.iinc 9 1, 3) := by decide +kernel
theorem d_N_gather_49 : decode c_N_gather 49 = .ok (.goto (-28), 3) := by decide +kernel
theorem d_N_gather_52 : decode c_N_gather 52 = .ok (.return_, 1) := by decide +kernel
theorem d_N_hasBit_0 : decode c_N_hasBit 0 = .ok (.aload_n 0, 1) := by decide +kernel
theorem d_N_hasBit_1 : decode c_N_hasBit 1 = .ok (.iload_n 1, 1) := by decide +kernel
theorem d_N_hasBit_2 : decode c_N_hasBit 2 = .ok (.bipush 28, 2) := by decide +kernel
theorem d_N_hasBit_4 : decode c_N_hasBit 4 = .ok (.idiv, 1) := by decide +kernel
theorem d_N_hasBit_5 : decode c_N_hasBit 5 = .ok (.invokevirtual 19, 3) := by decide +kernel
theorem d_N_hasBit_8 : decode c_N_hasBit 8 = .ok (.iload_n 1, 1) := by decide +kernel
theorem d_N_hasBit_9 : decode c_N_hasBit 9 = .ok (.bipush 28, 2) := by decide +kernel
theorem d_N_hasBit_11 : decode c_N_hasBit 11 = .ok (.irem, 1) := by decide +kernel
theorem d_N_hasBit_12 : decode c_N_hasBit 12 = .ok (.lshr, 1) := by decide +kernel
theorem d_N_hasBit_13 : decode c_N_hasBit 13 = .ok (.lconst 1, 1) := by decide +kernel
theorem d_N_hasBit_14 : decode c_N_hasBit 14 = .ok (.land, 1) := by decide +kernel
theorem d_N_hasBit_15 : decode c_N_hasBit 15 = .ok (.lconst 1, 1) := by decide +kernel
theorem d_N_hasBit_16 : decode c_N_hasBit 16 = .ok (.lcmp, 1) := by decide +kernel
theorem d_N_hasBit_17 : decode c_N_hasBit 17 = .ok (.ifCond .ne 7, 3) := by decide +kernel
theorem d_N_hasBit_20 : decode c_N_hasBit 20 = .ok (.iconst 1, 1) := by decide +kernel
theorem d_N_hasBit_21 : decode c_N_hasBit 21 = .ok (.goto 4, 3) := by decide +kernel
theorem d_N_hasBit_24 : decode c_N_hasBit 24 = .ok (.iconst 0, 1) := by decide +kernel
theorem d_N_hasBit_25 : decode c_N_hasBit 25 = .ok (.ireturn, 1) := by decide +kernel
theorem d_N_hasBitBelow_0 : decode c_N_hasBitBelow 0 = .ok (.iload_n 1, 1) := by decide +kernel
theorem d_N_hasBitBelow_1 : decode c_N_hasBitBelow 1 = .ok (.bipush 28, 2) := by decide +kernel
theorem d_N_hasBitBelow_3 : decode c_N_hasBitBelow 3 = .ok (.idiv, 1) := by decide +kernel
theorem d_N_hasBitBelow_4 : decode c_N_hasBitBelow 4 = .ok (.aload_n 0, 1) := by decide +kernel
theorem d_N_hasBitBelow_5 : decode c_N_hasBitBelow 5 = .ok (.getfield 15, 3) := by decide +kernel
theorem d_N_hasBitBelow_8 : decode c_N_hasBitBelow 8 = .ok (.invokestatic 33, 3) := by decide +kernel
theorem d_N_hasBitBelow_11 : decode c_N_hasBitBelow 11 = .ok (.istore_n 2, 1) := by decide +kernel
theorem d_N_hasBitBelow_12 : decode c_N_hasBitBelow 12 = .ok (.iconst 0, 1) := by decide +kernel
theorem d_N_hasBitBelow_13 : decode c_N_hasBitBelow 13 = .ok (.istore_n 3, 1) := by decide +kernel
theorem d_N_hasBitBelow_14 : decode c_N_hasBitBelow 14 = .ok (.iload_n 3, 1) := by decide +kernel
theorem d_N_hasBitBelow_15 : decode c_N_hasBitBelow 15 = .ok (.iload_n 2, 1) := by decide +kernel
theorem d_N_hasBitBelow_16 : decode c_N_hasBitBelow 16 = .ok (.if_icmp .ge 22, 3) := by decide +kernel
theorem d_N_hasBitBelow_19 : decode c_N_hasBitBelow 19 = .ok (.aload_n 0, 1) := by decide +kernel
theorem d_N_hasBitBelow_20 : decode c_N_hasBitBelow 20 = .ok (.getfield 9, 3) := by decide +kernel
theorem d_N_hasBitBelow_23 : decode c_N_hasBitBelow 23 = .ok (.iload_n 3, 1) := by decide +kernel
theorem d_N_hasBitBelow_24 : decode c_N_hasBitBelow 24 = .ok (.laload, 1) := by decide +kernel
theorem d_N_hasBitBelow_25 : decode c_N_hasBitBelow 25 = .ok (.lconst 0, 1) := by decide +kernel
theorem d_N_hasBitBelow_26 : decode c_N_hasBitBelow 26 = .ok (.lcmp, 1) := by decide +kernel
theorem d_N_hasBitBelow_27 : decode c_N_hasBitBelow 27 = .ok (.ifCond .eq 5, 3) := by decide +kernel
theorem d_N_hasBitBelow_30 : decode c_N_hasBitBelow 30 = .ok (.iconst 1, 1) := by decide +kernel
theorem d_N_hasBitBelow_31 : decode c_N_hasBitBelow 31 = .ok (.ireturn, 1) := by decide +kernel
theorem d_N_hasBitBelow_32 : decode c_N_hasBitBelow 32 = .ok (.iinc 3 1, 3) := by decide +kernel
theorem d_N_hasBitBelow_35 : decode c_N_hasBitBelow 35 = .ok (.goto (-21), 3) := by decide +kernel
theorem d_N_hasBitBelow_38 : decode c_N_hasBitBelow 38 = .ok (.aload_n 0, 1) := by decide +kernel
theorem d_N_hasBitBelow_39 : decode c_N_hasBitBelow 39 = .ok (.iload_n 1, 1) := by decide +kernel
theorem d_N_hasBitBelow_40 : decode c_N_hasBitBelow 40 = .ok (.bipush 28, 2) := by decide +kernel
theorem d_N_hasBitBelow_42 : decode c_N_hasBitBelow 42 = .ok (.idiv, 1) := by decide +kernel
theorem d_N_hasBitBelow_43 : decode c_N_hasBitBelow 43 = .ok (.invokevirtual 19, 3) := by decide +kernel
theorem d_N_hasBitBelow_46 : decode c_N_hasBitBelow 46 = .ok (.lconst 1, 1) := by decide +kernel
theorem d_N_hasBitBelow_47 : decode c_N_hasBitBelow 47 = .ok (.iload_n 1, 1) := by decide +kernel
theorem d_N_hasBitBelow_48 : decode c_N_hasBitBelow 48 = .ok (.bipush 28, 2) := by decide +kernel
theorem d_N_hasBitBelow_50 : decode c_N_hasBitBelow 50 = .ok (.irem, 1) := by decide +kernel
theorem d_N_hasBitBelow_51 : decode c_N_hasBitBelow 51 = .ok (.lshl, 1) := by decide +kernel
theorem d_N_hasBitBelow_52 : decode c_N_hasBitBelow 52 = .ok (.lconst 1, 1) := by decide +kernel
theorem d_N_hasBitBelow_53 : decode c_N_hasBitBelow 53 = .ok (.lsub, 1) := by decide +kernel
theorem d_N_hasBitBelow_54 : decode c_N_hasBitBelow 54 = .ok (.land, 1) := by decide +kernel
theorem d_N_hasBitBelow_55 : decode c_N_hasBitBelow 55 = .ok (.lconst 0, 1) := by decide +kernel
theorem d_N_hasBitBelow_56 : decode c_N_hasBitBelow 56 = .ok (.lcmp, 1) := by decide +kernel
theorem d_N_hasBitBelow_57 : decode c_N_hasBitBelow 57 = .ok (.ifCond .eq 7, 3) := by decide +kernel
theorem d_N_hasBitBelow_60 : decode c_N_hasBitBelow 60 = .ok (.iconst 1, 1) := by decide +kernel
theorem d_N_hasBitBelow_61 : decode c_N_hasBitBelow 61 = .ok (.goto 4, 3) := by decide +kernel
theorem d_N_hasBitBelow_64 : decode c_N_hasBitBelow 64 = .ok (.iconst 0, 1) := by decide +kernel
theorem d_N_hasBitBelow_65 : decode c_N_hasBitBelow 65 = .ok (.ireturn, 1) := by decide +kernel
theorem d_N_increase_0 : decode c_N_increase 0 = .ok (.iconst 0, 1) := by decide +kernel
theorem d_N_increase_1 : decode c_N_increase 1 = .ok (.istore_n 1, 1) := by decide +kernel
theorem d_N_increase_2 : decode c_N_increase 2 = .ok (.iload_n 1, 1) := by decide +kernel
theorem d_N_increase_3 : decode c_N_increase 3 = .ok (.aload_n 0, 1) := by decide +kernel
theorem d_N_increase_4 : decode c_N_increase 4 = .ok (.getfield 15, 3) := by decide +kernel
theorem d_N_increase_7 : decode c_N_increase 7 = .ok (.if_icmp .ge 29, 3) := by decide +kernel
theorem d_N_increase_10 : decode c_N_increase 10 = .ok (.aload_n 0, 1) := by decide +kernel
theorem d_N_increase_11 : decode c_N_increase 11 = .ok (.getfield 9, 3) := by decide +kernel
theorem d_N_increase_14 : decode c_N_increase 14 = .ok (.iload_n 1, 1) := by decide +kernel
theorem d_N_increase_15 : decode c_N_increase 15 = .ok (.laload, 1) := by decide +kernel
theorem d_N_increase_16 : decode c_N_increase 16 = .ok (.ldc2_w 43, 3) := by decide +kernel
theorem d_N_increase_19 : decode c_N_increase 19 = .ok (.lcmp, 1) := by decide +kernel
theorem d_N_increase_20 : decode c_N_increase 20 = .ok (.ifCond .ne 16, 3) := by decide +kernel
theorem d_N_increase_23 : decode c_N_increase 23 = .ok (.aload_n 0, 1) := by decide +kernel
theorem d_N_increase_24 : decode c_N_increase 24 = .ok (.getfield 9, 3) := by decide +kernel
theorem d_N_increase_27 : decode c_N_increase 27 = .ok (.iload_n 1, 1) := by decide +kernel
theorem d_N_increase_28 : decode c_N_increase 28 = .ok (.lconst 0, 1) := by decide +kernel
theorem d_N_increase_29 : decode c_N_increase 29 = .ok (.lastore, 1) := by decide +kernel
theorem d_N_increase_30 : decode c_N_increase 30 = .ok (.iinc 1 1, 3) := by decide +kernel
theorem d_N_increase_33 : decode c_N_increase 33 = .ok (.goto (-31), 3) := by decide +kernel
theorem d_N_increase_36 : decode c_N_increase 36 = .ok (.aload_n 0, 1) := by decide +kernel
theorem d_N_increase_37 : decode c_N_increase 37 = .ok (.getfield 9, 3) := by decide +kernel
theorem d_N_increase_40 : decode c_N_increase 40 = .ok (.iload_n 1, 1) := by decide +kernel
theorem d_N_increase_41 : decode c_N_increase 41 = .ok (.dup2, 1) := by decide +kernel
theorem d_N_increase_42 : decode c_N_increase 42 = .ok (.laload, 1) := by decide +kernel
theorem d_N_increase_43 : decode c_N_increase 43 = .ok (.lconst 1, 1) := by decide +kernel
theorem d_N_increase_44 : decode c_N_increase 44 = .ok (.ladd, 1) := by decide +kernel
theorem d_N_increase_45 : decode c_N_increase 45 = .ok (.lastore, 1) := by decide +kernel
theorem d_N_increase_46 : decode c_N_increase 46 = .ok (.aload_n 0, 1) := by decide +kernel
theorem d_N_increase_47 : decode c_N_increase 47 = .ok (.aload_n 0, 1) := by decide +kernel
theorem d_N_increase_48 : decode c_N_increase 48 = .ok (.getfield 15, 3) := by decide +kernel
theorem d_N_increase_51 : decode c_N_increase 51 = .ok (.iload_n 1, 1) := by decide +kernel
theorem d_N_increase_52 : decode c_N_increase 52 = .ok (.iconst 1, 1) := by decide +kernel
theorem d_N_increase_53 : decode c_N_increase 53 = .ok (.iadd, 1) := by decide +kernel
theorem d_N_increase_54 : decode c_N_increase 54 = .ok (.invokestatic 45, 3) := by decide +kernel
theorem d_N_increase_57 : decode c_N_increase 57 = .ok (.putfield 15, 3) := by decide +kernel
theorem d_N_increase_60 : decode c_N_increase 60 = .ok (.return_, 1) := by decide +kernel
theorem d_N_isOne_0 : decode c_N_isOne 0 = .ok (.aload_n 0, 1) := by decide +kernel
theorem d_N_isOne_1 : decode c_N_isOne 1 = .ok (.getfield 15, 3) := by decide +kernel
theorem d_N_isOne_4 : decode c_N_isOne 4 = .ok (.iconst 1, 1) := by decide +kernel
theorem d_N_isOne_5 : decode c_N_isOne 5 = .ok (.if_icmp .ne 18, 3) := by decide +kernel
theorem d_N_isOne_8 : decode c_N_isOne 8 = .ok (.aload_n 0, 1) := by decide +kernel
theorem d_N_isOne_9 : decode c_N_isOne 9 = .ok (.getfield 9, 3) := by decide +kernel
theorem d_N_isOne_12 : decode c_N_isOne 12 = .ok (.iconst 0, 1) := by decide +kernel
theorem d_N_isOne_13 : decode c_N_isOne 13 = .ok (.laload, 1) := by decide +kernel
theorem d_N_isOne_14 : decode c_N_isOne 14 = .ok (.lconst 1, 1) := by decide +kernel
theorem d_N_isOne_15 : decode c_N_isOne 15 = .ok (.lcmp, 1) := by decide +kernel
theorem d_N_isOne_16 : decode c_N_isOne 16 = .ok (.ifCond .ne 7, 3) := by decide +kernel
theorem d_N_isOne_19 : decode c_N_isOne 19 = .ok (.iconst 1, 1) := by decide +kernel
theorem d_N_isOne_20 : decode c_N_isOne 20 = .ok (.goto 4, 3) := by decide +kernel
theorem d_N_isOne_23 : decode c_N_isOne 23 = .ok (.iconst 0, 1) := by decide +kernel
theorem d_N_isOne_24 : decode c_N_isOne 24 = .ok (.ireturn, 1) := by decide +kernel
theorem d_N_isZero_0 : decode c_N_isZero 0 = .ok (.aload_n 0, 1) := by decide +kernel
theorem d_N_isZero_1 : decode c_N_isZero 1 = .ok (.getfield 15, 3) := by decide +kernel
theorem d_N_isZero_4 : decode c_N_isZero 4 = .ok (.ifCond .ne 7, 3) := by decide +kernel
theorem d_N_isZero_7 : decode c_N_isZero 7 = .ok (.iconst 1, 1) := by decide +kernel
theorem d_N_isZero_8 : decode c_N_isZero 8 = .ok (.goto 4, 3) := by decide +kernel
theorem d_N_isZero_11 : decode c_N_isZero 11 = .ok (.iconst 0, 1) := by decide +kernel
theorem d_N_isZero_12 : decode c_N_isZero 12 = .ok (.ireturn, 1) := by decide +kernel
theorem d_N_length_0 : decode c_N_length 0 = .ok (.aload_n 0, 1) := by decide +kernel
theorem d_N_length_1 : decode c_N_length 1 = .ok (.getfield 15, 3) := by decide +kernel
theorem d_N_length_4 : decode c_N_length 4 = .ok (.bipush 28, 2) := by decide +kernel
theorem d_N_length_6 : decode c_N_length 6 = .ok (.imul, 1) := by decide +kernel
theorem d_N_length_7 : decode c_N_length 7 = .ok (.aload_n 0, 1) := by decide +kernel
theorem d_N_length_8 : decode c_N_length 8 = .ok (.invokevirtual 23, 3) := by decide +kernel
theorem d_N_length_11 : decode c_N_length 11 = .ok (.isub, 1) := by decide +kernel
theorem d_N_length_12 : decode c_N_length 12 = .ok (.ireturn, 1) := by decide +kernel
theorem d_N_lowLong_0 : decode c_N_lowLong 0 = .ok (.aload_n 0, 1) := by decide +kernel
theorem d_N_lowLong_1 : decode c_N_lowLong 1 = .ok (.iconst 0, 1) := by decide +kernel
theorem d_N_lowLong_2 : decode c_N_lowLong 2 = .ok (.invokevirtual 19, 3) := by decide +kernel
theorem d_N_lowLong_5 : decode c_N_lowLong 5 = .ok (.aload_n 0, 1) := by decide +kernel
theorem d_N_lowLong_6 : decode c_N_lowLong 6 = .ok (.iconst 1, 1) := by decide +kernel
theorem d_N_lowLong_7 : decode c_N_lowLong 7 = .ok (.invokevirtual 19, 3) := by decide +kernel
theorem d_N_lowLong_10 : decode c_N_lowLong 10 = .ok (.bipush 28, 2) := by decide +kernel
theorem d_N_lowLong_12 : decode c_N_lowLong 12 = .ok (.lshl, 1) := by decide +kernel
theorem d_N_lowLong_13 : decode c_N_lowLong 13 = .ok (.lor, 1) := by decide +kernel
theorem d_N_lowLong_14 : decode c_N_lowLong 14 = .ok (.aload_n 0, 1) := by decide +kernel
theorem d_N_lowLong_15 : decode c_N_lowLong 15 = .ok (.iconst 2, 1) := by decide +kernel
theorem d_N_lowLong_16 : decode c_N_lowLong 16 = .ok (.invokevirtual 19, 3) := by decide +kernel
theorem d_N_lowLong_19 : decode c_N_lowLong 19 = .ok (.bipush 56, 2) := by decide +kernel
theorem d_N_lowLong_21 : decode c_N_lowLong 21 = .ok (.lshl, 1) := by decide +kernel
theorem d_N_lowLong_22 : decode c_N_lowLong 22 = .ok (.lor, 1) := by decide +kernel
theorem d_N_lowLong_23 : decode c_N_lowLong 23 = .ok (.lreturn, 1) := by decide +kernel
theorem d_N_order_0 : decode c_N_order 0 = .ok (.aload_n 0, 1) := by decide +kernel
theorem d_N_order_1 : decode c_N_order 1 = .ok (.getfield 15, 3) := by decide +kernel
theorem d_N_order_4 : decode c_N_order 4 = .ok (.aload_n 1, 1) := by decide +kernel
theorem d_N_order_5 : decode c_N_order 5 = .ok (.getfield 15, 3) := by decide +kernel
theorem d_N_order_8 : decode c_N_order 8 = .ok (.if_icmp .eq 20, 3) := by decide +kernel
theorem d_N_order_11 : decode c_N_order 11 = .ok (.aload_n 0, 1) := by decide +kernel
theorem d_N_order_12 : decode c_N_order 12 = .ok (.getfield 15, 3) := by decide +kernel
theorem d_N_order_15 : decode c_N_order 15 = .ok (.aload_n 1, 1) := by decide +kernel
theorem d_N_order_16 : decode c_N_order 16 = .ok (.getfield 15, 3) := by decide +kernel
theorem d_N_order_19 : decode c_N_order 19 = .ok (.if_icmp .ge 7, 3) := by decide +kernel
theorem d_N_order_22 : decode c_N_order 22 = .ok (.iconst (-1), 1) := by decide +kernel
theorem d_N_order_23 : decode c_N_order 23 = .ok (.goto 4, 3) := by decide +kernel
theorem d_N_order_26 : decode c_N_order 26 = .ok (.iconst 1, 1) := by decide +kernel
theorem d_N_order_27 : decode c_N_order 27 = .ok (.ireturn, 1) := by decide +kernel
theorem d_N_order_28 : decode c_N_order 28 = .ok (.aload_n 0, 1) := by decide +kernel
theorem d_N_order_29 : decode c_N_order 29 = .ok (.getfield 15, 3) := by decide +kernel
theorem d_N_order_32 : decode c_N_order 32 = .ok (.iconst 1, 1) := by decide +kernel
theorem d_N_order_33 : decode c_N_order 33 = .ok (.isub, 1) := by decide +kernel
theorem d_N_order_34 : decode c_N_order 34 = .ok (.istore_n 2, 1) := by decide +kernel
theorem d_N_order_35 : decode c_N_order 35 = .ok (.iload_n 2, 1) := by decide +kernel
theorem d_N_order_36 : decode c_N_order 36 = .ok (.ifCond .lt 47, 3) := by decide +kernel
theorem d_N_order_39 : decode c_N_order 39 = .ok (.aload_n 0, 1) := by decide +kernel
theorem d_N_order_40 : decode c_N_order 40 = .ok (.getfield 9, 3) := by decide +kernel
theorem d_N_order_43 : decode c_N_order 43 = .ok (.iload_n 2, 1) := by decide +kernel
theorem d_N_order_44 : decode c_N_order 44 = .ok (.laload, 1) := by decide +kernel
theorem d_N_order_45 : decode c_N_order 45 = .ok (.aload_n 1, 1) := by decide +kernel
theorem d_N_order_46 : decode c_N_order 46 = .ok (.getfield 9, 3) := by decide +kernel
theorem d_N_order_49 : decode c_N_order 49 = .ok (.iload_n 2, 1) := by decide +kernel
theorem d_N_order_50 : decode c_N_order 50 = .ok (.laload, 1) := by decide +kernel
theorem d_N_order_51 : decode c_N_order 51 = .ok (.lcmp, 1) := by decide +kernel
theorem d_N_order_52 : decode c_N_order 52 = .ok (.ifCond .eq 25, 3) := by decide +kernel
theorem d_N_order_55 : decode c_N_order 55 = .ok (.aload_n 0, 1) := by decide +kernel
theorem d_N_order_56 : decode c_N_order 56 = .ok (.getfield 9, 3) := by decide +kernel
theorem d_N_order_59 : decode c_N_order 59 = .ok (.iload_n 2, 1) := by decide +kernel
theorem d_N_order_60 : decode c_N_order 60 = .ok (.laload, 1) := by decide +kernel
theorem d_N_order_61 : decode c_N_order 61 = .ok (.aload_n 1, 1) := by decide +kernel
theorem d_N_order_62 : decode c_N_order 62 = .ok (.getfield 9, 3) := by decide +kernel
theorem d_N_order_65 : decode c_N_order 65 = .ok (.iload_n 2, 1) := by decide +kernel
theorem d_N_order_66 : decode c_N_order 66 = .ok (.laload, 1) := by decide +kernel
theorem d_N_order_67 : decode c_N_order 67 = .ok (.lcmp, 1) := by decide +kernel
theorem d_N_order_68 : decode c_N_order 68 = .ok (.ifCond .ge 7, 3) := by decide +kernel
theorem d_N_order_71 : decode c_N_order 71 = .ok (.iconst (-1), 1) := by decide +kernel
theorem d_N_order_72 : decode c_N_order 72 = .ok (.goto 4, 3) := by decide +kernel
theorem d_N_order_75 : decode c_N_order 75 = .ok (.iconst 1, 1) := by decide +kernel
theorem d_N_order_76 : decode c_N_order 76 = .ok (.ireturn, 1) := by decide +kernel
theorem d_N_order_77 : decode c_N_order 77 = .ok (.iinc 2 (-1), 3) := by decide +kernel
theorem d_N_order_80 : decode c_N_order 80 = .ok (.goto (-45), 3) := by decide +kernel
theorem d_N_order_83 : decode c_N_order 83 = .ok (.iconst 0, 1) := by decide +kernel
theorem d_N_order_84 : decode c_N_order 84 = .ok (.ireturn, 1) := by decide +kernel
theorem d_N_popDigit_0 : decode c_N_popDigit 0 = .ok (.lconst 0, 1) := by decide +kernel
theorem d_N_popDigit_1 : decode c_N_popDigit 1 = .ok (.lstore_n 2, 1) := by decide +kernel
theorem d_N_popDigit_2 : decode c_N_popDigit 2 = .ok (.aload_n 0, 1) := by decide +kernel
theorem d_N_popDigit_3 : decode c_N_popDigit 3 = .ok (.getfield 15, 3) := by decide +kernel
theorem d_N_popDigit_6 : decode c_N_popDigit 6 = .ok (.iconst 1, 1) := by decide +kernel
theorem d_N_popDigit_7 : decode c_N_popDigit 7 = .ok (.isub, 1) := by decide +kernel
theorem d_N_popDigit_8 : decode c_N_popDigit 8 = .ok (.istore 4, 2) := by decide +kernel
theorem d_N_popDigit_10 : decode c_N_popDigit 10 = .ok (.iload 4, 2) := by decide +kernel
theorem d_N_popDigit_12 : decode c_N_popDigit 12 = .ok (.ifCond .lt 42, 3) := by decide +kernel
theorem d_N_popDigit_15 : decode c_N_popDigit 15 = .ok (.lload_n 2, 1) := by decide +kernel
theorem d_N_popDigit_16 : decode c_N_popDigit 16 = .ok (.ldc2_w 60, 3) := by decide +kernel
theorem d_N_popDigit_19 : decode c_N_popDigit 19 = .ok (.lmul, 1) := by decide +kernel
theorem d_N_popDigit_20 : decode c_N_popDigit 20 = .ok (.aload_n 0, 1) := by decide +kernel
theorem d_N_popDigit_21 : decode c_N_popDigit 21 = .ok (.getfield 9, 3) := by decide +kernel
theorem d_N_popDigit_24 : decode c_N_popDigit 24 = .ok (.iload 4, 2) := by decide +kernel
theorem d_N_popDigit_26 : decode c_N_popDigit 26 = .ok (.laload, 1) := by decide +kernel
theorem d_N_popDigit_27 : decode c_N_popDigit 27 = .ok (.ladd, 1) := by decide +kernel
theorem d_N_popDigit_28 : decode c_N_popDigit 28 = .ok (.lstore 5, 2) := by decide +kernel
theorem d_N_popDigit_30 : decode c_N_popDigit 30 = .ok (.aload_n 0, 1) := by decide +kernel
theorem d_N_popDigit_31 : decode c_N_popDigit 31 = .ok (.getfield 9, 3) := by decide +kernel
theorem d_N_popDigit_34 : decode c_N_popDigit 34 = .ok (.iload 4, 2) := by decide +kernel
theorem d_N_popDigit_36 : decode c_N_popDigit 36 = .ok (.lload 5, 2) := by decide +kernel
theorem d_N_popDigit_38 : decode c_N_popDigit 38 = .ok (.iload_n 1, 1) := by decide +kernel
theorem d_N_popDigit_39 : decode c_N_popDigit 39 = .ok (.i2l, 1) := by decide +kernel
theorem d_N_popDigit_40 : decode c_N_popDigit 40 = .ok (.ldiv, 1) := by decide +kernel
theorem d_N_popDigit_41 : decode c_N_popDigit 41 = .ok (.lastore, 1) := by decide +kernel
theorem d_N_popDigit_42 : decode c_N_popDigit 42 = .ok (.lload 5, 2) := by decide +kernel
theorem d_N_popDigit_44 : decode c_N_popDigit 44 = .ok (.iload_n 1, 1) := by decide +kernel
theorem d_N_popDigit_45 : decode c_N_popDigit 45 = .ok (.i2l, 1) := by decide +kernel
theorem d_N_popDigit_46 : decode c_N_popDigit 46 = .ok (.lrem, 1) := by decide +kernel
theorem d_N_popDigit_47 : decode c_N_popDigit 47 = .ok (.lstore_n 2, 1) := by decide +kernel
theorem d_N_popDigit_48 : decode c_N_popDigit 48 = .ok (.iinc 4 (-1), 3) := by decide +kernel
theorem d_N_popDigit_51 : decode c_N_popDigit 51 = .ok (.goto (-41), 3) := by decide +kernel
theorem d_N_popDigit_54 : decode c_N_popDigit 54 = .ok (.aload_n 0, 1) := by decide +kernel
theorem d_N_popDigit_55 : decode c_N_popDigit 55 = .ok (.aload_n 0, 1) := by decide +kernel
theorem d_N_popDigit_56 : decode c_N_popDigit 56 = .ok (.getfield 15, 3) := by decide +kernel
theorem d_N_popDigit_59 : decode c_N_popDigit 59 = .ok (.invokevirtual 39, 3) := by decide +kernel
theorem d_N_popDigit_62 : decode c_N_popDigit 62 = .ok (.lload_n 2, 1) := by decide +kernel
theorem d_N_popDigit_63 : decode c_N_popDigit 63 = .ok (.l2i, 1) := by decide +kernel
theorem d_N_popDigit_64 : decode c_N_popDigit 64 = .ok (.ireturn, 1) := by decide +kernel
theorem d_N_pushDigit_0 : decode c_N_pushDigit 0 = .ok (.iload_n 2, 1) := by decide +kernel
theorem d_N_pushDigit_1 : decode c_N_pushDigit 1 = .ok (.i2l, 1) := by decide +kernel
theorem d_N_pushDigit_2 : decode c_N_pushDigit 2 = .ok (.lstore_n 3, 1) := by decide +kernel
theorem d_N_pushDigit_3 : decode c_N_pushDigit 3 = .ok (.aload_n 0, 1) := by decide +kernel
theorem d_N_pushDigit_4 : decode c_N_pushDigit 4 = .ok (.getfield 15, 3) := by decide +kernel
theorem d_N_pushDigit_7 : decode c_N_pushDigit 7 = .ok (.istore 5, 2) := by decide +kernel
theorem d_N_pushDigit_9 : decode c_N_pushDigit 9 = .ok (.iconst 0, 1) := by decide +kernel
theorem d_N_pushDigit_10 : decode c_N_pushDigit 10 = .ok (.istore 6, 2) := by decide +kernel
theorem d_N_pushDigit_12 : decode c_N_pushDigit 12 = .ok (.iload 6, 2) := by decide +kernel
theorem d_N_pushDigit_14 : decode c_N_pushDigit 14 = .ok (.iload 5, 2) := by decide +kernel
theorem d_N_pushDigit_16 : decode c_N_pushDigit 16 = .ok (.if_icmp .ge 39, 3) := by decide +kernel
theorem d_N_pushDigit_19 : decode c_N_pushDigit 19 = .ok (.lload_n 3, 1) := by decide +kernel
theorem d_N_pushDigit_20 : decode c_N_pushDigit 20 = .ok (.aload_n 0, 1) := by decide +kernel
theorem d_N_pushDigit_21 : decode c_N_pushDigit 21 = .ok (.getfield 9, 3) := by decide +kernel
theorem d_N_pushDigit_24 : decode c_N_pushDigit 24 = .ok (.iload 6, 2) := by decide +kernel
theorem d_N_pushDigit_26 : decode c_N_pushDigit 26 = .ok (.laload, 1) := by decide +kernel
theorem d_N_pushDigit_27 : decode c_N_pushDigit 27 = .ok (.iload_n 1, 1) := by decide +kernel
theorem d_N_pushDigit_28 : decode c_N_pushDigit 28 = .ok (.i2l, 1) := by decide +kernel
theorem d_N_pushDigit_29 : decode c_N_pushDigit 29 = .ok (.lmul, 1) := by decide +kernel
theorem d_N_pushDigit_30 : decode c_N_pushDigit 30 = .ok (.ladd, 1) := by decide +kernel
theorem d_N_pushDigit_31 : decode c_N_pushDigit 31 = .ok (.lstore_n 3, 1) := by decide +kernel
theorem d_N_pushDigit_32 : decode c_N_pushDigit 32 = .ok (.aload_n 0, 1) := by decide +kernel
theorem d_N_pushDigit_33 : decode c_N_pushDigit 33 = .ok (.getfield 9, 3) := by decide +kernel
theorem d_N_pushDigit_36 : decode c_N_pushDigit 36 = .ok (.iload 6, 2) := by decide +kernel
theorem d_N_pushDigit_38 : decode c_N_pushDigit 38 = .ok (.lload_n 3, 1) := by decide +kernel
theorem d_N_pushDigit_39 : decode c_N_pushDigit 39 = .ok (.ldc2_w 43, 3) := by decide +kernel
theorem d_N_pushDigit_42 : decode c_N_pushDigit 42 = .ok (.land, 1) := by decide +kernel
theorem d_N_pushDigit_43 : decode c_N_pushDigit 43 = .ok (.lastore, 1) := by decide +kernel
theorem d_N_pushDigit_44 : decode c_N_pushDigit 44 = .ok (.lload_n 3, 1) := by decide +kernel
theorem d_N_pushDigit_45 : decode c_N_pushDigit 45 = .ok (.bipush 28, 2) := by decide +kernel
theorem d_N_pushDigit_47 : decode c_N_pushDigit 47 = .ok (.lshr, 1) := by decide +kernel
theorem d_N_pushDigit_48 : decode c_N_pushDigit 48 = .ok (.lstore_n 3, 1) := by decide +kernel
theorem d_N_pushDigit_49 : decode c_N_pushDigit 49 = .ok (.iinc 6 1, 3) := by decide +kernel
theorem d_N_pushDigit_52 : decode c_N_pushDigit 52 = .ok (.goto (-40), 3) := by decide +kernel
theorem d_N_pushDigit_55 : decode c_N_pushDigit 55 = .ok (.aload_n 0, 1) := by decide +kernel
theorem d_N_pushDigit_56 : decode c_N_pushDigit 56 = .ok (.getfield 9, 3) := by decide +kernel
theorem d_N_pushDigit_59 : decode c_N_pushDigit 59 = .ok (.iload 5, 2) := by decide +kernel
theorem d_N_pushDigit_61 : decode c_N_pushDigit 61 = .ok (.lload_n 3, 1) := by decide +kernel
theorem d_N_pushDigit_62 : decode c_N_pushDigit 62 = .ok (.lastore, 1) := by decide +kernel
theorem d_N_pushDigit_63 : decode c_N_pushDigit 63 = .ok (.aload_n 0, 1) := by decide +kernel
theorem d_N_pushDigit_64 : decode c_N_pushDigit 64 = .ok (.iload 5, 2) := by decide +kernel
theorem d_N_pushDigit_66 : decode c_N_pushDigit 66 = .ok (.iconst 1, 1) := by decide +kernel
theorem d_N_pushDigit_67 : decode c_N_pushDigit 67 = .ok (.iadd, 1) := by decide +kernel
theorem d_N_pushDigit_68 : decode c_N_pushDigit 68 = .ok (.invokevirtual 39, 3) := by decide +kernel
theorem d_N_pushDigit_71 : decode c_N_pushDigit 71 = .ok (.return_, 1) := by decide +kernel
theorem d_N_putBit_0 : decode c_N_putBit 0 = .ok (.iload_n 1, 1) := by decide +kernel
theorem d_N_putBit_1 : decode c_N_putBit 1 = .ok (.bipush 28, 2) := by decide +kernel
theorem d_N_putBit_3 : decode c_N_putBit 3 = .ok (.idiv, 1) := by decide +kernel
theorem d_N_putBit_4 : decode c_N_putBit 4 = .ok (.istore_n 2, 1) := by decide +kernel
theorem d_N_putBit_5 : decode c_N_putBit 5 = .ok (.iload_n 2, 1) := by decide +kernel
theorem d_N_putBit_6 : decode c_N_putBit 6 = .ok (.ifCond .lt 9, 3) := by decide +kernel
theorem d_N_putBit_9 : decode c_N_putBit 9 = .ok (.iload_n 2, 1) := by decide +kernel
theorem d_N_putBit_10 : decode c_N_putBit 10 = .ok (.bipush 75, 2) := by decide +kernel
theorem d_N_putBit_12 : decode c_N_putBit 12 = .ok (.if_icmp .lt 4, 3) := by decide +kernel
theorem d_N_putBit_15 : decode c_N_putBit 15 = .ok (.return_, 1) := by decide +kernel
theorem d_N_putBit_16 : decode c_N_putBit 16 = .ok (.aload_n 0, 1) := by decide +kernel
theorem d_N_putBit_17 : decode c_N_putBit 17 = .ok (.getfield 9, 3) := by decide +kernel
theorem d_N_putBit_20 : decode c_N_putBit 20 = .ok (.iload_n 2, 1) := by decide +kernel
theorem d_N_putBit_21 : decode c_N_putBit 21 = .ok (.dup2, 1) := by decide +kernel
theorem d_N_putBit_22 : decode c_N_putBit 22 = .ok (.laload, 1) := by decide +kernel
theorem d_N_putBit_23 : decode c_N_putBit 23 = .ok (.lconst 1, 1) := by decide +kernel
theorem d_N_putBit_24 : decode c_N_putBit 24 = .ok (.iload_n 1, 1) := by decide +kernel
theorem d_N_putBit_25 : decode c_N_putBit 25 = .ok (.bipush 28, 2) := by decide +kernel
theorem d_N_putBit_27 : decode c_N_putBit 27 = .ok (.irem, 1) := by decide +kernel
theorem d_N_putBit_28 : decode c_N_putBit 28 = .ok (.lshl, 1) := by decide +kernel
theorem d_N_putBit_29 : decode c_N_putBit 29 = .ok (.lor, 1) := by decide +kernel
theorem d_N_putBit_30 : decode c_N_putBit 30 = .ok (.lastore, 1) := by decide +kernel
theorem d_N_putBit_31 : decode c_N_putBit 31 = .ok (.aload_n 0, 1) := by decide +kernel
theorem d_N_putBit_32 : decode c_N_putBit 32 = .ok (.aload_n 0, 1) := by decide +kernel
theorem d_N_putBit_33 : decode c_N_putBit 33 = .ok (.getfield 15, 3) := by decide +kernel
theorem d_N_putBit_36 : decode c_N_putBit 36 = .ok (.iload_n 2, 1) := by decide +kernel
theorem d_N_putBit_37 : decode c_N_putBit 37 = .ok (.iconst 1, 1) := by decide +kernel
theorem d_N_putBit_38 : decode c_N_putBit 38 = .ok (.iadd, 1) := by decide +kernel
theorem d_N_putBit_39 : decode c_N_putBit 39 = .ok (.invokestatic 45, 3) := by decide +kernel
theorem d_N_putBit_42 : decode c_N_putBit 42 = .ok (.putfield 15, 3) := by decide +kernel
theorem d_N_putBit_45 : decode c_N_putBit 45 = .ok (.return_, 1) := by decide +kernel
theorem d_N_settle_0 : decode c_N_settle 0 = .ok (.iload_n 1, 1) := by decide +kernel
theorem d_N_settle_1 : decode c_N_settle 1 = .ok (.istore_n 2, 1) := by decide +kernel
theorem d_N_settle_2 : decode c_N_settle 2 = .ok (.iload_n 2, 1) := by decide +kernel
theorem d_N_settle_3 : decode c_N_settle 3 = .ok (.aload_n 0, 1) := by decide +kernel
theorem d_N_settle_4 : decode c_N_settle 4 = .ok (.getfield 15, 3) := by decide +kernel
theorem d_N_settle_7 : decode c_N_settle 7 = .ok (.if_icmp .ge 16, 3) := by decide +kernel
theorem d_N_settle_10 : decode c_N_settle 10 = .ok (.aload_n 0, 1) := by decide +kernel
theorem d_N_settle_11 : decode c_N_settle 11 = .ok (.getfield 9, 3) := by decide +kernel
theorem d_N_settle_14 : decode c_N_settle 14 = .ok (.iload_n 2, 1) := by decide +kernel
theorem d_N_settle_15 : decode c_N_settle 15 = .ok (.lconst 0, 1) := by decide +kernel
theorem d_N_settle_16 : decode c_N_settle 16 = .ok (.lastore, 1) := by decide +kernel
theorem d_N_settle_17 : decode c_N_settle 17 = .ok (.iinc 2 1, 3) := by decide +kernel
theorem d_N_settle_20 : decode c_N_settle 20 = .ok (.goto (-18), 3) := by decide +kernel
theorem d_N_settle_23 : decode c_N_settle 23 = .ok (.aload_n 0, 1) := by decide +kernel
theorem d_N_settle_24 : decode c_N_settle 24 = .ok (.iload_n 1, 1) := by decide +kernel
theorem d_N_settle_25 : decode c_N_settle 25 = .ok (.putfield 15, 3) := by decide +kernel
theorem d_N_settle_28 : decode c_N_settle 28 = .ok (.aload_n 0, 1) := by decide +kernel
theorem d_N_settle_29 : decode c_N_settle 29 = .ok (.getfield 15, 3) := by decide +kernel
theorem d_N_settle_32 : decode c_N_settle 32 = .ok (.ifCond .le 32, 3) := by decide +kernel
theorem d_N_settle_35 : decode c_N_settle 35 = .ok (.aload_n 0, 1) := by decide +kernel
theorem d_N_settle_36 : decode c_N_settle 36 = .ok (.getfield 9, 3) := by decide +kernel
theorem d_N_settle_39 : decode c_N_settle 39 = .ok (.aload_n 0, 1) := by decide +kernel
theorem d_N_settle_40 : decode c_N_settle 40 = .ok (.getfield 15, 3) := by decide +kernel
theorem d_N_settle_43 : decode c_N_settle 43 = .ok (.iconst 1, 1) := by decide +kernel
theorem d_N_settle_44 : decode c_N_settle 44 = .ok (.isub, 1) := by decide +kernel
theorem d_N_settle_45 : decode c_N_settle 45 = .ok (.laload, 1) := by decide +kernel
theorem d_N_settle_46 : decode c_N_settle 46 = .ok (.lconst 0, 1) := by decide +kernel
theorem d_N_settle_47 : decode c_N_settle 47 = .ok (.lcmp, 1) := by decide +kernel
theorem d_N_settle_48 : decode c_N_settle 48 = .ok (.ifCond .ne 16, 3) := by decide +kernel
theorem d_N_settle_51 : decode c_N_settle 51 = .ok (.aload_n 0, 1) := by decide +kernel
theorem d_N_settle_52 : decode c_N_settle 52 = .ok (.dup, 1) := by decide +kernel
theorem d_N_settle_53 : decode c_N_settle 53 = .ok (.getfield 15, 3) := by decide +kernel
theorem d_N_settle_56 : decode c_N_settle 56 = .ok (.iconst 1, 1) := by decide +kernel
theorem d_N_settle_57 : decode c_N_settle 57 = .ok (.isub, 1) := by decide +kernel
theorem d_N_settle_58 : decode c_N_settle 58 = .ok (.putfield 15, 3) := by decide +kernel
theorem d_N_settle_61 : decode c_N_settle 61 = .ok (.goto (-33), 3) := by decide +kernel
theorem d_N_settle_64 : decode c_N_settle 64 = .ok (.return_, 1) := by decide +kernel
theorem d_N_spareBits_0 : decode c_N_spareBits 0 = .ok (.aload_n 0, 1) := by decide +kernel
theorem d_N_spareBits_1 : decode c_N_spareBits 1 = .ok (.getfield 15, 3) := by decide +kernel
theorem d_N_spareBits_4 : decode c_N_spareBits 4 = .ok (.ifCond .ne 7, 3) := by decide +kernel
theorem d_N_spareBits_7 : decode c_N_spareBits 7 = .ok (.iconst 0, 1) := by decide +kernel
theorem d_N_spareBits_8 : decode c_N_spareBits 8 = .ok (.goto 20, 3) := by decide +kernel
theorem d_N_spareBits_11 : decode c_N_spareBits 11 = .ok (.aload_n 0, 1) := by decide +kernel
theorem d_N_spareBits_12 : decode c_N_spareBits 12 = .ok (.getfield 9, 3) := by decide +kernel
theorem d_N_spareBits_15 : decode c_N_spareBits 15 = .ok (.aload_n 0, 1) := by decide +kernel
theorem d_N_spareBits_16 : decode c_N_spareBits 16 = .ok (.getfield 15, 3) := by decide +kernel
theorem d_N_spareBits_19 : decode c_N_spareBits 19 = .ok (.iconst 1, 1) := by decide +kernel
theorem d_N_spareBits_20 : decode c_N_spareBits 20 = .ok (.isub, 1) := by decide +kernel
theorem d_N_spareBits_21 : decode c_N_spareBits 21 = .ok (.laload, 1) := by decide +kernel
theorem d_N_spareBits_22 : decode c_N_spareBits 22 = .ok (.invokestatic 27, 3) := by decide +kernel
theorem d_N_spareBits_25 : decode c_N_spareBits 25 = .ok (.bipush 36, 2) := by decide +kernel
theorem d_N_spareBits_27 : decode c_N_spareBits 27 = .ok (.isub, 1) := by decide +kernel
theorem d_N_spareBits_28 : decode c_N_spareBits 28 = .ok (.ireturn, 1) := by decide +kernel
theorem d_N_take_0 : decode c_N_take 0 = .ok (.aload_n 1, 1) := by decide +kernel
theorem d_N_take_1 : decode c_N_take 1 = .ok (.getfield 15, 3) := by decide +kernel
theorem d_N_take_4 : decode c_N_take 4 = .ok (.istore_n 2, 1) := by decide +kernel
theorem d_N_take_5 : decode c_N_take 5 = .ok (.iconst 0, 1) := by decide +kernel
theorem d_N_take_6 : decode c_N_take 6 = .ok (.istore_n 3, 1) := by decide +kernel
theorem d_N_take_7 : decode c_N_take 7 = .ok (.iload_n 3, 1) := by decide +kernel
theorem d_N_take_8 : decode c_N_take 8 = .ok (.iload_n 2, 1) := by decide +kernel
theorem d_N_take_9 : decode c_N_take 9 = .ok (.if_icmp .ge 21, 3) := by decide +kernel
theorem d_N_take_12 : decode c_N_take 12 = .ok (.aload_n 0, 1) := by decide +kernel
theorem d_N_take_13 : decode c_N_take 13 = .ok (.getfield 9, 3) := by decide +kernel
theorem d_N_take_16 : decode c_N_take 16 = .ok (.iload_n 3, 1) := by decide +kernel
theorem d_N_take_17 : decode c_N_take 17 = .ok (.aload_n 1, 1) := by decide +kernel
theorem d_N_take_18 : decode c_N_take 18 = .ok (.getfield 9, 3) := by decide +kernel
theorem d_N_take_21 : decode c_N_take 21 = .ok (.iload_n 3, 1) := by decide +kernel
theorem d_N_take_22 : decode c_N_take 22 = .ok (.laload, 1) := by decide +kernel
theorem d_N_take_23 : decode c_N_take 23 = .ok (.lastore, 1) := by decide +kernel
theorem d_N_take_24 : decode c_N_take 24 = .ok (.iinc 3 1, 3) := by decide +kernel
theorem d_N_take_27 : decode c_N_take 27 = .ok (.goto (-20), 3) := by decide +kernel
theorem d_N_take_30 : decode c_N_take 30 = .ok (.aload_n 0, 1) := by decide +kernel
theorem d_N_take_31 : decode c_N_take 31 = .ok (.iload_n 2, 1) := by decide +kernel
theorem d_N_take_32 : decode c_N_take 32 = .ok (.invokevirtual 39, 3) := by decide +kernel
theorem d_N_take_35 : decode c_N_take 35 = .ok (.return_, 1) := by decide +kernel
theorem d_N_takeDifference_0 : decode c_N_takeDifference 0 = .ok (.aload_n 1, 1) := by decide +kernel
theorem d_N_takeDifference_1 : decode c_N_takeDifference 1 = .ok (.getfield 15, 3) := by decide +kernel
theorem d_N_takeDifference_4 : decode c_N_takeDifference 4 = .ok (.istore_n 3, 1) := by decide +kernel
theorem d_N_takeDifference_5 : decode c_N_takeDifference 5 = .ok (.lconst 0, 1) := by decide +kernel
theorem d_N_takeDifference_6 : decode c_N_takeDifference 6 = .ok (.lstore 4, 2) := by decide +kernel
theorem d_N_takeDifference_8 : decode c_N_takeDifference 8 = .ok (.iconst 0, 1) := by decide +kernel
theorem d_N_takeDifference_9 : decode c_N_takeDifference 9 = .ok (.istore 6, 2) := by decide +kernel
theorem d_N_takeDifference_11 : decode c_N_takeDifference 11 = .ok (.iload 6, 2) := by decide +kernel
theorem d_N_takeDifference_13 : decode c_N_takeDifference 13 = .ok (.iload_n 3, 1) := by decide +kernel
theorem d_N_takeDifference_14 : decode c_N_takeDifference 14 = .ok (.if_icmp .ge 49, 3) := by decide +kernel
theorem d_N_takeDifference_17 : decode c_N_takeDifference 17 = .ok (.lload 4, 2) := by decide +kernel
theorem d_N_takeDifference_19 : decode c_N_takeDifference 19 = .ok (.aload_n 1, 1) := by decide +kernel
theorem d_N_takeDifference_20 : decode c_N_takeDifference 20 = .ok (.getfield 9, 3) := by decide +kernel
theorem d_N_takeDifference_23 : decode c_N_takeDifference 23 = .ok (.iload 6, 2) := by decide +kernel
theorem d_N_takeDifference_25 : decode c_N_takeDifference 25 = .ok (.laload, 1) := by decide +kernel
theorem d_N_takeDifference_26 : decode c_N_takeDifference 26 = .ok (.aload_n 2, 1) := by decide +kernel
theorem d_N_takeDifference_27 : decode c_N_takeDifference 27 = .ok (.getfield 9, 3) := by decide +kernel
theorem d_N_takeDifference_30 : decode c_N_takeDifference 30 = .ok (.iload 6, 2) := by decide +kernel
theorem d_N_takeDifference_32 : decode c_N_takeDifference 32 = .ok (.laload, 1) := by decide +kernel
theorem d_N_takeDifference_33 : decode c_N_takeDifference 33 = .ok (.lsub, 1) := by decide +kernel
theorem d_N_takeDifference_34 : decode c_N_takeDifference 34 = .ok (.ladd, 1) := by decide +kernel
theorem d_N_takeDifference_35 : decode c_N_takeDifference 35 = .ok (.lstore 4, 2) := by decide +kernel
theorem d_N_takeDifference_37 : decode c_N_takeDifference 37 = .ok (.aload_n 0, 1) := by decide +kernel
theorem d_N_takeDifference_38 : decode c_N_takeDifference 38 = .ok (.getfield 9, 3) := by decide +kernel
theorem d_N_takeDifference_41 : decode c_N_takeDifference 41 = .ok (.iload 6, 2) := by decide +kernel
theorem d_N_takeDifference_43 : decode c_N_takeDifference 43 = .ok (.lload 4, 2) := by decide +kernel
theorem d_N_takeDifference_45 : decode c_N_takeDifference 45 = .ok (.ldc2_w 43, 3) := by decide +kernel
theorem d_N_takeDifference_48 : decode c_N_takeDifference 48 = .ok (.land, 1) := by decide +kernel
theorem d_N_takeDifference_49 : decode c_N_takeDifference 49 = .ok (.lastore, 1) := by decide +kernel
theorem d_N_takeDifference_50 : decode c_N_takeDifference 50 = .ok (.lload 4, 2) := by decide +kernel
theorem d_N_takeDifference_52 : decode c_N_takeDifference 52 = .ok (.bipush 28, 2) := by decide +kernel
theorem d_N_takeDifference_54 : decode c_N_takeDifference 54 = .ok (.lshr, 1) := by decide +kernel
theorem d_N_takeDifference_55 : decode c_N_takeDifference 55 = .ok (.lstore 4, 2) := by decide +kernel
theorem d_N_takeDifference_57 : decode c_N_takeDifference 57 = .ok (.iinc 6 1, 3) := by decide +kernel
theorem d_N_takeDifference_60 : decode c_N_takeDifference 60 = .ok (.goto (-49), 3) := by decide +kernel
theorem d_N_takeDifference_63 : decode c_N_takeDifference 63 = .ok (.aload_n 0, 1) := by decide +kernel
theorem d_N_takeDifference_64 : decode c_N_takeDifference 64 = .ok (.iload_n 3, 1) := by decide +kernel
theorem d_N_takeDifference_65 : decode c_N_takeDifference 65 = .ok (.invokevirtual 39, 3) := by decide +kernel
theorem d_N_takeDifference_68 : decode c_N_takeDifference 68 = .ok (.return_, 1) := by decide +kernel
theorem d_N_takeLowered_0 : decode c_N_takeLowered 0 = .ok (.iload_n 2, 1) := by decide +kernel
theorem d_N_takeLowered_1 : decode c_N_takeLowered 1 = .ok (.bipush 28, 2) := by decide +kernel
theorem d_N_takeLowered_3 : decode c_N_takeLowered 3 = .ok (.idiv, 1) := by decide +kernel
theorem d_N_takeLowered_4 : decode c_N_takeLowered 4 = .ok (.istore_n 3, 1) := by decide +kernel
theorem d_N_takeLowered_5 : decode c_N_takeLowered 5 = .ok (.iload_n 2, 1) := by decide +kernel
theorem d_N_takeLowered_6 : decode c_N_takeLowered 6 = .ok (.bipush 28, 2) := by decide +kernel
theorem d_N_takeLowered_8 : decode c_N_takeLowered 8 = .ok (.irem, 1) := by decide +kernel
theorem d_N_takeLowered_9 : decode c_N_takeLowered 9 = .ok (.istore 4, 2) := by decide +kernel
theorem d_N_takeLowered_11 : decode c_N_takeLowered 11 = .ok (.aload_n 1, 1) := by decide +kernel
theorem d_N_takeLowered_12 : decode c_N_takeLowered 12 = .ok (.getfield 15, 3) := by decide +kernel
theorem d_N_takeLowered_15 : decode c_N_takeLowered 15 = .ok (.iload_n 3, 1) := by decide +kernel
theorem d_N_takeLowered_16 : decode c_N_takeLowered 16 = .ok (.isub, 1) := by decide +kernel
theorem d_N_takeLowered_17 : decode c_N_takeLowered 17 = .ok (.iconst 0, 1) := by decide +kernel
theorem d_N_takeLowered_18 : decode c_N_takeLowered 18 = .ok (.invokestatic 45, 3) := by decide +kernel
theorem d_N_takeLowered_21 : decode c_N_takeLowered 21 = .ok (.istore 5, 2) := by decide +kernel
theorem d_N_takeLowered_23 : decode c_N_takeLowered 23 = .ok (.aload_n 1, 1) := by decide +kernel
theorem d_N_takeLowered_24 : decode c_N_takeLowered 24 = .ok (.iload_n 3, 1) := by decide +kernel
theorem d_N_takeLowered_25 : decode c_N_takeLowered 25 = .ok (.invokevirtual 19, 3) := by decide +kernel
theorem d_N_takeLowered_28 : decode c_N_takeLowered 28 = .ok (.lstore 6, 2) := by decide +kernel
theorem d_N_takeLowered_30 : decode c_N_takeLowered 30 = .ok (.iconst 0, 1) := by decide +kernel
theorem d_N_takeLowered_31 : decode c_N_takeLowered 31 = .ok (.istore 8, 2) := by decide +kernel
theorem d_N_takeLowered_33 : decode c_N_takeLowered 33 = .ok (.iload 8, 2) := by decide +kernel
theorem d_N_takeLowered_35 : decode c_N_takeLowered 35 = .ok (.iload 5, 2) := by decide +kernel
theorem d_N_takeLowered_37 : decode c_N_takeLowered 37 = .ok (.if_icmp .ge 50, 3) := by decide +kernel
theorem d_N_takeLowered_40 : decode c_N_takeLowered 40 = .ok (.aload_n 1, 1) := by decide +kernel
theorem d_N_takeLowered_41 : decode c_N_takeLowered 41 = .ok (.iload_n 3, 1) := by decide +kernel
theorem d_N_takeLowered_42 : decode c_N_takeLowered 42 = .ok (.iload 8, 2) := by decide +kernel
theorem d_N_takeLowered_44 : decode c_N_takeLowered 44 = .ok (.iadd, 1) := by decide +kernel
theorem d_N_takeLowered_45 : decode c_N_takeLowered 45 = .ok (.iconst 1, 1) := by decide +kernel
theorem d_N_takeLowered_46 : decode c_N_takeLowered 46 = .ok (.iadd, 1) := by decide +kernel
theorem d_N_takeLowered_47 : decode c_N_takeLowered 47 = .ok (.invokevirtual 19, 3) := by decide +kernel
theorem d_N_takeLowered_50 : decode c_N_takeLowered 50 = .ok (.lstore 9, 2) := by decide +kernel
theorem d_N_takeLowered_52 : decode c_N_takeLowered 52 = .ok (.aload_n 0, 1) := by decide +kernel
theorem d_N_takeLowered_53 : decode c_N_takeLowered 53 = .ok (.getfield 9, 3) := by decide +kernel
theorem d_N_takeLowered_56 : decode c_N_takeLowered 56 = .ok (.iload 8, 2) := by decide +kernel
theorem d_N_takeLowered_58 : decode c_N_takeLowered 58 = .ok (.lload 6, 2) := by decide +kernel
theorem d_N_takeLowered_60 : decode c_N_takeLowered 60 = .ok (.iload 4, 2) := by decide +kernel
theorem d_N_takeLowered_62 : decode c_N_takeLowered 62 = .ok (.lshr, 1) := by decide +kernel
theorem d_N_takeLowered_63 : decode c_N_takeLowered 63 = .ok (.lload 9, 2) := by decide +kernel
theorem d_N_takeLowered_65 : decode c_N_takeLowered 65 = .ok (.bipush 28, 2) := by decide +kernel
theorem d_N_takeLowered_67 : decode c_N_takeLowered 67 = .ok (.iload 4, 2) := by decide +kernel
theorem d_N_takeLowered_69 : decode c_N_takeLowered 69 = .ok (.isub, 1) := by decide +kernel
theorem d_N_takeLowered_70 : decode c_N_takeLowered 70 = .ok (.lshl, 1) := by decide +kernel
theorem d_N_takeLowered_71 : decode c_N_takeLowered 71 = .ok (.lor, 1) := by decide +kernel
theorem d_N_takeLowered_72 : decode c_N_takeLowered 72 = .ok (.ldc2_w 43, 3) := by decide +kernel
theorem d_N_takeLowered_75 : decode c_N_takeLowered 75 = .ok (.land, 1) := by decide +kernel
theorem d_N_takeLowered_76 : decode c_N_takeLowered 76 = .ok (.lastore, 1) := by decide +kernel
theorem d_N_takeLowered_77 : decode c_N_takeLowered 77 = .ok (.lload 9, 2) := by decide +kernel
theorem d_N_takeLowered_79 : decode c_N_takeLowered 79 = .ok (.lstore 6, 2) := by decide +kernel
theorem d_N_takeLowered_81 : decode c_N_takeLowered 81 = .ok (.iinc 8 1, 3) := by decide +kernel
theorem d_N_takeLowered_84 : decode c_N_takeLowered 84 = .ok (.goto (-51), 3) := by decide +kernel
theorem d_N_takeLowered_87 : decode c_N_takeLowered 87 = .ok (.aload_n 0, 1) := by decide +kernel
theorem d_N_takeLowered_88 : decode c_N_takeLowered 88 = .ok (.iload 5, 2) := by decide +kernel
theorem d_N_takeLowered_90 : decode c_N_takeLowered 90 = .ok (.invokevirtual 39, 3) := by decide +kernel
theorem d_N_takeLowered_93 : decode c_N_takeLowered 93 = .ok (.return_, 1) := by decide +kernel
theorem d_N_takeProduct_0 : decode c_N_takeProduct 0 = .ok (.aload_n 0, 1) := by decide +kernel
theorem d_N_takeProduct_1 : decode c_N_takeProduct 1 = .ok (.invokevirtual 48, 3) := by decide +kernel
theorem d_N_takeProduct_4 : decode c_N_takeProduct 4 = .ok (.iconst 0, 1) := by decide +kernel
theorem d_N_takeProduct_5 : decode c_N_takeProduct 5 = .ok (.istore_n 3, 1) := by decide +kernel
theorem d_N_takeProduct_6 : decode c_N_takeProduct 6 = .ok (.iload_n 3, 1) := by decide +kernel
theorem d_N_takeProduct_7 : decode c_N_takeProduct 7 = .ok (.aload_n 1, 1) := by decide +kernel
theorem d_N_takeProduct_8 : decode c_N_takeProduct 8 = .ok (.getfield 15, 3) := by decide +kernel
theorem d_N_takeProduct_11 : decode c_N_takeProduct 11 = .ok (.if_icmp .ge 22, 3) := by decide +kernel
theorem d_N_takeProduct_14 : decode c_N_takeProduct 14 = .ok (.aload_n 0, 1) := by decide +kernel
theorem d_N_takeProduct_15 : decode c_N_takeProduct 15 = .ok (.aload_n 2, 1) := by decide +kernel
theorem d_N_takeProduct_16 : decode c_N_takeProduct 16 = .ok (.iconst 0, 1) := by decide +kernel
theorem d_N_takeProduct_17 : decode c_N_takeProduct 17 = .ok (.iload_n 3, 1) := by decide +kernel
theorem d_N_takeProduct_18 : decode c_N_takeProduct 18 = .ok (.aload_n 1, 1) := by decide +kernel
theorem d_N_takeProduct_19 : decode c_N_takeProduct 19 = .ok (.getfield 9, 3) := by decide +kernel
theorem d_N_takeProduct_22 : decode c_N_takeProduct 22 = .ok (.iload_n 3, 1) := by decide +kernel
theorem d_N_takeProduct_23 : decode c_N_takeProduct 23 = .ok (.laload, 1) := by decide +kernel
theorem d_N_takeProduct_24 : decode c_N_takeProduct 24 = .ok (.invokevirtual 51, 3) := by decide +kernel
theorem d_N_takeProduct_27 : decode c_N_takeProduct 27 = .ok (.iinc 3 1, 3) := by decide +kernel
theorem d_N_takeProduct_30 : decode c_N_takeProduct 30 = .ok (.goto (-24), 3) := by decide +kernel
theorem d_N_takeProduct_33 : decode c_N_takeProduct 33 = .ok (.aload_n 0, 1) := by decide +kernel
theorem d_N_takeProduct_34 : decode c_N_takeProduct 34 = .ok (.aload_n 1, 1) := by decide +kernel
theorem d_N_takeProduct_35 : decode c_N_takeProduct 35 = .ok (.getfield 15, 3) := by decide +kernel
theorem d_N_takeProduct_38 : decode c_N_takeProduct 38 = .ok (.aload_n 2, 1) := by decide +kernel
theorem d_N_takeProduct_39 : decode c_N_takeProduct 39 = .ok (.getfield 15, 3) := by decide +kernel
theorem d_N_takeProduct_42 : decode c_N_takeProduct 42 = .ok (.iadd, 1) := by decide +kernel
theorem d_N_takeProduct_43 : decode c_N_takeProduct 43 = .ok (.invokevirtual 55, 3) := by decide +kernel
theorem d_N_takeProduct_46 : decode c_N_takeProduct 46 = .ok (.return_, 1) := by decide +kernel
theorem d_N_takeRaised_0 : decode c_N_takeRaised 0 = .ok (.iload_n 2, 1) := by decide +kernel
theorem d_N_takeRaised_1 : decode c_N_takeRaised 1 = .ok (.bipush 28, 2) := by decide +kernel
theorem d_N_takeRaised_3 : decode c_N_takeRaised 3 = .ok (.idiv, 1) := by decide +kernel
theorem d_N_takeRaised_4 : decode c_N_takeRaised 4 = .ok (.istore_n 3, 1) := by decide +kernel
theorem d_N_takeRaised_5 : decode c_N_takeRaised 5 = .ok (.iload_n 2, 1) := by decide +kernel
theorem d_N_takeRaised_6 : decode c_N_takeRaised 6 = .ok (.bipush 28, 2) := by decide +kernel
theorem d_N_takeRaised_8 : decode c_N_takeRaised 8 = .ok (.irem, 1) := by decide +kernel
theorem d_N_takeRaised_9 : decode c_N_takeRaised 9 = .ok (.istore 4, 2) := by decide +kernel
theorem d_N_takeRaised_11 : decode c_N_takeRaised 11 = .ok (.aload_n 1, 1) := by decide +kernel
theorem d_N_takeRaised_12 : decode c_N_takeRaised 12 = .ok (.getfield 15, 3) := by decide +kernel
theorem d_N_takeRaised_15 : decode c_N_takeRaised 15 = .ok (.iload_n 3, 1) := by decide +kernel
theorem d_N_takeRaised_16 : decode c_N_takeRaised 16 = .ok (.iadd, 1) := by decide +kernel
theorem d_N_takeRaised_17 : decode c_N_takeRaised 17 = .ok (.iconst 1, 1) := by decide +kernel
theorem d_N_takeRaised_18 : decode c_N_takeRaised 18 = .ok (.iadd, 1) := by decide +kernel
theorem d_N_takeRaised_19 : decode c_N_takeRaised 19 = .ok (.istore 5, 2) := by decide +kernel
theorem d_N_takeRaised_21 : decode c_N_takeRaised 21 = .ok (.lconst 0, 1) := by decide +kernel
theorem d_N_takeRaised_22 : decode c_N_takeRaised 22 = .ok (.lstore 6, 2) := by decide +kernel
theorem d_N_takeRaised_24 : decode c_N_takeRaised 24 = .ok (.aload_n 1, 1) := by decide +kernel
theorem d_N_takeRaised_25 : decode c_N_takeRaised 25 = .ok (.getfield 15, 3) := by decide +kernel
theorem d_N_takeRaised_28 : decode c_N_takeRaised 28 = .ok (.istore 8, 2) := by decide +kernel
theorem d_N_takeRaised_30 : decode c_N_takeRaised 30 = .ok (.iload 8, 2) := by decide +kernel
theorem d_N_takeRaised_32 : decode c_N_takeRaised 32 = .ok (.ifCond .le 51, 3) := by decide +kernel
theorem d_N_takeRaised_35 : decode c_N_takeRaised 35 = .ok (.aload_n 1, 1) := by decide +kernel
theorem d_N_takeRaised_36 : decode c_N_takeRaised 36 = .ok (.getfield 9, 3) := by decide +kernel
theorem d_N_takeRaised_39 : decode c_N_takeRaised 39 = .ok (.iload 8, 2) := by decide +kernel
theorem d_N_takeRaised_41 : decode c_N_takeRaised 41 = .ok (.iconst 1, 1) := by decide +kernel
theorem d_N_takeRaised_42 : decode c_N_takeRaised 42 = .ok (.isub, 1) := by decide +kernel
theorem d_N_takeRaised_43 : decode c_N_takeRaised 43 = .ok (.laload, 1) := by decide +kernel
theorem d_N_takeRaised_44 : decode c_N_takeRaised 44 = .ok (.lstore 9, 2) := by decide +kernel
theorem d_N_takeRaised_46 : decode c_N_takeRaised 46 = .ok (.aload_n 0, 1) := by decide +kernel
theorem d_N_takeRaised_47 : decode c_N_takeRaised 47 = .ok (.getfield 9, 3) := by decide +kernel
theorem d_N_takeRaised_50 : decode c_N_takeRaised 50 = .ok (.iload_n 3, 1) := by decide +kernel
theorem d_N_takeRaised_51 : decode c_N_takeRaised 51 = .ok (.iload 8, 2) := by decide +kernel
theorem d_N_takeRaised_53 : decode c_N_takeRaised 53 = .ok (.iadd, 1) := by decide +kernel
theorem d_N_takeRaised_54 : decode c_N_takeRaised 54 = .ok (.lload 6, 2) := by decide +kernel
theorem d_N_takeRaised_56 : decode c_N_takeRaised 56 = .ok (.iload 4, 2) := by decide +kernel
theorem d_N_takeRaised_58 : decode c_N_takeRaised 58 = .ok (.lshl, 1) := by decide +kernel
theorem d_N_takeRaised_59 : decode c_N_takeRaised 59 = .ok (.lload 9, 2) := by decide +kernel
theorem d_N_takeRaised_61 : decode c_N_takeRaised 61 = .ok (.bipush 28, 2) := by decide +kernel
theorem d_N_takeRaised_63 : decode c_N_takeRaised 63 = .ok (.iload 4, 2) := by decide +kernel
theorem d_N_takeRaised_65 : decode c_N_takeRaised 65 = .ok (.isub, 1) := by decide +kernel
theorem d_N_takeRaised_66 : decode c_N_takeRaised 66 = .ok (.lshr, 1) := by decide +kernel
theorem d_N_takeRaised_67 : decode c_N_takeRaised 67 = .ok (.lor, 1) := by decide +kernel
theorem d_N_takeRaised_68 : decode c_N_takeRaised 68 = .ok (.ldc2_w 43, 3) := by decide +kernel
theorem d_N_takeRaised_71 : decode c_N_takeRaised 71 = .ok (.land, 1) := by decide +kernel
theorem d_N_takeRaised_72 : decode c_N_takeRaised 72 = .ok (.lastore, 1) := by decide +kernel
theorem d_N_takeRaised_73 : decode c_N_takeRaised 73 = .ok (.lload 9, 2) := by decide +kernel
theorem d_N_takeRaised_75 : decode c_N_takeRaised 75 = .ok (.lstore 6, 2) := by decide +kernel
theorem d_N_takeRaised_77 : decode c_N_takeRaised 77 = .ok (.iinc 8 (-1), 3) := by decide +kernel
theorem d_N_takeRaised_80 : decode c_N_takeRaised 80 = .ok (.goto (-50), 3) := by decide +kernel
theorem d_N_takeRaised_83 : decode c_N_takeRaised 83 = .ok (.aload_n 0, 1) := by decide +kernel
theorem d_N_takeRaised_84 : decode c_N_takeRaised 84 = .ok (.getfield 9, 3) := by decide +kernel
theorem d_N_takeRaised_87 : decode c_N_takeRaised 87 = .ok (.iload_n 3, 1) := by decide +kernel
theorem d_N_takeRaised_88 : decode c_N_takeRaised 88 = .ok (.lload 6, 2) := by decide +kernel
theorem d_N_takeRaised_90 : decode c_N_takeRaised 90 = .ok (.iload 4, 2) := by decide +kernel
theorem d_N_takeRaised_92 : decode c_N_takeRaised 92 = .ok (.lshl, 1) := by decide +kernel
theorem d_N_takeRaised_93 : decode c_N_takeRaised 93 = .ok (.ldc2_w 43, 3) := by decide +kernel
theorem d_N_takeRaised_96 : decode c_N_takeRaised 96 = .ok (.land, 1) := by decide +kernel
theorem d_N_takeRaised_97 : decode c_N_takeRaised 97 = .ok (.lastore, 1) := by decide +kernel
theorem d_N_takeRaised_98 : decode c_N_takeRaised 98 = .ok (.iconst 0, 1) := by decide +kernel
theorem d_N_takeRaised_99 : decode c_N_takeRaised 99 = .ok (.istore 8, 2) := by decide +kernel
theorem d_N_takeRaised_101 : decode c_N_takeRaised 101 = .ok (.iload 8, 2) := by decide +kernel
theorem d_N_takeRaised_103 : decode c_N_takeRaised 103 = .ok (.iload_n 3, 1) := by decide +kernel
theorem d_N_takeRaised_104 : decode c_N_takeRaised 104 = .ok (.if_icmp .ge 17, 3) := by decide +kernel
theorem d_N_takeRaised_107 : decode c_N_takeRaised 107 = .ok (.aload_n 0, 1) := by decide +kernel
theorem d_N_takeRaised_108 : decode c_N_takeRaised 108 = .ok (.getfield 9, 3) := by decide +kernel
theorem d_N_takeRaised_111 : decode c_N_takeRaised 111 = .ok (.iload 8, 2) := by decide +kernel
theorem d_N_takeRaised_113 : decode c_N_takeRaised 113 = .ok (.lconst 0, 1) := by decide +kernel
theorem d_N_takeRaised_114 : decode c_N_takeRaised 114 = .ok (.lastore, 1) := by decide +kernel
theorem d_N_takeRaised_115 : decode c_N_takeRaised 115 = .ok (.iinc 8 1, 3) := by decide +kernel
theorem d_N_takeRaised_118 : decode c_N_takeRaised 118 = .ok (.goto (-17), 3) := by decide +kernel
theorem d_N_takeRaised_121 : decode c_N_takeRaised 121 = .ok (.aload_n 0, 1) := by decide +kernel
theorem d_N_takeRaised_122 : decode c_N_takeRaised 122 = .ok (.iload 5, 2) := by decide +kernel
theorem d_N_takeRaised_124 : decode c_N_takeRaised 124 = .ok (.invokevirtual 39, 3) := by decide +kernel
theorem d_N_takeRaised_127 : decode c_N_takeRaised 127 = .ok (.return_, 1) := by decide +kernel
theorem d_N_takeSquare_0 : decode c_N_takeSquare 0 = .ok (.aload_n 0, 1) := by decide +kernel
theorem d_N_takeSquare_1 : decode c_N_takeSquare 1 = .ok (.invokevirtual 48, 3) := by decide +kernel
theorem d_N_takeSquare_4 : decode c_N_takeSquare 4 = .ok (.iconst 0, 1) := by decide +kernel
theorem d_N_takeSquare_5 : decode c_N_takeSquare 5 = .ok (.istore_n 2, 1) := by decide +kernel
theorem d_N_takeSquare_6 : decode c_N_takeSquare 6 = .ok (.iload_n 2, 1) := by decide +kernel
theorem d_N_takeSquare_7 : decode c_N_takeSquare 7 = .ok (.aload_n 1, 1) := by decide +kernel
theorem d_N_takeSquare_8 : decode c_N_takeSquare 8 = .ok (.getfield 15, 3) := by decide +kernel
theorem d_N_takeSquare_11 : decode c_N_takeSquare 11 = .ok (.if_icmp .ge 52, 3) := by decide +kernel
theorem d_N_takeSquare_14 : decode c_N_takeSquare 14 = .ok (.aload_n 0, 1) := by decide +kernel
theorem d_N_takeSquare_15 : decode c_N_takeSquare 15 = .ok (.getfield 9, 3) := by decide +kernel
theorem d_N_takeSquare_18 : decode c_N_takeSquare 18 = .ok (.iconst 2, 1) := by decide +kernel
theorem d_N_takeSquare_19 : decode c_N_takeSquare 19 = .ok (.iload_n 2, 1) := by decide +kernel
theorem d_N_takeSquare_20 : decode c_N_takeSquare 20 = .ok (.imul, 1) := by decide +kernel
theorem d_N_takeSquare_21 : decode c_N_takeSquare 21 = .ok (.dup2, 1) := by decide +kernel
theorem d_N_takeSquare_22 : decode c_N_takeSquare 22 = .ok (.laload, 1) := by decide +kernel
theorem d_N_takeSquare_23 : decode c_N_takeSquare 23 = .ok (.aload_n 1, 1) := by decide +kernel
theorem d_N_takeSquare_24 : decode c_N_takeSquare 24 = .ok (.getfield 9, 3) := by decide +kernel
theorem d_N_takeSquare_27 : decode c_N_takeSquare 27 = .ok (.iload_n 2, 1) := by decide +kernel
theorem d_N_takeSquare_28 : decode c_N_takeSquare 28 = .ok (.laload, 1) := by decide +kernel
theorem d_N_takeSquare_29 : decode c_N_takeSquare 29 = .ok (.aload_n 1, 1) := by decide +kernel
theorem d_N_takeSquare_30 : decode c_N_takeSquare 30 = .ok (.getfield 9, 3) := by decide +kernel
theorem d_N_takeSquare_33 : decode c_N_takeSquare 33 = .ok (.iload_n 2, 1) := by decide +kernel
theorem d_N_takeSquare_34 : decode c_N_takeSquare 34 = .ok (.laload, 1) := by decide +kernel
theorem d_N_takeSquare_35 : decode c_N_takeSquare 35 = .ok (.lmul, 1) := by decide +kernel
theorem d_N_takeSquare_36 : decode c_N_takeSquare 36 = .ok (.ladd, 1) := by decide +kernel
theorem d_N_takeSquare_37 : decode c_N_takeSquare 37 = .ok (.lastore, 1) := by decide +kernel
theorem d_N_takeSquare_38 : decode c_N_takeSquare 38 = .ok (.aload_n 0, 1) := by decide +kernel
theorem d_N_takeSquare_39 : decode c_N_takeSquare 39 = .ok (.aload_n 1, 1) := by decide +kernel
theorem d_N_takeSquare_40 : decode c_N_takeSquare 40 = .ok (.iload_n 2, 1) := by decide +kernel
theorem d_N_takeSquare_41 : decode c_N_takeSquare 41 = .ok (.iconst 1, 1) := by decide +kernel
theorem d_N_takeSquare_42 : decode c_N_takeSquare 42 = .ok (.iadd, 1) := by decide +kernel
theorem d_N_takeSquare_43 : decode c_N_takeSquare 43 = .ok (.iload_n 2, 1) := by decide +kernel
theorem d_N_takeSquare_44 : decode c_N_takeSquare 44 = .ok (.ldc2_w 58, 3) := by decide +kernel
theorem d_N_takeSquare_47 : decode c_N_takeSquare 47 = .ok (.aload_n 1, 1) := by decide +kernel
theorem d_N_takeSquare_48 : decode c_N_takeSquare 48 = .ok (.getfield 9, 3) := by decide +kernel
theorem d_N_takeSquare_51 : decode c_N_takeSquare 51 = .ok (.iload_n 2, 1) := by decide +kernel
theorem d_N_takeSquare_52 : decode c_N_takeSquare 52 = .ok (.laload, 1) := by decide +kernel
theorem d_N_takeSquare_53 : decode c_N_takeSquare 53 = .ok (.lmul, 1) := by decide +kernel
theorem d_N_takeSquare_54 : decode c_N_takeSquare 54 = .ok (.invokevirtual 51, 3) := by decide +kernel
theorem d_N_takeSquare_57 : decode c_N_takeSquare 57 = .ok (.iinc 2 1, 3) := by decide +kernel
theorem d_N_takeSquare_60 : decode c_N_takeSquare 60 = .ok (.goto (-54), 3) := by decide +kernel
theorem d_N_takeSquare_63 : decode c_N_takeSquare 63 = .ok (.aload_n 0, 1) := by decide +kernel
theorem d_N_takeSquare_64 : decode c_N_takeSquare 64 = .ok (.iconst 2, 1) := by decide +kernel
theorem d_N_takeSquare_65 : decode c_N_takeSquare 65 = .ok (.aload_n 1, 1) := by decide +kernel
theorem d_N_takeSquare_66 : decode c_N_takeSquare 66 = .ok (.getfield 15, 3) := by decide +kernel
theorem d_N_takeSquare_69 : decode c_N_takeSquare 69 = .ok (.imul, 1) := by decide +kernel
theorem d_N_takeSquare_70 : decode c_N_takeSquare 70 = .ok (.invokevirtual 55, 3) := by decide +kernel
theorem d_N_takeSquare_73 : decode c_N_takeSquare 73 = .ok (.return_, 1) := by decide +kernel
theorem d_N_takeSum_0 : decode c_N_takeSum 0 = .ok (.aload_n 1, 1) := by decide +kernel
theorem d_N_takeSum_1 : decode c_N_takeSum 1 = .ok (.getfield 15, 3) := by decide +kernel
theorem d_N_takeSum_4 : decode c_N_takeSum 4 = .ok (.aload_n 2, 1) := by decide +kernel
theorem d_N_takeSum_5 : decode c_N_takeSum 5 = .ok (.getfield 15, 3) := by decide +kernel
theorem d_N_takeSum_8 : decode c_N_takeSum 8 = .ok (.invokestatic 45, 3) := by decide +kernel
theorem d_N_takeSum_11 : decode c_N_takeSum 11 = .ok (.istore_n 3, 1) := by decide +kernel
theorem d_N_takeSum_12 : decode c_N_takeSum 12 = .ok (.lconst 0, 1) := by decide +kernel
theorem d_N_takeSum_13 : decode c_N_takeSum 13 = .ok (.lstore 4, 2) := by decide +kernel
theorem d_N_takeSum_15 : decode c_N_takeSum 15 = .ok (.iconst 0, 1) := by decide +kernel
theorem d_N_takeSum_16 : decode c_N_takeSum 16 = .ok (.istore 6, 2) := by decide +kernel
theorem d_N_takeSum_18 : decode c_N_takeSum 18 = .ok (.iload 6, 2) := by decide +kernel
theorem d_N_takeSum_20 : decode c_N_takeSum 20 = .ok (.iload_n 3, 1) := by decide +kernel
theorem d_N_takeSum_21 : decode c_N_takeSum 21 = .ok (.if_icmp .ge 49, 3) := by decide +kernel
theorem d_N_takeSum_24 : decode c_N_takeSum 24 = .ok (.lload 4, 2) := by decide +kernel
theorem d_N_takeSum_26 : decode c_N_takeSum 26 = .ok (.aload_n 1, 1) := by decide +kernel
theorem d_N_takeSum_27 : decode c_N_takeSum 27 = .ok (.getfield 9, 3) := by decide +kernel
theorem d_N_takeSum_30 : decode c_N_takeSum 30 = .ok (.iload 6, 2) := by decide +kernel
theorem d_N_takeSum_32 : decode c_N_takeSum 32 = .ok (.laload, 1) := by decide +kernel
theorem d_N_takeSum_33 : decode c_N_takeSum 33 = .ok (.aload_n 2, 1) := by decide +kernel
theorem d_N_takeSum_34 : decode c_N_takeSum 34 = .ok (.getfield 9, 3) := by decide +kernel
theorem d_N_takeSum_37 : decode c_N_takeSum 37 = .ok (.iload 6, 2) := by decide +kernel
theorem d_N_takeSum_39 : decode c_N_takeSum 39 = .ok (.laload, 1) := by decide +kernel
theorem d_N_takeSum_40 : decode c_N_takeSum 40 = .ok (.ladd, 1) := by decide +kernel
theorem d_N_takeSum_41 : decode c_N_takeSum 41 = .ok (.ladd, 1) := by decide +kernel
theorem d_N_takeSum_42 : decode c_N_takeSum 42 = .ok (.lstore 4, 2) := by decide +kernel
theorem d_N_takeSum_44 : decode c_N_takeSum 44 = .ok (.aload_n 0, 1) := by decide +kernel
theorem d_N_takeSum_45 : decode c_N_takeSum 45 = .ok (.getfield 9, 3) := by decide +kernel
theorem d_N_takeSum_48 : decode c_N_takeSum 48 = .ok (.iload 6, 2) := by decide +kernel
theorem d_N_takeSum_50 : decode c_N_takeSum 50 = .ok (.lload 4, 2) := by decide +kernel
theorem d_N_takeSum_52 : decode c_N_takeSum 52 = .ok (.ldc2_w 43, 3) := by decide +kernel
theorem d_N_takeSum_55 : decode c_N_takeSum 55 = .ok (.land, 1) := by decide +kernel
theorem d_N_takeSum_56 : decode c_N_takeSum 56 = .ok (.lastore, 1) := by decide +kernel
theorem d_N_takeSum_57 : decode c_N_takeSum 57 = .ok (.lload 4, 2) := by decide +kernel
theorem d_N_takeSum_59 : decode c_N_takeSum 59 = .ok (.bipush 28, 2) := by decide +kernel
theorem d_N_takeSum_61 : decode c_N_takeSum 61 = .ok (.lshr, 1) := by decide +kernel
theorem d_N_takeSum_62 : decode c_N_takeSum 62 = .ok (.lstore 4, 2) := by decide +kernel
theorem d_N_takeSum_64 : decode c_N_takeSum 64 = .ok (.iinc 6 1, 3) := by decide +kernel
theorem d_N_takeSum_67 : decode c_N_takeSum 67 = .ok (.goto (-49), 3) := by decide +kernel
theorem d_N_takeSum_70 : decode c_N_takeSum 70 = .ok (.aload_n 0, 1) := by decide +kernel
theorem d_N_takeSum_71 : decode c_N_takeSum 71 = .ok (.getfield 9, 3) := by decide +kernel
theorem d_N_takeSum_74 : decode c_N_takeSum 74 = .ok (.iload_n 3, 1) := by decide +kernel
theorem d_N_takeSum_75 : decode c_N_takeSum 75 = .ok (.lload 4, 2) := by decide +kernel
theorem d_N_takeSum_77 : decode c_N_takeSum 77 = .ok (.lastore, 1) := by decide +kernel
theorem d_N_takeSum_78 : decode c_N_takeSum 78 = .ok (.aload_n 0, 1) := by decide +kernel
theorem d_N_takeSum_79 : decode c_N_takeSum 79 = .ok (.iload_n 3, 1) := by decide +kernel
theorem d_N_takeSum_80 : decode c_N_takeSum 80 = .ok (.iconst 1, 1) := by decide +kernel
theorem d_N_takeSum_81 : decode c_N_takeSum 81 = .ok (.iadd, 1) := by decide +kernel
theorem d_N_takeSum_82 : decode c_N_takeSum 82 = .ok (.invokevirtual 39, 3) := by decide +kernel
theorem d_N_takeSum_85 : decode c_N_takeSum 85 = .ok (.return_, 1) := by decide +kernel
theorem d_N_takeUnsigned_0 : decode c_N_takeUnsigned 0 = .ok (.aload_n 0, 1) := by decide +kernel
theorem d_N_takeUnsigned_1 : decode c_N_takeUnsigned 1 = .ok (.getfield 9, 3) := by decide +kernel
theorem d_N_takeUnsigned_4 : decode c_N_takeUnsigned 4 = .ok (.iconst 0, 1) := by decide +kernel
theorem d_N_takeUnsigned_5 : decode c_N_takeUnsigned 5 = .ok (.lload_n 1, 1) := by decide +kernel
theorem d_N_takeUnsigned_6 : decode c_N_takeUnsigned 6 = .ok (.ldc2_w 43, 3) := by decide +kernel
theorem d_N_takeUnsigned_9 : decode c_N_takeUnsigned 9 = .ok (.land, 1) := by decide +kernel
theorem d_N_takeUnsigned_10 : decode c_N_takeUnsigned 10 = .ok (.lastore, 1) := by decide +kernel
theorem d_N_takeUnsigned_11 : decode c_N_takeUnsigned 11 = .ok (.aload_n 0, 1) := by decide +kernel
theorem d_N_takeUnsigned_12 : decode c_N_takeUnsigned 12 = .ok (.getfield 9, 3) := by decide +kernel
theorem d_N_takeUnsigned_15 : decode c_N_takeUnsigned 15 = .ok (.iconst 1, 1) := by decide +kernel
theorem d_N_takeUnsigned_16 : decode c_N_takeUnsigned 16 = .ok (.lload_n 1, 1) := by decide +kernel
theorem d_N_takeUnsigned_17 : decode c_N_takeUnsigned 17 = .ok (.bipush 28, 2) := by decide +kernel
theorem d_N_takeUnsigned_19 : decode c_N_takeUnsigned 19 = .ok (.lushr, 1) := by decide +kernel
theorem d_N_takeUnsigned_20 : decode c_N_takeUnsigned 20 = .ok (.ldc2_w 43, 3) := by decide +kernel
theorem d_N_takeUnsigned_23 : decode c_N_takeUnsigned 23 = .ok (.land, 1) := by decide +kernel
theorem d_N_takeUnsigned_24 : decode c_N_takeUnsigned 24 = .ok (.lastore, 1) := by decide +kernel
theorem d_N_takeUnsigned_25 : decode c_N_takeUnsigned 25 = .ok (.aload_n 0, 1) := by decide +kernel
theorem d_N_takeUnsigned_26 : decode c_N_takeUnsigned 26 = .ok (.getfield 9, 3) := by decide +kernel
theorem d_N_takeUnsigned_29 : decode c_N_takeUnsigned 29 = .ok (.iconst 2, 1) := by decide +kernel
theorem d_N_takeUnsigned_30 : decode c_N_takeUnsigned 30 = .ok (.lload_n 1, 1) := by decide +kernel
theorem d_N_takeUnsigned_31 : decode c_N_takeUnsigned 31 = .ok (.bipush 56, 2) := by decide +kernel
theorem d_N_takeUnsigned_33 : decode c_N_takeUnsigned 33 = .ok (.lushr, 1) := by decide +kernel
theorem d_N_takeUnsigned_34 : decode c_N_takeUnsigned 34 = .ok (.lastore, 1) := by decide +kernel
theorem d_N_takeUnsigned_35 : decode c_N_takeUnsigned 35 = .ok (.aload_n 0, 1) := by decide +kernel
theorem d_N_takeUnsigned_36 : decode c_N_takeUnsigned 36 = .ok (.iconst 3, 1) := by decide +kernel
theorem d_N_takeUnsigned_37 : decode c_N_takeUnsigned 37 = .ok (.invokevirtual 39, 3) := by decide +kernel
theorem d_N_takeUnsigned_40 : decode c_N_takeUnsigned 40 = .ok (.return_, 1) := by decide +kernel
