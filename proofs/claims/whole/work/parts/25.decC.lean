/-! decode rows -/
theorem d_D_guessLimb_0 : decode c_D_guessLimb 0 = .ok (.aload_n 0, 1) := by decide +kernel
theorem d_D_guessLimb_1 : decode c_D_guessLimb 1 = .ok (.getfield 21, 3) := by decide +kernel
theorem d_D_guessLimb_4 : decode c_D_guessLimb 4 = .ok (.getfield 51, 3) := by decide +kernel
theorem d_D_guessLimb_7 : decode c_D_guessLimb 7 = .ok (.aload_n 0, 1) := by decide +kernel
theorem d_D_guessLimb_8 : decode c_D_guessLimb 8 = .ok (.getfield 21, 3) := by decide +kernel
theorem d_D_guessLimb_11 : decode c_D_guessLimb 11 = .ok (.getfield 47, 3) := by decide +kernel
theorem d_D_guessLimb_14 : decode c_D_guessLimb 14 = .ok (.iconst 1, 1) := by decide +kernel
theorem d_D_guessLimb_15 : decode c_D_guessLimb 15 = .ok (.isub, 1) := by decide +kernel
theorem d_D_guessLimb_16 : decode c_D_guessLimb 16 = .ok (.laload, 1) := by decide +kernel
theorem d_D_guessLimb_17 : decode c_D_guessLimb 17 = .ok (.lstore_n 2, 1) := by decide +kernel
theorem d_D_guessLimb_18 : decode c_D_guessLimb 18 = .ok (.aload_n 0, 1) := by decide +kernel
theorem d_D_guessLimb_19 : decode c_D_guessLimb 19 = .ok (.getfield 21, 3) := by decide +kernel
theorem d_D_guessLimb_22 : decode c_D_guessLimb 22 = .ok (.aload_n 0, 1) := by decide +kernel
theorem d_D_guessLimb_23 : decode c_D_guessLimb 23 = .ok (.getfield 21, 3) := by decide +kernel
theorem d_D_guessLimb_26 : decode c_D_guessLimb 26 = .ok (.getfield 47, 3) := by decide +kernel
theorem d_D_guessLimb_29 : decode c_D_guessLimb 29 = .ok (.iconst 2, 1) := by decide +kernel
theorem d_D_guessLimb_30 : decode c_D_guessLimb 30 = .ok (.isub, 1) := by decide +kernel
theorem d_D_guessLimb_31 : decode c_D_guessLimb 31 = .ok (.invokevirtual 83, 3) := by decide +kernel
theorem d_D_guessLimb_34 : decode c_D_guessLimb 34 = .ok (.lstore 4, 2) := by decide +kernel
theorem d_D_guessLimb_36 : decode c_D_guessLimb 36 = .ok (.aload_n 0, 1) := by decide +kernel
theorem d_D_guessLimb_37 : decode c_D_guessLimb 37 = .ok (.getfield 18, 3) := by decide +kernel
theorem d_D_guessLimb_40 : decode c_D_guessLimb 40 = .ok (.getfield 51, 3) := by decide +kernel
theorem d_D_guessLimb_43 : decode c_D_guessLimb 43 = .ok (.iload_n 1, 1) := by decide +kernel
theorem d_D_guessLimb_44 : decode c_D_guessLimb 44 = .ok (.laload, 1) := by decide +kernel
theorem d_D_guessLimb_45 : decode c_D_guessLimb 45 = .ok (.ldc2_w 86, 3) := by decide +kernel
theorem d_D_guessLimb_48 : decode c_D_guessLimb 48 = .ok (.lmul, 1) := by decide +kernel
theorem d_D_guessLimb_49 : decode c_D_guessLimb 49 = .ok (.aload_n 0, 1) := by decide +kernel
theorem d_D_guessLimb_50 : decode c_D_guessLimb 50 = .ok (.getfield 18, 3) := by decide +kernel
theorem d_D_guessLimb_53 : decode c_D_guessLimb 53 = .ok (.getfield 51, 3) := by decide +kernel
theorem d_D_guessLimb_56 : decode c_D_guessLimb 56 = .ok (.iload_n 1, 1) := by decide +kernel
theorem d_D_guessLimb_57 : decode c_D_guessLimb 57 = .ok (.iconst 1, 1) := by decide +kernel
theorem d_D_guessLimb_58 : decode c_D_guessLimb 58 = .ok (.isub, 1) := by decide +kernel
theorem d_D_guessLimb_59 : decode c_D_guessLimb 59 = .ok (.laload, 1) := by decide +kernel
theorem d_D_guessLimb_60 : decode c_D_guessLimb 60 = .ok (.ladd, 1) := by decide +kernel
theorem d_D_guessLimb_61 : decode c_D_guessLimb 61 = .ok (.lstore 6, 2) := by decide +kernel
theorem d_D_guessLimb_63 : decode c_D_guessLimb 63 = .ok (.aload_n 0, 1) := by decide +kernel
theorem d_D_guessLimb_64 : decode c_D_guessLimb 64 = .ok (.getfield 18, 3) := by decide +kernel
theorem d_D_guessLimb_67 : decode c_D_guessLimb 67 = .ok (.iload_n 1, 1) := by decide +kernel
theorem d_D_guessLimb_68 : decode c_D_guessLimb 68 = .ok (.iconst 2, 1) := by decide +kernel
theorem d_D_guessLimb_69 : decode c_D_guessLimb 69 = .ok (.isub, 1) := by decide +kernel
theorem d_D_guessLimb_70 : decode c_D_guessLimb 70 = .ok (.invokevirtual 83, 3) := by decide +kernel
theorem d_D_guessLimb_73 : decode c_D_guessLimb 73 = .ok (.lstore 8, 2) := by decide +kernel
theorem d_D_guessLimb_75 : decode c_D_guessLimb 75 = .ok (.lload 6, 2) := by decide +kernel
theorem d_D_guessLimb_77 : decode c_D_guessLimb 77 = .ok (.lload_n 2, 1) := by decide +kernel
theorem d_D_guessLimb_78 : decode c_D_guessLimb 78 = .ok (.ldiv, 1) := by decide +kernel
theorem d_D_guessLimb_79 : decode c_D_guessLimb 79 = .ok (.ldc2_w 88, 3) := by decide +kernel
theorem d_D_guessLimb_82 : decode c_D_guessLimb 82 = .ok (.invokestatic 90, 3) := by decide +kernel
theorem d_D_guessLimb_85 : decode c_D_guessLimb 85 = .ok (.lstore 10, 2) := by decide +kernel
theorem d_D_guessLimb_87 : decode c_D_guessLimb 87 = .ok (.lload 6, 2) := by decide +kernel
theorem d_D_guessLimb_89 : decode c_D_guessLimb 89 = .ok (.lload 10, 2) := by decide +kernel
theorem d_D_guessLimb_91 : decode c_D_guessLimb 91 = .ok (.lload_n 2, 1) := by decide +kernel
theorem d_D_guessLimb_92 : decode c_D_guessLimb 92 = .ok (.lmul, 1) := by decide +kernel
theorem d_D_guessLimb_93 : decode c_D_guessLimb 93 = .ok (.lsub, 1) := by decide +kernel
theorem d_D_guessLimb_94 : decode c_D_guessLimb 94 = .ok (.lstore 12, 2) := by decide +kernel
theorem d_D_guessLimb_96 : decode c_D_guessLimb 96 = .ok (.iconst 0, 1) := by decide +kernel
theorem d_D_guessLimb_97 : decode c_D_guessLimb 97 = .ok (.istore 14, 2) := by decide +kernel
theorem d_D_guessLimb_99 : decode c_D_guessLimb 99 = .ok (.iload 14, 2) := by decide +kernel
theorem d_D_guessLimb_101 : decode c_D_guessLimb 101 = .ok (.iconst 2, 1) := by decide +kernel
theorem d_D_guessLimb_102 : decode c_D_guessLimb 102 = .ok (.if_icmp .ge 48, 3) := by decide +kernel
theorem d_D_guessLimb_105 : decode c_D_guessLimb 105 = .ok (.lload 12, 2) := by decide +kernel
theorem d_D_guessLimb_107 : decode c_D_guessLimb 107 = .ok (.ldc2_w 86, 3) := by decide +kernel
theorem d_D_guessLimb_110 : decode c_D_guessLimb 110 = .ok (.lcmp, 1) := by decide +kernel
theorem d_D_guessLimb_111 : decode c_D_guessLimb 111 = .ok (.ifCond .ge 39, 3) := by decide +kernel
theorem d_D_guessLimb_114 : decode c_D_guessLimb 114 = .ok (.lload 10, 2) := by decide +kernel
theorem d_D_guessLimb_116 : decode c_D_guessLimb 116 = .ok (.lload 4, 2) := by decide +kernel
theorem d_D_guessLimb_118 : decode c_D_guessLimb 118 = .ok (.lmul, 1) := by decide +kernel
theorem d_D_guessLimb_119 : decode c_D_guessLimb 119 = .ok (.lload 12, 2) := by decide +kernel
theorem d_D_guessLimb_121 : decode c_D_guessLimb 121 = .ok (.ldc2_w 86, 3) := by decide +kernel
theorem d_D_guessLimb_124 : decode c_D_guessLimb 124 = .ok (.lmul, 1) := by decide +kernel
theorem d_D_guessLimb_125 : decode c_D_guessLimb 125 = .ok (.lload 8, 2) := by decide +kernel
theorem d_D_guessLimb_127 : decode c_D_guessLimb 127 = .ok (.ladd, 1) := by decide +kernel
theorem d_D_guessLimb_128 : decode c_D_guessLimb 128 = .ok (.lcmp, 1) := by decide +kernel
theorem d_D_guessLimb_129 : decode c_D_guessLimb 129 = .ok (.ifCond .le 21, 3) := by decide +kernel
theorem d_D_guessLimb_132 : decode c_D_guessLimb 132 = .ok (.lload 10, 2) := by decide +kernel
theorem d_D_guessLimb_134 : decode c_D_guessLimb 134 = .ok (.lconst 1, 1) := by decide +kernel
theorem d_D_guessLimb_135 : decode c_D_guessLimb 135 = .ok (.lsub, 1) := by decide +kernel
theorem d_D_guessLimb_136 : decode c_D_guessLimb 136 = .ok (.lstore 10, 2) := by decide +kernel
theorem d_D_guessLimb_138 : decode c_D_guessLimb 138 = .ok (.lload 12, 2) := by decide +kernel
theorem d_D_guessLimb_140 : decode c_D_guessLimb 140 = .ok (.lload_n 2, 1) := by decide +kernel
theorem d_D_guessLimb_141 : decode c_D_guessLimb 141 = .ok (.ladd, 1) := by decide +kernel
theorem d_D_guessLimb_142 : decode c_D_guessLimb 142 = .ok (.lstore 12, 2) := by decide +kernel
theorem d_D_guessLimb_144 : decode c_D_guessLimb 144 = .ok (.iinc 14 1, 3) := by decide +kernel
theorem d_D_guessLimb_147 : decode c_D_guessLimb 147 = .ok (.goto (-48), 3) := by decide +kernel
theorem d_D_guessLimb_150 : decode c_D_guessLimb 150 = .ok (.lload 10, 2) := by decide +kernel
theorem d_D_guessLimb_152 : decode c_D_guessLimb 152 = .ok (.lreturn, 1) := by decide +kernel
theorem d_D_nextLimb_0 : decode c_D_nextLimb 0 = .ok (.aload_n 0, 1) := by decide +kernel
theorem d_D_nextLimb_1 : decode c_D_nextLimb 1 = .ok (.iload_n 1, 1) := by decide +kernel
theorem d_D_nextLimb_2 : decode c_D_nextLimb 2 = .ok (.aload_n 0, 1) := by decide +kernel
theorem d_D_nextLimb_3 : decode c_D_nextLimb 3 = .ok (.getfield 21, 3) := by decide +kernel
theorem d_D_nextLimb_6 : decode c_D_nextLimb 6 = .ok (.getfield 47, 3) := by decide +kernel
theorem d_D_nextLimb_9 : decode c_D_nextLimb 9 = .ok (.iadd, 1) := by decide +kernel
theorem d_D_nextLimb_10 : decode c_D_nextLimb 10 = .ok (.invokevirtual 73, 3) := by decide +kernel
theorem d_D_nextLimb_13 : decode c_D_nextLimb 13 = .ok (.lstore_n 2, 1) := by decide +kernel
theorem d_D_nextLimb_14 : decode c_D_nextLimb 14 = .ok (.aload_n 0, 1) := by decide +kernel
theorem d_D_nextLimb_15 : decode c_D_nextLimb 15 = .ok (.iload_n 1, 1) := by decide +kernel
theorem d_D_nextLimb_16 : decode c_D_nextLimb 16 = .ok (.lload_n 2, 1) := by decide +kernel
theorem d_D_nextLimb_17 : decode c_D_nextLimb 17 = .ok (.invokevirtual 76, 3) := by decide +kernel
theorem d_D_nextLimb_20 : decode c_D_nextLimb 20 = .ok (.ifCond .eq 5, 3) := by decide +kernel
theorem d_D_nextLimb_23 : decode c_D_nextLimb 23 = .ok (.lload_n 2, 1) := by decide +kernel
theorem d_D_nextLimb_24 : decode c_D_nextLimb 24 = .ok (.lreturn, 1) := by decide +kernel
theorem d_D_nextLimb_25 : decode c_D_nextLimb 25 = .ok (.aload_n 0, 1) := by decide +kernel
theorem d_D_nextLimb_26 : decode c_D_nextLimb 26 = .ok (.iload_n 1, 1) := by decide +kernel
theorem d_D_nextLimb_27 : decode c_D_nextLimb 27 = .ok (.invokevirtual 80, 3) := by decide +kernel
theorem d_D_nextLimb_30 : decode c_D_nextLimb 30 = .ok (.lload_n 2, 1) := by decide +kernel
theorem d_D_nextLimb_31 : decode c_D_nextLimb 31 = .ok (.lconst 1, 1) := by decide +kernel
theorem d_D_nextLimb_32 : decode c_D_nextLimb 32 = .ok (.lsub, 1) := by decide +kernel
theorem d_D_nextLimb_33 : decode c_D_nextLimb 33 = .ok (.lreturn, 1) := by decide +kernel
theorem d_D_putBack_0 : decode c_D_putBack 0 = .ok (.aload_n 0, 1) := by decide +kernel
theorem d_D_putBack_1 : decode c_D_putBack 1 = .ok (.getfield 21, 3) := by decide +kernel
theorem d_D_putBack_4 : decode c_D_putBack 4 = .ok (.getfield 47, 3) := by decide +kernel
theorem d_D_putBack_7 : decode c_D_putBack 7 = .ok (.istore_n 2, 1) := by decide +kernel
theorem d_D_putBack_8 : decode c_D_putBack 8 = .ok (.lconst 0, 1) := by decide +kernel
theorem d_D_putBack_9 : decode c_D_putBack 9 = .ok (.lstore_n 3, 1) := by decide +kernel
theorem d_D_putBack_10 : decode c_D_putBack 10 = .ok (.iconst 0, 1) := by decide +kernel
theorem d_D_putBack_11 : decode c_D_putBack 11 = .ok (.istore 5, 2) := by decide +kernel
theorem d_D_putBack_13 : decode c_D_putBack 13 = .ok (.iload 5, 2) := by decide +kernel
theorem d_D_putBack_15 : decode c_D_putBack 15 = .ok (.iload_n 2, 1) := by decide +kernel
theorem d_D_putBack_16 : decode c_D_putBack 16 = .ok (.if_icmp .ge 57, 3) := by decide +kernel
theorem d_D_putBack_19 : decode c_D_putBack 19 = .ok (.lload_n 3, 1) := by decide +kernel
theorem d_D_putBack_20 : decode c_D_putBack 20 = .ok (.aload_n 0, 1) := by decide +kernel
theorem d_D_putBack_21 : decode c_D_putBack 21 = .ok (.getfield 18, 3) := by decide +kernel
theorem d_D_putBack_24 : decode c_D_putBack 24 = .ok (.getfield 51, 3) := by decide +kernel
theorem d_D_putBack_27 : decode c_D_putBack 27 = .ok (.iload_n 1, 1) := by decide +kernel
theorem d_D_putBack_28 : decode c_D_putBack 28 = .ok (.iload 5, 2) := by decide +kernel
theorem d_D_putBack_30 : decode c_D_putBack 30 = .ok (.iadd, 1) := by decide +kernel
theorem d_D_putBack_31 : decode c_D_putBack 31 = .ok (.laload, 1) := by decide +kernel
theorem d_D_putBack_32 : decode c_D_putBack 32 = .ok (.aload_n 0, 1) := by decide +kernel
theorem d_D_putBack_33 : decode c_D_putBack 33 = .ok (.getfield 21, 3) := by decide +kernel
theorem d_D_putBack_36 : decode c_D_putBack 36 = .ok (.getfield 51, 3) := by decide +kernel
theorem d_D_putBack_39 : decode c_D_putBack 39 = .ok (.iload 5, 2) := by decide +kernel
theorem d_D_putBack_41 : decode c_D_putBack 41 = .ok (.laload, 1) := by decide +kernel
theorem d_D_putBack_42 : decode c_D_putBack 42 = .ok (.ladd, 1) := by decide +kernel
theorem d_D_putBack_43 : decode c_D_putBack 43 = .ok (.ladd, 1) := by decide +kernel
theorem d_D_putBack_44 : decode c_D_putBack 44 = .ok (.lstore_n 3, 1) := by decide +kernel
theorem d_D_putBack_45 : decode c_D_putBack 45 = .ok (.aload_n 0, 1) := by decide +kernel
theorem d_D_putBack_46 : decode c_D_putBack 46 = .ok (.getfield 18, 3) := by decide +kernel
theorem d_D_putBack_49 : decode c_D_putBack 49 = .ok (.getfield 51, 3) := by decide +kernel
theorem d_D_putBack_52 : decode c_D_putBack 52 = .ok (.iload_n 1, 1) := by decide +kernel
theorem d_D_putBack_53 : decode c_D_putBack 53 = .ok (.iload 5, 2) := by decide +kernel
theorem d_D_putBack_55 : decode c_D_putBack 55 = .ok (.iadd, 1) := by decide +kernel
theorem d_D_putBack_56 : decode c_D_putBack 56 = .ok (.lload_n 3, 1) := by decide +kernel
theorem d_D_putBack_57 : decode c_D_putBack 57 = .ok (.ldc2_w 88, 3) := by decide +kernel
theorem d_D_putBack_60 : decode c_D_putBack 60 = .ok (.land, 1) := by decide +kernel
theorem d_D_putBack_61 : decode c_D_putBack 61 = .ok (.lastore, 1) := by decide +kernel
theorem d_D_putBack_62 : decode c_D_putBack 62 = .ok (.lload_n 3, 1) := by decide +kernel
theorem d_D_putBack_63 : decode c_D_putBack 63 = .ok (.bipush 28, 2) := by decide +kernel
theorem d_D_putBack_65 : decode c_D_putBack 65 = .ok (.lshr, 1) := by decide +kernel
theorem d_D_putBack_66 : decode c_D_putBack 66 = .ok (.lstore_n 3, 1) := by decide +kernel
theorem d_D_putBack_67 : decode c_D_putBack 67 = .ok (.iinc 5 1, 3) := by decide +kernel
theorem d_D_putBack_70 : decode c_D_putBack 70 = .ok (.goto (-57), 3) := by decide +kernel
theorem d_D_putBack_73 : decode c_D_putBack 73 = .ok (.aload_n 0, 1) := by decide +kernel
theorem d_D_putBack_74 : decode c_D_putBack 74 = .ok (.getfield 18, 3) := by decide +kernel
theorem d_D_putBack_77 : decode c_D_putBack 77 = .ok (.getfield 51, 3) := by decide +kernel
theorem d_D_putBack_80 : decode c_D_putBack 80 = .ok (.iload_n 1, 1) := by decide +kernel
theorem d_D_putBack_81 : decode c_D_putBack 81 = .ok (.iload_n 2, 1) := by decide +kernel
theorem d_D_putBack_82 : decode c_D_putBack 82 = .ok (.iadd, 1) := by decide +kernel
theorem d_D_putBack_83 : decode c_D_putBack 83 = .ok (.dup2, 1) := by decide +kernel
theorem d_D_putBack_84 : decode c_D_putBack 84 = .ok (.laload, 1) := by decide +kernel
theorem d_D_putBack_85 : decode c_D_putBack 85 = .ok (.lload_n 3, 1) := by decide +kernel
theorem d_D_putBack_86 : decode c_D_putBack 86 = .ok (.ladd, 1) := by decide +kernel
theorem d_D_putBack_87 : decode c_D_putBack 87 = .ok (.lastore, 1) := by decide +kernel
theorem d_D_putBack_88 : decode c_D_putBack 88 = .ok (.return_, 1) := by decide +kernel
theorem d_D_run_0 : decode c_D_run 0 = .ok (.aload_n 0, 1) := by decide +kernel
theorem d_D_run_1 : decode c_D_run 1 = .ok (.getfield 12, 3) := by decide +kernel
theorem d_D_run_4 : decode c_D_run 4 = .ok (.invokevirtual 24, 3) := by decide +kernel
theorem d_D_run_7 : decode c_D_run 7 = .ok (.aload_n 2, 1) := by decide +kernel
theorem d_D_run_8 : decode c_D_run 8 = .ok (.invokevirtual 27, 3) := by decide +kernel
theorem d_D_run_11 : decode c_D_run 11 = .ok (.ifCond .ne 11, 3) := by decide +kernel
theorem d_D_run_14 : decode c_D_run 14 = .ok (.aload_n 1, 1) := by decide +kernel
theorem d_D_run_15 : decode c_D_run 15 = .ok (.aload_n 2, 1) := by decide +kernel
theorem d_D_run_16 : decode c_D_run 16 = .ok (.invokevirtual 31, 3) := by decide +kernel
theorem d_D_run_19 : decode c_D_run 19 = .ok (.ifCond .ge 12, 3) := by decide +kernel
theorem d_D_run_22 : decode c_D_run 22 = .ok (.aload_n 0, 1) := by decide +kernel
theorem d_D_run_23 : decode c_D_run 23 = .ok (.getfield 18, 3) := by decide +kernel
theorem d_D_run_26 : decode c_D_run 26 = .ok (.aload_n 1, 1) := by decide +kernel
theorem d_D_run_27 : decode c_D_run 27 = .ok (.invokevirtual 35, 3) := by decide +kernel
theorem d_D_run_30 : decode c_D_run 30 = .ok (.return_, 1) := by decide +kernel
theorem d_D_run_31 : decode c_D_run 31 = .ok (.aload_n 2, 1) := by decide +kernel
theorem d_D_run_32 : decode c_D_run 32 = .ok (.invokevirtual 39, 3) := by decide +kernel
theorem d_D_run_35 : decode c_D_run 35 = .ok (.istore_n 3, 1) := by decide +kernel
theorem d_D_run_36 : decode c_D_run 36 = .ok (.aload_n 0, 1) := by decide +kernel
theorem d_D_run_37 : decode c_D_run 37 = .ok (.getfield 21, 3) := by decide +kernel
theorem d_D_run_40 : decode c_D_run 40 = .ok (.aload_n 2, 1) := by decide +kernel
theorem d_D_run_41 : decode c_D_run 41 = .ok (.iload_n 3, 1) := by decide +kernel
theorem d_D_run_42 : decode c_D_run 42 = .ok (.invokevirtual 43, 3) := by decide +kernel
theorem d_D_run_45 : decode c_D_run 45 = .ok (.aload_n 0, 1) := by decide +kernel
theorem d_D_run_46 : decode c_D_run 46 = .ok (.getfield 18, 3) := by decide +kernel
theorem d_D_run_49 : decode c_D_run 49 = .ok (.aload_n 1, 1) := by decide +kernel
theorem d_D_run_50 : decode c_D_run 50 = .ok (.iload_n 3, 1) := by decide +kernel
theorem d_D_run_51 : decode c_D_run 51 = .ok (.invokevirtual 43, 3) := by decide +kernel
theorem d_D_run_54 : decode c_D_run 54 = .ok (.aload_n 0, 1) := by decide +kernel
theorem d_D_run_55 : decode c_D_run 55 = .ok (.getfield 18, 3) := by decide +kernel
theorem d_D_run_58 : decode c_D_run 58 = .ok (.getfield 47, 3) := by decide +kernel
theorem d_D_run_61 : decode c_D_run 61 = .ok (.aload_n 0, 1) := by decide +kernel
theorem d_D_run_62 : decode c_D_run 62 = .ok (.getfield 21, 3) := by decide +kernel
theorem d_D_run_65 : decode c_D_run 65 = .ok (.getfield 47, 3) := by decide +kernel
theorem d_D_run_68 : decode c_D_run 68 = .ok (.isub, 1) := by decide +kernel
theorem d_D_run_69 : decode c_D_run 69 = .ok (.istore 4, 2) := by decide +kernel
theorem d_D_run_71 : decode c_D_run 71 = .ok (.iload 4, 2) := by decide +kernel
theorem d_D_run_73 : decode c_D_run 73 = .ok (.istore 5, 2) := by decide +kernel
theorem d_D_run_75 : decode c_D_run 75 = .ok (.iload 5, 2) := by decide +kernel
theorem d_D_run_77 : decode c_D_run 77 = .ok (.ifCond .lt 25, 3) := by decide +kernel
theorem d_D_run_80 : decode c_D_run 80 = .ok (.aload_n 0, 1) := by decide +kernel
theorem d_D_run_81 : decode c_D_run 81 = .ok (.getfield 12, 3) := by decide +kernel
theorem d_D_run_84 : decode c_D_run 84 = .ok (.getfield 51, 3) := by decide +kernel
theorem d_D_run_87 : decode c_D_run 87 = .ok (.iload 5, 2) := by decide +kernel
theorem d_D_run_89 : decode c_D_run 89 = .ok (.aload_n 0, 1) := by decide +kernel
theorem d_D_run_90 : decode c_D_run 90 = .ok (.iload 5, 2) := by decide +kernel
theorem d_D_run_92 : decode c_D_run 92 = .ok (.invokevirtual 55, 3) := by decide +kernel
theorem d_D_run_95 : decode c_D_run 95 = .ok (.lastore, 1) := by decide +kernel
theorem d_D_run_96 : decode c_D_run 96 = .ok (.iinc 5 (-1), 3) := by decide +kernel
theorem d_D_run_99 : decode c_D_run 99 = .ok (.goto (-24), 3) := by decide +kernel
theorem d_D_run_102 : decode c_D_run 102 = .ok (.aload_n 0, 1) := by decide +kernel
theorem d_D_run_103 : decode c_D_run 103 = .ok (.getfield 12, 3) := by decide +kernel
theorem d_D_run_106 : decode c_D_run 106 = .ok (.iload 4, 2) := by decide +kernel
theorem d_D_run_108 : decode c_D_run 108 = .ok (.iconst 1, 1) := by decide +kernel
theorem d_D_run_109 : decode c_D_run 109 = .ok (.iadd, 1) := by decide +kernel
theorem d_D_run_110 : decode c_D_run 110 = .ok (.invokevirtual 59, 3) := by decide +kernel
theorem d_D_run_113 : decode c_D_run 113 = .ok (.aload_n 0, 1) := by decide +kernel
theorem d_D_run_114 : decode c_D_run 114 = .ok (.getfield 18, 3) := by decide +kernel
theorem d_D_run_117 : decode c_D_run 117 = .ok (.aload_n 0, 1) := by decide +kernel
theorem d_D_run_118 : decode c_D_run 118 = .ok (.getfield 18, 3) := by decide +kernel
theorem d_D_run_121 : decode c_D_run 121 = .ok (.getfield 47, 3) := by decide +kernel
theorem d_D_run_124 : decode c_D_run 124 = .ok (.invokevirtual 59, 3) := by decide +kernel
theorem d_D_run_127 : decode c_D_run 127 = .ok (.aload_n 0, 1) := by decide +kernel
theorem d_D_run_128 : decode c_D_run 128 = .ok (.getfield 18, 3) := by decide +kernel
theorem d_D_run_131 : decode c_D_run 131 = .ok (.aload_n 0, 1) := by decide +kernel
theorem d_D_run_132 : decode c_D_run 132 = .ok (.getfield 18, 3) := by decide +kernel
theorem d_D_run_135 : decode c_D_run 135 = .ok (.iload_n 3, 1) := by decide +kernel
theorem d_D_run_136 : decode c_D_run 136 = .ok (.invokevirtual 63, 3) := by decide +kernel
theorem d_D_run_139 : decode c_D_run 139 = .ok (.return_, 1) := by decide +kernel
theorem d_D_stepOver_0 : decode c_D_stepOver 0 = .ok (.aload_n 0, 1) := by decide +kernel
theorem d_D_stepOver_1 : decode c_D_stepOver 1 = .ok (.getfield 12, 3) := by decide +kernel
theorem d_D_stepOver_4 : decode c_D_stepOver 4 = .ok (.invokevirtual 66, 3) := by decide +kernel
theorem d_D_stepOver_7 : decode c_D_stepOver 7 = .ok (.aload_n 0, 1) := by decide +kernel
theorem d_D_stepOver_8 : decode c_D_stepOver 8 = .ok (.getfield 18, 3) := by decide +kernel
theorem d_D_stepOver_11 : decode c_D_stepOver 11 = .ok (.aload_n 1, 1) := by decide +kernel
theorem d_D_stepOver_12 : decode c_D_stepOver 12 = .ok (.aload_n 0, 1) := by decide +kernel
theorem d_D_stepOver_13 : decode c_D_stepOver 13 = .ok (.getfield 18, 3) := by decide +kernel
theorem d_D_stepOver_16 : decode c_D_stepOver 16 = .ok (.invokevirtual 69, 3) := by decide +kernel
theorem d_D_stepOver_19 : decode c_D_stepOver 19 = .ok (.return_, 1) := by decide +kernel
theorem d_D_takeAway_0 : decode c_D_takeAway 0 = .ok (.aload_n 0, 1) := by decide +kernel
theorem d_D_takeAway_1 : decode c_D_takeAway 1 = .ok (.getfield 18, 3) := by decide +kernel
theorem d_D_takeAway_4 : decode c_D_takeAway 4 = .ok (.getfield 51, 3) := by decide +kernel
theorem d_D_takeAway_7 : decode c_D_takeAway 7 = .ok (.astore 4, 2) := by decide +kernel
theorem d_D_takeAway_9 : decode c_D_takeAway 9 = .ok (.aload_n 0, 1) := by decide +kernel
theorem d_D_takeAway_10 : decode c_D_takeAway 10 = .ok (.getfield 21, 3) := by decide +kernel
theorem d_D_takeAway_13 : decode c_D_takeAway 13 = .ok (.getfield 51, 3) := by decide +kernel
theorem d_D_takeAway_16 : decode c_D_takeAway 16 = .ok (.astore 5, 2) := by decide +kernel
theorem d_D_takeAway_18 : decode c_D_takeAway 18 = .ok (.aload_n 0, 1) := by decide +kernel
theorem d_D_takeAway_19 : decode c_D_takeAway 19 = .ok (.getfield 21, 3) := by decide +kernel
theorem d_D_takeAway_22 : decode c_D_takeAway 22 = .ok (.getfield 47, 3) := by decide +kernel
theorem d_D_takeAway_25 : decode c_D_takeAway 25 = .ok (.istore 6, 2) := by decide +kernel
theorem d_D_takeAway_27 : decode c_D_takeAway 27 = .ok (.lconst 0, 1) := by decide +kernel
theorem d_D_takeAway_28 : decode c_D_takeAway 28 = .ok (.lstore 7, 2) := by decide +kernel
theorem d_D_takeAway_30 : decode c_D_takeAway 30 = .ok (.iconst 0, 1) := by decide +kernel
theorem d_D_takeAway_31 : decode c_D_takeAway 31 = .ok (.istore 9, 2) := by decide +kernel
theorem d_D_takeAway_33 : decode c_D_takeAway 33 = .ok (.iload 9, 2) := by decide +kernel
theorem d_D_takeAway_35 : decode c_D_takeAway 35 = .ok (.iload 6, 2) := by decide +kernel
theorem d_D_takeAway_37 : decode c_D_takeAway 37 = .ok (.if_icmp .ge 49, 3) := by decide +kernel
theorem d_D_takeAway_40 : decode c_D_takeAway 40 = .ok (.lload 7, 2) := by decide +kernel
theorem d_D_takeAway_42 : decode c_D_takeAway 42 = .ok (.aload 4, 2) := by decide +kernel
theorem d_D_takeAway_44 : decode c_D_takeAway 44 = .ok (.iload_n 1, 1) := by decide +kernel
theorem d_D_takeAway_45 : decode c_D_takeAway 45 = .ok (.iload 9, 2) := by decide +kernel
theorem d_D_takeAway_47 : decode c_D_takeAway 47 = .ok (.iadd, 1) := by decide +kernel
theorem d_D_takeAway_48 : decode c_D_takeAway 48 = .ok (.laload, 1) := by decide +kernel
theorem d_D_takeAway_49 : decode c_D_takeAway 49 = .ok (.lload_n 2, 1) := by decide +kernel
theorem d_D_takeAway_50 : decode c_D_takeAway 50 = .ok (.aload 5, 2) := by decide +kernel
theorem d_D_takeAway_52 : decode c_D_takeAway 52 = .ok (.iload 9, 2) := by decide +kernel
theorem d_D_takeAway_54 : decode c_D_takeAway 54 = .ok (.laload, 1) := by decide +kernel
theorem d_D_takeAway_55 : decode c_D_takeAway 55 = .ok (.lmul, 1) := by decide +kernel
theorem d_D_takeAway_56 : decode c_D_takeAway 56 = .ok (.lsub, 1) := by decide +kernel
theorem d_D_takeAway_57 : decode c_D_takeAway 57 = .ok (.ladd, 1) := by decide +kernel
theorem d_D_takeAway_58 : decode c_D_takeAway 58 = .ok (.lstore 7, 2) := by decide +kernel
theorem d_D_takeAway_60 : decode c_D_takeAway 60 = .ok (.aload 4, 2) := by decide +kernel
theorem d_D_takeAway_62 : decode c_D_takeAway 62 = .ok (.iload_n 1, 1) := by decide +kernel
theorem d_D_takeAway_63 : decode c_D_takeAway 63 = .ok (.iload 9, 2) := by decide +kernel
theorem d_D_takeAway_65 : decode c_D_takeAway 65 = .ok (.iadd, 1) := by decide +kernel
theorem d_D_takeAway_66 : decode c_D_takeAway 66 = .ok (.lload 7, 2) := by decide +kernel
theorem d_D_takeAway_68 : decode c_D_takeAway 68 = .ok (.ldc2_w 88, 3) := by decide +kernel
theorem d_D_takeAway_71 : decode c_D_takeAway 71 = .ok (.land, 1) := by decide +kernel
theorem d_D_takeAway_72 : decode c_D_takeAway 72 = .ok (.lastore, 1) := by decide +kernel
theorem d_D_takeAway_73 : decode c_D_takeAway 73 = .ok (.lload 7, 2) := by decide +kernel
theorem d_D_takeAway_75 : decode c_D_takeAway 75 = .ok (.bipush 28, 2) := by decide +kernel
theorem d_D_takeAway_77 : decode c_D_takeAway 77 = .ok (.lshr, 1) := by decide +kernel
theorem d_D_takeAway_78 : decode c_D_takeAway 78 = .ok (.lstore 7, 2) := by decide +kernel
theorem d_D_takeAway_80 : decode c_D_takeAway 80 = .ok (.iinc 9 1, 3) := by decide +kernel
theorem d_D_takeAway_83 : decode c_D_takeAway 83 = .ok (.goto (-50), 3) := by decide +kernel
theorem d_D_takeAway_86 : decode c_D_takeAway 86 = .ok (.aload 4, 2) := by decide +kernel
theorem d_D_takeAway_88 : decode c_D_takeAway 88 = .ok (.iload_n 1, 1) := by decide +kernel
theorem d_D_takeAway_89 : decode c_D_takeAway 89 = .ok (.iload 6, 2) := by decide +kernel
theorem d_D_takeAway_91 : decode c_D_takeAway 91 = .ok (.iadd, 1) := by decide +kernel
theorem d_D_takeAway_92 : decode c_D_takeAway 92 = .ok (.dup2, 1) := by decide +kernel
theorem d_D_takeAway_93 : decode c_D_takeAway 93 = .ok (.laload, 1) := by decide +kernel
theorem d_D_takeAway_94 : decode c_D_takeAway 94 = .ok (.lload 7, 2) := by decide +kernel
theorem d_D_takeAway_96 : decode c_D_takeAway 96 = .ok (.ladd, 1) := by decide +kernel
theorem d_D_takeAway_97 : decode c_D_takeAway 97 = .ok (.lastore, 1) := by decide +kernel
theorem d_D_takeAway_98 : decode c_D_takeAway 98 = .ok (.aload 4, 2) := by decide +kernel
theorem d_D_takeAway_100 : decode c_D_takeAway 100 = .ok (.iload_n 1, 1) := by decide +kernel
theorem d_D_takeAway_101 : decode c_D_takeAway 101 = .ok (.iload 6, 2) := by decide +kernel
theorem d_D_takeAway_103 : decode c_D_takeAway 103 = .ok (.iadd, 1) := by decide +kernel
theorem d_D_takeAway_104 : decode c_D_takeAway 104 = .ok (.laload, 1) := by decide +kernel
theorem d_D_takeAway_105 : decode c_D_takeAway 105 = .ok (.lconst 0, 1) := by decide +kernel
theorem d_D_takeAway_106 : decode c_D_takeAway 106 = .ok (.lcmp, 1) := by decide +kernel
theorem d_D_takeAway_107 : decode c_D_takeAway 107 = .ok (.ifCond .lt 7, 3) := by decide +kernel
theorem d_D_takeAway_110 : decode c_D_takeAway 110 = .ok (.iconst 1, 1) := by decide +kernel
theorem d_D_takeAway_111 : decode c_D_takeAway 111 = .ok (.goto 4, 3) := by decide +kernel
theorem d_D_takeAway_114 : decode c_D_takeAway 114 = .ok (.iconst 0, 1) := by decide +kernel
theorem d_D_takeAway_115 : decode c_D_takeAway 115 = .ok (.ireturn, 1) := by decide +kernel
theorem d_E_bringFactorWithin_0 : decode c_E_bringFactorWithin 0 = .ok (.aload_n 0, 1) := by decide +kernel
theorem d_E_bringFactorWithin_1 : decode c_E_bringFactorWithin 1 = .ok (.getfield 19, 3) := by decide +kernel
theorem d_E_bringFactorWithin_4 : decode c_E_bringFactorWithin 4 = .ok (.ifCond .eq 25, 3) := by decide +kernel
theorem d_E_bringFactorWithin_7 : decode c_E_bringFactorWithin 7 = .ok (.aload_n 0, 1) := by decide +kernel
theorem d_E_bringFactorWithin_8 : decode c_E_bringFactorWithin 8 = .ok (.getfield 16, 3) := by decide +kernel
theorem d_E_bringFactorWithin_11 : decode c_E_bringFactorWithin 11 = .ok (.invokevirtual 50, 3) := by decide +kernel
theorem d_E_bringFactorWithin_14 : decode c_E_bringFactorWithin 14 = .ok (.ifCond .ne 15, 3) := by decide +kernel
theorem d_E_bringFactorWithin_17 : decode c_E_bringFactorWithin 17 = .ok (.aload_n 0, 1) := by decide +kernel
theorem d_E_bringFactorWithin_18 : decode c_E_bringFactorWithin 18 = .ok (.getfield 16, 3) := by decide +kernel
theorem d_E_bringFactorWithin_21 : decode c_E_bringFactorWithin 21 = .ok (.aload_n 1, 1) := by decide +kernel
theorem d_E_bringFactorWithin_22 : decode c_E_bringFactorWithin 22 = .ok (.aload_n 0, 1) := by decide +kernel
theorem d_E_bringFactorWithin_23 : decode c_E_bringFactorWithin 23 = .ok (.getfield 16, 3) := by decide +kernel
theorem d_E_bringFactorWithin_26 : decode c_E_bringFactorWithin 26 = .ok (.invokevirtual 70, 3) := by decide +kernel
theorem d_E_bringFactorWithin_29 : decode c_E_bringFactorWithin 29 = .ok (.return_, 1) := by decide +kernel
theorem d_E_run_0 : decode c_E_run 0 = .ok (.aload_n 0, 1) := by decide +kernel
theorem d_E_run_1 : decode c_E_run 1 = .ok (.getfield 10, 3) := by decide +kernel
theorem d_E_run_4 : decode c_E_run 4 = .ok (.aload_n 1, 1) := by decide +kernel
theorem d_E_run_5 : decode c_E_run 5 = .ok (.invokevirtual 39, 3) := by decide +kernel
theorem d_E_run_8 : decode c_E_run 8 = .ok (.aload_n 0, 1) := by decide +kernel
theorem d_E_run_9 : decode c_E_run 9 = .ok (.getfield 23, 3) := by decide +kernel
theorem d_E_run_12 : decode c_E_run 12 = .ok (.aload_n 2, 1) := by decide +kernel
theorem d_E_run_13 : decode c_E_run 13 = .ok (.invokevirtual 39, 3) := by decide +kernel
theorem d_E_run_16 : decode c_E_run 16 = .ok (.aload_n 0, 1) := by decide +kernel
theorem d_E_run_17 : decode c_E_run 17 = .ok (.getfield 16, 3) := by decide +kernel
theorem d_E_run_20 : decode c_E_run 20 = .ok (.invokevirtual 43, 3) := by decide +kernel
theorem d_E_run_23 : decode c_E_run 23 = .ok (.aload_n 0, 1) := by decide +kernel
theorem d_E_run_24 : decode c_E_run 24 = .ok (.getfield 26, 3) := by decide +kernel
theorem d_E_run_27 : decode c_E_run 27 = .ok (.lconst 1, 1) := by decide +kernel
theorem d_E_run_28 : decode c_E_run 28 = .ok (.invokevirtual 46, 3) := by decide +kernel
theorem d_E_run_31 : decode c_E_run 31 = .ok (.aload_n 0, 1) := by decide +kernel
theorem d_E_run_32 : decode c_E_run 32 = .ok (.iconst 1, 1) := by decide +kernel
theorem d_E_run_33 : decode c_E_run 33 = .ok (.putfield 19, 3) := by decide +kernel
theorem d_E_run_36 : decode c_E_run 36 = .ok (.iconst 0, 1) := by decide +kernel
theorem d_E_run_37 : decode c_E_run 37 = .ok (.istore_n 3, 1) := by decide +kernel
theorem d_E_run_38 : decode c_E_run 38 = .ok (.iload_n 3, 1) := by decide +kernel
theorem d_E_run_39 : decode c_E_run 39 = .ok (.sipush 10000, 3) := by decide +kernel
theorem d_E_run_42 : decode c_E_run 42 = .ok (.if_icmp .ge 130, 3) := by decide +kernel
theorem d_E_run_45 : decode c_E_run 45 = .ok (.aload_n 0, 1) := by decide +kernel
theorem d_E_run_46 : decode c_E_run 46 = .ok (.getfield 23, 3) := by decide +kernel
theorem d_E_run_49 : decode c_E_run 49 = .ok (.invokevirtual 50, 3) := by decide +kernel
theorem d_E_run_52 : decode c_E_run 52 = .ok (.ifCond .ne 120, 3) := by decide +kernel
theorem d_E_run_55 : decode c_E_run 55 = .ok (.aload_n 0, 1) := by decide +kernel
theorem d_E_run_56 : decode c_E_run 56 = .ok (.getfield 35, 3) := by decide +kernel
theorem d_E_run_59 : decode c_E_run 59 = .ok (.aload_n 0, 1) := by decide +kernel
theorem d_E_run_60 : decode c_E_run 60 = .ok (.getfield 10, 3) := by decide +kernel
theorem d_E_run_63 : decode c_E_run 63 = .ok (.aload_n 0, 1) := by decide +kernel
theorem d_E_run_64 : decode c_E_run 64 = .ok (.getfield 23, 3) := by decide +kernel
theorem d_E_run_67 : decode c_E_run 67 = .ok (.invokevirtual 54, 3) := by decide +kernel
theorem d_E_run_70 : decode c_E_run 70 = .ok (.aload_n 0, 1) := by decide +kernel
theorem d_E_run_71 : decode c_E_run 71 = .ok (.getfield 10, 3) := by decide +kernel
theorem d_E_run_74 : decode c_E_run 74 = .ok (.aload_n 0, 1) := by decide +kernel
theorem d_E_run_75 : decode c_E_run 75 = .ok (.getfield 23, 3) := by decide +kernel
theorem d_E_run_78 : decode c_E_run 78 = .ok (.invokevirtual 39, 3) := by decide +kernel
theorem d_E_run_81 : decode c_E_run 81 = .ok (.aload_n 0, 1) := by decide +kernel
theorem d_E_run_82 : decode c_E_run 82 = .ok (.getfield 23, 3) := by decide +kernel
theorem d_E_run_85 : decode c_E_run 85 = .ok (.aload_n 0, 1) := by decide +kernel
theorem d_E_run_86 : decode c_E_run 86 = .ok (.getfield 35, 3) := by decide +kernel
theorem d_E_run_89 : decode c_E_run 89 = .ok (.getfield 58, 3) := by decide +kernel
theorem d_E_run_92 : decode c_E_run 92 = .ok (.invokevirtual 39, 3) := by decide +kernel
theorem d_E_run_95 : decode c_E_run 95 = .ok (.aload_n 0, 1) := by decide +kernel
theorem d_E_run_96 : decode c_E_run 96 = .ok (.getfield 29, 3) := by decide +kernel
theorem d_E_run_99 : decode c_E_run 99 = .ok (.aload_n 0, 1) := by decide +kernel
theorem d_E_run_100 : decode c_E_run 100 = .ok (.getfield 35, 3) := by decide +kernel
theorem d_E_run_103 : decode c_E_run 103 = .ok (.getfield 61, 3) := by decide +kernel
theorem d_E_run_106 : decode c_E_run 106 = .ok (.aload_n 0, 1) := by decide +kernel
theorem d_E_run_107 : decode c_E_run 107 = .ok (.getfield 26, 3) := by decide +kernel
theorem d_E_run_110 : decode c_E_run 110 = .ok (.invokevirtual 64, 3) := by decide +kernel
theorem d_E_run_113 : decode c_E_run 113 = .ok (.aload_n 0, 1) := by decide +kernel
theorem d_E_run_114 : decode c_E_run 114 = .ok (.getfield 29, 3) := by decide +kernel
theorem d_E_run_117 : decode c_E_run 117 = .ok (.aload_n 0, 1) := by decide +kernel
theorem d_E_run_118 : decode c_E_run 118 = .ok (.getfield 29, 3) := by decide +kernel
theorem d_E_run_121 : decode c_E_run 121 = .ok (.aload_n 0, 1) := by decide +kernel
theorem d_E_run_122 : decode c_E_run 122 = .ok (.getfield 16, 3) := by decide +kernel
theorem d_E_run_125 : decode c_E_run 125 = .ok (.invokevirtual 67, 3) := by decide +kernel
theorem d_E_run_128 : decode c_E_run 128 = .ok (.aload_n 0, 1) := by decide +kernel
theorem d_E_run_129 : decode c_E_run 129 = .ok (.getfield 16, 3) := by decide +kernel
theorem d_E_run_132 : decode c_E_run 132 = .ok (.aload_n 0, 1) := by decide +kernel
theorem d_E_run_133 : decode c_E_run 133 = .ok (.getfield 26, 3) := by decide +kernel
theorem d_E_run_136 : decode c_E_run 136 = .ok (.invokevirtual 39, 3) := by decide +kernel
theorem d_E_run_139 : decode c_E_run 139 = .ok (.aload_n 0, 1) := by decide +kernel
theorem d_E_run_140 : decode c_E_run 140 = .ok (.getfield 26, 3) := by decide +kernel
theorem d_E_run_143 : decode c_E_run 143 = .ok (.aload_n 0, 1) := by decide +kernel
theorem d_E_run_144 : decode c_E_run 144 = .ok (.getfield 29, 3) := by decide +kernel
theorem d_E_run_147 : decode c_E_run 147 = .ok (.invokevirtual 39, 3) := by decide +kernel
theorem d_E_run_150 : decode c_E_run 150 = .ok (.aload_n 0, 1) := by decide +kernel
theorem d_E_run_151 : decode c_E_run 151 = .ok (.aload_n 0, 1) := by decide +kernel
theorem d_E_run_152 : decode c_E_run 152 = .ok (.getfield 19, 3) := by decide +kernel
theorem d_E_run_155 : decode c_E_run 155 = .ok (.ifCond .ne 7, 3) := by decide +kernel
theorem d_E_run_158 : decode c_E_run 158 = .ok (.iconst 1, 1) := by decide +kernel
theorem d_E_run_159 : decode c_E_run 159 = .ok (.goto 4, 3) := by decide +kernel
theorem d_E_run_162 : decode c_E_run 162 = .ok (.iconst 0, 1) := by decide +kernel
theorem d_E_run_163 : decode c_E_run 163 = .ok (.putfield 19, 3) := by decide +kernel
theorem d_E_run_166 : decode c_E_run 166 = .ok (.iinc 3 1, 3) := by decide +kernel
theorem d_E_run_169 : decode c_E_run 169 = .ok (.goto (-131), 3) := by decide +kernel
theorem d_E_run_172 : decode c_E_run 172 = .ok (.return_, 1) := by decide +kernel
theorem d_O_isTrialWithin_0 : decode c_O_isTrialWithin 0 = .ok (.aload_n 0, 1) := by decide +kernel
theorem d_O_isTrialWithin_1 : decode c_O_isTrialWithin 1 = .ok (.getfield 19, 3) := by decide +kernel
theorem d_O_isTrialWithin_4 : decode c_O_isTrialWithin 4 = .ok (.aload_n 0, 1) := by decide +kernel
theorem d_O_isTrialWithin_5 : decode c_O_isTrialWithin 5 = .ok (.getfield 16, 3) := by decide +kernel
theorem d_O_isTrialWithin_8 : decode c_O_isTrialWithin 8 = .ok (.invokevirtual 36, 3) := by decide +kernel
theorem d_O_isTrialWithin_11 : decode c_O_isTrialWithin 11 = .ok (.aload_n 0, 1) := by decide +kernel
theorem d_O_isTrialWithin_12 : decode c_O_isTrialWithin 12 = .ok (.getfield 19, 3) := by decide +kernel
theorem d_O_isTrialWithin_15 : decode c_O_isTrialWithin 15 = .ok (.aload_n 1, 1) := by decide +kernel
theorem d_O_isTrialWithin_16 : decode c_O_isTrialWithin 16 = .ok (.invokevirtual 48, 3) := by decide +kernel
theorem d_O_isTrialWithin_19 : decode c_O_isTrialWithin 19 = .ok (.ifCond .gt 7, 3) := by decide +kernel
theorem d_O_isTrialWithin_22 : decode c_O_isTrialWithin 22 = .ok (.iconst 1, 1) := by decide +kernel
theorem d_O_isTrialWithin_23 : decode c_O_isTrialWithin 23 = .ok (.goto 4, 3) := by decide +kernel
theorem d_O_isTrialWithin_26 : decode c_O_isTrialWithin 26 = .ok (.iconst 0, 1) := by decide +kernel
theorem d_O_isTrialWithin_27 : decode c_O_isTrialWithin 27 = .ok (.istore_n 3, 1) := by decide +kernel
theorem d_O_isTrialWithin_28 : decode c_O_isTrialWithin 28 = .ok (.bipush 30, 2) := by decide +kernel
theorem d_O_isTrialWithin_30 : decode c_O_isTrialWithin 30 = .ok (.iload_n 2, 1) := by decide +kernel
theorem d_O_isTrialWithin_31 : decode c_O_isTrialWithin 31 = .ok (.invokestatic 52, 3) := by decide +kernel
theorem d_O_isTrialWithin_34 : decode c_O_isTrialWithin 34 = .ok (.isub, 1) := by decide +kernel
theorem d_O_isTrialWithin_35 : decode c_O_isTrialWithin 35 = .ok (.istore 4, 2) := by decide +kernel
theorem d_O_isTrialWithin_37 : decode c_O_isTrialWithin 37 = .ok (.iload 4, 2) := by decide +kernel
theorem d_O_isTrialWithin_39 : decode c_O_isTrialWithin 39 = .ok (.ifCond .lt 109, 3) := by decide +kernel
theorem d_O_isTrialWithin_42 : decode c_O_isTrialWithin 42 = .ok (.iload_n 3, 1) := by decide +kernel
theorem d_O_isTrialWithin_43 : decode c_O_isTrialWithin 43 = .ok (.ifCond .eq 105, 3) := by decide +kernel
theorem d_O_isTrialWithin_46 : decode c_O_isTrialWithin 46 = .ok (.aload_n 0, 1) := by decide +kernel
theorem d_O_isTrialWithin_47 : decode c_O_isTrialWithin 47 = .ok (.getfield 22, 3) := by decide +kernel
theorem d_O_isTrialWithin_50 : decode c_O_isTrialWithin 50 = .ok (.aload_n 0, 1) := by decide +kernel
theorem d_O_isTrialWithin_51 : decode c_O_isTrialWithin 51 = .ok (.getfield 19, 3) := by decide +kernel
theorem d_O_isTrialWithin_54 : decode c_O_isTrialWithin 54 = .ok (.invokevirtual 58, 3) := by decide +kernel
theorem d_O_isTrialWithin_57 : decode c_O_isTrialWithin 57 = .ok (.aload_n 0, 1) := by decide +kernel
theorem d_O_isTrialWithin_58 : decode c_O_isTrialWithin 58 = .ok (.getfield 22, 3) := by decide +kernel
theorem d_O_isTrialWithin_61 : decode c_O_isTrialWithin 61 = .ok (.aload_n 1, 1) := by decide +kernel
theorem d_O_isTrialWithin_62 : decode c_O_isTrialWithin 62 = .ok (.invokevirtual 48, 3) := by decide +kernel
theorem d_O_isTrialWithin_65 : decode c_O_isTrialWithin 65 = .ok (.ifCond .gt 7, 3) := by decide +kernel
theorem d_O_isTrialWithin_68 : decode c_O_isTrialWithin 68 = .ok (.iconst 1, 1) := by decide +kernel
theorem d_O_isTrialWithin_69 : decode c_O_isTrialWithin 69 = .ok (.goto 4, 3) := by decide +kernel
theorem d_O_isTrialWithin_72 : decode c_O_isTrialWithin 72 = .ok (.iconst 0, 1) := by decide +kernel
theorem d_O_isTrialWithin_73 : decode c_O_isTrialWithin 73 = .ok (.istore_n 3, 1) := by decide +kernel
theorem d_O_isTrialWithin_74 : decode c_O_isTrialWithin 74 = .ok (.aload_n 0, 1) := by decide +kernel
theorem d_O_isTrialWithin_75 : decode c_O_isTrialWithin 75 = .ok (.getfield 19, 3) := by decide +kernel
theorem d_O_isTrialWithin_78 : decode c_O_isTrialWithin 78 = .ok (.aload_n 0, 1) := by decide +kernel
theorem d_O_isTrialWithin_79 : decode c_O_isTrialWithin 79 = .ok (.getfield 22, 3) := by decide +kernel
theorem d_O_isTrialWithin_82 : decode c_O_isTrialWithin 82 = .ok (.invokevirtual 36, 3) := by decide +kernel
theorem d_O_isTrialWithin_85 : decode c_O_isTrialWithin 85 = .ok (.iload_n 3, 1) := by decide +kernel
theorem d_O_isTrialWithin_86 : decode c_O_isTrialWithin 86 = .ok (.ifCond .eq 56, 3) := by decide +kernel
theorem d_O_isTrialWithin_89 : decode c_O_isTrialWithin 89 = .ok (.iload_n 2, 1) := by decide +kernel
theorem d_O_isTrialWithin_90 : decode c_O_isTrialWithin 90 = .ok (.iload 4, 2) := by decide +kernel
theorem d_O_isTrialWithin_92 : decode c_O_isTrialWithin 92 = .ok (.ishr, 1) := by decide +kernel
theorem d_O_isTrialWithin_93 : decode c_O_isTrialWithin 93 = .ok (.iconst 1, 1) := by decide +kernel
theorem d_O_isTrialWithin_94 : decode c_O_isTrialWithin 94 = .ok (.iand, 1) := by decide +kernel
theorem d_O_isTrialWithin_95 : decode c_O_isTrialWithin 95 = .ok (.iconst 1, 1) := by decide +kernel
theorem d_O_isTrialWithin_96 : decode c_O_isTrialWithin 96 = .ok (.if_icmp .ne 46, 3) := by decide +kernel
theorem d_O_isTrialWithin_99 : decode c_O_isTrialWithin 99 = .ok (.aload_n 0, 1) := by decide +kernel
theorem d_O_isTrialWithin_100 : decode c_O_isTrialWithin 100 = .ok (.getfield 22, 3) := by decide +kernel
theorem d_O_isTrialWithin_103 : decode c_O_isTrialWithin 103 = .ok (.aload_n 0, 1) := by decide +kernel
theorem d_O_isTrialWithin_104 : decode c_O_isTrialWithin 104 = .ok (.getfield 19, 3) := by decide +kernel
theorem d_O_isTrialWithin_107 : decode c_O_isTrialWithin 107 = .ok (.aload_n 0, 1) := by decide +kernel
theorem d_O_isTrialWithin_108 : decode c_O_isTrialWithin 108 = .ok (.getfield 16, 3) := by decide +kernel
theorem d_O_isTrialWithin_111 : decode c_O_isTrialWithin 111 = .ok (.invokevirtual 61, 3) := by decide +kernel
theorem d_O_isTrialWithin_114 : decode c_O_isTrialWithin 114 = .ok (.aload_n 0, 1) := by decide +kernel
theorem d_O_isTrialWithin_115 : decode c_O_isTrialWithin 115 = .ok (.getfield 22, 3) := by decide +kernel
theorem d_O_isTrialWithin_118 : decode c_O_isTrialWithin 118 = .ok (.aload_n 1, 1) := by decide +kernel
theorem d_O_isTrialWithin_119 : decode c_O_isTrialWithin 119 = .ok (.invokevirtual 48, 3) := by decide +kernel
theorem d_O_isTrialWithin_122 : decode c_O_isTrialWithin 122 = .ok (.ifCond .gt 7, 3) := by decide +kernel
theorem d_O_isTrialWithin_125 : decode c_O_isTrialWithin 125 = .ok (.iconst 1, 1) := by decide +kernel
theorem d_O_isTrialWithin_126 : decode c_O_isTrialWithin 126 = .ok (.goto 4, 3) := by decide +kernel
theorem d_O_isTrialWithin_129 : decode c_O_isTrialWithin 129 = .ok (.iconst 0, 1) := by decide +kernel
theorem d_O_isTrialWithin_130 : decode c_O_isTrialWithin 130 = .ok (.istore_n 3, 1) := by decide +kernel
theorem d_O_isTrialWithin_131 : decode c_O_isTrialWithin 131 = .ok (.aload_n 0, 1) := by decide +kernel
theorem d_O_isTrialWithin_132 : decode c_O_isTrialWithin 132 = .ok (.getfield 19, 3) := by decide +kernel
theorem d_O_isTrialWithin_135 : decode c_O_isTrialWithin 135 = .ok (.aload_n 0, 1) := by decide +kernel
theorem d_O_isTrialWithin_136 : decode c_O_isTrialWithin 136 = .ok (.getfield 22, 3) := by decide +kernel
theorem d_O_isTrialWithin_139 : decode c_O_isTrialWithin 139 = .ok (.invokevirtual 36, 3) := by decide +kernel
theorem d_O_isTrialWithin_142 : decode c_O_isTrialWithin 142 = .ok (.iinc 4 (-1), 3) := by decide +kernel
theorem d_O_isTrialWithin_145 : decode c_O_isTrialWithin 145 = .ok (.goto (-108), 3) := by decide +kernel
theorem d_O_isTrialWithin_148 : decode c_O_isTrialWithin 148 = .ok (.iload_n 3, 1) := by decide +kernel
theorem d_O_isTrialWithin_149 : decode c_O_isTrialWithin 149 = .ok (.ireturn, 1) := by decide +kernel
theorem d_O_run_0 : decode c_O_run 0 = .ok (.aload_n 0, 1) := by decide +kernel
theorem d_O_run_1 : decode c_O_run 1 = .ok (.getfield 10, 3) := by decide +kernel
theorem d_O_run_4 : decode c_O_run 4 = .ok (.invokevirtual 25, 3) := by decide +kernel
theorem d_O_run_7 : decode c_O_run 7 = .ok (.aload_n 1, 1) := by decide +kernel
theorem d_O_run_8 : decode c_O_run 8 = .ok (.invokevirtual 28, 3) := by decide +kernel
theorem d_O_run_11 : decode c_O_run 11 = .ok (.ifCond .ne 8, 3) := by decide +kernel
theorem d_O_run_14 : decode c_O_run 14 = .ok (.iload_n 2, 1) := by decide +kernel
theorem d_O_run_15 : decode c_O_run 15 = .ok (.iconst 1, 1) := by decide +kernel
theorem d_O_run_16 : decode c_O_run 16 = .ok (.if_icmp .ge 4, 3) := by decide +kernel
theorem d_O_run_19 : decode c_O_run 19 = .ok (.return_, 1) := by decide +kernel
theorem d_O_run_20 : decode c_O_run 20 = .ok (.aload_n 1, 1) := by decide +kernel
theorem d_O_run_21 : decode c_O_run 21 = .ok (.invokevirtual 32, 3) := by decide +kernel
theorem d_O_run_24 : decode c_O_run 24 = .ok (.iconst 1, 1) := by decide +kernel
theorem d_O_run_25 : decode c_O_run 25 = .ok (.isub, 1) := by decide +kernel
theorem d_O_run_26 : decode c_O_run 26 = .ok (.iload_n 2, 1) := by decide +kernel
theorem d_O_run_27 : decode c_O_run 27 = .ok (.idiv, 1) := by decide +kernel
theorem d_O_run_28 : decode c_O_run 28 = .ok (.istore_n 3, 1) := by decide +kernel
theorem d_O_run_29 : decode c_O_run 29 = .ok (.iload_n 3, 1) := by decide +kernel
theorem d_O_run_30 : decode c_O_run 30 = .ok (.ifCond .lt 48, 3) := by decide +kernel
theorem d_O_run_33 : decode c_O_run 33 = .ok (.aload_n 0, 1) := by decide +kernel
theorem d_O_run_34 : decode c_O_run 34 = .ok (.getfield 16, 3) := by decide +kernel
theorem d_O_run_37 : decode c_O_run 37 = .ok (.aload_n 0, 1) := by decide +kernel
theorem d_O_run_38 : decode c_O_run 38 = .ok (.getfield 10, 3) := by decide +kernel
theorem d_O_run_41 : decode c_O_run 41 = .ok (.invokevirtual 36, 3) := by decide +kernel
theorem d_O_run_44 : decode c_O_run 44 = .ok (.aload_n 0, 1) := by decide +kernel
theorem d_O_run_45 : decode c_O_run 45 = .ok (.getfield 16, 3) := by decide +kernel
theorem d_O_run_48 : decode c_O_run 48 = .ok (.iload_n 3, 1) := by decide +kernel
theorem d_O_run_49 : decode c_O_run 49 = .ok (.invokevirtual 40, 3) := by decide +kernel
theorem d_O_run_52 : decode c_O_run 52 = .ok (.aload_n 0, 1) := by decide +kernel
theorem d_O_run_53 : decode c_O_run 53 = .ok (.aload_n 1, 1) := by decide +kernel
theorem d_O_run_54 : decode c_O_run 54 = .ok (.iload_n 2, 1) := by decide +kernel
theorem d_O_run_55 : decode c_O_run 55 = .ok (.invokevirtual 44, 3) := by decide +kernel
theorem d_O_run_58 : decode c_O_run 58 = .ok (.ifCond .eq 14, 3) := by decide +kernel
theorem d_O_run_61 : decode c_O_run 61 = .ok (.aload_n 0, 1) := by decide +kernel
theorem d_O_run_62 : decode c_O_run 62 = .ok (.getfield 10, 3) := by decide +kernel
theorem d_O_run_65 : decode c_O_run 65 = .ok (.aload_n 0, 1) := by decide +kernel
theorem d_O_run_66 : decode c_O_run 66 = .ok (.getfield 16, 3) := by decide +kernel
theorem d_O_run_69 : decode c_O_run 69 = .ok (.invokevirtual 36, 3) := by decide +kernel
theorem d_O_run_72 : decode c_O_run 72 = .ok (.iinc 3 (-1), 3) := by decide +kernel
theorem d_O_run_75 : decode c_O_run 75 = .ok (.goto (-46), 3) := by decide +kernel
theorem d_O_run_78 : decode c_O_run 78 = .ok (.return_, 1) := by decide +kernel
theorem d_S_raise_0 : decode c_S_raise 0 = .ok (.aload_n 0, 1) := by decide +kernel
theorem d_S_raise_1 : decode c_S_raise 1 = .ok (.aload_n 1, 1) := by decide +kernel
theorem d_S_raise_2 : decode c_S_raise 2 = .ok (.aload_n 3, 1) := by decide +kernel
theorem d_S_raise_3 : decode c_S_raise 3 = .ok (.invokevirtual 56, 3) := by decide +kernel
theorem d_S_raise_6 : decode c_S_raise 6 = .ok (.aload_n 0, 1) := by decide +kernel
theorem d_S_raise_7 : decode c_S_raise 7 = .ok (.getfield 16, 3) := by decide +kernel
theorem d_S_raise_10 : decode c_S_raise 10 = .ok (.aload_n 0, 1) := by decide +kernel
theorem d_S_raise_11 : decode c_S_raise 11 = .ok (.getfield 10, 3) := by decide +kernel
theorem d_S_raise_14 : decode c_S_raise 14 = .ok (.invokevirtual 41, 3) := by decide +kernel
theorem d_S_raise_17 : decode c_S_raise 17 = .ok (.aload_n 0, 1) := by decide +kernel
theorem d_S_raise_18 : decode c_S_raise 18 = .ok (.getfield 19, 3) := by decide +kernel
theorem d_S_raise_21 : decode c_S_raise 21 = .ok (.lconst 1, 1) := by decide +kernel
theorem d_S_raise_22 : decode c_S_raise 22 = .ok (.invokevirtual 60, 3) := by decide +kernel
theorem d_S_raise_25 : decode c_S_raise 25 = .ok (.aload_n 0, 1) := by decide +kernel
theorem d_S_raise_26 : decode c_S_raise 26 = .ok (.aload_n 3, 1) := by decide +kernel
theorem d_S_raise_27 : decode c_S_raise 27 = .ok (.invokevirtual 64, 3) := by decide +kernel
theorem d_S_raise_30 : decode c_S_raise 30 = .ok (.aload_n 2, 1) := by decide +kernel
theorem d_S_raise_31 : decode c_S_raise 31 = .ok (.invokevirtual 67, 3) := by decide +kernel
theorem d_S_raise_34 : decode c_S_raise 34 = .ok (.iconst 1, 1) := by decide +kernel
theorem d_S_raise_35 : decode c_S_raise 35 = .ok (.isub, 1) := by decide +kernel
theorem d_S_raise_36 : decode c_S_raise 36 = .ok (.istore 4, 2) := by decide +kernel
theorem d_S_raise_38 : decode c_S_raise 38 = .ok (.iload 4, 2) := by decide +kernel
theorem d_S_raise_40 : decode c_S_raise 40 = .ok (.ifCond .lt 54, 3) := by decide +kernel
theorem d_S_raise_43 : decode c_S_raise 43 = .ok (.aload_n 0, 1) := by decide +kernel
theorem d_S_raise_44 : decode c_S_raise 44 = .ok (.getfield 19, 3) := by decide +kernel
theorem d_S_raise_47 : decode c_S_raise 47 = .ok (.aload_n 0, 1) := by decide +kernel
theorem d_S_raise_48 : decode c_S_raise 48 = .ok (.getfield 10, 3) := by decide +kernel
theorem d_S_raise_51 : decode c_S_raise 51 = .ok (.invokevirtual 71, 3) := by decide +kernel
theorem d_S_raise_54 : decode c_S_raise 54 = .ok (.aload_n 0, 1) := by decide +kernel
theorem d_S_raise_55 : decode c_S_raise 55 = .ok (.aload_n 3, 1) := by decide +kernel
theorem d_S_raise_56 : decode c_S_raise 56 = .ok (.invokevirtual 64, 3) := by decide +kernel
theorem d_S_raise_59 : decode c_S_raise 59 = .ok (.aload_n 2, 1) := by decide +kernel
theorem d_S_raise_60 : decode c_S_raise 60 = .ok (.iload 4, 2) := by decide +kernel
theorem d_S_raise_62 : decode c_S_raise 62 = .ok (.invokevirtual 74, 3) := by decide +kernel
theorem d_S_raise_65 : decode c_S_raise 65 = .ok (.ifCond .eq 23, 3) := by decide +kernel
theorem d_S_raise_68 : decode c_S_raise 68 = .ok (.aload_n 0, 1) := by decide +kernel
theorem d_S_raise_69 : decode c_S_raise 69 = .ok (.getfield 19, 3) := by decide +kernel
theorem d_S_raise_72 : decode c_S_raise 72 = .ok (.aload_n 0, 1) := by decide +kernel
theorem d_S_raise_73 : decode c_S_raise 73 = .ok (.getfield 10, 3) := by decide +kernel
theorem d_S_raise_76 : decode c_S_raise 76 = .ok (.aload_n 0, 1) := by decide +kernel
theorem d_S_raise_77 : decode c_S_raise 77 = .ok (.getfield 16, 3) := by decide +kernel
theorem d_S_raise_80 : decode c_S_raise 80 = .ok (.invokevirtual 78, 3) := by decide +kernel
theorem d_S_raise_83 : decode c_S_raise 83 = .ok (.aload_n 0, 1) := by decide +kernel
theorem d_S_raise_84 : decode c_S_raise 84 = .ok (.aload_n 3, 1) := by decide +kernel
theorem d_S_raise_85 : decode c_S_raise 85 = .ok (.invokevirtual 64, 3) := by decide +kernel
theorem d_S_raise_88 : decode c_S_raise 88 = .ok (.iinc 4 (-1), 3) := by decide +kernel
theorem d_S_raise_91 : decode c_S_raise 91 = .ok (.goto (-53), 3) := by decide +kernel
theorem d_S_raise_94 : decode c_S_raise 94 = .ok (.return_, 1) := by decide +kernel
theorem d_S_reduce_0 : decode c_S_reduce 0 = .ok (.aload_n 0, 1) := by decide +kernel
theorem d_S_reduce_1 : decode c_S_reduce 1 = .ok (.getfield 25, 3) := by decide +kernel
theorem d_S_reduce_4 : decode c_S_reduce 4 = .ok (.aload_n 1, 1) := by decide +kernel
theorem d_S_reduce_5 : decode c_S_reduce 5 = .ok (.getfield 29, 3) := by decide +kernel
theorem d_S_reduce_8 : decode c_S_reduce 8 = .ok (.aload_n 2, 1) := by decide +kernel
theorem d_S_reduce_9 : decode c_S_reduce 9 = .ok (.invokevirtual 34, 3) := by decide +kernel
theorem d_S_reduce_12 : decode c_S_reduce 12 = .ok (.aload_n 0, 1) := by decide +kernel
theorem d_S_reduce_13 : decode c_S_reduce 13 = .ok (.getfield 10, 3) := by decide +kernel
theorem d_S_reduce_16 : decode c_S_reduce 16 = .ok (.aload_n 0, 1) := by decide +kernel
theorem d_S_reduce_17 : decode c_S_reduce 17 = .ok (.getfield 25, 3) := by decide +kernel
theorem d_S_reduce_20 : decode c_S_reduce 20 = .ok (.getfield 38, 3) := by decide +kernel
theorem d_S_reduce_23 : decode c_S_reduce 23 = .ok (.invokevirtual 41, 3) := by decide +kernel
theorem d_S_reduce_26 : decode c_S_reduce 26 = .ok (.aload_n 1, 1) := by decide +kernel
theorem d_S_reduce_27 : decode c_S_reduce 27 = .ok (.getfield 45, 3) := by decide +kernel
theorem d_S_reduce_30 : decode c_S_reduce 30 = .ok (.ifCond .eq 25, 3) := by decide +kernel
theorem d_S_reduce_33 : decode c_S_reduce 33 = .ok (.aload_n 0, 1) := by decide +kernel
theorem d_S_reduce_34 : decode c_S_reduce 34 = .ok (.getfield 10, 3) := by decide +kernel
theorem d_S_reduce_37 : decode c_S_reduce 37 = .ok (.invokevirtual 49, 3) := by decide +kernel
theorem d_S_reduce_40 : decode c_S_reduce 40 = .ok (.ifCond .ne 15, 3) := by decide +kernel
theorem d_S_reduce_43 : decode c_S_reduce 43 = .ok (.aload_n 0, 1) := by decide +kernel
theorem d_S_reduce_44 : decode c_S_reduce 44 = .ok (.getfield 10, 3) := by decide +kernel
theorem d_S_reduce_47 : decode c_S_reduce 47 = .ok (.aload_n 2, 1) := by decide +kernel
theorem d_S_reduce_48 : decode c_S_reduce 48 = .ok (.aload_n 0, 1) := by decide +kernel
theorem d_S_reduce_49 : decode c_S_reduce 49 = .ok (.getfield 10, 3) := by decide +kernel
theorem d_S_reduce_52 : decode c_S_reduce 52 = .ok (.invokevirtual 53, 3) := by decide +kernel
theorem d_S_reduce_55 : decode c_S_reduce 55 = .ok (.return_, 1) := by decide +kernel
theorem d_S_reduceProduct_0 : decode c_S_reduceProduct 0 = .ok (.aload_n 0, 1) := by decide +kernel
theorem d_S_reduceProduct_1 : decode c_S_reduceProduct 1 = .ok (.getfield 25, 3) := by decide +kernel
theorem d_S_reduceProduct_4 : decode c_S_reduceProduct 4 = .ok (.aload_n 0, 1) := by decide +kernel
theorem d_S_reduceProduct_5 : decode c_S_reduceProduct 5 = .ok (.getfield 19, 3) := by decide +kernel
theorem d_S_reduceProduct_8 : decode c_S_reduceProduct 8 = .ok (.aload_n 1, 1) := by decide +kernel
theorem d_S_reduceProduct_9 : decode c_S_reduceProduct 9 = .ok (.invokevirtual 34, 3) := by decide +kernel
theorem d_S_reduceProduct_12 : decode c_S_reduceProduct 12 = .ok (.aload_n 0, 1) := by decide +kernel
theorem d_S_reduceProduct_13 : decode c_S_reduceProduct 13 = .ok (.getfield 10, 3) := by decide +kernel
theorem d_S_reduceProduct_16 : decode c_S_reduceProduct 16 = .ok (.aload_n 0, 1) := by decide +kernel
theorem d_S_reduceProduct_17 : decode c_S_reduceProduct 17 = .ok (.getfield 25, 3) := by decide +kernel
theorem d_S_reduceProduct_20 : decode c_S_reduceProduct 20 = .ok (.getfield 38, 3) := by decide +kernel
theorem d_S_reduceProduct_23 : decode c_S_reduceProduct 23 = .ok (.invokevirtual 41, 3) := by decide +kernel
theorem d_S_reduceProduct_26 : decode c_S_reduceProduct 26 = .ok (.return_, 1) := by decide +kernel
theorem d_T_append_0 : decode c_T_append 0 = .ok (.aload_n 0, 1) := by decide +kernel
theorem d_T_append_1 : decode c_T_append 1 = .ok (.getfield 15, 3) := by decide +kernel
theorem d_T_append_4 : decode c_T_append 4 = .ok (.sipush 1200, 3) := by decide +kernel
theorem d_T_append_7 : decode c_T_append 7 = .ok (.if_icmp .ge 24, 3) := by decide +kernel
theorem d_T_append_10 : decode c_T_append 10 = .ok (.aload_n 0, 1) := by decide +kernel
theorem d_T_append_11 : decode c_T_append 11 = .ok (.getfield 11, 3) := by decide +kernel
theorem d_T_append_14 : decode c_T_append 14 = .ok (.aload_n 0, 1) := by decide +kernel
theorem d_T_append_15 : decode c_T_append 15 = .ok (.getfield 15, 3) := by decide +kernel
theorem d_T_append_18 : decode c_T_append 18 = .ok (.iload_n 1, 1) := by decide +kernel
theorem d_T_append_19 : decode c_T_append 19 = .ok (.i2b, 1) := by decide +kernel
theorem d_T_append_20 : decode c_T_append 20 = .ok (.bastore, 1) := by decide +kernel
theorem d_T_append_21 : decode c_T_append 21 = .ok (.aload_n 0, 1) := by decide +kernel
theorem d_T_append_22 : decode c_T_append 22 = .ok (.dup, 1) := by decide +kernel
theorem d_T_append_23 : decode c_T_append 23 = .ok (.getfield 15, 3) := by decide +kernel
theorem d_T_append_26 : decode c_T_append 26 = .ok (.iconst 1, 1) := by decide +kernel
theorem d_T_append_27 : decode c_T_append 27 = .ok (.iadd, 1) := by decide +kernel
theorem d_T_append_28 : decode c_T_append 28 = .ok (.putfield 15, 3) := by decide +kernel
theorem d_T_append_31 : decode c_T_append 31 = .ok (.return_, 1) := by decide +kernel
theorem d_T_appendAll_0 : decode c_T_appendAll 0 = .ok (.iload_n 3, 1) := by decide +kernel
theorem d_T_appendAll_1 : decode c_T_appendAll 1 = .ok (.iconst 1, 1) := by decide +kernel
theorem d_T_appendAll_2 : decode c_T_appendAll 2 = .ok (.isub, 1) := by decide +kernel
theorem d_T_appendAll_3 : decode c_T_appendAll 3 = .ok (.istore 4, 2) := by decide +kernel
theorem d_T_appendAll_5 : decode c_T_appendAll 5 = .ok (.iload 4, 2) := by decide +kernel
theorem d_T_appendAll_7 : decode c_T_appendAll 7 = .ok (.ifCond .lt 19, 3) := by decide +kernel
theorem d_T_appendAll_10 : decode c_T_appendAll 10 = .ok (.aload_n 0, 1) := by decide +kernel
theorem d_T_appendAll_11 : decode c_T_appendAll 11 = .ok (.lload_n 1, 1) := by decide +kernel
theorem d_T_appendAll_12 : decode c_T_appendAll 12 = .ok (.iload 4, 2) := by decide +kernel
theorem d_T_appendAll_14 : decode c_T_appendAll 14 = .ok (.invokestatic 19, 3) := by decide +kernel
theorem d_T_appendAll_17 : decode c_T_appendAll 17 = .ok (.invokevirtual 23, 3) := by decide +kernel
theorem d_T_appendAll_20 : decode c_T_appendAll 20 = .ok (.iinc 4 (-1), 3) := by decide +kernel
theorem d_T_appendAll_23 : decode c_T_appendAll 23 = .ok (.goto (-18), 3) := by decide +kernel
theorem d_T_appendAll_26 : decode c_T_appendAll 26 = .ok (.return_, 1) := by decide +kernel
theorem d_T_areCharacters_0 : decode c_T_areCharacters 0 = .ok (.iconst 0, 1) := by decide +kernel
theorem d_T_areCharacters_1 : decode c_T_areCharacters 1 = .ok (.istore_n 3, 1) := by decide +kernel
theorem d_T_areCharacters_2 : decode c_T_areCharacters 2 = .ok (.iload_n 3, 1) := by decide +kernel
theorem d_T_areCharacters_3 : decode c_T_areCharacters 3 = .ok (.iload_n 2, 1) := by decide +kernel
theorem d_T_areCharacters_4 : decode c_T_areCharacters 4 = .ok (.if_icmp .ge 32, 3) := by decide +kernel
theorem d_T_areCharacters_7 : decode c_T_areCharacters 7 = .ok (.lload_n 0, 1) := by decide +kernel
theorem d_T_areCharacters_8 : decode c_T_areCharacters 8 = .ok (.iload_n 3, 1) := by decide +kernel
theorem d_T_areCharacters_9 : decode c_T_areCharacters 9 = .ok (.invokestatic 19, 3) := by decide +kernel
theorem d_T_areCharacters_12 : decode c_T_areCharacters 12 = .ok (.istore 4, 2) := by decide +kernel
theorem d_T_areCharacters_14 : decode c_T_areCharacters 14 = .ok (.iload 4, 2) := by decide +kernel
theorem d_T_areCharacters_16 : decode c_T_areCharacters 16 = .ok (.bipush 32, 2) := by decide +kernel
theorem d_T_areCharacters_18 : decode c_T_areCharacters 18 = .ok (.if_icmp .lt 10, 3) := by decide +kernel
theorem d_T_areCharacters_21 : decode c_T_areCharacters 21 = .ok (.iload 4, 2) := by decide +kernel
theorem d_T_areCharacters_23 : decode c_T_areCharacters 23 = .ok (.bipush 126, 2) := by decide +kernel
theorem d_T_areCharacters_25 : decode c_T_areCharacters 25 = .ok (.if_icmp .le 5, 3) := by decide +kernel
theorem d_T_areCharacters_28 : decode c_T_areCharacters 28 = .ok (.iconst 0, 1) := by decide +kernel
theorem d_T_areCharacters_29 : decode c_T_areCharacters 29 = .ok (.ireturn, 1) := by decide +kernel
theorem d_T_areCharacters_30 : decode c_T_areCharacters 30 = .ok (.iinc 3 1, 3) := by decide +kernel
theorem d_T_areCharacters_33 : decode c_T_areCharacters 33 = .ok (.goto (-31), 3) := by decide +kernel
theorem d_T_areCharacters_36 : decode c_T_areCharacters 36 = .ok (.iconst 1, 1) := by decide +kernel
theorem d_T_areCharacters_37 : decode c_T_areCharacters 37 = .ok (.ireturn, 1) := by decide +kernel
theorem d_T_codeIn_0 : decode c_T_codeIn 0 = .ok (.lload_n 0, 1) := by decide +kernel
theorem d_T_codeIn_1 : decode c_T_codeIn 1 = .ok (.bipush 8, 2) := by decide +kernel
theorem d_T_codeIn_3 : decode c_T_codeIn 3 = .ok (.iload_n 2, 1) := by decide +kernel
theorem d_T_codeIn_4 : decode c_T_codeIn 4 = .ok (.imul, 1) := by decide +kernel
theorem d_T_codeIn_5 : decode c_T_codeIn 5 = .ok (.lushr, 1) := by decide +kernel
theorem d_T_codeIn_6 : decode c_T_codeIn 6 = .ok (.l2i, 1) := by decide +kernel
theorem d_T_codeIn_7 : decode c_T_codeIn 7 = .ok (.sipush 255, 3) := by decide +kernel
theorem d_T_codeIn_10 : decode c_T_codeIn 10 = .ok (.iand, 1) := by decide +kernel
theorem d_T_codeIn_11 : decode c_T_codeIn 11 = .ok (.ireturn, 1) := by decide +kernel
theorem d_T_codeOf_0 : decode c_T_codeOf 0 = .ok (.iload_n 0, 1) := by decide +kernel
theorem d_T_codeOf_1 : decode c_T_codeOf 1 = .ok (.bipush 10, 2) := by decide +kernel
theorem d_T_codeOf_3 : decode c_T_codeOf 3 = .ok (.if_icmp .ge 10, 3) := by decide +kernel
theorem d_T_codeOf_6 : decode c_T_codeOf 6 = .ok (.bipush 48, 2) := by decide +kernel
theorem d_T_codeOf_8 : decode c_T_codeOf 8 = .ok (.iload_n 0, 1) := by decide +kernel
theorem d_T_codeOf_9 : decode c_T_codeOf 9 = .ok (.iadd, 1) := by decide +kernel
theorem d_T_codeOf_10 : decode c_T_codeOf 10 = .ok (.goto 10, 3) := by decide +kernel
theorem d_T_codeOf_13 : decode c_T_codeOf 13 = .ok (.bipush 97, 2) := by decide +kernel
theorem d_T_codeOf_15 : decode c_T_codeOf 15 = .ok (.iload_n 0, 1) := by decide +kernel
theorem d_T_codeOf_16 : decode c_T_codeOf 16 = .ok (.iadd, 1) := by decide +kernel
theorem d_T_codeOf_17 : decode c_T_codeOf 17 = .ok (.bipush 10, 2) := by decide +kernel
theorem d_T_codeOf_19 : decode c_T_codeOf 19 = .ok (.isub, 1) := by decide +kernel
theorem d_T_codeOf_20 : decode c_T_codeOf 20 = .ok (.ireturn, 1) := by decide +kernel
theorem d_T_digitOf_0 : decode c_T_digitOf 0 = .ok (.iload_n 0, 1) := by decide +kernel
theorem d_T_digitOf_1 : decode c_T_digitOf 1 = .ok (.bipush 48, 2) := by decide +kernel
theorem d_T_digitOf_3 : decode c_T_digitOf 3 = .ok (.if_icmp .lt 14, 3) := by decide +kernel
theorem d_T_digitOf_6 : decode c_T_digitOf 6 = .ok (.iload_n 0, 1) := by decide +kernel
theorem d_T_digitOf_7 : decode c_T_digitOf 7 = .ok (.bipush 57, 2) := by decide +kernel
theorem d_T_digitOf_9 : decode c_T_digitOf 9 = .ok (.if_icmp .gt 8, 3) := by decide +kernel
theorem d_T_digitOf_12 : decode c_T_digitOf 12 = .ok (.iload_n 0, 1) := by decide +kernel
theorem d_T_digitOf_13 : decode c_T_digitOf 13 = .ok (.bipush 48, 2) := by decide +kernel
theorem d_T_digitOf_15 : decode c_T_digitOf 15 = .ok (.isub, 1) := by decide +kernel
theorem d_T_digitOf_16 : decode c_T_digitOf 16 = .ok (.ireturn, 1) := by decide +kernel
theorem d_T_digitOf_17 : decode c_T_digitOf 17 = .ok (.iload_n 0, 1) := by decide +kernel
theorem d_T_digitOf_18 : decode c_T_digitOf 18 = .ok (.bipush 97, 2) := by decide +kernel
theorem d_T_digitOf_20 : decode c_T_digitOf 20 = .ok (.if_icmp .lt 17, 3) := by decide +kernel
theorem d_T_digitOf_23 : decode c_T_digitOf 23 = .ok (.iload_n 0, 1) := by decide +kernel
theorem d_T_digitOf_24 : decode c_T_digitOf 24 = .ok (.bipush 122, 2) := by decide +kernel
theorem d_T_digitOf_26 : decode c_T_digitOf 26 = .ok (.if_icmp .gt 11, 3) := by decide +kernel
theorem d_T_digitOf_29 : decode c_T_digitOf 29 = .ok (.iload_n 0, 1) := by decide +kernel
theorem d_T_digitOf_30 : decode c_T_digitOf 30 = .ok (.bipush 97, 2) := by decide +kernel
theorem d_T_digitOf_32 : decode c_T_digitOf 32 = .ok (.isub, 1) := by decide +kernel
theorem d_T_digitOf_33 : decode c_T_digitOf 33 = .ok (.bipush 10, 2) := by decide +kernel
theorem d_T_digitOf_35 : decode c_T_digitOf 35 = .ok (.iadd, 1) := by decide +kernel
theorem d_T_digitOf_36 : decode c_T_digitOf 36 = .ok (.ireturn, 1) := by decide +kernel
theorem d_T_digitOf_37 : decode c_T_digitOf 37 = .ok (.iload_n 0, 1) := by decide +kernel
theorem d_T_digitOf_38 : decode c_T_digitOf 38 = .ok (.bipush 65, 2) := by decide +kernel
theorem d_T_digitOf_40 : decode c_T_digitOf 40 = .ok (.if_icmp .lt 17, 3) := by decide +kernel
theorem d_T_digitOf_43 : decode c_T_digitOf 43 = .ok (.iload_n 0, 1) := by decide +kernel
theorem d_T_digitOf_44 : decode c_T_digitOf 44 = .ok (.bipush 90, 2) := by decide +kernel
theorem d_T_digitOf_46 : decode c_T_digitOf 46 = .ok (.if_icmp .gt 11, 3) := by decide +kernel
theorem d_T_digitOf_49 : decode c_T_digitOf 49 = .ok (.iload_n 0, 1) := by decide +kernel
theorem d_T_digitOf_50 : decode c_T_digitOf 50 = .ok (.bipush 65, 2) := by decide +kernel
theorem d_T_digitOf_52 : decode c_T_digitOf 52 = .ok (.isub, 1) := by decide +kernel
theorem d_T_digitOf_53 : decode c_T_digitOf 53 = .ok (.bipush 10, 2) := by decide +kernel
theorem d_T_digitOf_55 : decode c_T_digitOf 55 = .ok (.iadd, 1) := by decide +kernel
theorem d_T_digitOf_56 : decode c_T_digitOf 56 = .ok (.ireturn, 1) := by decide +kernel
theorem d_T_digitOf_57 : decode c_T_digitOf 57 = .ok (.iconst (-1), 1) := by decide +kernel
theorem d_T_digitOf_58 : decode c_T_digitOf 58 = .ok (.ireturn, 1) := by decide +kernel
theorem d_T_isNumeral_0 : decode c_T_isNumeral 0 = .ok (.aload_n 0, 1) := by decide +kernel
theorem d_T_isNumeral_1 : decode c_T_isNumeral 1 = .ok (.invokevirtual 27, 3) := by decide +kernel
theorem d_T_isNumeral_4 : decode c_T_isNumeral 4 = .ok (.istore_n 2, 1) := by decide +kernel
theorem d_T_isNumeral_5 : decode c_T_isNumeral 5 = .ok (.iload_n 2, 1) := by decide +kernel
theorem d_T_isNumeral_6 : decode c_T_isNumeral 6 = .ok (.istore_n 3, 1) := by decide +kernel
theorem d_T_isNumeral_7 : decode c_T_isNumeral 7 = .ok (.iload_n 3, 1) := by decide +kernel
theorem d_T_isNumeral_8 : decode c_T_isNumeral 8 = .ok (.aload_n 0, 1) := by decide +kernel
theorem d_T_isNumeral_9 : decode c_T_isNumeral 9 = .ok (.getfield 15, 3) := by decide +kernel
theorem d_T_isNumeral_12 : decode c_T_isNumeral 12 = .ok (.if_icmp .ge 34, 3) := by decide +kernel
theorem d_T_isNumeral_15 : decode c_T_isNumeral 15 = .ok (.aload_n 0, 1) := by decide +kernel
theorem d_T_isNumeral_16 : decode c_T_isNumeral 16 = .ok (.getfield 11, 3) := by decide +kernel
theorem d_T_isNumeral_19 : decode c_T_isNumeral 19 = .ok (.iload_n 3, 1) := by decide +kernel
theorem d_T_isNumeral_20 : decode c_T_isNumeral 20 = .ok (.baload, 1) := by decide +kernel
theorem d_T_isNumeral_21 : decode c_T_isNumeral 21 = .ok (.invokestatic 31, 3) := by decide +kernel
theorem d_T_isNumeral_24 : decode c_T_isNumeral 24 = .ok (.istore 4, 2) := by decide +kernel
theorem d_T_isNumeral_26 : decode c_T_isNumeral 26 = .ok (.iload 4, 2) := by decide +kernel
theorem d_T_isNumeral_28 : decode c_T_isNumeral 28 = .ok (.iconst (-1), 1) := by decide +kernel
theorem d_T_isNumeral_29 : decode c_T_isNumeral 29 = .ok (.if_icmp .eq 9, 3) := by decide +kernel
theorem d_T_isNumeral_32 : decode c_T_isNumeral 32 = .ok (.iload 4, 2) := by decide +kernel
theorem d_T_isNumeral_34 : decode c_T_isNumeral 34 = .ok (.iload_n 1, 1) := by decide +kernel
theorem d_T_isNumeral_35 : decode c_T_isNumeral 35 = .ok (.if_icmp .lt 5, 3) := by decide +kernel
theorem d_T_isNumeral_38 : decode c_T_isNumeral 38 = .ok (.iconst 0, 1) := by decide +kernel
theorem d_T_isNumeral_39 : decode c_T_isNumeral 39 = .ok (.ireturn, 1) := by decide +kernel
theorem d_T_isNumeral_40 : decode c_T_isNumeral 40 = .ok (.iinc 3 1, 3) := by decide +kernel
theorem d_T_isNumeral_43 : decode c_T_isNumeral 43 = .ok (.goto (-36), 3) := by decide +kernel
theorem d_T_isNumeral_46 : decode c_T_isNumeral 46 = .ok (.aload_n 0, 1) := by decide +kernel
theorem d_T_isNumeral_47 : decode c_T_isNumeral 47 = .ok (.getfield 15, 3) := by decide +kernel
theorem d_T_isNumeral_50 : decode c_T_isNumeral 50 = .ok (.iload_n 2, 1) := by decide +kernel
theorem d_T_isNumeral_51 : decode c_T_isNumeral 51 = .ok (.if_icmp .le 7, 3) := by decide +kernel
theorem d_T_isNumeral_54 : decode c_T_isNumeral 54 = .ok (.iconst 1, 1) := by decide +kernel
theorem d_T_isNumeral_55 : decode c_T_isNumeral 55 = .ok (.goto 4, 3) := by decide +kernel
theorem d_T_isNumeral_58 : decode c_T_isNumeral 58 = .ok (.iconst 0, 1) := by decide +kernel
theorem d_T_isNumeral_59 : decode c_T_isNumeral 59 = .ok (.ireturn, 1) := by decide +kernel
theorem d_T_readNumeral_0 : decode c_T_readNumeral 0 = .ok (.aload_n 1, 1) := by decide +kernel
theorem d_T_readNumeral_1 : decode c_T_readNumeral 1 = .ok (.lconst 0, 1) := by decide +kernel
theorem d_T_readNumeral_2 : decode c_T_readNumeral 2 = .ok (.invokevirtual 35, 3) := by decide +kernel
theorem d_T_readNumeral_5 : decode c_T_readNumeral 5 = .ok (.aload_n 0, 1) := by decide +kernel
theorem d_T_readNumeral_6 : decode c_T_readNumeral 6 = .ok (.invokevirtual 27, 3) := by decide +kernel
theorem d_T_readNumeral_9 : decode c_T_readNumeral 9 = .ok (.istore_n 3, 1) := by decide +kernel
theorem d_T_readNumeral_10 : decode c_T_readNumeral 10 = .ok (.iload_n 3, 1) := by decide +kernel
theorem d_T_readNumeral_11 : decode c_T_readNumeral 11 = .ok (.aload_n 0, 1) := by decide +kernel
theorem d_T_readNumeral_12 : decode c_T_readNumeral 12 = .ok (.getfield 15, 3) := by decide +kernel
theorem d_T_readNumeral_15 : decode c_T_readNumeral 15 = .ok (.if_icmp .ge 39, 3) := by decide +kernel
theorem d_T_readNumeral_18 : decode c_T_readNumeral 18 = .ok (.aload_n 1, 1) := by decide +kernel
theorem d_T_readNumeral_19 : decode c_T_readNumeral 19 = .ok (.getfield 41, 3) := by decide +kernel
theorem d_T_readNumeral_22 : decode c_T_readNumeral 22 = .ok (.invokevirtual 45, 3) := by decide +kernel
theorem d_T_readNumeral_25 : decode c_T_readNumeral 25 = .ok (.sipush 1024, 3) := by decide +kernel
theorem d_T_readNumeral_28 : decode c_T_readNumeral 28 = .ok (.if_icmp .gt 26, 3) := by decide +kernel
theorem d_T_readNumeral_31 : decode c_T_readNumeral 31 = .ok (.aload_n 1, 1) := by decide +kernel
theorem d_T_readNumeral_32 : decode c_T_readNumeral 32 = .ok (.getfield 41, 3) := by decide +kernel
theorem d_T_readNumeral_35 : decode c_T_readNumeral 35 = .ok (.iload_n 2, 1) := by decide +kernel
theorem d_T_readNumeral_36 : decode c_T_readNumeral 36 = .ok (.aload_n 0, 1) := by decide +kernel
theorem d_T_readNumeral_37 : decode c_T_readNumeral 37 = .ok (.getfield 11, 3) := by decide +kernel
theorem d_T_readNumeral_40 : decode c_T_readNumeral 40 = .ok (.iload_n 3, 1) := by decide +kernel
theorem d_T_readNumeral_41 : decode c_T_readNumeral 41 = .ok (.baload, 1) := by decide +kernel
theorem d_T_readNumeral_42 : decode c_T_readNumeral 42 = .ok (.invokestatic 31, 3) := by decide +kernel
theorem d_T_readNumeral_45 : decode c_T_readNumeral 45 = .ok (.invokevirtual 50, 3) := by decide +kernel
theorem d_T_readNumeral_48 : decode c_T_readNumeral 48 = .ok (.iinc 3 1, 3) := by decide +kernel
theorem d_T_readNumeral_51 : decode c_T_readNumeral 51 = .ok (.goto (-41), 3) := by decide +kernel
theorem d_T_readNumeral_54 : decode c_T_readNumeral 54 = .ok (.aload_n 1, 1) := by decide +kernel
theorem d_T_readNumeral_55 : decode c_T_readNumeral 55 = .ok (.aload_n 0, 1) := by decide +kernel
theorem d_T_readNumeral_56 : decode c_T_readNumeral 56 = .ok (.invokevirtual 27, 3) := by decide +kernel
theorem d_T_readNumeral_59 : decode c_T_readNumeral 59 = .ok (.iconst 1, 1) := by decide +kernel
theorem d_T_readNumeral_60 : decode c_T_readNumeral 60 = .ok (.if_icmp .ne 17, 3) := by decide +kernel
theorem d_T_readNumeral_63 : decode c_T_readNumeral 63 = .ok (.aload_n 1, 1) := by decide +kernel
theorem d_T_readNumeral_64 : decode c_T_readNumeral 64 = .ok (.getfield 41, 3) := by decide +kernel
theorem d_T_readNumeral_67 : decode c_T_readNumeral 67 = .ok (.invokevirtual 54, 3) := by decide +kernel
theorem d_T_readNumeral_70 : decode c_T_readNumeral 70 = .ok (.ifCond .ne 7, 3) := by decide +kernel
theorem d_T_readNumeral_73 : decode c_T_readNumeral 73 = .ok (.iconst 1, 1) := by decide +kernel
theorem d_T_readNumeral_74 : decode c_T_readNumeral 74 = .ok (.goto 4, 3) := by decide +kernel
theorem d_T_readNumeral_77 : decode c_T_readNumeral 77 = .ok (.iconst 0, 1) := by decide +kernel
theorem d_T_readNumeral_78 : decode c_T_readNumeral 78 = .ok (.putfield 58, 3) := by decide +kernel
theorem d_T_readNumeral_81 : decode c_T_readNumeral 81 = .ok (.return_, 1) := by decide +kernel
theorem d_T_reverse_0 : decode c_T_reverse 0 = .ok (.iconst 0, 1) := by decide +kernel
theorem d_T_reverse_1 : decode c_T_reverse 1 = .ok (.istore_n 1, 1) := by decide +kernel
theorem d_T_reverse_2 : decode c_T_reverse 2 = .ok (.aload_n 0, 1) := by decide +kernel
theorem d_T_reverse_3 : decode c_T_reverse 3 = .ok (.getfield 15, 3) := by decide +kernel
theorem d_T_reverse_6 : decode c_T_reverse 6 = .ok (.iconst 1, 1) := by decide +kernel
theorem d_T_reverse_7 : decode c_T_reverse 7 = .ok (.isub, 1) := by decide +kernel
theorem d_T_reverse_8 : decode c_T_reverse 8 = .ok (.istore_n 2, 1) := by decide +kernel
theorem d_T_reverse_9 : decode c_T_reverse 9 = .ok (.iload_n 1, 1) := by decide +kernel
theorem d_T_reverse_10 : decode c_T_reverse 10 = .ok (.iload_n 2, 1) := by decide +kernel
theorem d_T_reverse_11 : decode c_T_reverse 11 = .ok (.if_icmp .ge 38, 3) := by decide +kernel
theorem d_T_reverse_14 : decode c_T_reverse 14 = .ok (.aload_n 0, 1) := by decide +kernel
theorem d_T_reverse_15 : decode c_T_reverse 15 = .ok (.getfield 11, 3) := by decide +kernel
theorem d_T_reverse_18 : decode c_T_reverse 18 = .ok (.iload_n 1, 1) := by decide +kernel
theorem d_T_reverse_19 : decode c_T_reverse 19 = .ok (.baload, 1) := by decide +kernel
theorem d_T_reverse_20 : decode c_T_reverse 20 = .ok (.istore_n 3, 1) := by decide +kernel
theorem d_T_reverse_21 : decode c_T_reverse 21 = .ok (.aload_n 0, 1) := by decide +kernel
theorem d_T_reverse_22 : decode c_T_reverse 22 = .ok (.getfield 11, 3) := by decide +kernel
theorem d_T_reverse_25 : decode c_T_reverse 25 = .ok (.iload_n 1, 1) := by decide +kernel
theorem d_T_reverse_26 : decode c_T_reverse 26 = .ok (.aload_n 0, 1) := by decide +kernel
theorem d_T_reverse_27 : decode c_T_reverse 27 = .ok (.getfield 11, 3) := by decide +kernel
theorem d_T_reverse_30 : decode c_T_reverse 30 = .ok (.iload_n 2, 1) := by decide +kernel
theorem d_T_reverse_31 : decode c_T_reverse 31 = .ok (.baload, 1) := by decide +kernel
theorem d_T_reverse_32 : decode c_T_reverse 32 = .ok (.bastore, 1) := by decide +kernel
theorem d_T_reverse_33 : decode c_T_reverse 33 = .ok (.aload_n 0, 1) := by decide +kernel
theorem d_T_reverse_34 : decode c_T_reverse 34 = .ok (.getfield 11, 3) := by decide +kernel
theorem d_T_reverse_37 : decode c_T_reverse 37 = .ok (.iload_n 2, 1) := by decide +kernel
theorem d_T_reverse_38 : decode c_T_reverse 38 = .ok (.iload_n 3, 1) := by decide +kernel
theorem d_T_reverse_39 : decode c_T_reverse 39 = .ok (.bastore, 1) := by decide +kernel
theorem d_T_reverse_40 : decode c_T_reverse 40 = .ok (.iinc 1 1, 3) := by decide +kernel
theorem d_T_reverse_43 : decode c_T_reverse 43 = .ok (.iinc 2 (-1), 3) := by decide +kernel
theorem d_T_reverse_46 : decode c_T_reverse 46 = .ok (.goto (-37), 3) := by decide +kernel
theorem d_T_reverse_49 : decode c_T_reverse 49 = .ok (.return_, 1) := by decide +kernel
theorem d_T_signs_0 : decode c_T_signs 0 = .ok (.aload_n 0, 1) := by decide +kernel
theorem d_T_signs_1 : decode c_T_signs 1 = .ok (.getfield 15, 3) := by decide +kernel
theorem d_T_signs_4 : decode c_T_signs 4 = .ok (.ifCond .le 18, 3) := by decide +kernel
theorem d_T_signs_7 : decode c_T_signs 7 = .ok (.aload_n 0, 1) := by decide +kernel
theorem d_T_signs_8 : decode c_T_signs 8 = .ok (.getfield 11, 3) := by decide +kernel
theorem d_T_signs_11 : decode c_T_signs 11 = .ok (.iconst 0, 1) := by decide +kernel
theorem d_T_signs_12 : decode c_T_signs 12 = .ok (.baload, 1) := by decide +kernel
theorem d_T_signs_13 : decode c_T_signs 13 = .ok (.bipush 45, 2) := by decide +kernel
theorem d_T_signs_15 : decode c_T_signs 15 = .ok (.if_icmp .ne 7, 3) := by decide +kernel
theorem d_T_signs_18 : decode c_T_signs 18 = .ok (.iconst 1, 1) := by decide +kernel
theorem d_T_signs_19 : decode c_T_signs 19 = .ok (.goto 4, 3) := by decide +kernel
theorem d_T_signs_22 : decode c_T_signs 22 = .ok (.iconst 0, 1) := by decide +kernel
theorem d_T_signs_23 : decode c_T_signs 23 = .ok (.ireturn, 1) := by decide +kernel
theorem d_T_writeNumeral_0 : decode c_T_writeNumeral 0 = .ok (.aload_n 0, 1) := by decide +kernel
theorem d_T_writeNumeral_1 : decode c_T_writeNumeral 1 = .ok (.iconst 0, 1) := by decide +kernel
theorem d_T_writeNumeral_2 : decode c_T_writeNumeral 2 = .ok (.putfield 15, 3) := by decide +kernel
theorem d_T_writeNumeral_5 : decode c_T_writeNumeral 5 = .ok (.iconst 1, 1) := by decide +kernel
theorem d_T_writeNumeral_6 : decode c_T_writeNumeral 6 = .ok (.istore_n 3, 1) := by decide +kernel
theorem d_T_writeNumeral_7 : decode c_T_writeNumeral 7 = .ok (.iconst 0, 1) := by decide +kernel
theorem d_T_writeNumeral_8 : decode c_T_writeNumeral 8 = .ok (.istore 4, 2) := by decide +kernel
theorem d_T_writeNumeral_10 : decode c_T_writeNumeral 10 = .ok (.iload 4, 2) := by decide +kernel
theorem d_T_writeNumeral_12 : decode c_T_writeNumeral 12 = .ok (.sipush 1200, 3) := by decide +kernel
theorem d_T_writeNumeral_15 : decode c_T_writeNumeral 15 = .ok (.if_icmp .ge 44, 3) := by decide +kernel
theorem d_T_writeNumeral_18 : decode c_T_writeNumeral 18 = .ok (.iload_n 3, 1) := by decide +kernel
theorem d_T_writeNumeral_19 : decode c_T_writeNumeral 19 = .ok (.ifCond .eq 40, 3) := by decide +kernel
theorem d_T_writeNumeral_22 : decode c_T_writeNumeral 22 = .ok (.aload_n 0, 1) := by decide +kernel
theorem d_T_writeNumeral_23 : decode c_T_writeNumeral 23 = .ok (.aload_n 1, 1) := by decide +kernel
theorem d_T_writeNumeral_24 : decode c_T_writeNumeral 24 = .ok (.getfield 41, 3) := by decide +kernel
theorem d_T_writeNumeral_27 : decode c_T_writeNumeral 27 = .ok (.iload_n 2, 1) := by decide +kernel
theorem d_T_writeNumeral_28 : decode c_T_writeNumeral 28 = .ok (.invokevirtual 62, 3) := by decide +kernel
theorem d_T_writeNumeral_31 : decode c_T_writeNumeral 31 = .ok (.invokestatic 65, 3) := by decide +kernel
theorem d_T_writeNumeral_34 : decode c_T_writeNumeral 34 = .ok (.invokevirtual 23, 3) := by decide +kernel
theorem d_T_writeNumeral_37 : decode c_T_writeNumeral 37 = .ok (.aload_n 1, 1) := by decide +kernel
theorem d_T_writeNumeral_38 : decode c_T_writeNumeral 38 = .ok (.getfield 41, 3) := by decide +kernel
theorem d_T_writeNumeral_41 : decode c_T_writeNumeral 41 = .ok (.invokevirtual 54, 3) := by decide +kernel
theorem d_T_writeNumeral_44 : decode c_T_writeNumeral 44 = .ok (.ifCond .ne 7, 3) := by decide +kernel
theorem d_T_writeNumeral_47 : decode c_T_writeNumeral 47 = .ok (.iconst 1, 1) := by decide +kernel
theorem d_T_writeNumeral_48 : decode c_T_writeNumeral 48 = .ok (.goto 4, 3) := by decide +kernel
theorem d_T_writeNumeral_51 : decode c_T_writeNumeral 51 = .ok (.iconst 0, 1) := by decide +kernel
theorem d_T_writeNumeral_52 : decode c_T_writeNumeral 52 = .ok (.istore_n 3, 1) := by decide +kernel
theorem d_T_writeNumeral_53 : decode c_T_writeNumeral 53 = .ok (.iinc 4 1, 3) := by decide +kernel
theorem d_T_writeNumeral_56 : decode c_T_writeNumeral 56 = .ok (.goto (-46), 3) := by decide +kernel
theorem d_T_writeNumeral_59 : decode c_T_writeNumeral 59 = .ok (.aload_n 1, 1) := by decide +kernel
theorem d_T_writeNumeral_60 : decode c_T_writeNumeral 60 = .ok (.getfield 58, 3) := by decide +kernel
theorem d_T_writeNumeral_63 : decode c_T_writeNumeral 63 = .ok (.ifCond .eq 9, 3) := by decide +kernel
theorem d_T_writeNumeral_66 : decode c_T_writeNumeral 66 = .ok (.aload_n 0, 1) := by decide +kernel
theorem d_T_writeNumeral_67 : decode c_T_writeNumeral 67 = .ok (.bipush 45, 2) := by decide +kernel
theorem d_T_writeNumeral_69 : decode c_T_writeNumeral 69 = .ok (.invokevirtual 23, 3) := by decide +kernel
theorem d_T_writeNumeral_72 : decode c_T_writeNumeral 72 = .ok (.aload_n 0, 1) := by decide +kernel
theorem d_T_writeNumeral_73 : decode c_T_writeNumeral 73 = .ok (.invokevirtual 68, 3) := by decide +kernel
theorem d_T_writeNumeral_76 : decode c_T_writeNumeral 76 = .ok (.return_, 1) := by decide +kernel
theorem d_W_isOddAfter_0 : decode c_W_isOddAfter 0 = .ok (.aload_n 0, 1) := by decide +kernel
theorem d_W_isOddAfter_1 : decode c_W_isOddAfter 1 = .ok (.getfield 10, 3) := by decide +kernel
theorem d_W_isOddAfter_4 : decode c_W_isOddAfter 4 = .ok (.iload_n 1, 1) := by decide +kernel
theorem d_W_isOddAfter_5 : decode c_W_isOddAfter 5 = .ok (.invokevirtual 60, 3) := by decide +kernel
theorem d_W_isOddAfter_8 : decode c_W_isOddAfter 8 = .ok (.aload_n 0, 1) := by decide +kernel
theorem d_W_isOddAfter_9 : decode c_W_isOddAfter 9 = .ok (.getfield 16, 3) := by decide +kernel
theorem d_W_isOddAfter_12 : decode c_W_isOddAfter 12 = .ok (.ifCond .eq 18, 3) := by decide +kernel
theorem d_W_isOddAfter_15 : decode c_W_isOddAfter 15 = .ok (.aload_n 0, 1) := by decide +kernel
theorem d_W_isOddAfter_16 : decode c_W_isOddAfter 16 = .ok (.getfield 10, 3) := by decide +kernel
theorem d_W_isOddAfter_19 : decode c_W_isOddAfter 19 = .ok (.iload_n 1, 1) := by decide +kernel
theorem d_W_isOddAfter_20 : decode c_W_isOddAfter 20 = .ok (.invokevirtual 50, 3) := by decide +kernel
theorem d_W_isOddAfter_23 : decode c_W_isOddAfter 23 = .ok (.ifCond .eq 7, 3) := by decide +kernel
theorem d_W_isOddAfter_26 : decode c_W_isOddAfter 26 = .ok (.iconst 1, 1) := by decide +kernel
theorem d_W_isOddAfter_27 : decode c_W_isOddAfter 27 = .ok (.goto 4, 3) := by decide +kernel
theorem d_W_isOddAfter_30 : decode c_W_isOddAfter 30 = .ok (.iconst 0, 1) := by decide +kernel
theorem d_W_isOddAfter_31 : decode c_W_isOddAfter 31 = .ok (.if_icmp .eq 7, 3) := by decide +kernel
theorem d_W_isOddAfter_34 : decode c_W_isOddAfter 34 = .ok (.iconst 1, 1) := by decide +kernel
theorem d_W_isOddAfter_35 : decode c_W_isOddAfter 35 = .ok (.goto 4, 3) := by decide +kernel
theorem d_W_isOddAfter_38 : decode c_W_isOddAfter 38 = .ok (.iconst 0, 1) := by decide +kernel
theorem d_W_isOddAfter_39 : decode c_W_isOddAfter 39 = .ok (.ireturn, 1) := by decide +kernel
theorem d_W_order_0 : decode c_W_order 0 = .ok (.aload_n 0, 1) := by decide +kernel
theorem d_W_order_1 : decode c_W_order 1 = .ok (.getfield 16, 3) := by decide +kernel
theorem d_W_order_4 : decode c_W_order 4 = .ok (.aload_n 1, 1) := by decide +kernel
theorem d_W_order_5 : decode c_W_order 5 = .ok (.getfield 16, 3) := by decide +kernel
theorem d_W_order_8 : decode c_W_order 8 = .ok (.if_icmp .eq 16, 3) := by decide +kernel
theorem d_W_order_11 : decode c_W_order 11 = .ok (.aload_n 0, 1) := by decide +kernel
theorem d_W_order_12 : decode c_W_order 12 = .ok (.getfield 16, 3) := by decide +kernel
theorem d_W_order_15 : decode c_W_order 15 = .ok (.ifCond .eq 7, 3) := by decide +kernel
theorem d_W_order_18 : decode c_W_order 18 = .ok (.iconst (-1), 1) := by decide +kernel
theorem d_W_order_19 : decode c_W_order 19 = .ok (.goto 4, 3) := by decide +kernel
theorem d_W_order_22 : decode c_W_order 22 = .ok (.iconst 1, 1) := by decide +kernel
theorem d_W_order_23 : decode c_W_order 23 = .ok (.ireturn, 1) := by decide +kernel
theorem d_W_order_24 : decode c_W_order 24 = .ok (.aload_n 0, 1) := by decide +kernel
theorem d_W_order_25 : decode c_W_order 25 = .ok (.getfield 16, 3) := by decide +kernel
theorem d_W_order_28 : decode c_W_order 28 = .ok (.ifCond .eq 17, 3) := by decide +kernel
theorem d_W_order_31 : decode c_W_order 31 = .ok (.aload_n 1, 1) := by decide +kernel
theorem d_W_order_32 : decode c_W_order 32 = .ok (.getfield 10, 3) := by decide +kernel
theorem d_W_order_35 : decode c_W_order 35 = .ok (.aload_n 0, 1) := by decide +kernel
theorem d_W_order_36 : decode c_W_order 36 = .ok (.getfield 10, 3) := by decide +kernel
theorem d_W_order_39 : decode c_W_order 39 = .ok (.invokevirtual 36, 3) := by decide +kernel
theorem d_W_order_42 : decode c_W_order 42 = .ok (.goto 14, 3) := by decide +kernel
theorem d_W_order_45 : decode c_W_order 45 = .ok (.aload_n 0, 1) := by decide +kernel
theorem d_W_order_46 : decode c_W_order 46 = .ok (.getfield 10, 3) := by decide +kernel
theorem d_W_order_49 : decode c_W_order 49 = .ok (.aload_n 1, 1) := by decide +kernel
theorem d_W_order_50 : decode c_W_order 50 = .ok (.getfield 10, 3) := by decide +kernel
theorem d_W_order_53 : decode c_W_order 53 = .ok (.invokevirtual 36, 3) := by decide +kernel
theorem d_W_order_56 : decode c_W_order 56 = .ok (.ireturn, 1) := by decide +kernel
theorem d_W_take_0 : decode c_W_take 0 = .ok (.aload_n 0, 1) := by decide +kernel
theorem d_W_take_1 : decode c_W_take 1 = .ok (.getfield 10, 3) := by decide +kernel
theorem d_W_take_4 : decode c_W_take 4 = .ok (.aload_n 1, 1) := by decide +kernel
theorem d_W_take_5 : decode c_W_take 5 = .ok (.invokevirtual 20, 3) := by decide +kernel
theorem d_W_take_8 : decode c_W_take 8 = .ok (.aload_n 0, 1) := by decide +kernel
theorem d_W_take_9 : decode c_W_take 9 = .ok (.iload_n 2, 1) := by decide +kernel
theorem d_W_take_10 : decode c_W_take 10 = .ok (.ifCond .eq 17, 3) := by decide +kernel
theorem d_W_take_13 : decode c_W_take 13 = .ok (.aload_n 0, 1) := by decide +kernel
theorem d_W_take_14 : decode c_W_take 14 = .ok (.getfield 10, 3) := by decide +kernel
theorem d_W_take_17 : decode c_W_take 17 = .ok (.invokevirtual 24, 3) := by decide +kernel
theorem d_W_take_20 : decode c_W_take 20 = .ok (.ifCond .ne 7, 3) := by decide +kernel
theorem d_W_take_23 : decode c_W_take 23 = .ok (.iconst 1, 1) := by decide +kernel
theorem d_W_take_24 : decode c_W_take 24 = .ok (.goto 4, 3) := by decide +kernel
theorem d_W_take_27 : decode c_W_take 27 = .ok (.iconst 0, 1) := by decide +kernel
theorem d_W_take_28 : decode c_W_take 28 = .ok (.putfield 16, 3) := by decide +kernel
theorem d_W_take_31 : decode c_W_take 31 = .ok (.return_, 1) := by decide +kernel
theorem d_W_takeLong_0 : decode c_W_takeLong 0 = .ok (.aload_n 0, 1) := by decide +kernel
theorem d_W_takeLong_1 : decode c_W_takeLong 1 = .ok (.getfield 10, 3) := by decide +kernel
theorem d_W_takeLong_4 : decode c_W_takeLong 4 = .ok (.lload_n 1, 1) := by decide +kernel
theorem d_W_takeLong_5 : decode c_W_takeLong 5 = .ok (.lconst 0, 1) := by decide +kernel
theorem d_W_takeLong_6 : decode c_W_takeLong 6 = .ok (.lcmp, 1) := by decide +kernel
theorem d_W_takeLong_7 : decode c_W_takeLong 7 = .ok (.ifCond .ge 8, 3) := by decide +kernel
theorem d_W_takeLong_10 : decode c_W_takeLong 10 = .ok (.lload_n 1, 1) := by decide +kernel
theorem d_W_takeLong_11 : decode c_W_takeLong 11 = .ok (.lneg, 1) := by decide +kernel
theorem d_W_takeLong_12 : decode c_W_takeLong 12 = .ok (.goto 4, 3) := by decide +kernel
theorem d_W_takeLong_15 : decode c_W_takeLong 15 = .ok (.lload_n 1, 1) := by decide +kernel
theorem d_W_takeLong_16 : decode c_W_takeLong 16 = .ok (.invokevirtual 28, 3) := by decide +kernel
theorem d_W_takeLong_19 : decode c_W_takeLong 19 = .ok (.aload_n 0, 1) := by decide +kernel
theorem d_W_takeLong_20 : decode c_W_takeLong 20 = .ok (.lload_n 1, 1) := by decide +kernel
theorem d_W_takeLong_21 : decode c_W_takeLong 21 = .ok (.lconst 0, 1) := by decide +kernel
theorem d_W_takeLong_22 : decode c_W_takeLong 22 = .ok (.lcmp, 1) := by decide +kernel
theorem d_W_takeLong_23 : decode c_W_takeLong 23 = .ok (.ifCond .ge 7, 3) := by decide +kernel
theorem d_W_takeLong_26 : decode c_W_takeLong 26 = .ok (.iconst 1, 1) := by decide +kernel
theorem d_W_takeLong_27 : decode c_W_takeLong 27 = .ok (.goto 4, 3) := by decide +kernel
theorem d_W_takeLong_30 : decode c_W_takeLong 30 = .ok (.iconst 0, 1) := by decide +kernel
theorem d_W_takeLong_31 : decode c_W_takeLong 31 = .ok (.putfield 16, 3) := by decide +kernel
theorem d_W_takeLong_34 : decode c_W_takeLong 34 = .ok (.return_, 1) := by decide +kernel
theorem d_W_takeLowered_0 : decode c_W_takeLowered 0 = .ok (.aload_n 1, 1) := by decide +kernel
theorem d_W_takeLowered_1 : decode c_W_takeLowered 1 = .ok (.getfield 16, 3) := by decide +kernel
theorem d_W_takeLowered_4 : decode c_W_takeLowered 4 = .ok (.ifCond .eq 18, 3) := by decide +kernel
theorem d_W_takeLowered_7 : decode c_W_takeLowered 7 = .ok (.aload_n 1, 1) := by decide +kernel
theorem d_W_takeLowered_8 : decode c_W_takeLowered 8 = .ok (.getfield 10, 3) := by decide +kernel
theorem d_W_takeLowered_11 : decode c_W_takeLowered 11 = .ok (.iload_n 2, 1) := by decide +kernel
theorem d_W_takeLowered_12 : decode c_W_takeLowered 12 = .ok (.invokevirtual 50, 3) := by decide +kernel
theorem d_W_takeLowered_15 : decode c_W_takeLowered 15 = .ok (.ifCond .eq 7, 3) := by decide +kernel
theorem d_W_takeLowered_18 : decode c_W_takeLowered 18 = .ok (.iconst 1, 1) := by decide +kernel
theorem d_W_takeLowered_19 : decode c_W_takeLowered 19 = .ok (.goto 4, 3) := by decide +kernel
theorem d_W_takeLowered_22 : decode c_W_takeLowered 22 = .ok (.iconst 0, 1) := by decide +kernel
theorem d_W_takeLowered_23 : decode c_W_takeLowered 23 = .ok (.istore_n 3, 1) := by decide +kernel
theorem d_W_takeLowered_24 : decode c_W_takeLowered 24 = .ok (.aload_n 0, 1) := by decide +kernel
theorem d_W_takeLowered_25 : decode c_W_takeLowered 25 = .ok (.getfield 10, 3) := by decide +kernel
theorem d_W_takeLowered_28 : decode c_W_takeLowered 28 = .ok (.aload_n 1, 1) := by decide +kernel
theorem d_W_takeLowered_29 : decode c_W_takeLowered 29 = .ok (.getfield 10, 3) := by decide +kernel
theorem d_W_takeLowered_32 : decode c_W_takeLowered 32 = .ok (.iload_n 2, 1) := by decide +kernel
theorem d_W_takeLowered_33 : decode c_W_takeLowered 33 = .ok (.invokevirtual 54, 3) := by decide +kernel
theorem d_W_takeLowered_36 : decode c_W_takeLowered 36 = .ok (.iload_n 3, 1) := by decide +kernel
theorem d_W_takeLowered_37 : decode c_W_takeLowered 37 = .ok (.ifCond .eq 10, 3) := by decide +kernel
theorem d_W_takeLowered_40 : decode c_W_takeLowered 40 = .ok (.aload_n 0, 1) := by decide +kernel
theorem d_W_takeLowered_41 : decode c_W_takeLowered 41 = .ok (.getfield 10, 3) := by decide +kernel
theorem d_W_takeLowered_44 : decode c_W_takeLowered 44 = .ok (.invokevirtual 57, 3) := by decide +kernel
theorem d_W_takeLowered_47 : decode c_W_takeLowered 47 = .ok (.aload_n 0, 1) := by decide +kernel
theorem d_W_takeLowered_48 : decode c_W_takeLowered 48 = .ok (.aload_n 1, 1) := by decide +kernel
theorem d_W_takeLowered_49 : decode c_W_takeLowered 49 = .ok (.getfield 16, 3) := by decide +kernel
theorem d_W_takeLowered_52 : decode c_W_takeLowered 52 = .ok (.putfield 16, 3) := by decide +kernel
theorem d_W_takeLowered_55 : decode c_W_takeLowered 55 = .ok (.return_, 1) := by decide +kernel
theorem d_W_takeProduct_0 : decode c_W_takeProduct 0 = .ok (.aload_n 0, 1) := by decide +kernel
theorem d_W_takeProduct_1 : decode c_W_takeProduct 1 = .ok (.getfield 10, 3) := by decide +kernel
theorem d_W_takeProduct_4 : decode c_W_takeProduct 4 = .ok (.aload_n 1, 1) := by decide +kernel
theorem d_W_takeProduct_5 : decode c_W_takeProduct 5 = .ok (.getfield 10, 3) := by decide +kernel
theorem d_W_takeProduct_8 : decode c_W_takeProduct 8 = .ok (.aload_n 2, 1) := by decide +kernel
theorem d_W_takeProduct_9 : decode c_W_takeProduct 9 = .ok (.getfield 10, 3) := by decide +kernel
theorem d_W_takeProduct_12 : decode c_W_takeProduct 12 = .ok (.invokevirtual 43, 3) := by decide +kernel
theorem d_W_takeProduct_15 : decode c_W_takeProduct 15 = .ok (.aload_n 0, 1) := by decide +kernel
theorem d_W_takeProduct_16 : decode c_W_takeProduct 16 = .ok (.aload_n 1, 1) := by decide +kernel
theorem d_W_takeProduct_17 : decode c_W_takeProduct 17 = .ok (.getfield 16, 3) := by decide +kernel
theorem d_W_takeProduct_20 : decode c_W_takeProduct 20 = .ok (.aload_n 2, 1) := by decide +kernel
theorem d_W_takeProduct_21 : decode c_W_takeProduct 21 = .ok (.getfield 16, 3) := by decide +kernel
theorem d_W_takeProduct_24 : decode c_W_takeProduct 24 = .ok (.if_icmp .eq 17, 3) := by decide +kernel
theorem d_W_takeProduct_27 : decode c_W_takeProduct 27 = .ok (.aload_n 0, 1) := by decide +kernel
theorem d_W_takeProduct_28 : decode c_W_takeProduct 28 = .ok (.getfield 10, 3) := by decide +kernel
theorem d_W_takeProduct_31 : decode c_W_takeProduct 31 = .ok (.invokevirtual 24, 3) := by decide +kernel
theorem d_W_takeProduct_34 : decode c_W_takeProduct 34 = .ok (.ifCond .ne 7, 3) := by decide +kernel
theorem d_W_takeProduct_37 : decode c_W_takeProduct 37 = .ok (.iconst 1, 1) := by decide +kernel
theorem d_W_takeProduct_38 : decode c_W_takeProduct 38 = .ok (.goto 4, 3) := by decide +kernel
theorem d_W_takeProduct_41 : decode c_W_takeProduct 41 = .ok (.iconst 0, 1) := by decide +kernel
theorem d_W_takeProduct_42 : decode c_W_takeProduct 42 = .ok (.putfield 16, 3) := by decide +kernel
theorem d_W_takeProduct_45 : decode c_W_takeProduct 45 = .ok (.return_, 1) := by decide +kernel
theorem d_W_takeRaised_0 : decode c_W_takeRaised 0 = .ok (.aload_n 0, 1) := by decide +kernel
theorem d_W_takeRaised_1 : decode c_W_takeRaised 1 = .ok (.getfield 10, 3) := by decide +kernel
theorem d_W_takeRaised_4 : decode c_W_takeRaised 4 = .ok (.aload_n 1, 1) := by decide +kernel
theorem d_W_takeRaised_5 : decode c_W_takeRaised 5 = .ok (.getfield 10, 3) := by decide +kernel
theorem d_W_takeRaised_8 : decode c_W_takeRaised 8 = .ok (.iload_n 2, 1) := by decide +kernel
theorem d_W_takeRaised_9 : decode c_W_takeRaised 9 = .ok (.invokevirtual 46, 3) := by decide +kernel
theorem d_W_takeRaised_12 : decode c_W_takeRaised 12 = .ok (.aload_n 0, 1) := by decide +kernel
theorem d_W_takeRaised_13 : decode c_W_takeRaised 13 = .ok (.aload_n 1, 1) := by decide +kernel
theorem d_W_takeRaised_14 : decode c_W_takeRaised 14 = .ok (.getfield 16, 3) := by decide +kernel
theorem d_W_takeRaised_17 : decode c_W_takeRaised 17 = .ok (.putfield 16, 3) := by decide +kernel
theorem d_W_takeRaised_20 : decode c_W_takeRaised 20 = .ok (.return_, 1) := by decide +kernel
theorem d_W_takeSum_0 : decode c_W_takeSum 0 = .ok (.aload_n 2, 1) := by decide +kernel
theorem d_W_takeSum_1 : decode c_W_takeSum 1 = .ok (.getfield 16, 3) := by decide +kernel
theorem d_W_takeSum_4 : decode c_W_takeSum 4 = .ok (.iload_n 3, 1) := by decide +kernel
theorem d_W_takeSum_5 : decode c_W_takeSum 5 = .ok (.if_icmp .eq 7, 3) := by decide +kernel
theorem d_W_takeSum_8 : decode c_W_takeSum 8 = .ok (.iconst 1, 1) := by decide +kernel
theorem d_W_takeSum_9 : decode c_W_takeSum 9 = .ok (.goto 4, 3) := by decide +kernel
theorem d_W_takeSum_12 : decode c_W_takeSum 12 = .ok (.iconst 0, 1) := by decide +kernel
theorem d_W_takeSum_13 : decode c_W_takeSum 13 = .ok (.istore 4, 2) := by decide +kernel
theorem d_W_takeSum_15 : decode c_W_takeSum 15 = .ok (.aload_n 1, 1) := by decide +kernel
theorem d_W_takeSum_16 : decode c_W_takeSum 16 = .ok (.getfield 16, 3) := by decide +kernel
theorem d_W_takeSum_19 : decode c_W_takeSum 19 = .ok (.istore 5, 2) := by decide +kernel
theorem d_W_takeSum_21 : decode c_W_takeSum 21 = .ok (.aload_n 1, 1) := by decide +kernel
theorem d_W_takeSum_22 : decode c_W_takeSum 22 = .ok (.getfield 16, 3) := by decide +kernel
theorem d_W_takeSum_25 : decode c_W_takeSum 25 = .ok (.iload 4, 2) := by decide +kernel
theorem d_W_takeSum_27 : decode c_W_takeSum 27 = .ok (.if_icmp .ne 21, 3) := by decide +kernel
theorem d_W_takeSum_30 : decode c_W_takeSum 30 = .ok (.aload_n 0, 1) := by decide +kernel
theorem d_W_takeSum_31 : decode c_W_takeSum 31 = .ok (.getfield 10, 3) := by decide +kernel
theorem d_W_takeSum_34 : decode c_W_takeSum 34 = .ok (.aload_n 1, 1) := by decide +kernel
theorem d_W_takeSum_35 : decode c_W_takeSum 35 = .ok (.getfield 10, 3) := by decide +kernel
theorem d_W_takeSum_38 : decode c_W_takeSum 38 = .ok (.aload_n 2, 1) := by decide +kernel
theorem d_W_takeSum_39 : decode c_W_takeSum 39 = .ok (.getfield 10, 3) := by decide +kernel
theorem d_W_takeSum_42 : decode c_W_takeSum 42 = .ok (.invokevirtual 32, 3) := by decide +kernel
theorem d_W_takeSum_45 : decode c_W_takeSum 45 = .ok (.goto 54, 3) := by decide +kernel
theorem d_W_takeSum_48 : decode c_W_takeSum 48 = .ok (.aload_n 1, 1) := by decide +kernel
theorem d_W_takeSum_49 : decode c_W_takeSum 49 = .ok (.getfield 10, 3) := by decide +kernel
theorem d_W_takeSum_52 : decode c_W_takeSum 52 = .ok (.aload_n 2, 1) := by decide +kernel
theorem d_W_takeSum_53 : decode c_W_takeSum 53 = .ok (.getfield 10, 3) := by decide +kernel
theorem d_W_takeSum_56 : decode c_W_takeSum 56 = .ok (.invokevirtual 36, 3) := by decide +kernel
theorem d_W_takeSum_59 : decode c_W_takeSum 59 = .ok (.ifCond .lt 21, 3) := by decide +kernel
theorem d_W_takeSum_62 : decode c_W_takeSum 62 = .ok (.aload_n 0, 1) := by decide +kernel
theorem d_W_takeSum_63 : decode c_W_takeSum 63 = .ok (.getfield 10, 3) := by decide +kernel
theorem d_W_takeSum_66 : decode c_W_takeSum 66 = .ok (.aload_n 1, 1) := by decide +kernel
theorem d_W_takeSum_67 : decode c_W_takeSum 67 = .ok (.getfield 10, 3) := by decide +kernel
theorem d_W_takeSum_70 : decode c_W_takeSum 70 = .ok (.aload_n 2, 1) := by decide +kernel
theorem d_W_takeSum_71 : decode c_W_takeSum 71 = .ok (.getfield 10, 3) := by decide +kernel
theorem d_W_takeSum_74 : decode c_W_takeSum 74 = .ok (.invokevirtual 40, 3) := by decide +kernel
theorem d_W_takeSum_77 : decode c_W_takeSum 77 = .ok (.goto 22, 3) := by decide +kernel
theorem d_W_takeSum_80 : decode c_W_takeSum 80 = .ok (.aload_n 0, 1) := by decide +kernel
theorem d_W_takeSum_81 : decode c_W_takeSum 81 = .ok (.getfield 10, 3) := by decide +kernel
theorem d_W_takeSum_84 : decode c_W_takeSum 84 = .ok (.aload_n 2, 1) := by decide +kernel
theorem d_W_takeSum_85 : decode c_W_takeSum 85 = .ok (.getfield 10, 3) := by decide +kernel
theorem d_W_takeSum_88 : decode c_W_takeSum 88 = .ok (.aload_n 1, 1) := by decide +kernel
theorem d_W_takeSum_89 : decode c_W_takeSum 89 = .ok (.getfield 10, 3) := by decide +kernel
theorem d_W_takeSum_92 : decode c_W_takeSum 92 = .ok (.invokevirtual 40, 3) := by decide +kernel
theorem d_W_takeSum_95 : decode c_W_takeSum 95 = .ok (.iload 4, 2) := by decide +kernel
theorem d_W_takeSum_97 : decode c_W_takeSum 97 = .ok (.istore 5, 2) := by decide +kernel
theorem d_W_takeSum_99 : decode c_W_takeSum 99 = .ok (.aload_n 0, 1) := by decide +kernel
theorem d_W_takeSum_100 : decode c_W_takeSum 100 = .ok (.iload 5, 2) := by decide +kernel
theorem d_W_takeSum_102 : decode c_W_takeSum 102 = .ok (.ifCond .eq 17, 3) := by decide +kernel
theorem d_W_takeSum_105 : decode c_W_takeSum 105 = .ok (.aload_n 0, 1) := by decide +kernel
theorem d_W_takeSum_106 : decode c_W_takeSum 106 = .ok (.getfield 10, 3) := by decide +kernel
theorem d_W_takeSum_109 : decode c_W_takeSum 109 = .ok (.invokevirtual 24, 3) := by decide +kernel
theorem d_W_takeSum_112 : decode c_W_takeSum 112 = .ok (.ifCond .ne 7, 3) := by decide +kernel
theorem d_W_takeSum_115 : decode c_W_takeSum 115 = .ok (.iconst 1, 1) := by decide +kernel
theorem d_W_takeSum_116 : decode c_W_takeSum 116 = .ok (.goto 4, 3) := by decide +kernel
theorem d_W_takeSum_119 : decode c_W_takeSum 119 = .ok (.iconst 0, 1) := by decide +kernel
theorem d_W_takeSum_120 : decode c_W_takeSum 120 = .ok (.putfield 16, 3) := by decide +kernel
theorem d_W_takeSum_123 : decode c_W_takeSum 123 = .ok (.return_, 1) := by decide +kernel
