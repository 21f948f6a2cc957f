/-! decode rows -/
theorem d_N_init_0 : decode c_N_init 0 = .ok (.aload_n 0, 1) := by decide +kernel
theorem d_N_init_1 : decode c_N_init 1 = .ok (.invokespecial 3, 3) := by decide +kernel
theorem d_N_init_4 : decode c_N_init 4 = .ok (.aload_n 0, 1) := by decide +kernel
theorem d_N_init_5 : decode c_N_init 5 = .ok (.bipush 75, 2) := by decide +kernel
theorem d_N_init_7 : decode c_N_init 7 = .ok (.newarray .long, 2) := by decide +kernel
theorem d_N_init_9 : decode c_N_init 9 = .ok (.putfield 9, 3) := by decide +kernel
theorem d_N_init_12 : decode c_N_init 12 = .ok (.aload_n 0, 1) := by decide +kernel
theorem d_N_init_13 : decode c_N_init 13 = .ok (.iconst 0, 1) := by decide +kernel
theorem d_N_init_14 : decode c_N_init 14 = .ok (.putfield 15, 3) := by decide +kernel
theorem d_N_init_17 : decode c_N_init 17 = .ok (.return_, 1) := by decide +kernel
theorem d_W_init_0 : decode c_W_init 0 = .ok (.aload_n 0, 1) := by decide +kernel
theorem d_W_init_1 : decode c_W_init 1 = .ok (.invokespecial 1, 3) := by decide +kernel
theorem d_W_init_4 : decode c_W_init 4 = .ok (.aload_n 0, 1) := by decide +kernel
theorem d_W_init_5 : decode c_W_init 5 = .ok (.new 7, 3) := by decide +kernel
theorem d_W_init_8 : decode c_W_init 8 = .ok (.dup, 1) := by decide +kernel
theorem d_W_init_9 : decode c_W_init 9 = .ok (.invokespecial 9, 3) := by decide +kernel
theorem d_W_init_12 : decode c_W_init 12 = .ok (.putfield 10, 3) := by decide +kernel
theorem d_W_init_15 : decode c_W_init 15 = .ok (.aload_n 0, 1) := by decide +kernel
theorem d_W_init_16 : decode c_W_init 16 = .ok (.iconst 0, 1) := by decide +kernel
theorem d_W_init_17 : decode c_W_init 17 = .ok (.putfield 16, 3) := by decide +kernel
theorem d_W_init_20 : decode c_W_init 20 = .ok (.return_, 1) := by decide +kernel
theorem d_D_init_0 : decode c_D_init 0 = .ok (.aload_n 0, 1) := by decide +kernel
theorem d_D_init_1 : decode c_D_init 1 = .ok (.invokespecial 3, 3) := by decide +kernel
theorem d_D_init_4 : decode c_D_init 4 = .ok (.aload_n 0, 1) := by decide +kernel
theorem d_D_init_5 : decode c_D_init 5 = .ok (.new 9, 3) := by decide +kernel
theorem d_D_init_8 : decode c_D_init 8 = .ok (.dup, 1) := by decide +kernel
theorem d_D_init_9 : decode c_D_init 9 = .ok (.invokespecial 11, 3) := by decide +kernel
theorem d_D_init_12 : decode c_D_init 12 = .ok (.putfield 12, 3) := by decide +kernel
theorem d_D_init_15 : decode c_D_init 15 = .ok (.aload_n 0, 1) := by decide +kernel
theorem d_D_init_16 : decode c_D_init 16 = .ok (.new 9, 3) := by decide +kernel
theorem d_D_init_19 : decode c_D_init 19 = .ok (.dup, 1) := by decide +kernel
theorem d_D_init_20 : decode c_D_init 20 = .ok (.invokespecial 11, 3) := by decide +kernel
theorem d_D_init_23 : decode c_D_init 23 = .ok (.putfield 18, 3) := by decide +kernel
theorem d_D_init_26 : decode c_D_init 26 = .ok (.aload_n 0, 1) := by decide +kernel
theorem d_D_init_27 : decode c_D_init 27 = .ok (.new 9, 3) := by decide +kernel
theorem d_D_init_30 : decode c_D_init 30 = .ok (.dup, 1) := by decide +kernel
theorem d_D_init_31 : decode c_D_init 31 = .ok (.invokespecial 11, 3) := by decide +kernel
theorem d_D_init_34 : decode c_D_init 34 = .ok (.putfield 21, 3) := by decide +kernel
theorem d_D_init_37 : decode c_D_init 37 = .ok (.return_, 1) := by decide +kernel
theorem d_O_init_0 : decode c_O_init 0 = .ok (.aload_n 0, 1) := by decide +kernel
theorem d_O_init_1 : decode c_O_init 1 = .ok (.invokespecial 1, 3) := by decide +kernel
theorem d_O_init_4 : decode c_O_init 4 = .ok (.aload_n 0, 1) := by decide +kernel
theorem d_O_init_5 : decode c_O_init 5 = .ok (.new 7, 3) := by decide +kernel
theorem d_O_init_8 : decode c_O_init 8 = .ok (.dup, 1) := by decide +kernel
theorem d_O_init_9 : decode c_O_init 9 = .ok (.invokespecial 9, 3) := by decide +kernel
theorem d_O_init_12 : decode c_O_init 12 = .ok (.putfield 10, 3) := by decide +kernel
theorem d_O_init_15 : decode c_O_init 15 = .ok (.aload_n 0, 1) := by decide +kernel
theorem d_O_init_16 : decode c_O_init 16 = .ok (.new 7, 3) := by decide +kernel
theorem d_O_init_19 : decode c_O_init 19 = .ok (.dup, 1) := by decide +kernel
theorem d_O_init_20 : decode c_O_init 20 = .ok (.invokespecial 9, 3) := by decide +kernel
theorem d_O_init_23 : decode c_O_init 23 = .ok (.putfield 16, 3) := by decide +kernel
theorem d_O_init_26 : decode c_O_init 26 = .ok (.aload_n 0, 1) := by decide +kernel
theorem d_O_init_27 : decode c_O_init 27 = .ok (.new 7, 3) := by decide +kernel
theorem d_O_init_30 : decode c_O_init 30 = .ok (.dup, 1) := by decide +kernel
theorem d_O_init_31 : decode c_O_init 31 = .ok (.invokespecial 9, 3) := by decide +kernel
theorem d_O_init_34 : decode c_O_init 34 = .ok (.putfield 19, 3) := by decide +kernel
theorem d_O_init_37 : decode c_O_init 37 = .ok (.aload_n 0, 1) := by decide +kernel
theorem d_O_init_38 : decode c_O_init 38 = .ok (.new 7, 3) := by decide +kernel
theorem d_O_init_41 : decode c_O_init 41 = .ok (.dup, 1) := by decide +kernel
theorem d_O_init_42 : decode c_O_init 42 = .ok (.invokespecial 9, 3) := by decide +kernel
theorem d_O_init_45 : decode c_O_init 45 = .ok (.putfield 22, 3) := by decide +kernel
theorem d_O_init_48 : decode c_O_init 48 = .ok (.return_, 1) := by decide +kernel
theorem d_S_init_0 : decode c_S_init 0 = .ok (.aload_n 0, 1) := by decide +kernel
theorem d_S_init_1 : decode c_S_init 1 = .ok (.invokespecial 1, 3) := by decide +kernel
theorem d_S_init_4 : decode c_S_init 4 = .ok (.aload_n 0, 1) := by decide +kernel
theorem d_S_init_5 : decode c_S_init 5 = .ok (.new 7, 3) := by decide +kernel
theorem d_S_init_8 : decode c_S_init 8 = .ok (.dup, 1) := by decide +kernel
theorem d_S_init_9 : decode c_S_init 9 = .ok (.invokespecial 9, 3) := by decide +kernel
theorem d_S_init_12 : decode c_S_init 12 = .ok (.putfield 10, 3) := by decide +kernel
theorem d_S_init_15 : decode c_S_init 15 = .ok (.aload_n 0, 1) := by decide +kernel
theorem d_S_init_16 : decode c_S_init 16 = .ok (.new 7, 3) := by decide +kernel
theorem d_S_init_19 : decode c_S_init 19 = .ok (.dup, 1) := by decide +kernel
theorem d_S_init_20 : decode c_S_init 20 = .ok (.invokespecial 9, 3) := by decide +kernel
theorem d_S_init_23 : decode c_S_init 23 = .ok (.putfield 16, 3) := by decide +kernel
theorem d_S_init_26 : decode c_S_init 26 = .ok (.aload_n 0, 1) := by decide +kernel
theorem d_S_init_27 : decode c_S_init 27 = .ok (.new 7, 3) := by decide +kernel
theorem d_S_init_30 : decode c_S_init 30 = .ok (.dup, 1) := by decide +kernel
theorem d_S_init_31 : decode c_S_init 31 = .ok (.invokespecial 9, 3) := by decide +kernel
theorem d_S_init_34 : decode c_S_init 34 = .ok (.putfield 19, 3) := by decide +kernel
theorem d_S_init_37 : decode c_S_init 37 = .ok (.aload_n 0, 1) := by decide +kernel
theorem d_S_init_38 : decode c_S_init 38 = .ok (.new 22, 3) := by decide +kernel
theorem d_S_init_41 : decode c_S_init 41 = .ok (.dup, 1) := by decide +kernel
theorem d_S_init_42 : decode c_S_init 42 = .ok (.invokespecial 24, 3) := by decide +kernel
theorem d_S_init_45 : decode c_S_init 45 = .ok (.putfield 25, 3) := by decide +kernel
theorem d_S_init_48 : decode c_S_init 48 = .ok (.return_, 1) := by decide +kernel
theorem d_E_init_0 : decode c_E_init 0 = .ok (.aload_n 0, 1) := by decide +kernel
theorem d_E_init_1 : decode c_E_init 1 = .ok (.invokespecial 1, 3) := by decide +kernel
theorem d_E_init_4 : decode c_E_init 4 = .ok (.aload_n 0, 1) := by decide +kernel
theorem d_E_init_5 : decode c_E_init 5 = .ok (.new 7, 3) := by decide +kernel
theorem d_E_init_8 : decode c_E_init 8 = .ok (.dup, 1) := by decide +kernel
theorem d_E_init_9 : decode c_E_init 9 = .ok (.invokespecial 9, 3) := by decide +kernel
theorem d_E_init_12 : decode c_E_init 12 = .ok (.putfield 10, 3) := by decide +kernel
theorem d_E_init_15 : decode c_E_init 15 = .ok (.aload_n 0, 1) := by decide +kernel
theorem d_E_init_16 : decode c_E_init 16 = .ok (.new 7, 3) := by decide +kernel
theorem d_E_init_19 : decode c_E_init 19 = .ok (.dup, 1) := by decide +kernel
theorem d_E_init_20 : decode c_E_init 20 = .ok (.invokespecial 9, 3) := by decide +kernel
theorem d_E_init_23 : decode c_E_init 23 = .ok (.putfield 16, 3) := by decide +kernel
theorem d_E_init_26 : decode c_E_init 26 = .ok (.aload_n 0, 1) := by decide +kernel
theorem d_E_init_27 : decode c_E_init 27 = .ok (.iconst 0, 1) := by decide +kernel
theorem d_E_init_28 : decode c_E_init 28 = .ok (.putfield 19, 3) := by decide +kernel
theorem d_E_init_31 : decode c_E_init 31 = .ok (.aload_n 0, 1) := by decide +kernel
theorem d_E_init_32 : decode c_E_init 32 = .ok (.new 7, 3) := by decide +kernel
theorem d_E_init_35 : decode c_E_init 35 = .ok (.dup, 1) := by decide +kernel
theorem d_E_init_36 : decode c_E_init 36 = .ok (.invokespecial 9, 3) := by decide +kernel
theorem d_E_init_39 : decode c_E_init 39 = .ok (.putfield 23, 3) := by decide +kernel
theorem d_E_init_42 : decode c_E_init 42 = .ok (.aload_n 0, 1) := by decide +kernel
theorem d_E_init_43 : decode c_E_init 43 = .ok (.new 7, 3) := by decide +kernel
theorem d_E_init_46 : decode c_E_init 46 = .ok (.dup, 1) := by decide +kernel
theorem d_E_init_47 : decode c_E_init 47 = .ok (.invokespecial 9, 3) := by decide +kernel
theorem d_E_init_50 : decode c_E_init 50 = .ok (.putfield 26, 3) := by decide +kernel
theorem d_E_init_53 : decode c_E_init 53 = .ok (.aload_n 0, 1) := by decide +kernel
theorem d_E_init_54 : decode c_E_init 54 = .ok (.new 7, 3) := by decide +kernel
theorem d_E_init_57 : decode c_E_init 57 = .ok (.dup, 1) := by decide +kernel
theorem d_E_init_58 : decode c_E_init 58 = .ok (.invokespecial 9, 3) := by decide +kernel
theorem d_E_init_61 : decode c_E_init 61 = .ok (.putfield 29, 3) := by decide +kernel
theorem d_E_init_64 : decode c_E_init 64 = .ok (.aload_n 0, 1) := by decide +kernel
theorem d_E_init_65 : decode c_E_init 65 = .ok (.new 32, 3) := by decide +kernel
theorem d_E_init_68 : decode c_E_init 68 = .ok (.dup, 1) := by decide +kernel
theorem d_E_init_69 : decode c_E_init 69 = .ok (.invokespecial 34, 3) := by decide +kernel
theorem d_E_init_72 : decode c_E_init 72 = .ok (.putfield 35, 3) := by decide +kernel
theorem d_E_init_75 : decode c_E_init 75 = .ok (.return_, 1) := by decide +kernel
theorem d_T_init_0 : decode c_T_init 0 = .ok (.aload_n 0, 1) := by decide +kernel
theorem d_T_init_1 : decode c_T_init 1 = .ok (.invokespecial 3, 3) := by decide +kernel
theorem d_T_init_4 : decode c_T_init 4 = .ok (.aload_n 0, 1) := by decide +kernel
theorem d_T_init_5 : decode c_T_init 5 = .ok (.sipush 1200, 3) := by decide +kernel
theorem d_T_init_8 : decode c_T_init 8 = .ok (.newarray .byte, 2) := by decide +kernel
theorem d_T_init_10 : decode c_T_init 10 = .ok (.putfield 11, 3) := by decide +kernel
theorem d_T_init_13 : decode c_T_init 13 = .ok (.aload_n 0, 1) := by decide +kernel
theorem d_T_init_14 : decode c_T_init 14 = .ok (.iconst 0, 1) := by decide +kernel
theorem d_T_init_15 : decode c_T_init 15 = .ok (.putfield 15, 3) := by decide +kernel
theorem d_T_init_18 : decode c_T_init 18 = .ok (.return_, 1) := by decide +kernel
theorem d_L_init_0 : decode c_L_init 0 = .ok (.aload_n 0, 1) := by decide +kernel
theorem d_L_init_1 : decode c_L_init 1 = .ok (.invokespecial 3, 3) := by decide +kernel
theorem d_L_init_4 : decode c_L_init 4 = .ok (.aload_n 0, 1) := by decide +kernel
theorem d_L_init_5 : decode c_L_init 5 = .ok (.bipush 12, 2) := by decide +kernel
theorem d_L_init_7 : decode c_L_init 7 = .ok (.anewarray 9, 3) := by decide +kernel
theorem d_L_init_10 : decode c_L_init 10 = .ok (.putfield 11, 3) := by decide +kernel
theorem d_L_init_13 : decode c_L_init 13 = .ok (.aload_n 0, 1) := by decide +kernel
theorem d_L_init_14 : decode c_L_init 14 = .ok (.new 9, 3) := by decide +kernel
theorem d_L_init_17 : decode c_L_init 17 = .ok (.dup, 1) := by decide +kernel
theorem d_L_init_18 : decode c_L_init 18 = .ok (.invokespecial 15, 3) := by decide +kernel
theorem d_L_init_21 : decode c_L_init 21 = .ok (.putfield 16, 3) := by decide +kernel
theorem d_L_init_24 : decode c_L_init 24 = .ok (.aload_n 0, 1) := by decide +kernel
theorem d_L_init_25 : decode c_L_init 25 = .ok (.new 20, 3) := by decide +kernel
theorem d_L_init_28 : decode c_L_init 28 = .ok (.dup, 1) := by decide +kernel
theorem d_L_init_29 : decode c_L_init 29 = .ok (.invokespecial 22, 3) := by decide +kernel
theorem d_L_init_32 : decode c_L_init 32 = .ok (.putfield 23, 3) := by decide +kernel
theorem d_L_init_35 : decode c_L_init 35 = .ok (.aload_n 0, 1) := by decide +kernel
theorem d_L_init_36 : decode c_L_init 36 = .ok (.new 27, 3) := by decide +kernel
theorem d_L_init_39 : decode c_L_init 39 = .ok (.dup, 1) := by decide +kernel
theorem d_L_init_40 : decode c_L_init 40 = .ok (.invokespecial 29, 3) := by decide +kernel
theorem d_L_init_43 : decode c_L_init 43 = .ok (.putfield 30, 3) := by decide +kernel
theorem d_L_init_46 : decode c_L_init 46 = .ok (.aload_n 0, 1) := by decide +kernel
theorem d_L_init_47 : decode c_L_init 47 = .ok (.new 34, 3) := by decide +kernel
theorem d_L_init_50 : decode c_L_init 50 = .ok (.dup, 1) := by decide +kernel
theorem d_L_init_51 : decode c_L_init 51 = .ok (.invokespecial 36, 3) := by decide +kernel
theorem d_L_init_54 : decode c_L_init 54 = .ok (.putfield 37, 3) := by decide +kernel
theorem d_L_init_57 : decode c_L_init 57 = .ok (.aload_n 0, 1) := by decide +kernel
theorem d_L_init_58 : decode c_L_init 58 = .ok (.new 41, 3) := by decide +kernel
theorem d_L_init_61 : decode c_L_init 61 = .ok (.dup, 1) := by decide +kernel
theorem d_L_init_62 : decode c_L_init 62 = .ok (.invokespecial 43, 3) := by decide +kernel
theorem d_L_init_65 : decode c_L_init 65 = .ok (.putfield 44, 3) := by decide +kernel
theorem d_L_init_68 : decode c_L_init 68 = .ok (.aload_n 0, 1) := by decide +kernel
theorem d_L_init_69 : decode c_L_init 69 = .ok (.new 48, 3) := by decide +kernel
theorem d_L_init_72 : decode c_L_init 72 = .ok (.dup, 1) := by decide +kernel
theorem d_L_init_73 : decode c_L_init 73 = .ok (.invokespecial 50, 3) := by decide +kernel
theorem d_L_init_76 : decode c_L_init 76 = .ok (.putfield 51, 3) := by decide +kernel
theorem d_L_init_79 : decode c_L_init 79 = .ok (.iconst 0, 1) := by decide +kernel
theorem d_L_init_80 : decode c_L_init 80 = .ok (.istore_n 1, 1) := by decide +kernel
theorem d_L_init_81 : decode c_L_init 81 = .ok (.iload_n 1, 1) := by decide +kernel
theorem d_L_init_82 : decode c_L_init 82 = .ok (.bipush 12, 2) := by decide +kernel
theorem d_L_init_84 : decode c_L_init 84 = .ok (.if_icmp .ge 22, 3) := by decide +kernel
theorem d_L_init_87 : decode c_L_init 87 = .ok (.aload_n 0, 1) := by decide +kernel
theorem d_L_init_88 : decode c_L_init 88 = .ok (.getfield 11, 3) := by decide +kernel
theorem d_L_init_91 : decode c_L_init 91 = .ok (.iload_n 1, 1) := by decide +kernel
theorem d_L_init_92 : decode c_L_init 92 = .ok (.new 9, 3) := by decide +kernel
theorem d_L_init_95 : decode c_L_init 95 = .ok (.dup, 1) := by decide +kernel
theorem d_L_init_96 : decode c_L_init 96 = .ok (.invokespecial 15, 3) := by decide +kernel
theorem d_L_init_99 : decode c_L_init 99 = .ok (.aastore, 1) := by decide +kernel
theorem d_L_init_100 : decode c_L_init 100 = .ok (.iinc 1 1, 3) := by decide +kernel
theorem d_L_init_103 : decode c_L_init 103 = .ok (.goto (-22), 3) := by decide +kernel
theorem d_L_init_106 : decode c_L_init 106 = .ok (.return_, 1) := by decide +kernel
theorem d_M_init_0 : decode c_M_init 0 = .ok (.aload_n 0, 1) := by decide +kernel
theorem d_M_init_1 : decode c_M_init 1 = .ok (.invokespecial 1, 3) := by decide +kernel
theorem d_M_init_4 : decode c_M_init 4 = .ok (.aload_n 0, 1) := by decide +kernel
theorem d_M_init_5 : decode c_M_init 5 = .ok (.sipush 2160, 3) := by decide +kernel
theorem d_M_init_8 : decode c_M_init 8 = .ok (.newarray .int, 2) := by decide +kernel
theorem d_M_init_10 : decode c_M_init 10 = .ok (.putfield 7, 3) := by decide +kernel
theorem d_M_init_13 : decode c_M_init 13 = .ok (.aload_n 0, 1) := by decide +kernel
theorem d_M_init_14 : decode c_M_init 14 = .ok (.bipush 20, 2) := by decide +kernel
theorem d_M_init_16 : decode c_M_init 16 = .ok (.newarray .int, 2) := by decide +kernel
theorem d_M_init_18 : decode c_M_init 18 = .ok (.putfield 13, 3) := by decide +kernel
theorem d_M_init_21 : decode c_M_init 21 = .ok (.aload_n 0, 1) := by decide +kernel
theorem d_M_init_22 : decode c_M_init 22 = .ok (.bipush 20, 2) := by decide +kernel
theorem d_M_init_24 : decode c_M_init 24 = .ok (.newarray .int, 2) := by decide +kernel
theorem d_M_init_26 : decode c_M_init 26 = .ok (.putfield 16, 3) := by decide +kernel
theorem d_M_init_29 : decode c_M_init 29 = .ok (.aload_n 0, 1) := by decide +kernel
theorem d_M_init_30 : decode c_M_init 30 = .ok (.sipush 1200, 3) := by decide +kernel
theorem d_M_init_33 : decode c_M_init 33 = .ok (.newarray .int, 2) := by decide +kernel
theorem d_M_init_35 : decode c_M_init 35 = .ok (.putfield 19, 3) := by decide +kernel
theorem d_M_init_38 : decode c_M_init 38 = .ok (.return_, 1) := by decide +kernel
theorem ob_im : Cond.instanceMethod Lib.objectInit ∈ bg := bg_at 68 (by decide +kernel) (by decide +kernel)
theorem ob_cd : Cond.code Lib.objectInit ⟨#[0xb1]⟩ 1 none ∈ bg := bg_at 69 (by decide +kernel) (by decide +kernel)
theorem ob_D : Cond.methodLink "LimbRegisters$Division" 3 Lib.objectInit ∈ bg := bg_at 127 (by decide +kernel) (by decide +kernel)
theorem cd_D_init : Cond.code y_D_init c_D_init 1 none ∈ bg := bg_at 126 (by decide +kernel) (by decide +kernel)
theorem im_D_init : Cond.instanceMethod y_D_init ∈ bg := bg_at 125 (by decide +kernel) (by decide +kernel)
theorem df_D : ∀ j, j < 3 → defaultValue (tyX0 j) = vp_V [.null, .null, .null] j := fun j hj => match j, hj with
  | 0, _ => rfl
  | 1, _ => rfl
  | 2, _ => rfl
  | j + 3, h => absurd h (by omega)
theorem ob_E : Cond.methodLink "LimbRegisters$Euclid" 1 Lib.objectInit ∈ bg := bg_at 196 (by decide +kernel) (by decide +kernel)
theorem cd_E_init : Cond.code y_E_init c_E_init 1 none ∈ bg := bg_at 195 (by decide +kernel) (by decide +kernel)
theorem im_E_init : Cond.instanceMethod y_E_init ∈ bg := bg_at 194 (by decide +kernel) (by decide +kernel)
theorem df_E : ∀ j, j < 7 → defaultValue (tyX1 j) = vp_V [.null, .null, .int 0, .null, .null, .null, .null] j := fun j hj => match j, hj with
  | 0, _ => rfl
  | 1, _ => rfl
  | 2, _ => rfl
  | 3, _ => rfl
  | 4, _ => rfl
  | 5, _ => rfl
  | 6, _ => rfl
  | j + 7, h => absurd h (by omega)
theorem ob_N : Cond.methodLink "LimbRegisters$Natural" 3 Lib.objectInit ∈ bg := bg_at 82 (by decide +kernel) (by decide +kernel)
theorem cd_N_init : Cond.code y_N_init c_N_init 1 none ∈ bg := bg_at 81 (by decide +kernel) (by decide +kernel)
theorem im_N_init : Cond.instanceMethod y_N_init ∈ bg := bg_at 80 (by decide +kernel) (by decide +kernel)
theorem df_N : ∀ j, j < 2 → defaultValue (tyX2 j) = vp_V [.null, .int 0] j := fun j hj => match j, hj with
  | 0, _ => rfl
  | 1, _ => rfl
  | j + 2, h => absurd h (by omega)
theorem ob_S : Cond.methodLink "LimbRegisters$Residues" 1 Lib.objectInit ∈ bg := bg_at 172 (by decide +kernel) (by decide +kernel)
theorem cd_S_init : Cond.code y_S_init c_S_init 1 none ∈ bg := bg_at 171 (by decide +kernel) (by decide +kernel)
theorem im_S_init : Cond.instanceMethod y_S_init ∈ bg := bg_at 170 (by decide +kernel) (by decide +kernel)
theorem df_S : ∀ j, j < 4 → defaultValue (tyX3 j) = vp_V [.null, .null, .null, .null] j := fun j hj => match j, hj with
  | 0, _ => rfl
  | 1, _ => rfl
  | 2, _ => rfl
  | 3, _ => rfl
  | j + 4, h => absurd h (by omega)
theorem ob_O : Cond.methodLink "LimbRegisters$Roots" 1 Lib.objectInit ∈ bg := bg_at 150 (by decide +kernel) (by decide +kernel)
theorem cd_O_init : Cond.code y_O_init c_O_init 1 none ∈ bg := bg_at 149 (by decide +kernel) (by decide +kernel)
theorem im_O_init : Cond.instanceMethod y_O_init ∈ bg := bg_at 148 (by decide +kernel) (by decide +kernel)
theorem df_O : ∀ j, j < 4 → defaultValue (tyX4 j) = vp_V [.null, .null, .null, .null] j := fun j hj => match j, hj with
  | 0, _ => rfl
  | 1, _ => rfl
  | 2, _ => rfl
  | 3, _ => rfl
  | j + 4, h => absurd h (by omega)
theorem ob_T : Cond.methodLink "LimbRegisters$Text" 3 Lib.objectInit ∈ bg := bg_at 111 (by decide +kernel) (by decide +kernel)
theorem cd_T_init : Cond.code y_T_init c_T_init 1 none ∈ bg := bg_at 110 (by decide +kernel) (by decide +kernel)
theorem im_T_init : Cond.instanceMethod y_T_init ∈ bg := bg_at 109 (by decide +kernel) (by decide +kernel)
theorem df_T : ∀ j, j < 2 → defaultValue (tyX5 j) = vp_V [.null, .int 0] j := fun j hj => match j, hj with
  | 0, _ => rfl
  | 1, _ => rfl
  | j + 2, h => absurd h (by omega)
theorem ob_W : Cond.methodLink "LimbRegisters$Whole" 1 Lib.objectInit ∈ bg := bg_at 76 (by decide +kernel) (by decide +kernel)
theorem cd_W_init : Cond.code y_W_init c_W_init 1 none ∈ bg := bg_at 75 (by decide +kernel) (by decide +kernel)
theorem im_W_init : Cond.instanceMethod y_W_init ∈ bg := bg_at 74 (by decide +kernel) (by decide +kernel)
theorem df_W : ∀ j, j < 2 → defaultValue (tyX6 j) = vp_V [.null, .int 0] j := fun j hj => match j, hj with
  | 0, _ => rfl
  | 1, _ => rfl
  | j + 2, h => absurd h (by omega)
theorem ob_L : Cond.methodLink "LimbRegisters" 3 Lib.objectInit ∈ bg := bg_at 67 (by decide +kernel) (by decide +kernel)
theorem cd_L_init : Cond.code y_L_init c_L_init 2 none ∈ bg := bg_at 66 (by decide +kernel) (by decide +kernel)
theorem im_L_init : Cond.instanceMethod y_L_init ∈ bg := bg_at 65 (by decide +kernel) (by decide +kernel)
theorem df_L : ∀ j, j < 7 → defaultValue (tyX7 j) = vp_V [.null, .null, .null, .null, .null, .null, .null] j := fun j hj => match j, hj with
  | 0, _ => rfl
  | 1, _ => rfl
  | 2, _ => rfl
  | 3, _ => rfl
  | 4, _ => rfl
  | 5, _ => rfl
  | 6, _ => rfl
  | j + 7, h => absurd h (by omega)
theorem ob_M : Cond.methodLink "LimbRegistersModel" 1 Lib.objectInit ∈ bg := bg_at 856 (by decide +kernel) (by decide +kernel)
theorem cd_M_init : Cond.code y_M_init c_M_init 1 none ∈ bg := bg_at 855 (by decide +kernel) (by decide +kernel)
theorem im_M_init : Cond.instanceMethod y_M_init ∈ bg := bg_at 854 (by decide +kernel) (by decide +kernel)
theorem df_M : ∀ j, j < 6 → defaultValue (tyM j) = vp_V [.int 0, .null, .null, .null, .int 0, .null] j := fun j hj => match j, hj with
  | 0, _ => rfl
  | 1, _ => rfl
  | 2, _ => rfl
  | 3, _ => rfl
  | 4, _ => rfl
  | 5, _ => rfl
  | j + 6, h => absurd h (by omega)
theorem nl_L_15 : Cond.methodLinkNest "LimbRegisters" 15 y_W_init "LimbRegisters" ∈ nW := nW_at 73 (by decide +kernel) (by decide +kernel)
theorem nl_W_9 : Cond.methodLinkNest "LimbRegisters$Whole" 9 y_N_init "LimbRegisters" ∈ nW := nW_at 79 (by decide +kernel) (by decide +kernel)
theorem nl_L_22 : Cond.methodLinkNest "LimbRegisters" 22 y_T_init "LimbRegisters" ∈ nW := nW_at 108 (by decide +kernel) (by decide +kernel)
theorem nl_L_29 : Cond.methodLinkNest "LimbRegisters" 29 y_D_init "LimbRegisters" ∈ nW := nW_at 124 (by decide +kernel) (by decide +kernel)
theorem nl_D_11 : Cond.methodLinkNest "LimbRegisters$Division" 11 y_N_init "LimbRegisters" ∈ nW := nW_at 129 (by decide +kernel) (by decide +kernel)
theorem nl_L_36 : Cond.methodLinkNest "LimbRegisters" 36 y_O_init "LimbRegisters" ∈ nW := nW_at 147 (by decide +kernel) (by decide +kernel)
theorem nl_O_9 : Cond.methodLinkNest "LimbRegisters$Roots" 9 y_N_init "LimbRegisters" ∈ nW := nW_at 152 (by decide +kernel) (by decide +kernel)
theorem nl_L_43 : Cond.methodLinkNest "LimbRegisters" 43 y_S_init "LimbRegisters" ∈ nW := nW_at 169 (by decide +kernel) (by decide +kernel)
theorem nl_S_9 : Cond.methodLinkNest "LimbRegisters$Residues" 9 y_N_init "LimbRegisters" ∈ nW := nW_at 174 (by decide +kernel) (by decide +kernel)
theorem nl_S_24 : Cond.methodLinkNest "LimbRegisters$Residues" 24 y_D_init "LimbRegisters" ∈ nW := nW_at 176 (by decide +kernel) (by decide +kernel)
theorem nl_L_50 : Cond.methodLinkNest "LimbRegisters" 50 y_E_init "LimbRegisters" ∈ nW := nW_at 193 (by decide +kernel) (by decide +kernel)
theorem nl_E_9 : Cond.methodLinkNest "LimbRegisters$Euclid" 9 y_N_init "LimbRegisters" ∈ nW := nW_at 198 (by decide +kernel) (by decide +kernel)
theorem nl_E_34 : Cond.methodLinkNest "LimbRegisters$Euclid" 34 y_D_init "LimbRegisters" ∈ nW := nW_at 200 (by decide +kernel) (by decide +kernel)
theorem ml_L_init : Cond.methodLink "LimbRegistersLaw" 88 y_L_init ∈ bg := bg_at 64 (by decide +kernel) (by decide +kernel)
theorem ml_M_init : Cond.methodLink "LimbRegistersLaw" 91 y_M_init ∈ bg := bg_at 853 (by decide +kernel) (by decide +kernel)
