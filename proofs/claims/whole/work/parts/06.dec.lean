theorem d_K_init_0 : decode b_K_init 0 = .ok (.aload_n 0, 1) := by decide +kernel
theorem d_K_init_1 : decode b_K_init 1 = .ok (.invokespecial 1, 3) := by decide +kernel
theorem d_K_init_4 : decode b_K_init 4 = .ok (.aload_n 0, 1) := by decide +kernel
theorem d_K_init_5 : decode b_K_init 5 = .ok (.iconst 1, 1) := by decide +kernel
theorem d_K_init_6 : decode b_K_init 6 = .ok (.iload_n 1, 1) := by decide +kernel
theorem d_K_init_7 : decode b_K_init 7 = .ok (.bipush 12, 2) := by decide +kernel
theorem d_K_init_9 : decode b_K_init 9 = .ok (.invokestatic 9, 3) := by decide +kernel
theorem d_K_init_12 : decode b_K_init 12 = .ok (.invokestatic 15, 3) := by decide +kernel
theorem d_K_init_15 : decode b_K_init 15 = .ok (.putfield 18, 3) := by decide +kernel
theorem d_K_init_18 : decode b_K_init 18 = .ok (.aload_n 0, 1) := by decide +kernel
theorem d_K_init_19 : decode b_K_init 19 = .ok (.new 22, 3) := by decide +kernel
theorem d_K_init_22 : decode b_K_init 22 = .ok (.dup, 1) := by decide +kernel
theorem d_K_init_23 : decode b_K_init 23 = .ok (.invokespecial 24, 3) := by decide +kernel
theorem d_K_init_26 : decode b_K_init 26 = .ok (.putfield 25, 3) := by decide +kernel
theorem d_K_init_29 : decode b_K_init 29 = .ok (.aload_n 0, 1) := by decide +kernel
theorem d_K_init_30 : decode b_K_init 30 = .ok (.new 29, 3) := by decide +kernel
theorem d_K_init_33 : decode b_K_init 33 = .ok (.dup, 1) := by decide +kernel
theorem d_K_init_34 : decode b_K_init 34 = .ok (.aload_n 0, 1) := by decide +kernel
theorem d_K_init_35 : decode b_K_init 35 = .ok (.getfield 18, 3) := by decide +kernel
theorem d_K_init_38 : decode b_K_init 38 = .ok (.invokespecial 31, 3) := by decide +kernel
theorem d_K_init_41 : decode b_K_init 41 = .ok (.putfield 34, 3) := by decide +kernel
theorem d_K_init_44 : decode b_K_init 44 = .ok (.aload_n 0, 1) := by decide +kernel
theorem d_K_init_45 : decode b_K_init 45 = .ok (.new 29, 3) := by decide +kernel
theorem d_K_init_48 : decode b_K_init 48 = .ok (.dup, 1) := by decide +kernel
theorem d_K_init_49 : decode b_K_init 49 = .ok (.aload_n 0, 1) := by decide +kernel
theorem d_K_init_50 : decode b_K_init 50 = .ok (.getfield 18, 3) := by decide +kernel
theorem d_K_init_53 : decode b_K_init 53 = .ok (.invokespecial 31, 3) := by decide +kernel
theorem d_K_init_56 : decode b_K_init 56 = .ok (.putfield 38, 3) := by decide +kernel
theorem d_K_init_59 : decode b_K_init 59 = .ok (.aload_n 0, 1) := by decide +kernel
theorem d_K_init_60 : decode b_K_init 60 = .ok (.new 29, 3) := by decide +kernel
theorem d_K_init_63 : decode b_K_init 63 = .ok (.dup, 1) := by decide +kernel
theorem d_K_init_64 : decode b_K_init 64 = .ok (.aload_n 0, 1) := by decide +kernel
theorem d_K_init_65 : decode b_K_init 65 = .ok (.getfield 18, 3) := by decide +kernel
theorem d_K_init_68 : decode b_K_init 68 = .ok (.invokespecial 31, 3) := by decide +kernel
theorem d_K_init_71 : decode b_K_init 71 = .ok (.putfield 41, 3) := by decide +kernel
theorem d_K_init_74 : decode b_K_init 74 = .ok (.aload_n 0, 1) := by decide +kernel
theorem d_K_init_75 : decode b_K_init 75 = .ok (.new 44, 3) := by decide +kernel
theorem d_K_init_78 : decode b_K_init 78 = .ok (.dup, 1) := by decide +kernel
theorem d_K_init_79 : decode b_K_init 79 = .ok (.aload_n 0, 1) := by decide +kernel
theorem d_K_init_80 : decode b_K_init 80 = .ok (.getfield 18, 3) := by decide +kernel
theorem d_K_init_83 : decode b_K_init 83 = .ok (.invokespecial 46, 3) := by decide +kernel
theorem d_K_init_86 : decode b_K_init 86 = .ok (.putfield 47, 3) := by decide +kernel
theorem d_K_init_89 : decode b_K_init 89 = .ok (.aload_n 0, 1) := by decide +kernel
theorem d_K_init_90 : decode b_K_init 90 = .ok (.new 51, 3) := by decide +kernel
theorem d_K_init_93 : decode b_K_init 93 = .ok (.dup, 1) := by decide +kernel
theorem d_K_init_94 : decode b_K_init 94 = .ok (.invokespecial 53, 3) := by decide +kernel
theorem d_K_init_97 : decode b_K_init 97 = .ok (.putfield 54, 3) := by decide +kernel
theorem d_K_init_100 : decode b_K_init 100 = .ok (.aload_n 0, 1) := by decide +kernel
theorem d_K_init_101 : decode b_K_init 101 = .ok (.new 58, 3) := by decide +kernel
theorem d_K_init_104 : decode b_K_init 104 = .ok (.dup, 1) := by decide +kernel
theorem d_K_init_105 : decode b_K_init 105 = .ok (.invokespecial 60, 3) := by decide +kernel
theorem d_K_init_108 : decode b_K_init 108 = .ok (.putfield 61, 3) := by decide +kernel
theorem d_K_init_111 : decode b_K_init 111 = .ok (.aload_n 0, 1) := by decide +kernel
theorem d_K_init_112 : decode b_K_init 112 = .ok (.new 65, 3) := by decide +kernel
theorem d_K_init_115 : decode b_K_init 115 = .ok (.dup, 1) := by decide +kernel
theorem d_K_init_116 : decode b_K_init 116 = .ok (.invokespecial 67, 3) := by decide +kernel
theorem d_K_init_119 : decode b_K_init 119 = .ok (.putfield 68, 3) := by decide +kernel
theorem d_K_init_122 : decode b_K_init 122 = .ok (.aload_n 0, 1) := by decide +kernel
theorem d_K_init_123 : decode b_K_init 123 = .ok (.bipush 21, 2) := by decide +kernel
theorem d_K_init_125 : decode b_K_init 125 = .ok (.newarray .long, 2) := by decide +kernel
theorem d_K_init_127 : decode b_K_init 127 = .ok (.putfield 72, 3) := by decide +kernel
theorem d_K_init_130 : decode b_K_init 130 = .ok (.aload_n 0, 1) := by decide +kernel
theorem d_K_init_131 : decode b_K_init 131 = .ok (.iconst (-1), 1) := by decide +kernel
theorem d_K_init_132 : decode b_K_init 132 = .ok (.putfield 76, 3) := by decide +kernel
theorem d_K_init_135 : decode b_K_init 135 = .ok (.aload_n 0, 1) := by decide +kernel
theorem d_K_init_136 : decode b_K_init 136 = .ok (.iconst 0, 1) := by decide +kernel
theorem d_K_init_137 : decode b_K_init 137 = .ok (.putfield 79, 3) := by decide +kernel
theorem d_K_init_140 : decode b_K_init 140 = .ok (.aload_n 0, 1) := by decide +kernel
theorem d_K_init_141 : decode b_K_init 141 = .ok (.iconst 0, 1) := by decide +kernel
theorem d_K_init_142 : decode b_K_init 142 = .ok (.putfield 82, 3) := by decide +kernel
theorem d_K_init_145 : decode b_K_init 145 = .ok (.return_, 1) := by decide +kernel
theorem d_JM_min_0 : decode b_JM_min 0 = .ok (.iload_n 0, 1) := by decide +kernel
theorem d_JM_min_1 : decode b_JM_min 1 = .ok (.iload_n 1, 1) := by decide +kernel
theorem d_JM_min_2 : decode b_JM_min 2 = .ok (.if_icmp .gt 7, 3) := by decide +kernel
theorem d_JM_min_5 : decode b_JM_min 5 = .ok (.iload_n 0, 1) := by decide +kernel
theorem d_JM_min_6 : decode b_JM_min 6 = .ok (.goto 4, 3) := by decide +kernel
theorem d_JM_min_9 : decode b_JM_min 9 = .ok (.iload_n 1, 1) := by decide +kernel
theorem d_JM_min_10 : decode b_JM_min 10 = .ok (.ireturn, 1) := by decide +kernel
theorem d_JM_max_0 : decode b_JM_max 0 = .ok (.iload_n 0, 1) := by decide +kernel
theorem d_JM_max_1 : decode b_JM_max 1 = .ok (.iload_n 1, 1) := by decide +kernel
theorem d_JM_max_2 : decode b_JM_max 2 = .ok (.if_icmp .lt 7, 3) := by decide +kernel
theorem d_JM_max_5 : decode b_JM_max 5 = .ok (.iload_n 0, 1) := by decide +kernel
theorem d_JM_max_6 : decode b_JM_max 6 = .ok (.goto 4, 3) := by decide +kernel
theorem d_JM_max_9 : decode b_JM_max 9 = .ok (.iload_n 1, 1) := by decide +kernel
theorem d_JM_max_10 : decode b_JM_max 10 = .ok (.ireturn, 1) := by decide +kernel
theorem d_T_init_0 : decode b_T_init 0 = .ok (.aload_n 0, 1) := by decide +kernel
theorem d_T_init_1 : decode b_T_init 1 = .ok (.invokespecial 3, 3) := by decide +kernel
theorem d_T_init_4 : decode b_T_init 4 = .ok (.aload_n 0, 1) := by decide +kernel
theorem d_T_init_5 : decode b_T_init 5 = .ok (.sipush 200, 3) := by decide +kernel
theorem d_T_init_8 : decode b_T_init 8 = .ok (.newarray .long, 2) := by decide +kernel
theorem d_T_init_10 : decode b_T_init 10 = .ok (.putfield 9, 3) := by decide +kernel
theorem d_T_init_13 : decode b_T_init 13 = .ok (.aload_n 0, 1) := by decide +kernel
theorem d_T_init_14 : decode b_T_init 14 = .ok (.sipush 200, 3) := by decide +kernel
theorem d_T_init_17 : decode b_T_init 17 = .ok (.newarray .int, 2) := by decide +kernel
theorem d_T_init_19 : decode b_T_init 19 = .ok (.putfield 15, 3) := by decide +kernel
theorem d_T_init_22 : decode b_T_init 22 = .ok (.aload_n 0, 1) := by decide +kernel
theorem d_T_init_23 : decode b_T_init 23 = .ok (.sipush 200, 3) := by decide +kernel
theorem d_T_init_26 : decode b_T_init 26 = .ok (.newarray .int, 2) := by decide +kernel
theorem d_T_init_28 : decode b_T_init 28 = .ok (.putfield 19, 3) := by decide +kernel
theorem d_T_init_31 : decode b_T_init 31 = .ok (.aload_n 0, 1) := by decide +kernel
theorem d_T_init_32 : decode b_T_init 32 = .ok (.sipush 200, 3) := by decide +kernel
theorem d_T_init_35 : decode b_T_init 35 = .ok (.newarray .int, 2) := by decide +kernel
theorem d_T_init_37 : decode b_T_init 37 = .ok (.putfield 22, 3) := by decide +kernel
theorem d_T_init_40 : decode b_T_init 40 = .ok (.aload_n 0, 1) := by decide +kernel
theorem d_T_init_41 : decode b_T_init 41 = .ok (.sipush 200, 3) := by decide +kernel
theorem d_T_init_44 : decode b_T_init 44 = .ok (.newarray .int, 2) := by decide +kernel
theorem d_T_init_46 : decode b_T_init 46 = .ok (.putfield 25, 3) := by decide +kernel
theorem d_T_init_49 : decode b_T_init 49 = .ok (.aload_n 0, 1) := by decide +kernel
theorem d_T_init_50 : decode b_T_init 50 = .ok (.iconst 0, 1) := by decide +kernel
theorem d_T_init_51 : decode b_T_init 51 = .ok (.putfield 28, 3) := by decide +kernel
theorem d_T_init_54 : decode b_T_init 54 = .ok (.return_, 1) := by decide +kernel
theorem d_B_init_0 : decode b_B_init 0 = .ok (.aload_n 0, 1) := by decide +kernel
theorem d_B_init_1 : decode b_B_init 1 = .ok (.invokespecial 3, 3) := by decide +kernel
theorem d_B_init_4 : decode b_B_init 4 = .ok (.aload_n 0, 1) := by decide +kernel
theorem d_B_init_5 : decode b_B_init 5 = .ok (.iload_n 1, 1) := by decide +kernel
theorem d_B_init_6 : decode b_B_init 6 = .ok (.iload_n 1, 1) := by decide +kernel
theorem d_B_init_7 : decode b_B_init 7 = .ok (.multianewarray 9 2, 4) := by decide +kernel
theorem d_B_init_11 : decode b_B_init 11 = .ok (.putfield 11, 3) := by decide +kernel
theorem d_B_init_14 : decode b_B_init 14 = .ok (.aload_n 0, 1) := by decide +kernel
theorem d_B_init_15 : decode b_B_init 15 = .ok (.iload_n 1, 1) := by decide +kernel
theorem d_B_init_16 : decode b_B_init 16 = .ok (.bipush 10, 2) := by decide +kernel
theorem d_B_init_18 : decode b_B_init 18 = .ok (.multianewarray 9 2, 4) := by decide +kernel
theorem d_B_init_22 : decode b_B_init 22 = .ok (.putfield 16, 3) := by decide +kernel
theorem d_B_init_25 : decode b_B_init 25 = .ok (.return_, 1) := by decide +kernel
theorem d_F_init_0 : decode b_F_init 0 = .ok (.aload_n 0, 1) := by decide +kernel
theorem d_F_init_1 : decode b_F_init 1 = .ok (.invokespecial 3, 3) := by decide +kernel
theorem d_F_init_4 : decode b_F_init 4 = .ok (.aload_n 0, 1) := by decide +kernel
theorem d_F_init_5 : decode b_F_init 5 = .ok (.sipush 200, 3) := by decide +kernel
theorem d_F_init_8 : decode b_F_init 8 = .ok (.newarray .int, 2) := by decide +kernel
theorem d_F_init_10 : decode b_F_init 10 = .ok (.putfield 9, 3) := by decide +kernel
theorem d_F_init_13 : decode b_F_init 13 = .ok (.aload_n 0, 1) := by decide +kernel
theorem d_F_init_14 : decode b_F_init 14 = .ok (.iconst 0, 1) := by decide +kernel
theorem d_F_init_15 : decode b_F_init 15 = .ok (.putfield 15, 3) := by decide +kernel
theorem d_F_init_18 : decode b_F_init 18 = .ok (.aload_n 0, 1) := by decide +kernel
theorem d_F_init_19 : decode b_F_init 19 = .ok (.iload_n 1, 1) := by decide +kernel
theorem d_F_init_20 : decode b_F_init 20 = .ok (.putfield 19, 3) := by decide +kernel
theorem d_F_init_23 : decode b_F_init 23 = .ok (.aload_n 0, 1) := by decide +kernel
theorem d_F_init_24 : decode b_F_init 24 = .ok (.sipush 200, 3) := by decide +kernel
theorem d_F_init_27 : decode b_F_init 27 = .ok (.iload_n 1, 1) := by decide +kernel
theorem d_F_init_28 : decode b_F_init 28 = .ok (.multianewarray 22 2, 4) := by decide +kernel
theorem d_F_init_32 : decode b_F_init 32 = .ok (.putfield 24, 3) := by decide +kernel
theorem d_F_init_35 : decode b_F_init 35 = .ok (.aload_n 0, 1) := by decide +kernel
theorem d_F_init_36 : decode b_F_init 36 = .ok (.iload_n 1, 1) := by decide +kernel
theorem d_F_init_37 : decode b_F_init 37 = .ok (.newarray .int, 2) := by decide +kernel
theorem d_F_init_39 : decode b_F_init 39 = .ok (.putfield 27, 3) := by decide +kernel
theorem d_F_init_42 : decode b_F_init 42 = .ok (.aload_n 0, 1) := by decide +kernel
theorem d_F_init_43 : decode b_F_init 43 = .ok (.iload_n 1, 1) := by decide +kernel
theorem d_F_init_44 : decode b_F_init 44 = .ok (.newarray .int, 2) := by decide +kernel
theorem d_F_init_46 : decode b_F_init 46 = .ok (.putfield 30, 3) := by decide +kernel
theorem d_F_init_49 : decode b_F_init 49 = .ok (.aload_n 0, 1) := by decide +kernel
theorem d_F_init_50 : decode b_F_init 50 = .ok (.iload_n 1, 1) := by decide +kernel
theorem d_F_init_51 : decode b_F_init 51 = .ok (.newarray .int, 2) := by decide +kernel
theorem d_F_init_53 : decode b_F_init 53 = .ok (.putfield 33, 3) := by decide +kernel
theorem d_F_init_56 : decode b_F_init 56 = .ok (.return_, 1) := by decide +kernel
theorem d_N_init_0 : decode b_N_init 0 = .ok (.aload_n 0, 1) := by decide +kernel
theorem d_N_init_1 : decode b_N_init 1 = .ok (.invokespecial 3, 3) := by decide +kernel
theorem d_N_init_4 : decode b_N_init 4 = .ok (.aload_n 0, 1) := by decide +kernel
theorem d_N_init_5 : decode b_N_init 5 = .ok (.sipush 200, 3) := by decide +kernel
theorem d_N_init_8 : decode b_N_init 8 = .ok (.newarray .int, 2) := by decide +kernel
theorem d_N_init_10 : decode b_N_init 10 = .ok (.putfield 9, 3) := by decide +kernel
theorem d_N_init_13 : decode b_N_init 13 = .ok (.aload_n 0, 1) := by decide +kernel
theorem d_N_init_14 : decode b_N_init 14 = .ok (.sipush 200, 3) := by decide +kernel
theorem d_N_init_17 : decode b_N_init 17 = .ok (.newarray .int, 2) := by decide +kernel
theorem d_N_init_19 : decode b_N_init 19 = .ok (.putfield 15, 3) := by decide +kernel
theorem d_N_init_22 : decode b_N_init 22 = .ok (.aload_n 0, 1) := by decide +kernel
theorem d_N_init_23 : decode b_N_init 23 = .ok (.iconst 0, 1) := by decide +kernel
theorem d_N_init_24 : decode b_N_init 24 = .ok (.putfield 18, 3) := by decide +kernel
theorem d_N_init_27 : decode b_N_init 27 = .ok (.aload_n 0, 1) := by decide +kernel
theorem d_N_init_28 : decode b_N_init 28 = .ok (.iconst 0, 1) := by decide +kernel
theorem d_N_init_29 : decode b_N_init 29 = .ok (.putfield 22, 3) := by decide +kernel
theorem d_N_init_32 : decode b_N_init 32 = .ok (.return_, 1) := by decide +kernel
theorem d_P_init_0 : decode b_P_init 0 = .ok (.aload_n 0, 1) := by decide +kernel
theorem d_P_init_1 : decode b_P_init 1 = .ok (.invokespecial 3, 3) := by decide +kernel
theorem d_P_init_4 : decode b_P_init 4 = .ok (.aload_n 0, 1) := by decide +kernel
theorem d_P_init_5 : decode b_P_init 5 = .ok (.bipush 50, 2) := by decide +kernel
theorem d_P_init_7 : decode b_P_init 7 = .ok (.newarray .long, 2) := by decide +kernel
theorem d_P_init_9 : decode b_P_init 9 = .ok (.putfield 9, 3) := by decide +kernel
theorem d_P_init_12 : decode b_P_init 12 = .ok (.aload_n 0, 1) := by decide +kernel
theorem d_P_init_13 : decode b_P_init 13 = .ok (.bipush 50, 2) := by decide +kernel
theorem d_P_init_15 : decode b_P_init 15 = .ok (.newarray .long, 2) := by decide +kernel
theorem d_P_init_17 : decode b_P_init 17 = .ok (.putfield 15, 3) := by decide +kernel
theorem d_P_init_20 : decode b_P_init 20 = .ok (.aload_n 0, 1) := by decide +kernel
theorem d_P_init_21 : decode b_P_init 21 = .ok (.bipush 50, 2) := by decide +kernel
theorem d_P_init_23 : decode b_P_init 23 = .ok (.newarray .int, 2) := by decide +kernel
theorem d_P_init_25 : decode b_P_init 25 = .ok (.putfield 18, 3) := by decide +kernel
theorem d_P_init_28 : decode b_P_init 28 = .ok (.aload_n 0, 1) := by decide +kernel
theorem d_P_init_29 : decode b_P_init 29 = .ok (.iconst 0, 1) := by decide +kernel
theorem d_P_init_30 : decode b_P_init 30 = .ok (.putfield 22, 3) := by decide +kernel
theorem d_P_init_33 : decode b_P_init 33 = .ok (.return_, 1) := by decide +kernel
theorem d_C_init_0 : decode b_C_init 0 = .ok (.aload_n 0, 1) := by decide +kernel
theorem d_C_init_1 : decode b_C_init 1 = .ok (.invokespecial 3, 3) := by decide +kernel
theorem d_C_init_4 : decode b_C_init 4 = .ok (.aload_n 0, 1) := by decide +kernel
theorem d_C_init_5 : decode b_C_init 5 = .ok (.sipush 300, 3) := by decide +kernel
theorem d_C_init_8 : decode b_C_init 8 = .ok (.newarray .int, 2) := by decide +kernel
theorem d_C_init_10 : decode b_C_init 10 = .ok (.putfield 9, 3) := by decide +kernel
theorem d_C_init_13 : decode b_C_init 13 = .ok (.aload_n 0, 1) := by decide +kernel
theorem d_C_init_14 : decode b_C_init 14 = .ok (.sipush 300, 3) := by decide +kernel
theorem d_C_init_17 : decode b_C_init 17 = .ok (.newarray .int, 2) := by decide +kernel
theorem d_C_init_19 : decode b_C_init 19 = .ok (.putfield 15, 3) := by decide +kernel
theorem d_C_init_22 : decode b_C_init 22 = .ok (.aload_n 0, 1) := by decide +kernel
theorem d_C_init_23 : decode b_C_init 23 = .ok (.sipush 300, 3) := by decide +kernel
theorem d_C_init_26 : decode b_C_init 26 = .ok (.newarray .int, 2) := by decide +kernel
theorem d_C_init_28 : decode b_C_init 28 = .ok (.putfield 18, 3) := by decide +kernel
theorem d_C_init_31 : decode b_C_init 31 = .ok (.aload_n 0, 1) := by decide +kernel
theorem d_C_init_32 : decode b_C_init 32 = .ok (.sipush 300, 3) := by decide +kernel
theorem d_C_init_35 : decode b_C_init 35 = .ok (.newarray .long, 2) := by decide +kernel
theorem d_C_init_37 : decode b_C_init 37 = .ok (.putfield 21, 3) := by decide +kernel
theorem d_C_init_40 : decode b_C_init 40 = .ok (.aload_n 0, 1) := by decide +kernel
theorem d_C_init_41 : decode b_C_init 41 = .ok (.iconst 0, 1) := by decide +kernel
theorem d_C_init_42 : decode b_C_init 42 = .ok (.putfield 25, 3) := by decide +kernel
theorem d_C_init_45 : decode b_C_init 45 = .ok (.return_, 1) := by decide +kernel
theorem d_K_move_0 : decode b_K_move 0 = .ok (.aload_n 0, 1) := by decide +kernel
theorem d_K_move_1 : decode b_K_move 1 = .ok (.iload_n 1, 1) := by decide +kernel
theorem d_K_move_2 : decode b_K_move 2 = .ok (.invokevirtual 85, 3) := by decide +kernel
theorem d_K_move_5 : decode b_K_move 5 = .ok (.ifCond .eq 18, 3) := by decide +kernel
theorem d_K_move_8 : decode b_K_move 8 = .ok (.aload_n 0, 1) := by decide +kernel
theorem d_K_move_9 : decode b_K_move 9 = .ok (.iload_n 2, 1) := by decide +kernel
theorem d_K_move_10 : decode b_K_move 10 = .ok (.invokevirtual 85, 3) := by decide +kernel
theorem d_K_move_13 : decode b_K_move 13 = .ok (.ifCond .eq 10, 3) := by decide +kernel
theorem d_K_move_16 : decode b_K_move 16 = .ok (.iload_n 3, 1) := by decide +kernel
theorem d_K_move_17 : decode b_K_move 17 = .ok (.invokestatic 89, 3) := by decide +kernel
theorem d_K_move_20 : decode b_K_move 20 = .ok (.ifCond .ne 5, 3) := by decide +kernel
theorem d_K_move_23 : decode b_K_move 23 = .ok (.iconst 0, 1) := by decide +kernel
theorem d_K_move_24 : decode b_K_move 24 = .ok (.ireturn, 1) := by decide +kernel
theorem d_K_move_25 : decode b_K_move 25 = .ok (.aload_n 0, 1) := by decide +kernel
theorem d_K_move_26 : decode b_K_move 26 = .ok (.getfield 34, 3) := by decide +kernel
theorem d_K_move_29 : decode b_K_move 29 = .ok (.getfield 92, 3) := by decide +kernel
theorem d_K_move_32 : decode b_K_move 32 = .ok (.iload_n 1, 1) := by decide +kernel
theorem d_K_move_33 : decode b_K_move 33 = .ok (.aaload, 1) := by decide +kernel
theorem d_K_move_34 : decode b_K_move 34 = .ok (.iload_n 2, 1) := by decide +kernel
theorem d_K_move_35 : decode b_K_move 35 = .ok (.iload_n 3, 1) := by decide +kernel
theorem d_K_move_36 : decode b_K_move 36 = .ok (.iastore, 1) := by decide +kernel
theorem d_K_move_37 : decode b_K_move 37 = .ok (.iconst 1, 1) := by decide +kernel
theorem d_K_move_38 : decode b_K_move 38 = .ok (.ireturn, 1) := by decide +kernel
theorem d_K_isAct_0 : decode b_K_isAct 0 = .ok (.iload_n 1, 1) := by decide +kernel
theorem d_K_isAct_1 : decode b_K_isAct 1 = .ok (.aload_n 0, 1) := by decide +kernel
theorem d_K_isAct_2 : decode b_K_isAct 2 = .ok (.getfield 18, 3) := by decide +kernel
theorem d_K_isAct_5 : decode b_K_isAct 5 = .ok (.invokestatic 96, 3) := by decide +kernel
theorem d_K_isAct_8 : decode b_K_isAct 8 = .ok (.ireturn, 1) := by decide +kernel
theorem d_K_isBelow_0 : decode b_K_isBelow 0 = .ok (.iload_n 0, 1) := by decide +kernel
theorem d_K_isBelow_1 : decode b_K_isBelow 1 = .ok (.ifCond .lt 12, 3) := by decide +kernel
theorem d_K_isBelow_4 : decode b_K_isBelow 4 = .ok (.iload_n 0, 1) := by decide +kernel
theorem d_K_isBelow_5 : decode b_K_isBelow 5 = .ok (.iload_n 1, 1) := by decide +kernel
theorem d_K_isBelow_6 : decode b_K_isBelow 6 = .ok (.if_icmp .ge 7, 3) := by decide +kernel
theorem d_K_isBelow_9 : decode b_K_isBelow 9 = .ok (.iconst 1, 1) := by decide +kernel
theorem d_K_isBelow_10 : decode b_K_isBelow 10 = .ok (.goto 4, 3) := by decide +kernel
theorem d_K_isBelow_13 : decode b_K_isBelow 13 = .ok (.iconst 0, 1) := by decide +kernel
theorem d_K_isBelow_14 : decode b_K_isBelow 14 = .ok (.ireturn, 1) := by decide +kernel
theorem d_K_isCost_0 : decode b_K_isCost 0 = .ok (.iload_n 0, 1) := by decide +kernel
theorem d_K_isCost_1 : decode b_K_isCost 1 = .ok (.ifCond .lt 14, 3) := by decide +kernel
theorem d_K_isCost_4 : decode b_K_isCost 4 = .ok (.iload_n 0, 1) := by decide +kernel
theorem d_K_isCost_5 : decode b_K_isCost 5 = .ok (.sipush 10000, 3) := by decide +kernel
theorem d_K_isCost_8 : decode b_K_isCost 8 = .ok (.if_icmp .gt 7, 3) := by decide +kernel
theorem d_K_isCost_11 : decode b_K_isCost 11 = .ok (.iconst 1, 1) := by decide +kernel
theorem d_K_isCost_12 : decode b_K_isCost 12 = .ok (.goto 4, 3) := by decide +kernel
theorem d_K_isCost_15 : decode b_K_isCost 15 = .ok (.iconst 0, 1) := by decide +kernel
theorem d_K_isCost_16 : decode b_K_isCost 16 = .ok (.ireturn, 1) := by decide +kernel
theorem d_K_speed_0 : decode b_K_speed 0 = .ok (.aload_n 0, 1) := by decide +kernel
theorem d_K_speed_1 : decode b_K_speed 1 = .ok (.iload_n 1, 1) := by decide +kernel
theorem d_K_speed_2 : decode b_K_speed 2 = .ok (.invokevirtual 85, 3) := by decide +kernel
theorem d_K_speed_5 : decode b_K_speed 5 = .ok (.ifCond .eq 19, 3) := by decide +kernel
theorem d_K_speed_8 : decode b_K_speed 8 = .ok (.iload_n 2, 1) := by decide +kernel
theorem d_K_speed_9 : decode b_K_speed 9 = .ok (.bipush 10, 2) := by decide +kernel
theorem d_K_speed_11 : decode b_K_speed 11 = .ok (.invokestatic 96, 3) := by decide +kernel
theorem d_K_speed_14 : decode b_K_speed 14 = .ok (.ifCond .eq 10, 3) := by decide +kernel
theorem d_K_speed_17 : decode b_K_speed 17 = .ok (.iload_n 3, 1) := by decide +kernel
theorem d_K_speed_18 : decode b_K_speed 18 = .ok (.invokestatic 89, 3) := by decide +kernel
theorem d_K_speed_21 : decode b_K_speed 21 = .ok (.ifCond .ne 5, 3) := by decide +kernel
theorem d_K_speed_24 : decode b_K_speed 24 = .ok (.iconst 0, 1) := by decide +kernel
theorem d_K_speed_25 : decode b_K_speed 25 = .ok (.ireturn, 1) := by decide +kernel
theorem d_K_speed_26 : decode b_K_speed 26 = .ok (.aload_n 0, 1) := by decide +kernel
theorem d_K_speed_27 : decode b_K_speed 27 = .ok (.getfield 34, 3) := by decide +kernel
theorem d_K_speed_30 : decode b_K_speed 30 = .ok (.getfield 100, 3) := by decide +kernel
theorem d_K_speed_33 : decode b_K_speed 33 = .ok (.iload_n 1, 1) := by decide +kernel
theorem d_K_speed_34 : decode b_K_speed 34 = .ok (.aaload, 1) := by decide +kernel
theorem d_K_speed_35 : decode b_K_speed 35 = .ok (.iload_n 2, 1) := by decide +kernel
theorem d_K_speed_36 : decode b_K_speed 36 = .ok (.iload_n 3, 1) := by decide +kernel
theorem d_K_speed_37 : decode b_K_speed 37 = .ok (.iastore, 1) := by decide +kernel
theorem d_K_speed_38 : decode b_K_speed 38 = .ok (.iconst 1, 1) := by decide +kernel
theorem d_K_speed_39 : decode b_K_speed 39 = .ok (.ireturn, 1) := by decide +kernel
theorem d_K_row_0 : decode b_K_row 0 = .ok (.aload_n 0, 1) := by decide +kernel
theorem d_K_row_1 : decode b_K_row 1 = .ok (.getfield 25, 3) := by decide +kernel
theorem d_K_row_4 : decode b_K_row 4 = .ok (.lload_n 1, 1) := by decide +kernel
theorem d_K_row_5 : decode b_K_row 5 = .ok (.invokevirtual 103, 3) := by decide +kernel
theorem d_K_row_8 : decode b_K_row 8 = .ok (.ifCond .eq 21, 3) := by decide +kernel
theorem d_K_row_11 : decode b_K_row 11 = .ok (.iload_n 3, 1) := by decide +kernel
theorem d_K_row_12 : decode b_K_row 12 = .ok (.bipush 10, 2) := by decide +kernel
theorem d_K_row_14 : decode b_K_row 14 = .ok (.invokestatic 96, 3) := by decide +kernel
theorem d_K_row_17 : decode b_K_row 17 = .ok (.ifCond .eq 12, 3) := by decide +kernel
theorem d_K_row_20 : decode b_K_row 20 = .ok (.iload 4, 2) := by decide +kernel
theorem d_K_row_22 : decode b_K_row 22 = .ok (.iconst 4, 1) := by decide +kernel
theorem d_K_row_23 : decode b_K_row 23 = .ok (.invokestatic 96, 3) := by decide +kernel
theorem d_K_row_26 : decode b_K_row 26 = .ok (.ifCond .ne 5, 3) := by decide +kernel
theorem d_K_row_29 : decode b_K_row 29 = .ok (.iconst 0, 1) := by decide +kernel
theorem d_K_row_30 : decode b_K_row 30 = .ok (.ireturn, 1) := by decide +kernel
theorem d_K_row_31 : decode b_K_row 31 = .ok (.aload_n 0, 1) := by decide +kernel
theorem d_K_row_32 : decode b_K_row 32 = .ok (.getfield 25, 3) := by decide +kernel
theorem d_K_row_35 : decode b_K_row 35 = .ok (.lload_n 1, 1) := by decide +kernel
theorem d_K_row_36 : decode b_K_row 36 = .ok (.iload_n 3, 1) := by decide +kernel
theorem d_K_row_37 : decode b_K_row 37 = .ok (.iload 4, 2) := by decide +kernel
theorem d_K_row_39 : decode b_K_row 39 = .ok (.aload_n 0, 1) := by decide +kernel
theorem d_K_row_40 : decode b_K_row 40 = .ok (.getfield 79, 3) := by decide +kernel
theorem d_K_row_43 : decode b_K_row 43 = .ok (.invokevirtual 107, 3) := by decide +kernel
theorem d_K_row_46 : decode b_K_row 46 = .ok (.iconst 1, 1) := by decide +kernel
theorem d_K_row_47 : decode b_K_row 47 = .ok (.ireturn, 1) := by decide +kernel
theorem d_T_canFollow_0 : decode b_T_canFollow 0 = .ok (.aload_n 0, 1) := by decide +kernel
theorem d_T_canFollow_1 : decode b_T_canFollow 1 = .ok (.getfield 28, 3) := by decide +kernel
theorem d_T_canFollow_4 : decode b_T_canFollow 4 = .ok (.sipush 200, 3) := by decide +kernel
theorem d_T_canFollow_7 : decode b_T_canFollow 7 = .ok (.if_icmp .ge 9, 3) := by decide +kernel
theorem d_T_canFollow_10 : decode b_T_canFollow 10 = .ok (.lload_n 1, 1) := by decide +kernel
theorem d_T_canFollow_11 : decode b_T_canFollow 11 = .ok (.lconst 0, 1) := by decide +kernel
theorem d_T_canFollow_12 : decode b_T_canFollow 12 = .ok (.lcmp, 1) := by decide +kernel
theorem d_T_canFollow_13 : decode b_T_canFollow 13 = .ok (.ifCond .ge 5, 3) := by decide +kernel
theorem d_T_canFollow_16 : decode b_T_canFollow 16 = .ok (.iconst 0, 1) := by decide +kernel
theorem d_T_canFollow_17 : decode b_T_canFollow 17 = .ok (.ireturn, 1) := by decide +kernel
theorem d_T_canFollow_18 : decode b_T_canFollow 18 = .ok (.aload_n 0, 1) := by decide +kernel
theorem d_T_canFollow_19 : decode b_T_canFollow 19 = .ok (.getfield 28, 3) := by decide +kernel
theorem d_T_canFollow_22 : decode b_T_canFollow 22 = .ok (.ifCond .eq 19, 3) := by decide +kernel
theorem d_T_canFollow_25 : decode b_T_canFollow 25 = .ok (.lload_n 1, 1) := by decide +kernel
theorem d_T_canFollow_26 : decode b_T_canFollow 26 = .ok (.aload_n 0, 1) := by decide +kernel
theorem d_T_canFollow_27 : decode b_T_canFollow 27 = .ok (.getfield 9, 3) := by decide +kernel
theorem d_T_canFollow_30 : decode b_T_canFollow 30 = .ok (.aload_n 0, 1) := by decide +kernel
theorem d_T_canFollow_31 : decode b_T_canFollow 31 = .ok (.getfield 28, 3) := by decide +kernel
theorem d_T_canFollow_34 : decode b_T_canFollow 34 = .ok (.iconst 1, 1) := by decide +kernel
theorem d_T_canFollow_35 : decode b_T_canFollow 35 = .ok (.isub, 1) := by decide +kernel
theorem d_T_canFollow_36 : decode b_T_canFollow 36 = .ok (.laload, 1) := by decide +kernel
theorem d_T_canFollow_37 : decode b_T_canFollow 37 = .ok (.lcmp, 1) := by decide +kernel
theorem d_T_canFollow_38 : decode b_T_canFollow 38 = .ok (.ifCond .le 7, 3) := by decide +kernel
theorem d_T_canFollow_41 : decode b_T_canFollow 41 = .ok (.iconst 1, 1) := by decide +kernel
theorem d_T_canFollow_42 : decode b_T_canFollow 42 = .ok (.goto 4, 3) := by decide +kernel
theorem d_T_canFollow_45 : decode b_T_canFollow 45 = .ok (.iconst 0, 1) := by decide +kernel
theorem d_T_canFollow_46 : decode b_T_canFollow 46 = .ok (.ireturn, 1) := by decide +kernel
theorem d_T_add_0 : decode b_T_add 0 = .ok (.aload_n 0, 1) := by decide +kernel
theorem d_T_add_1 : decode b_T_add 1 = .ok (.getfield 9, 3) := by decide +kernel
theorem d_T_add_4 : decode b_T_add 4 = .ok (.aload_n 0, 1) := by decide +kernel
theorem d_T_add_5 : decode b_T_add 5 = .ok (.getfield 28, 3) := by decide +kernel
theorem d_T_add_8 : decode b_T_add 8 = .ok (.lload_n 1, 1) := by decide +kernel
theorem d_T_add_9 : decode b_T_add 9 = .ok (.lastore, 1) := by decide +kernel
theorem d_T_add_10 : decode b_T_add 10 = .ok (.aload_n 0, 1) := by decide +kernel
theorem d_T_add_11 : decode b_T_add 11 = .ok (.getfield 15, 3) := by decide +kernel
theorem d_T_add_14 : decode b_T_add 14 = .ok (.aload_n 0, 1) := by decide +kernel
theorem d_T_add_15 : decode b_T_add 15 = .ok (.getfield 28, 3) := by decide +kernel
theorem d_T_add_18 : decode b_T_add 18 = .ok (.iload_n 3, 1) := by decide +kernel
theorem d_T_add_19 : decode b_T_add 19 = .ok (.iastore, 1) := by decide +kernel
theorem d_T_add_20 : decode b_T_add 20 = .ok (.aload_n 0, 1) := by decide +kernel
theorem d_T_add_21 : decode b_T_add 21 = .ok (.getfield 19, 3) := by decide +kernel
theorem d_T_add_24 : decode b_T_add 24 = .ok (.aload_n 0, 1) := by decide +kernel
theorem d_T_add_25 : decode b_T_add 25 = .ok (.getfield 28, 3) := by decide +kernel
theorem d_T_add_28 : decode b_T_add 28 = .ok (.iload 4, 2) := by decide +kernel
theorem d_T_add_30 : decode b_T_add 30 = .ok (.iastore, 1) := by decide +kernel
theorem d_T_add_31 : decode b_T_add 31 = .ok (.aload_n 0, 1) := by decide +kernel
theorem d_T_add_32 : decode b_T_add 32 = .ok (.getfield 22, 3) := by decide +kernel
theorem d_T_add_35 : decode b_T_add 35 = .ok (.aload_n 0, 1) := by decide +kernel
theorem d_T_add_36 : decode b_T_add 36 = .ok (.getfield 28, 3) := by decide +kernel
theorem d_T_add_39 : decode b_T_add 39 = .ok (.iload 5, 2) := by decide +kernel
theorem d_T_add_41 : decode b_T_add 41 = .ok (.iastore, 1) := by decide +kernel
theorem d_T_add_42 : decode b_T_add 42 = .ok (.aload_n 0, 1) := by decide +kernel
theorem d_T_add_43 : decode b_T_add 43 = .ok (.getfield 25, 3) := by decide +kernel
theorem d_T_add_46 : decode b_T_add 46 = .ok (.aload_n 0, 1) := by decide +kernel
theorem d_T_add_47 : decode b_T_add 47 = .ok (.getfield 28, 3) := by decide +kernel
theorem d_T_add_50 : decode b_T_add 50 = .ok (.iconst (-1), 1) := by decide +kernel
theorem d_T_add_51 : decode b_T_add 51 = .ok (.iastore, 1) := by decide +kernel
theorem d_T_add_52 : decode b_T_add 52 = .ok (.aload_n 0, 1) := by decide +kernel
theorem d_T_add_53 : decode b_T_add 53 = .ok (.dup, 1) := by decide +kernel
theorem d_T_add_54 : decode b_T_add 54 = .ok (.getfield 28, 3) := by decide +kernel
theorem d_T_add_57 : decode b_T_add 57 = .ok (.iconst 1, 1) := by decide +kernel
theorem d_T_add_58 : decode b_T_add 58 = .ok (.iadd, 1) := by decide +kernel
theorem d_T_add_59 : decode b_T_add 59 = .ok (.putfield 28, 3) := by decide +kernel
theorem d_T_add_62 : decode b_T_add 62 = .ok (.return_, 1) := by decide +kernel
theorem d_K_run_0 : decode b_K_run 0 = .ok (.aload_n 0, 1) := by decide +kernel
theorem d_K_run_1 : decode b_K_run 1 = .ok (.getfield 25, 3) := by decide +kernel
theorem d_K_run_4 : decode b_K_run 4 = .ok (.getfield 111, 3) := by decide +kernel
theorem d_K_run_7 : decode b_K_run 7 = .ok (.ifCond .ne 5, 3) := by decide +kernel
theorem d_K_run_10 : decode b_K_run 10 = .ok (.iconst (-1), 1) := by decide +kernel
theorem d_K_run_11 : decode b_K_run 11 = .ok (.ireturn, 1) := by decide +kernel
theorem d_K_run_12 : decode b_K_run 12 = .ok (.aload_n 0, 1) := by decide +kernel
theorem d_K_run_13 : decode b_K_run 13 = .ok (.getfield 47, 3) := by decide +kernel
theorem d_K_run_16 : decode b_K_run 16 = .ok (.aload_n 0, 1) := by decide +kernel
theorem d_K_run_17 : decode b_K_run 17 = .ok (.getfield 25, 3) := by decide +kernel
theorem d_K_run_20 : decode b_K_run 20 = .ok (.aload_n 0, 1) := by decide +kernel
theorem d_K_run_21 : decode b_K_run 21 = .ok (.getfield 34, 3) := by decide +kernel
theorem d_K_run_24 : decode b_K_run 24 = .ok (.iconst (-1), 1) := by decide +kernel
theorem d_K_run_25 : decode b_K_run 25 = .ok (.invokevirtual 114, 3) := by decide +kernel
theorem d_K_run_28 : decode b_K_run 28 = .ok (.aload_n 0, 1) := by decide +kernel
theorem d_K_run_29 : decode b_K_run 29 = .ok (.getfield 54, 3) := by decide +kernel
theorem d_K_run_32 : decode b_K_run 32 = .ok (.aload_n 0, 1) := by decide +kernel
theorem d_K_run_33 : decode b_K_run 33 = .ok (.getfield 25, 3) := by decide +kernel
theorem d_K_run_36 : decode b_K_run 36 = .ok (.aload_n 0, 1) := by decide +kernel
theorem d_K_run_37 : decode b_K_run 37 = .ok (.getfield 34, 3) := by decide +kernel
theorem d_K_run_40 : decode b_K_run 40 = .ok (.aload_n 0, 1) := by decide +kernel
theorem d_K_run_41 : decode b_K_run 41 = .ok (.getfield 47, 3) := by decide +kernel
theorem d_K_run_44 : decode b_K_run 44 = .ok (.invokevirtual 118, 3) := by decide +kernel
theorem d_K_run_47 : decode b_K_run 47 = .ok (.aload_n 0, 1) := by decide +kernel
theorem d_K_run_48 : decode b_K_run 48 = .ok (.getfield 54, 3) := by decide +kernel
theorem d_K_run_51 : decode b_K_run 51 = .ok (.getfield 122, 3) := by decide +kernel
theorem d_K_run_54 : decode b_K_run 54 = .ok (.ireturn, 1) := by decide +kernel
theorem d_F_find_0 : decode b_F_find 0 = .ok (.aload_n 1, 1) := by decide +kernel
theorem d_F_find_1 : decode b_F_find 1 = .ok (.getfield 36, 3) := by decide +kernel
theorem d_F_find_4 : decode b_F_find 4 = .ok (.iconst 1, 1) := by decide +kernel
theorem d_F_find_5 : decode b_F_find 5 = .ok (.isub, 1) := by decide +kernel
theorem d_F_find_6 : decode b_F_find 6 = .ok (.istore 4, 2) := by decide +kernel
theorem d_F_find_8 : decode b_F_find 8 = .ok (.iload 4, 2) := by decide +kernel
theorem d_F_find_10 : decode b_F_find 10 = .ok (.ifCond .lt 18, 3) := by decide +kernel
theorem d_F_find_13 : decode b_F_find 13 = .ok (.aload_n 0, 1) := by decide +kernel
theorem d_F_find_14 : decode b_F_find 14 = .ok (.aload_n 1, 1) := by decide +kernel
theorem d_F_find_15 : decode b_F_find 15 = .ok (.aload_n 2, 1) := by decide +kernel
theorem d_F_find_16 : decode b_F_find 16 = .ok (.iload 4, 2) := by decide +kernel
theorem d_F_find_18 : decode b_F_find 18 = .ok (.iload_n 3, 1) := by decide +kernel
theorem d_F_find_19 : decode b_F_find 19 = .ok (.invokevirtual 41, 3) := by decide +kernel
theorem d_F_find_22 : decode b_F_find 22 = .ok (.iinc 4 (-1), 3) := by decide +kernel
theorem d_F_find_25 : decode b_F_find 25 = .ok (.goto (-17), 3) := by decide +kernel
theorem d_F_find_28 : decode b_F_find 28 = .ok (.aload_n 0, 1) := by decide +kernel
theorem d_F_find_29 : decode b_F_find 29 = .ok (.getfield 9, 3) := by decide +kernel
theorem d_F_find_32 : decode b_F_find 32 = .ok (.iconst 0, 1) := by decide +kernel
theorem d_F_find_33 : decode b_F_find 33 = .ok (.aload_n 0, 1) := by decide +kernel
theorem d_F_find_34 : decode b_F_find 34 = .ok (.aload_n 0, 1) := by decide +kernel
theorem d_F_find_35 : decode b_F_find 35 = .ok (.getfield 27, 3) := by decide +kernel
theorem d_F_find_38 : decode b_F_find 38 = .ok (.aload_n 0, 1) := by decide +kernel
theorem d_F_find_39 : decode b_F_find 39 = .ok (.getfield 24, 3) := by decide +kernel
theorem d_F_find_42 : decode b_F_find 42 = .ok (.iconst 0, 1) := by decide +kernel
theorem d_F_find_43 : decode b_F_find 43 = .ok (.aaload, 1) := by decide +kernel
theorem d_F_find_44 : decode b_F_find 44 = .ok (.invokevirtual 45, 3) := by decide +kernel
theorem d_F_find_47 : decode b_F_find 47 = .ok (.iastore, 1) := by decide +kernel
theorem d_F_find_48 : decode b_F_find 48 = .ok (.aload_n 0, 1) := by decide +kernel
theorem d_F_find_49 : decode b_F_find 49 = .ok (.aload_n 0, 1) := by decide +kernel
theorem d_F_find_50 : decode b_F_find 50 = .ok (.getfield 24, 3) := by decide +kernel
theorem d_F_find_53 : decode b_F_find 53 = .ok (.iconst 0, 1) := by decide +kernel
theorem d_F_find_54 : decode b_F_find 54 = .ok (.aaload, 1) := by decide +kernel
theorem d_F_find_55 : decode b_F_find 55 = .ok (.aload_n 0, 1) := by decide +kernel
theorem d_F_find_56 : decode b_F_find 56 = .ok (.getfield 9, 3) := by decide +kernel
theorem d_F_find_59 : decode b_F_find 59 = .ok (.iconst 0, 1) := by decide +kernel
theorem d_F_find_60 : decode b_F_find 60 = .ok (.iaload, 1) := by decide +kernel
theorem d_F_find_61 : decode b_F_find 61 = .ok (.iaload, 1) := by decide +kernel
theorem d_F_find_62 : decode b_F_find 62 = .ok (.putfield 15, 3) := by decide +kernel
theorem d_F_find_65 : decode b_F_find 65 = .ok (.iconst 1, 1) := by decide +kernel
theorem d_F_find_66 : decode b_F_find 66 = .ok (.istore 4, 2) := by decide +kernel
theorem d_F_find_68 : decode b_F_find 68 = .ok (.iload 4, 2) := by decide +kernel
theorem d_F_find_70 : decode b_F_find 70 = .ok (.aload_n 1, 1) := by decide +kernel
theorem d_F_find_71 : decode b_F_find 71 = .ok (.getfield 36, 3) := by decide +kernel
theorem d_F_find_74 : decode b_F_find 74 = .ok (.if_icmp .ge 41, 3) := by decide +kernel
theorem d_F_find_77 : decode b_F_find 77 = .ok (.aload_n 0, 1) := by decide +kernel
theorem d_F_find_78 : decode b_F_find 78 = .ok (.getfield 9, 3) := by decide +kernel
theorem d_F_find_81 : decode b_F_find 81 = .ok (.iload 4, 2) := by decide +kernel
theorem d_F_find_83 : decode b_F_find 83 = .ok (.aload_n 0, 1) := by decide +kernel
theorem d_F_find_84 : decode b_F_find 84 = .ok (.aload_n 2, 1) := by decide +kernel
theorem d_F_find_85 : decode b_F_find 85 = .ok (.getfield 49, 3) := by decide +kernel
theorem d_F_find_88 : decode b_F_find 88 = .ok (.aload_n 0, 1) := by decide +kernel
theorem d_F_find_89 : decode b_F_find 89 = .ok (.getfield 9, 3) := by decide +kernel
theorem d_F_find_92 : decode b_F_find 92 = .ok (.iload 4, 2) := by decide +kernel
theorem d_F_find_94 : decode b_F_find 94 = .ok (.iconst 1, 1) := by decide +kernel
theorem d_F_find_95 : decode b_F_find 95 = .ok (.isub, 1) := by decide +kernel
theorem d_F_find_96 : decode b_F_find 96 = .ok (.iaload, 1) := by decide +kernel
theorem d_F_find_97 : decode b_F_find 97 = .ok (.aaload, 1) := by decide +kernel
theorem d_F_find_98 : decode b_F_find 98 = .ok (.aload_n 0, 1) := by decide +kernel
theorem d_F_find_99 : decode b_F_find 99 = .ok (.getfield 24, 3) := by decide +kernel
theorem d_F_find_102 : decode b_F_find 102 = .ok (.iload 4, 2) := by decide +kernel
theorem d_F_find_104 : decode b_F_find 104 = .ok (.aaload, 1) := by decide +kernel
theorem d_F_find_105 : decode b_F_find 105 = .ok (.invokevirtual 45, 3) := by decide +kernel
theorem d_F_find_108 : decode b_F_find 108 = .ok (.iastore, 1) := by decide +kernel
theorem d_F_find_109 : decode b_F_find 109 = .ok (.iinc 4 1, 3) := by decide +kernel
theorem d_F_find_112 : decode b_F_find 112 = .ok (.goto (-44), 3) := by decide +kernel
theorem d_F_find_115 : decode b_F_find 115 = .ok (.return_, 1) := by decide +kernel
theorem d_F_fillToGo_0 : decode b_F_fillToGo 0 = .ok (.aload_n 1, 1) := by decide +kernel
theorem d_F_fillToGo_1 : decode b_F_fillToGo 1 = .ok (.getfield 71, 3) := by decide +kernel
theorem d_F_fillToGo_4 : decode b_F_fillToGo 4 = .ok (.iload_n 3, 1) := by decide +kernel
theorem d_F_fillToGo_5 : decode b_F_fillToGo 5 = .ok (.iaload, 1) := by decide +kernel
theorem d_F_fillToGo_6 : decode b_F_fillToGo 6 = .ok (.istore 5, 2) := by decide +kernel
theorem d_F_fillToGo_8 : decode b_F_fillToGo 8 = .ok (.iconst 0, 1) := by decide +kernel
theorem d_F_fillToGo_9 : decode b_F_fillToGo 9 = .ok (.istore 6, 2) := by decide +kernel
theorem d_F_fillToGo_11 : decode b_F_fillToGo 11 = .ok (.iload 6, 2) := by decide +kernel
theorem d_F_fillToGo_13 : decode b_F_fillToGo 13 = .ok (.aload_n 0, 1) := by decide +kernel
theorem d_F_fillToGo_14 : decode b_F_fillToGo 14 = .ok (.getfield 19, 3) := by decide +kernel
theorem d_F_fillToGo_17 : decode b_F_fillToGo 17 = .ok (.if_icmp .ge 129, 3) := by decide +kernel
theorem d_F_fillToGo_20 : decode b_F_fillToGo 20 = .ok (.aload_n 1, 1) := by decide +kernel
theorem d_F_fillToGo_21 : decode b_F_fillToGo 21 = .ok (.iload_n 3, 1) := by decide +kernel
theorem d_F_fillToGo_22 : decode b_F_fillToGo 22 = .ok (.iload 6, 2) := by decide +kernel
theorem d_F_fillToGo_24 : decode b_F_fillToGo 24 = .ok (.iload 4, 2) := by decide +kernel
theorem d_F_fillToGo_26 : decode b_F_fillToGo 26 = .ok (.invokevirtual 74, 3) := by decide +kernel
theorem d_F_fillToGo_29 : decode b_F_fillToGo 29 = .ok (.ifCond .ne 17, 3) := by decide +kernel
theorem d_F_fillToGo_32 : decode b_F_fillToGo 32 = .ok (.aload_n 0, 1) := by decide +kernel
theorem d_F_fillToGo_33 : decode b_F_fillToGo 33 = .ok (.getfield 24, 3) := by decide +kernel
theorem d_F_fillToGo_36 : decode b_F_fillToGo 36 = .ok (.iload_n 3, 1) := by decide +kernel
theorem d_F_fillToGo_37 : decode b_F_fillToGo 37 = .ok (.aaload, 1) := by decide +kernel
theorem d_F_fillToGo_38 : decode b_F_fillToGo 38 = .ok (.iload 6, 2) := by decide +kernel
theorem d_F_fillToGo_40 : decode b_F_fillToGo 40 = .ok (.ldc 78, 2) := by decide +kernel
theorem d_F_fillToGo_42 : decode b_F_fillToGo 42 = .ok (.iastore, 1) := by decide +kernel
theorem d_F_fillToGo_43 : decode b_F_fillToGo 43 = .ok (.goto 97, 3) := by decide +kernel
theorem d_F_fillToGo_46 : decode b_F_fillToGo 46 = .ok (.iload_n 3, 1) := by decide +kernel
theorem d_F_fillToGo_47 : decode b_F_fillToGo 47 = .ok (.aload_n 1, 1) := by decide +kernel
theorem d_F_fillToGo_48 : decode b_F_fillToGo 48 = .ok (.getfield 36, 3) := by decide +kernel
theorem d_F_fillToGo_51 : decode b_F_fillToGo 51 = .ok (.iconst 1, 1) := by decide +kernel
theorem d_F_fillToGo_52 : decode b_F_fillToGo 52 = .ok (.isub, 1) := by decide +kernel
theorem d_F_fillToGo_53 : decode b_F_fillToGo 53 = .ok (.if_icmp .ne 25, 3) := by decide +kernel
theorem d_F_fillToGo_56 : decode b_F_fillToGo 56 = .ok (.aload_n 0, 1) := by decide +kernel
theorem d_F_fillToGo_57 : decode b_F_fillToGo 57 = .ok (.getfield 24, 3) := by decide +kernel
theorem d_F_fillToGo_60 : decode b_F_fillToGo 60 = .ok (.iload_n 3, 1) := by decide +kernel
theorem d_F_fillToGo_61 : decode b_F_fillToGo 61 = .ok (.aaload, 1) := by decide +kernel
theorem d_F_fillToGo_62 : decode b_F_fillToGo 62 = .ok (.iload 6, 2) := by decide +kernel
theorem d_F_fillToGo_64 : decode b_F_fillToGo 64 = .ok (.aload_n 2, 1) := by decide +kernel
theorem d_F_fillToGo_65 : decode b_F_fillToGo 65 = .ok (.getfield 79, 3) := by decide +kernel
theorem d_F_fillToGo_68 : decode b_F_fillToGo 68 = .ok (.iload 6, 2) := by decide +kernel
theorem d_F_fillToGo_70 : decode b_F_fillToGo 70 = .ok (.aaload, 1) := by decide +kernel
theorem d_F_fillToGo_71 : decode b_F_fillToGo 71 = .ok (.iload 5, 2) := by decide +kernel
theorem d_F_fillToGo_73 : decode b_F_fillToGo 73 = .ok (.iaload, 1) := by decide +kernel
theorem d_F_fillToGo_74 : decode b_F_fillToGo 74 = .ok (.iastore, 1) := by decide +kernel
theorem d_F_fillToGo_75 : decode b_F_fillToGo 75 = .ok (.goto 65, 3) := by decide +kernel
theorem d_F_fillToGo_78 : decode b_F_fillToGo 78 = .ok (.aload_n 2, 1) := by decide +kernel
theorem d_F_fillToGo_79 : decode b_F_fillToGo 79 = .ok (.getfield 49, 3) := by decide +kernel
theorem d_F_fillToGo_82 : decode b_F_fillToGo 82 = .ok (.iload 6, 2) := by decide +kernel
theorem d_F_fillToGo_84 : decode b_F_fillToGo 84 = .ok (.aaload, 1) := by decide +kernel
theorem d_F_fillToGo_85 : decode b_F_fillToGo 85 = .ok (.astore 7, 2) := by decide +kernel
theorem d_F_fillToGo_87 : decode b_F_fillToGo 87 = .ok (.aload_n 0, 1) := by decide +kernel
theorem d_F_fillToGo_88 : decode b_F_fillToGo 88 = .ok (.aload 7, 2) := by decide +kernel
theorem d_F_fillToGo_90 : decode b_F_fillToGo 90 = .ok (.aload_n 0, 1) := by decide +kernel
theorem d_F_fillToGo_91 : decode b_F_fillToGo 91 = .ok (.getfield 24, 3) := by decide +kernel
theorem d_F_fillToGo_94 : decode b_F_fillToGo 94 = .ok (.iload_n 3, 1) := by decide +kernel
theorem d_F_fillToGo_95 : decode b_F_fillToGo 95 = .ok (.iconst 1, 1) := by decide +kernel
theorem d_F_fillToGo_96 : decode b_F_fillToGo 96 = .ok (.iadd, 1) := by decide +kernel
theorem d_F_fillToGo_97 : decode b_F_fillToGo 97 = .ok (.aaload, 1) := by decide +kernel
theorem d_F_fillToGo_98 : decode b_F_fillToGo 98 = .ok (.invokevirtual 45, 3) := by decide +kernel
theorem d_F_fillToGo_101 : decode b_F_fillToGo 101 = .ok (.istore 8, 2) := by decide +kernel
theorem d_F_fillToGo_103 : decode b_F_fillToGo 103 = .ok (.aload_n 0, 1) := by decide +kernel
theorem d_F_fillToGo_104 : decode b_F_fillToGo 104 = .ok (.getfield 24, 3) := by decide +kernel
theorem d_F_fillToGo_107 : decode b_F_fillToGo 107 = .ok (.iload_n 3, 1) := by decide +kernel
theorem d_F_fillToGo_108 : decode b_F_fillToGo 108 = .ok (.aaload, 1) := by decide +kernel
theorem d_F_fillToGo_109 : decode b_F_fillToGo 109 = .ok (.iload 6, 2) := by decide +kernel
theorem d_F_fillToGo_111 : decode b_F_fillToGo 111 = .ok (.aload_n 2, 1) := by decide +kernel
theorem d_F_fillToGo_112 : decode b_F_fillToGo 112 = .ok (.getfield 79, 3) := by decide +kernel
theorem d_F_fillToGo_115 : decode b_F_fillToGo 115 = .ok (.iload 6, 2) := by decide +kernel
theorem d_F_fillToGo_117 : decode b_F_fillToGo 117 = .ok (.aaload, 1) := by decide +kernel
theorem d_F_fillToGo_118 : decode b_F_fillToGo 118 = .ok (.iload 5, 2) := by decide +kernel
theorem d_F_fillToGo_120 : decode b_F_fillToGo 120 = .ok (.iaload, 1) := by decide +kernel
theorem d_F_fillToGo_121 : decode b_F_fillToGo 121 = .ok (.aload 7, 2) := by decide +kernel
theorem d_F_fillToGo_123 : decode b_F_fillToGo 123 = .ok (.iload 8, 2) := by decide +kernel
theorem d_F_fillToGo_125 : decode b_F_fillToGo 125 = .ok (.iaload, 1) := by decide +kernel
theorem d_F_fillToGo_126 : decode b_F_fillToGo 126 = .ok (.iadd, 1) := by decide +kernel
theorem d_F_fillToGo_127 : decode b_F_fillToGo 127 = .ok (.aload_n 0, 1) := by decide +kernel
theorem d_F_fillToGo_128 : decode b_F_fillToGo 128 = .ok (.getfield 24, 3) := by decide +kernel
theorem d_F_fillToGo_131 : decode b_F_fillToGo 131 = .ok (.iload_n 3, 1) := by decide +kernel
theorem d_F_fillToGo_132 : decode b_F_fillToGo 132 = .ok (.iconst 1, 1) := by decide +kernel
theorem d_F_fillToGo_133 : decode b_F_fillToGo 133 = .ok (.iadd, 1) := by decide +kernel
theorem d_F_fillToGo_134 : decode b_F_fillToGo 134 = .ok (.aaload, 1) := by decide +kernel
theorem d_F_fillToGo_135 : decode b_F_fillToGo 135 = .ok (.iload 8, 2) := by decide +kernel
theorem d_F_fillToGo_137 : decode b_F_fillToGo 137 = .ok (.iaload, 1) := by decide +kernel
theorem d_F_fillToGo_138 : decode b_F_fillToGo 138 = .ok (.iadd, 1) := by decide +kernel
theorem d_F_fillToGo_139 : decode b_F_fillToGo 139 = .ok (.iastore, 1) := by decide +kernel
theorem d_F_fillToGo_140 : decode b_F_fillToGo 140 = .ok (.iinc 6 1, 3) := by decide +kernel
theorem d_F_fillToGo_143 : decode b_F_fillToGo 143 = .ok (.goto (-132), 3) := by decide +kernel
theorem d_F_fillToGo_146 : decode b_F_fillToGo 146 = .ok (.return_, 1) := by decide +kernel
theorem d_T_allows_0 : decode b_T_allows 0 = .ok (.aload_n 0, 1) := by decide +kernel
theorem d_T_allows_1 : decode b_T_allows 1 = .ok (.getfield 25, 3) := by decide +kernel
theorem d_T_allows_4 : decode b_T_allows 4 = .ok (.iload_n 1, 1) := by decide +kernel
theorem d_T_allows_5 : decode b_T_allows 5 = .ok (.iaload, 1) := by decide +kernel
theorem d_T_allows_6 : decode b_T_allows 6 = .ok (.iconst (-1), 1) := by decide +kernel
theorem d_T_allows_7 : decode b_T_allows 7 = .ok (.if_icmp .eq 23, 3) := by decide +kernel
theorem d_T_allows_10 : decode b_T_allows 10 = .ok (.aload_n 0, 1) := by decide +kernel
theorem d_T_allows_11 : decode b_T_allows 11 = .ok (.getfield 25, 3) := by decide +kernel
theorem d_T_allows_14 : decode b_T_allows 14 = .ok (.iload_n 1, 1) := by decide +kernel
theorem d_T_allows_15 : decode b_T_allows 15 = .ok (.iaload, 1) := by decide +kernel
theorem d_T_allows_16 : decode b_T_allows 16 = .ok (.iload_n 2, 1) := by decide +kernel
theorem d_T_allows_17 : decode b_T_allows 17 = .ok (.if_icmp .eq 13, 3) := by decide +kernel
theorem d_T_allows_20 : decode b_T_allows 20 = .ok (.aload_n 0, 1) := by decide +kernel
theorem d_T_allows_21 : decode b_T_allows 21 = .ok (.getfield 22, 3) := by decide +kernel
theorem d_T_allows_24 : decode b_T_allows 24 = .ok (.iload_n 1, 1) := by decide +kernel
theorem d_T_allows_25 : decode b_T_allows 25 = .ok (.iaload, 1) := by decide +kernel
theorem d_T_allows_26 : decode b_T_allows 26 = .ok (.iload_n 3, 1) := by decide +kernel
theorem d_T_allows_27 : decode b_T_allows 27 = .ok (.if_icmp .ne 7, 3) := by decide +kernel
theorem d_T_allows_30 : decode b_T_allows 30 = .ok (.iconst 1, 1) := by decide +kernel
theorem d_T_allows_31 : decode b_T_allows 31 = .ok (.goto 4, 3) := by decide +kernel
theorem d_T_allows_34 : decode b_T_allows 34 = .ok (.iconst 0, 1) := by decide +kernel
theorem d_T_allows_35 : decode b_T_allows 35 = .ok (.ireturn, 1) := by decide +kernel
theorem d_F_cheapest_0 : decode b_F_cheapest 0 = .ok (.iconst 0, 1) := by decide +kernel
theorem d_F_cheapest_1 : decode b_F_cheapest 1 = .ok (.istore_n 3, 1) := by decide +kernel
theorem d_F_cheapest_2 : decode b_F_cheapest 2 = .ok (.aload_n 1, 1) := by decide +kernel
theorem d_F_cheapest_3 : decode b_F_cheapest 3 = .ok (.iconst 0, 1) := by decide +kernel
theorem d_F_cheapest_4 : decode b_F_cheapest 4 = .ok (.iaload, 1) := by decide +kernel
theorem d_F_cheapest_5 : decode b_F_cheapest 5 = .ok (.aload_n 2, 1) := by decide +kernel
theorem d_F_cheapest_6 : decode b_F_cheapest 6 = .ok (.iconst 0, 1) := by decide +kernel
theorem d_F_cheapest_7 : decode b_F_cheapest 7 = .ok (.iaload, 1) := by decide +kernel
theorem d_F_cheapest_8 : decode b_F_cheapest 8 = .ok (.iadd, 1) := by decide +kernel
theorem d_F_cheapest_9 : decode b_F_cheapest 9 = .ok (.istore 4, 2) := by decide +kernel
theorem d_F_cheapest_11 : decode b_F_cheapest 11 = .ok (.iconst 1, 1) := by decide +kernel
theorem d_F_cheapest_12 : decode b_F_cheapest 12 = .ok (.istore 5, 2) := by decide +kernel
theorem d_F_cheapest_14 : decode b_F_cheapest 14 = .ok (.iload 5, 2) := by decide +kernel
theorem d_F_cheapest_16 : decode b_F_cheapest 16 = .ok (.aload_n 0, 1) := by decide +kernel
theorem d_F_cheapest_17 : decode b_F_cheapest 17 = .ok (.getfield 19, 3) := by decide +kernel
theorem d_F_cheapest_20 : decode b_F_cheapest 20 = .ok (.if_icmp .ge 34, 3) := by decide +kernel
theorem d_F_cheapest_23 : decode b_F_cheapest 23 = .ok (.aload_n 1, 1) := by decide +kernel
theorem d_F_cheapest_24 : decode b_F_cheapest 24 = .ok (.iload 5, 2) := by decide +kernel
theorem d_F_cheapest_26 : decode b_F_cheapest 26 = .ok (.iaload, 1) := by decide +kernel
theorem d_F_cheapest_27 : decode b_F_cheapest 27 = .ok (.aload_n 2, 1) := by decide +kernel
theorem d_F_cheapest_28 : decode b_F_cheapest 28 = .ok (.iload 5, 2) := by decide +kernel
theorem d_F_cheapest_30 : decode b_F_cheapest 30 = .ok (.iaload, 1) := by decide +kernel
theorem d_F_cheapest_31 : decode b_F_cheapest 31 = .ok (.iadd, 1) := by decide +kernel
theorem d_F_cheapest_32 : decode b_F_cheapest 32 = .ok (.istore 6, 2) := by decide +kernel
theorem d_F_cheapest_34 : decode b_F_cheapest 34 = .ok (.iload 6, 2) := by decide +kernel
theorem d_F_cheapest_36 : decode b_F_cheapest 36 = .ok (.iload 4, 2) := by decide +kernel
theorem d_F_cheapest_38 : decode b_F_cheapest 38 = .ok (.if_icmp .ge 10, 3) := by decide +kernel
theorem d_F_cheapest_41 : decode b_F_cheapest 41 = .ok (.iload 6, 2) := by decide +kernel
theorem d_F_cheapest_43 : decode b_F_cheapest 43 = .ok (.istore 4, 2) := by decide +kernel
theorem d_F_cheapest_45 : decode b_F_cheapest 45 = .ok (.iload 5, 2) := by decide +kernel
theorem d_F_cheapest_47 : decode b_F_cheapest 47 = .ok (.istore_n 3, 1) := by decide +kernel
theorem d_F_cheapest_48 : decode b_F_cheapest 48 = .ok (.iinc 5 1, 3) := by decide +kernel
theorem d_F_cheapest_51 : decode b_F_cheapest 51 = .ok (.goto (-37), 3) := by decide +kernel
theorem d_F_cheapest_54 : decode b_F_cheapest 54 = .ok (.iload_n 3, 1) := by decide +kernel
theorem d_F_cheapest_55 : decode b_F_cheapest 55 = .ok (.ireturn, 1) := by decide +kernel
theorem d_N_takeOver_0 : decode b_N_takeOver 0 = .ok (.aload_n 0, 1) := by decide +kernel
theorem d_N_takeOver_1 : decode b_N_takeOver 1 = .ok (.aload_n 1, 1) := by decide +kernel
theorem d_N_takeOver_2 : decode b_N_takeOver 2 = .ok (.getfield 25, 3) := by decide +kernel
theorem d_N_takeOver_5 : decode b_N_takeOver 5 = .ok (.putfield 18, 3) := by decide +kernel
theorem d_N_takeOver_8 : decode b_N_takeOver 8 = .ok (.aload_n 0, 1) := by decide +kernel
theorem d_N_takeOver_9 : decode b_N_takeOver 9 = .ok (.aload_n 3, 1) := by decide +kernel
theorem d_N_takeOver_10 : decode b_N_takeOver 10 = .ok (.getfield 28, 3) := by decide +kernel
theorem d_N_takeOver_13 : decode b_N_takeOver 13 = .ok (.putfield 22, 3) := by decide +kernel
theorem d_N_takeOver_16 : decode b_N_takeOver 16 = .ok (.aload_n 3, 1) := by decide +kernel
theorem d_N_takeOver_17 : decode b_N_takeOver 17 = .ok (.getfield 31, 3) := by decide +kernel
theorem d_N_takeOver_20 : decode b_N_takeOver 20 = .ok (.iconst 0, 1) := by decide +kernel
theorem d_N_takeOver_21 : decode b_N_takeOver 21 = .ok (.aload_n 0, 1) := by decide +kernel
theorem d_N_takeOver_22 : decode b_N_takeOver 22 = .ok (.getfield 9, 3) := by decide +kernel
theorem d_N_takeOver_25 : decode b_N_takeOver 25 = .ok (.iconst 0, 1) := by decide +kernel
theorem d_N_takeOver_26 : decode b_N_takeOver 26 = .ok (.aload_n 0, 1) := by decide +kernel
theorem d_N_takeOver_27 : decode b_N_takeOver 27 = .ok (.getfield 18, 3) := by decide +kernel
theorem d_N_takeOver_30 : decode b_N_takeOver 30 = .ok (.invokestatic 32, 3) := by decide +kernel
theorem d_N_takeOver_33 : decode b_N_takeOver 33 = .ok (.aload_n 3, 1) := by decide +kernel
theorem d_N_takeOver_34 : decode b_N_takeOver 34 = .ok (.aload_n 1, 1) := by decide +kernel
theorem d_N_takeOver_35 : decode b_N_takeOver 35 = .ok (.aload_n 2, 1) := by decide +kernel
theorem d_N_takeOver_36 : decode b_N_takeOver 36 = .ok (.aload_n 0, 1) := by decide +kernel
theorem d_N_takeOver_37 : decode b_N_takeOver 37 = .ok (.getfield 15, 3) := by decide +kernel
theorem d_N_takeOver_40 : decode b_N_takeOver 40 = .ok (.invokevirtual 38, 3) := by decide +kernel
theorem d_N_takeOver_43 : decode b_N_takeOver 43 = .ok (.return_, 1) := by decide +kernel
theorem d_F_fillNextCosts_0 : decode b_F_fillNextCosts 0 = .ok (.aload_n 0, 1) := by decide +kernel
theorem d_F_fillNextCosts_1 : decode b_F_fillNextCosts 1 = .ok (.getfield 30, 3) := by decide +kernel
theorem d_F_fillNextCosts_4 : decode b_F_fillNextCosts 4 = .ok (.iconst 0, 1) := by decide +kernel
theorem d_F_fillNextCosts_5 : decode b_F_fillNextCosts 5 = .ok (.invokestatic 54, 3) := by decide +kernel
theorem d_F_fillNextCosts_8 : decode b_F_fillNextCosts 8 = .ok (.iconst 0, 1) := by decide +kernel
theorem d_F_fillNextCosts_9 : decode b_F_fillNextCosts 9 = .ok (.istore 4, 2) := by decide +kernel
theorem d_F_fillNextCosts_11 : decode b_F_fillNextCosts 11 = .ok (.iload 4, 2) := by decide +kernel
theorem d_F_fillNextCosts_13 : decode b_F_fillNextCosts 13 = .ok (.aload_n 1, 1) := by decide +kernel
theorem d_F_fillNextCosts_14 : decode b_F_fillNextCosts 14 = .ok (.getfield 36, 3) := by decide +kernel
theorem d_F_fillNextCosts_17 : decode b_F_fillNextCosts 17 = .ok (.if_icmp .ge 74, 3) := by decide +kernel
theorem d_F_fillNextCosts_20 : decode b_F_fillNextCosts 20 = .ok (.aload_n 0, 1) := by decide +kernel
theorem d_F_fillNextCosts_21 : decode b_F_fillNextCosts 21 = .ok (.getfield 19, 3) := by decide +kernel
theorem d_F_fillNextCosts_24 : decode b_F_fillNextCosts 24 = .ok (.iconst 1, 1) := by decide +kernel
theorem d_F_fillNextCosts_25 : decode b_F_fillNextCosts 25 = .ok (.if_icmp .le 18, 3) := by decide +kernel
theorem d_F_fillNextCosts_28 : decode b_F_fillNextCosts 28 = .ok (.aload_n 1, 1) := by decide +kernel
theorem d_F_fillNextCosts_29 : decode b_F_fillNextCosts 29 = .ok (.getfield 60, 3) := by decide +kernel
theorem d_F_fillNextCosts_32 : decode b_F_fillNextCosts 32 = .ok (.iload 4, 2) := by decide +kernel
theorem d_F_fillNextCosts_34 : decode b_F_fillNextCosts 34 = .ok (.iaload, 1) := by decide +kernel
theorem d_F_fillNextCosts_35 : decode b_F_fillNextCosts 35 = .ok (.iconst (-1), 1) := by decide +kernel
theorem d_F_fillNextCosts_36 : decode b_F_fillNextCosts 36 = .ok (.if_icmp .ne 7, 3) := by decide +kernel
theorem d_F_fillNextCosts_39 : decode b_F_fillNextCosts 39 = .ok (.iconst 1, 1) := by decide +kernel
theorem d_F_fillNextCosts_40 : decode b_F_fillNextCosts 40 = .ok (.goto 4, 3) := by decide +kernel
theorem d_F_fillNextCosts_43 : decode b_F_fillNextCosts 43 = .ok (.iconst 0, 1) := by decide +kernel
theorem d_F_fillNextCosts_44 : decode b_F_fillNextCosts 44 = .ok (.istore 5, 2) := by decide +kernel
theorem d_F_fillNextCosts_46 : decode b_F_fillNextCosts 46 = .ok (.aload_n 3, 1) := by decide +kernel
theorem d_F_fillNextCosts_47 : decode b_F_fillNextCosts 47 = .ok (.iload 4, 2) := by decide +kernel
theorem d_F_fillNextCosts_49 : decode b_F_fillNextCosts 49 = .ok (.iload 5, 2) := by decide +kernel
theorem d_F_fillNextCosts_51 : decode b_F_fillNextCosts 51 = .ok (.ifCond .eq 24, 3) := by decide +kernel
theorem d_F_fillNextCosts_54 : decode b_F_fillNextCosts 54 = .ok (.aload_n 0, 1) := by decide +kernel
theorem d_F_fillNextCosts_55 : decode b_F_fillNextCosts 55 = .ok (.aload_n 0, 1) := by decide +kernel
theorem d_F_fillNextCosts_56 : decode b_F_fillNextCosts 56 = .ok (.getfield 9, 3) := by decide +kernel
theorem d_F_fillNextCosts_59 : decode b_F_fillNextCosts 59 = .ok (.iload 4, 2) := by decide +kernel
theorem d_F_fillNextCosts_61 : decode b_F_fillNextCosts 61 = .ok (.iaload, 1) := by decide +kernel
theorem d_F_fillNextCosts_62 : decode b_F_fillNextCosts 62 = .ok (.aload_n 0, 1) := by decide +kernel
theorem d_F_fillNextCosts_63 : decode b_F_fillNextCosts 63 = .ok (.getfield 24, 3) := by decide +kernel
theorem d_F_fillNextCosts_66 : decode b_F_fillNextCosts 66 = .ok (.iload 4, 2) := by decide +kernel
theorem d_F_fillNextCosts_68 : decode b_F_fillNextCosts 68 = .ok (.aaload, 1) := by decide +kernel
theorem d_F_fillNextCosts_69 : decode b_F_fillNextCosts 69 = .ok (.invokevirtual 63, 3) := by decide +kernel
theorem d_F_fillNextCosts_72 : decode b_F_fillNextCosts 72 = .ok (.goto 4, 3) := by decide +kernel
theorem d_F_fillNextCosts_75 : decode b_F_fillNextCosts 75 = .ok (.iconst (-1), 1) := by decide +kernel
theorem d_F_fillNextCosts_76 : decode b_F_fillNextCosts 76 = .ok (.iastore, 1) := by decide +kernel
theorem d_F_fillNextCosts_77 : decode b_F_fillNextCosts 77 = .ok (.aload_n 0, 1) := by decide +kernel
theorem d_F_fillNextCosts_78 : decode b_F_fillNextCosts 78 = .ok (.aload_n 1, 1) := by decide +kernel
theorem d_F_fillNextCosts_79 : decode b_F_fillNextCosts 79 = .ok (.aload_n 2, 1) := by decide +kernel
theorem d_F_fillNextCosts_80 : decode b_F_fillNextCosts 80 = .ok (.iload 4, 2) := by decide +kernel
theorem d_F_fillNextCosts_82 : decode b_F_fillNextCosts 82 = .ok (.invokevirtual 67, 3) := by decide +kernel
theorem d_F_fillNextCosts_85 : decode b_F_fillNextCosts 85 = .ok (.iinc 4 1, 3) := by decide +kernel
theorem d_F_fillNextCosts_88 : decode b_F_fillNextCosts 88 = .ok (.goto (-77), 3) := by decide +kernel
theorem d_F_fillNextCosts_91 : decode b_F_fillNextCosts 91 = .ok (.return_, 1) := by decide +kernel
theorem d_JA_fill_0 : decode b_JA_fill 0 = .ok (.iconst 0, 1) := by decide +kernel
theorem d_JA_fill_1 : decode b_JA_fill 1 = .ok (.istore_n 2, 1) := by decide +kernel
theorem d_JA_fill_2 : decode b_JA_fill 2 = .ok (.aload_n 0, 1) := by decide +kernel
theorem d_JA_fill_3 : decode b_JA_fill 3 = .ok (.arraylength, 1) := by decide +kernel
theorem d_JA_fill_4 : decode b_JA_fill 4 = .ok (.istore_n 3, 1) := by decide +kernel
theorem d_JA_fill_5 : decode b_JA_fill 5 = .ok (.iload_n 2, 1) := by decide +kernel
theorem d_JA_fill_6 : decode b_JA_fill 6 = .ok (.iload_n 3, 1) := by decide +kernel
theorem d_JA_fill_7 : decode b_JA_fill 7 = .ok (.if_icmp .ge 13, 3) := by decide +kernel
theorem d_JA_fill_10 : decode b_JA_fill 10 = .ok (.aload_n 0, 1) := by decide +kernel
theorem d_JA_fill_11 : decode b_JA_fill 11 = .ok (.iload_n 2, 1) := by decide +kernel
theorem d_JA_fill_12 : decode b_JA_fill 12 = .ok (.iload_n 1, 1) := by decide +kernel
theorem d_JA_fill_13 : decode b_JA_fill 13 = .ok (.iastore, 1) := by decide +kernel
theorem d_JA_fill_14 : decode b_JA_fill 14 = .ok (.iinc 2 1, 3) := by decide +kernel
theorem d_JA_fill_17 : decode b_JA_fill 17 = .ok (.goto (-12), 3) := by decide +kernel
theorem d_JA_fill_20 : decode b_JA_fill 20 = .ok (.return_, 1) := by decide +kernel
theorem d_F_leastOther_0 : decode b_F_leastOther 0 = .ok (.ldc 78, 2) := by decide +kernel
theorem d_F_leastOther_2 : decode b_F_leastOther 2 = .ok (.istore_n 3, 1) := by decide +kernel
theorem d_F_leastOther_3 : decode b_F_leastOther 3 = .ok (.iconst 0, 1) := by decide +kernel
theorem d_F_leastOther_4 : decode b_F_leastOther 4 = .ok (.istore 4, 2) := by decide +kernel
theorem d_F_leastOther_6 : decode b_F_leastOther 6 = .ok (.iload 4, 2) := by decide +kernel
theorem d_F_leastOther_8 : decode b_F_leastOther 8 = .ok (.aload_n 0, 1) := by decide +kernel
theorem d_F_leastOther_9 : decode b_F_leastOther 9 = .ok (.getfield 19, 3) := by decide +kernel
theorem d_F_leastOther_12 : decode b_F_leastOther 12 = .ok (.if_icmp .ge 32, 3) := by decide +kernel
theorem d_F_leastOther_15 : decode b_F_leastOther 15 = .ok (.iload 4, 2) := by decide +kernel
theorem d_F_leastOther_17 : decode b_F_leastOther 17 = .ok (.iload_n 1, 1) := by decide +kernel
theorem d_F_leastOther_18 : decode b_F_leastOther 18 = .ok (.if_icmp .eq 20, 3) := by decide +kernel
theorem d_F_leastOther_21 : decode b_F_leastOther 21 = .ok (.iload_n 3, 1) := by decide +kernel
theorem d_F_leastOther_22 : decode b_F_leastOther 22 = .ok (.aload_n 0, 1) := by decide +kernel
theorem d_F_leastOther_23 : decode b_F_leastOther 23 = .ok (.getfield 30, 3) := by decide +kernel
theorem d_F_leastOther_26 : decode b_F_leastOther 26 = .ok (.iload 4, 2) := by decide +kernel
theorem d_F_leastOther_28 : decode b_F_leastOther 28 = .ok (.iaload, 1) := by decide +kernel
theorem d_F_leastOther_29 : decode b_F_leastOther 29 = .ok (.aload_n 2, 1) := by decide +kernel
theorem d_F_leastOther_30 : decode b_F_leastOther 30 = .ok (.iload 4, 2) := by decide +kernel
theorem d_F_leastOther_32 : decode b_F_leastOther 32 = .ok (.iaload, 1) := by decide +kernel
theorem d_F_leastOther_33 : decode b_F_leastOther 33 = .ok (.iadd, 1) := by decide +kernel
theorem d_F_leastOther_34 : decode b_F_leastOther 34 = .ok (.invokestatic 82, 3) := by decide +kernel
theorem d_F_leastOther_37 : decode b_F_leastOther 37 = .ok (.istore_n 3, 1) := by decide +kernel
theorem d_F_leastOther_38 : decode b_F_leastOther 38 = .ok (.iinc 4 1, 3) := by decide +kernel
theorem d_F_leastOther_41 : decode b_F_leastOther 41 = .ok (.goto (-35), 3) := by decide +kernel
theorem d_F_leastOther_44 : decode b_F_leastOther 44 = .ok (.iload_n 3, 1) := by decide +kernel
theorem d_F_leastOther_45 : decode b_F_leastOther 45 = .ok (.ireturn, 1) := by decide +kernel
theorem d_F_stepBefore_0 : decode b_F_stepBefore 0 = .ok (.aload_n 1, 1) := by decide +kernel
theorem d_F_stepBefore_1 : decode b_F_stepBefore 1 = .ok (.getfield 71, 3) := by decide +kernel
theorem d_F_stepBefore_4 : decode b_F_stepBefore 4 = .ok (.iload_n 3, 1) := by decide +kernel
theorem d_F_stepBefore_5 : decode b_F_stepBefore 5 = .ok (.iaload, 1) := by decide +kernel
theorem d_F_stepBefore_6 : decode b_F_stepBefore 6 = .ok (.istore 4, 2) := by decide +kernel
theorem d_F_stepBefore_8 : decode b_F_stepBefore 8 = .ok (.aload_n 0, 1) := by decide +kernel
theorem d_F_stepBefore_9 : decode b_F_stepBefore 9 = .ok (.getfield 33, 3) := by decide +kernel
theorem d_F_stepBefore_12 : decode b_F_stepBefore 12 = .ok (.ldc 78, 2) := by decide +kernel
theorem d_F_stepBefore_14 : decode b_F_stepBefore 14 = .ok (.invokestatic 54, 3) := by decide +kernel
theorem d_F_stepBefore_17 : decode b_F_stepBefore 17 = .ok (.iconst 0, 1) := by decide +kernel
theorem d_F_stepBefore_18 : decode b_F_stepBefore 18 = .ok (.istore 5, 2) := by decide +kernel
theorem d_F_stepBefore_20 : decode b_F_stepBefore 20 = .ok (.iload 5, 2) := by decide +kernel
theorem d_F_stepBefore_22 : decode b_F_stepBefore 22 = .ok (.aload_n 0, 1) := by decide +kernel
theorem d_F_stepBefore_23 : decode b_F_stepBefore 23 = .ok (.getfield 19, 3) := by decide +kernel
theorem d_F_stepBefore_26 : decode b_F_stepBefore 26 = .ok (.if_icmp .ge 88, 3) := by decide +kernel
theorem d_F_stepBefore_29 : decode b_F_stepBefore 29 = .ok (.aload_n 1, 1) := by decide +kernel
theorem d_F_stepBefore_30 : decode b_F_stepBefore 30 = .ok (.iload_n 3, 1) := by decide +kernel
theorem d_F_stepBefore_31 : decode b_F_stepBefore 31 = .ok (.iload 5, 2) := by decide +kernel
theorem d_F_stepBefore_33 : decode b_F_stepBefore 33 = .ok (.iconst (-1), 1) := by decide +kernel
theorem d_F_stepBefore_34 : decode b_F_stepBefore 34 = .ok (.invokevirtual 74, 3) := by decide +kernel
theorem d_F_stepBefore_37 : decode b_F_stepBefore 37 = .ok (.ifCond .eq 71, 3) := by decide +kernel
theorem d_F_stepBefore_40 : decode b_F_stepBefore 40 = .ok (.aload_n 0, 1) := by decide +kernel
theorem d_F_stepBefore_41 : decode b_F_stepBefore 41 = .ok (.getfield 30, 3) := by decide +kernel
theorem d_F_stepBefore_44 : decode b_F_stepBefore 44 = .ok (.iload 5, 2) := by decide +kernel
theorem d_F_stepBefore_46 : decode b_F_stepBefore 46 = .ok (.iaload, 1) := by decide +kernel
theorem d_F_stepBefore_47 : decode b_F_stepBefore 47 = .ok (.aload_n 2, 1) := by decide +kernel
theorem d_F_stepBefore_48 : decode b_F_stepBefore 48 = .ok (.getfield 79, 3) := by decide +kernel
theorem d_F_stepBefore_51 : decode b_F_stepBefore 51 = .ok (.iload 5, 2) := by decide +kernel
theorem d_F_stepBefore_53 : decode b_F_stepBefore 53 = .ok (.aaload, 1) := by decide +kernel
theorem d_F_stepBefore_54 : decode b_F_stepBefore 54 = .ok (.iload 4, 2) := by decide +kernel
theorem d_F_stepBefore_56 : decode b_F_stepBefore 56 = .ok (.iaload, 1) := by decide +kernel
theorem d_F_stepBefore_57 : decode b_F_stepBefore 57 = .ok (.iadd, 1) := by decide +kernel
theorem d_F_stepBefore_58 : decode b_F_stepBefore 58 = .ok (.istore 6, 2) := by decide +kernel
theorem d_F_stepBefore_60 : decode b_F_stepBefore 60 = .ok (.iconst 0, 1) := by decide +kernel
theorem d_F_stepBefore_61 : decode b_F_stepBefore 61 = .ok (.istore 7, 2) := by decide +kernel
theorem d_F_stepBefore_63 : decode b_F_stepBefore 63 = .ok (.iload 7, 2) := by decide +kernel
theorem d_F_stepBefore_65 : decode b_F_stepBefore 65 = .ok (.aload_n 0, 1) := by decide +kernel
theorem d_F_stepBefore_66 : decode b_F_stepBefore 66 = .ok (.getfield 19, 3) := by decide +kernel
theorem d_F_stepBefore_69 : decode b_F_stepBefore 69 = .ok (.if_icmp .ge 39, 3) := by decide +kernel
theorem d_F_stepBefore_72 : decode b_F_stepBefore 72 = .ok (.aload_n 0, 1) := by decide +kernel
theorem d_F_stepBefore_73 : decode b_F_stepBefore 73 = .ok (.getfield 33, 3) := by decide +kernel
theorem d_F_stepBefore_76 : decode b_F_stepBefore 76 = .ok (.iload 7, 2) := by decide +kernel
theorem d_F_stepBefore_78 : decode b_F_stepBefore 78 = .ok (.aload_n 0, 1) := by decide +kernel
theorem d_F_stepBefore_79 : decode b_F_stepBefore 79 = .ok (.getfield 33, 3) := by decide +kernel
theorem d_F_stepBefore_82 : decode b_F_stepBefore 82 = .ok (.iload 7, 2) := by decide +kernel
theorem d_F_stepBefore_84 : decode b_F_stepBefore 84 = .ok (.iaload, 1) := by decide +kernel
theorem d_F_stepBefore_85 : decode b_F_stepBefore 85 = .ok (.iload 6, 2) := by decide +kernel
theorem d_F_stepBefore_87 : decode b_F_stepBefore 87 = .ok (.aload_n 2, 1) := by decide +kernel
theorem d_F_stepBefore_88 : decode b_F_stepBefore 88 = .ok (.getfield 49, 3) := by decide +kernel
theorem d_F_stepBefore_91 : decode b_F_stepBefore 91 = .ok (.iload 5, 2) := by decide +kernel
theorem d_F_stepBefore_93 : decode b_F_stepBefore 93 = .ok (.aaload, 1) := by decide +kernel
theorem d_F_stepBefore_94 : decode b_F_stepBefore 94 = .ok (.iload 7, 2) := by decide +kernel
theorem d_F_stepBefore_96 : decode b_F_stepBefore 96 = .ok (.iaload, 1) := by decide +kernel
theorem d_F_stepBefore_97 : decode b_F_stepBefore 97 = .ok (.iadd, 1) := by decide +kernel
theorem d_F_stepBefore_98 : decode b_F_stepBefore 98 = .ok (.invokestatic 82, 3) := by decide +kernel
theorem d_F_stepBefore_101 : decode b_F_stepBefore 101 = .ok (.iastore, 1) := by decide +kernel
theorem d_F_stepBefore_102 : decode b_F_stepBefore 102 = .ok (.iinc 7 1, 3) := by decide +kernel
theorem d_F_stepBefore_105 : decode b_F_stepBefore 105 = .ok (.goto (-42), 3) := by decide +kernel
theorem d_F_stepBefore_108 : decode b_F_stepBefore 108 = .ok (.iinc 5 1, 3) := by decide +kernel
theorem d_F_stepBefore_111 : decode b_F_stepBefore 111 = .ok (.goto (-91), 3) := by decide +kernel
theorem d_F_stepBefore_114 : decode b_F_stepBefore 114 = .ok (.aload_n 0, 1) := by decide +kernel
theorem d_F_stepBefore_115 : decode b_F_stepBefore 115 = .ok (.getfield 30, 3) := by decide +kernel
theorem d_F_stepBefore_118 : decode b_F_stepBefore 118 = .ok (.astore 5, 2) := by decide +kernel
theorem d_F_stepBefore_120 : decode b_F_stepBefore 120 = .ok (.aload_n 0, 1) := by decide +kernel
theorem d_F_stepBefore_121 : decode b_F_stepBefore 121 = .ok (.aload_n 0, 1) := by decide +kernel
theorem d_F_stepBefore_122 : decode b_F_stepBefore 122 = .ok (.getfield 33, 3) := by decide +kernel
theorem d_F_stepBefore_125 : decode b_F_stepBefore 125 = .ok (.putfield 30, 3) := by decide +kernel
theorem d_F_stepBefore_128 : decode b_F_stepBefore 128 = .ok (.aload_n 0, 1) := by decide +kernel
theorem d_F_stepBefore_129 : decode b_F_stepBefore 129 = .ok (.aload 5, 2) := by decide +kernel
theorem d_F_stepBefore_131 : decode b_F_stepBefore 131 = .ok (.putfield 33, 3) := by decide +kernel
theorem d_F_stepBefore_134 : decode b_F_stepBefore 134 = .ok (.return_, 1) := by decide +kernel
theorem d_K_act_0 : decode b_K_act 0 = .ok (.aload_n 0, 1) := by decide +kernel
theorem d_K_act_1 : decode b_K_act 1 = .ok (.getfield 54, 3) := by decide +kernel
theorem d_K_act_4 : decode b_K_act 4 = .ok (.iload_n 1, 1) := by decide +kernel
theorem d_K_act_5 : decode b_K_act 5 = .ok (.invokevirtual 125, 3) := by decide +kernel
theorem d_K_act_8 : decode b_K_act 8 = .ok (.ifCond .eq 15, 3) := by decide +kernel
theorem d_K_act_11 : decode b_K_act 11 = .ok (.aload_n 0, 1) := by decide +kernel
theorem d_K_act_12 : decode b_K_act 12 = .ok (.getfield 54, 3) := by decide +kernel
theorem d_K_act_15 : decode b_K_act 15 = .ok (.getfield 128, 3) := by decide +kernel
theorem d_K_act_18 : decode b_K_act 18 = .ok (.iload_n 1, 1) := by decide +kernel
theorem d_K_act_19 : decode b_K_act 19 = .ok (.iaload, 1) := by decide +kernel
theorem d_K_act_20 : decode b_K_act 20 = .ok (.goto 4, 3) := by decide +kernel
theorem d_K_act_23 : decode b_K_act 23 = .ok (.iconst (-1), 1) := by decide +kernel
theorem d_K_act_24 : decode b_K_act 24 = .ok (.ireturn, 1) := by decide +kernel
theorem d_N_has_0 : decode b_N_has 0 = .ok (.iload_n 1, 1) := by decide +kernel
theorem d_N_has_1 : decode b_N_has 1 = .ok (.aload_n 0, 1) := by decide +kernel
theorem d_N_has_2 : decode b_N_has 2 = .ok (.getfield 18, 3) := by decide +kernel
theorem d_N_has_5 : decode b_N_has 5 = .ok (.invokestatic 42, 3) := by decide +kernel
theorem d_N_has_8 : decode b_N_has 8 = .ok (.ireturn, 1) := by decide +kernel
theorem d_K_greatest_0 : decode b_K_greatest 0 = .ok (.aload_n 0, 1) := by decide +kernel
theorem d_K_greatest_1 : decode b_K_greatest 1 = .ok (.getfield 54, 3) := by decide +kernel
theorem d_K_greatest_4 : decode b_K_greatest 4 = .ok (.invokevirtual 132, 3) := by decide +kernel
theorem d_K_greatest_7 : decode b_K_greatest 7 = .ok (.ireturn, 1) := by decide +kernel
theorem d_N_exists_0 : decode b_N_exists 0 = .ok (.aload_n 0, 1) := by decide +kernel
theorem d_N_exists_1 : decode b_N_exists 1 = .ok (.getfield 18, 3) := by decide +kernel
theorem d_N_exists_4 : decode b_N_exists 4 = .ok (.ifCond .le 7, 3) := by decide +kernel
theorem d_N_exists_7 : decode b_N_exists 7 = .ok (.iconst 1, 1) := by decide +kernel
theorem d_N_exists_8 : decode b_N_exists 8 = .ok (.goto 4, 3) := by decide +kernel
theorem d_N_exists_11 : decode b_N_exists 11 = .ok (.iconst 0, 1) := by decide +kernel
theorem d_N_exists_12 : decode b_N_exists 12 = .ok (.ireturn, 1) := by decide +kernel
theorem d_K_truth_0 : decode b_K_truth 0 = .ok (.iload_n 1, 1) := by decide +kernel
theorem d_K_truth_1 : decode b_K_truth 1 = .ok (.aload_n 0, 1) := by decide +kernel
theorem d_K_truth_2 : decode b_K_truth 2 = .ok (.getfield 25, 3) := by decide +kernel
theorem d_K_truth_5 : decode b_K_truth 5 = .ok (.getfield 111, 3) := by decide +kernel
theorem d_K_truth_8 : decode b_K_truth 8 = .ok (.invokestatic 96, 3) := by decide +kernel
theorem d_K_truth_11 : decode b_K_truth 11 = .ok (.ifCond .eq 11, 3) := by decide +kernel
theorem d_K_truth_14 : decode b_K_truth 14 = .ok (.aload_n 0, 1) := by decide +kernel
theorem d_K_truth_15 : decode b_K_truth 15 = .ok (.iload_n 2, 1) := by decide +kernel
theorem d_K_truth_16 : decode b_K_truth 16 = .ok (.invokevirtual 85, 3) := by decide +kernel
theorem d_K_truth_19 : decode b_K_truth 19 = .ok (.ifCond .ne 5, 3) := by decide +kernel
theorem d_K_truth_22 : decode b_K_truth 22 = .ok (.iconst 0, 1) := by decide +kernel
theorem d_K_truth_23 : decode b_K_truth 23 = .ok (.ireturn, 1) := by decide +kernel
theorem d_K_truth_24 : decode b_K_truth 24 = .ok (.aload_n 0, 1) := by decide +kernel
theorem d_K_truth_25 : decode b_K_truth 25 = .ok (.getfield 25, 3) := by decide +kernel
theorem d_K_truth_28 : decode b_K_truth 28 = .ok (.getfield 136, 3) := by decide +kernel
theorem d_K_truth_31 : decode b_K_truth 31 = .ok (.iload_n 1, 1) := by decide +kernel
theorem d_K_truth_32 : decode b_K_truth 32 = .ok (.iload_n 2, 1) := by decide +kernel
theorem d_K_truth_33 : decode b_K_truth 33 = .ok (.iastore, 1) := by decide +kernel
theorem d_K_truth_34 : decode b_K_truth 34 = .ok (.iconst 1, 1) := by decide +kernel
theorem d_K_truth_35 : decode b_K_truth 35 = .ok (.ireturn, 1) := by decide +kernel
theorem d_K_fit_0 : decode b_K_fit 0 = .ok (.iload_n 1, 1) := by decide +kernel
theorem d_K_fit_1 : decode b_K_fit 1 = .ok (.iconst 1, 1) := by decide +kernel
theorem d_K_fit_2 : decode b_K_fit 2 = .ok (.if_icmp .lt 19, 3) := by decide +kernel
theorem d_K_fit_5 : decode b_K_fit 5 = .ok (.iload_n 1, 1) := by decide +kernel
theorem d_K_fit_6 : decode b_K_fit 6 = .ok (.bipush 20, 2) := by decide +kernel
theorem d_K_fit_8 : decode b_K_fit 8 = .ok (.if_icmp .gt 13, 3) := by decide +kernel
theorem d_K_fit_11 : decode b_K_fit 11 = .ok (.aload_n 0, 1) := by decide +kernel
theorem d_K_fit_12 : decode b_K_fit 12 = .ok (.getfield 25, 3) := by decide +kernel
theorem d_K_fit_15 : decode b_K_fit 15 = .ok (.getfield 111, 3) := by decide +kernel
theorem d_K_fit_18 : decode b_K_fit 18 = .ok (.ifCond .ne 5, 3) := by decide +kernel
theorem d_K_fit_21 : decode b_K_fit 21 = .ok (.iconst (-1), 1) := by decide +kernel
theorem d_K_fit_22 : decode b_K_fit 22 = .ok (.ireturn, 1) := by decide +kernel
theorem d_K_fit_23 : decode b_K_fit 23 = .ok (.aload_n 0, 1) := by decide +kernel
theorem d_K_fit_24 : decode b_K_fit 24 = .ok (.getfield 72, 3) := by decide +kernel
theorem d_K_fit_27 : decode b_K_fit 27 = .ok (.iconst 0, 1) := by decide +kernel
theorem d_K_fit_28 : decode b_K_fit 28 = .ok (.aload_n 0, 1) := by decide +kernel
theorem d_K_fit_29 : decode b_K_fit 29 = .ok (.invokevirtual 139, 3) := by decide +kernel
theorem d_K_fit_32 : decode b_K_fit 32 = .ok (.i2l, 1) := by decide +kernel
theorem d_K_fit_33 : decode b_K_fit 33 = .ok (.lastore, 1) := by decide +kernel
theorem d_K_fit_34 : decode b_K_fit 34 = .ok (.aload_n 0, 1) := by decide +kernel
theorem d_K_fit_35 : decode b_K_fit 35 = .ok (.iconst 0, 1) := by decide +kernel
theorem d_K_fit_36 : decode b_K_fit 36 = .ok (.putfield 76, 3) := by decide +kernel
theorem d_K_fit_39 : decode b_K_fit 39 = .ok (.iconst 1, 1) := by decide +kernel
theorem d_K_fit_40 : decode b_K_fit 40 = .ok (.istore_n 2, 1) := by decide +kernel
theorem d_K_fit_41 : decode b_K_fit 41 = .ok (.iload_n 2, 1) := by decide +kernel
theorem d_K_fit_42 : decode b_K_fit 42 = .ok (.iload_n 1, 1) := by decide +kernel
theorem d_K_fit_43 : decode b_K_fit 43 = .ok (.if_icmp .gt 35, 3) := by decide +kernel
theorem d_K_fit_46 : decode b_K_fit 46 = .ok (.aload_n 0, 1) := by decide +kernel
theorem d_K_fit_47 : decode b_K_fit 47 = .ok (.invokevirtual 143, 3) := by decide +kernel
theorem d_K_fit_50 : decode b_K_fit 50 = .ok (.ifCond .eq 28, 3) := by decide +kernel
theorem d_K_fit_53 : decode b_K_fit 53 = .ok (.aload_n 0, 1) := by decide +kernel
theorem d_K_fit_54 : decode b_K_fit 54 = .ok (.getfield 72, 3) := by decide +kernel
theorem d_K_fit_57 : decode b_K_fit 57 = .ok (.iload_n 2, 1) := by decide +kernel
theorem d_K_fit_58 : decode b_K_fit 58 = .ok (.aload_n 0, 1) := by decide +kernel
theorem d_K_fit_59 : decode b_K_fit 59 = .ok (.getfield 54, 3) := by decide +kernel
theorem d_K_fit_62 : decode b_K_fit 62 = .ok (.getfield 122, 3) := by decide +kernel
theorem d_K_fit_65 : decode b_K_fit 65 = .ok (.i2l, 1) := by decide +kernel
theorem d_K_fit_66 : decode b_K_fit 66 = .ok (.lastore, 1) := by decide +kernel
theorem d_K_fit_67 : decode b_K_fit 67 = .ok (.aload_n 0, 1) := by decide +kernel
theorem d_K_fit_68 : decode b_K_fit 68 = .ok (.iload_n 2, 1) := by decide +kernel
theorem d_K_fit_69 : decode b_K_fit 69 = .ok (.putfield 76, 3) := by decide +kernel
theorem d_K_fit_72 : decode b_K_fit 72 = .ok (.iinc 2 1, 3) := by decide +kernel
theorem d_K_fit_75 : decode b_K_fit 75 = .ok (.goto (-34), 3) := by decide +kernel
theorem d_K_fit_78 : decode b_K_fit 78 = .ok (.aload_n 0, 1) := by decide +kernel
theorem d_K_fit_79 : decode b_K_fit 79 = .ok (.getfield 76, 3) := by decide +kernel
theorem d_K_fit_82 : decode b_K_fit 82 = .ok (.ireturn, 1) := by decide +kernel
theorem d_K_isRoundKept_0 : decode b_K_isRoundKept 0 = .ok (.aload_n 0, 1) := by decide +kernel
theorem d_K_isRoundKept_1 : decode b_K_isRoundKept 1 = .ok (.getfield 41, 3) := by decide +kernel
theorem d_K_isRoundKept_4 : decode b_K_isRoundKept 4 = .ok (.aload_n 0, 1) := by decide +kernel
theorem d_K_isRoundKept_5 : decode b_K_isRoundKept 5 = .ok (.getfield 25, 3) := by decide +kernel
theorem d_K_isRoundKept_8 : decode b_K_isRoundKept 8 = .ok (.aload_n 0, 1) := by decide +kernel
theorem d_K_isRoundKept_9 : decode b_K_isRoundKept 9 = .ok (.getfield 54, 3) := by decide +kernel
theorem d_K_isRoundKept_12 : decode b_K_isRoundKept 12 = .ok (.getfield 128, 3) := by decide +kernel
theorem d_K_isRoundKept_15 : decode b_K_isRoundKept 15 = .ok (.invokevirtual 216, 3) := by decide +kernel
theorem d_K_isRoundKept_18 : decode b_K_isRoundKept 18 = .ok (.aload_n 0, 1) := by decide +kernel
theorem d_K_isRoundKept_19 : decode b_K_isRoundKept 19 = .ok (.getfield 38, 3) := by decide +kernel
theorem d_K_isRoundKept_22 : decode b_K_isRoundKept 22 = .ok (.aload_n 0, 1) := by decide +kernel
theorem d_K_isRoundKept_23 : decode b_K_isRoundKept 23 = .ok (.getfield 34, 3) := by decide +kernel
theorem d_K_isRoundKept_26 : decode b_K_isRoundKept 26 = .ok (.invokevirtual 220, 3) := by decide +kernel
theorem d_K_isRoundKept_29 : decode b_K_isRoundKept 29 = .ok (.aload_n 0, 1) := by decide +kernel
theorem d_K_isRoundKept_30 : decode b_K_isRoundKept 30 = .ok (.getfield 38, 3) := by decide +kernel
theorem d_K_isRoundKept_33 : decode b_K_isRoundKept 33 = .ok (.aload_n 0, 1) := by decide +kernel
theorem d_K_isRoundKept_34 : decode b_K_isRoundKept 34 = .ok (.getfield 41, 3) := by decide +kernel
theorem d_K_isRoundKept_37 : decode b_K_isRoundKept 37 = .ok (.invokevirtual 224, 3) := by decide +kernel
theorem d_K_isRoundKept_40 : decode b_K_isRoundKept 40 = .ok (.aload_n 0, 1) := by decide +kernel
theorem d_K_isRoundKept_41 : decode b_K_isRoundKept 41 = .ok (.getfield 47, 3) := by decide +kernel
theorem d_K_isRoundKept_44 : decode b_K_isRoundKept 44 = .ok (.aload_n 0, 1) := by decide +kernel
theorem d_K_isRoundKept_45 : decode b_K_isRoundKept 45 = .ok (.getfield 25, 3) := by decide +kernel
theorem d_K_isRoundKept_48 : decode b_K_isRoundKept 48 = .ok (.aload_n 0, 1) := by decide +kernel
theorem d_K_isRoundKept_49 : decode b_K_isRoundKept 49 = .ok (.getfield 38, 3) := by decide +kernel
theorem d_K_isRoundKept_52 : decode b_K_isRoundKept 52 = .ok (.iconst (-1), 1) := by decide +kernel
theorem d_K_isRoundKept_53 : decode b_K_isRoundKept 53 = .ok (.invokevirtual 114, 3) := by decide +kernel
theorem d_K_isRoundKept_56 : decode b_K_isRoundKept 56 = .ok (.aload_n 0, 1) := by decide +kernel
theorem d_K_isRoundKept_57 : decode b_K_isRoundKept 57 = .ok (.getfield 47, 3) := by decide +kernel
theorem d_K_isRoundKept_60 : decode b_K_isRoundKept 60 = .ok (.getfield 227, 3) := by decide +kernel
theorem d_K_isRoundKept_63 : decode b_K_isRoundKept 63 = .ok (.aload_n 0, 1) := by decide +kernel
theorem d_K_isRoundKept_64 : decode b_K_isRoundKept 64 = .ok (.getfield 54, 3) := by decide +kernel
theorem d_K_isRoundKept_67 : decode b_K_isRoundKept 67 = .ok (.getfield 122, 3) := by decide +kernel
theorem d_K_isRoundKept_70 : decode b_K_isRoundKept 70 = .ok (.if_icmp .lt 5, 3) := by decide +kernel
theorem d_K_isRoundKept_73 : decode b_K_isRoundKept 73 = .ok (.iconst 0, 1) := by decide +kernel
theorem d_K_isRoundKept_74 : decode b_K_isRoundKept 74 = .ok (.ireturn, 1) := by decide +kernel
theorem d_K_isRoundKept_75 : decode b_K_isRoundKept 75 = .ok (.aload_n 0, 1) := by decide +kernel
theorem d_K_isRoundKept_76 : decode b_K_isRoundKept 76 = .ok (.getfield 34, 3) := by decide +kernel
theorem d_K_isRoundKept_79 : decode b_K_isRoundKept 79 = .ok (.aload_n 0, 1) := by decide +kernel
theorem d_K_isRoundKept_80 : decode b_K_isRoundKept 80 = .ok (.getfield 38, 3) := by decide +kernel
theorem d_K_isRoundKept_83 : decode b_K_isRoundKept 83 = .ok (.invokevirtual 220, 3) := by decide +kernel
theorem d_K_isRoundKept_86 : decode b_K_isRoundKept 86 = .ok (.aload_n 0, 1) := by decide +kernel
theorem d_K_isRoundKept_87 : decode b_K_isRoundKept 87 = .ok (.getfield 54, 3) := by decide +kernel
theorem d_K_isRoundKept_90 : decode b_K_isRoundKept 90 = .ok (.aload_n 0, 1) := by decide +kernel
theorem d_K_isRoundKept_91 : decode b_K_isRoundKept 91 = .ok (.getfield 25, 3) := by decide +kernel
theorem d_K_isRoundKept_94 : decode b_K_isRoundKept 94 = .ok (.aload_n 0, 1) := by decide +kernel
theorem d_K_isRoundKept_95 : decode b_K_isRoundKept 95 = .ok (.getfield 34, 3) := by decide +kernel
theorem d_K_isRoundKept_98 : decode b_K_isRoundKept 98 = .ok (.aload_n 0, 1) := by decide +kernel
theorem d_K_isRoundKept_99 : decode b_K_isRoundKept 99 = .ok (.getfield 47, 3) := by decide +kernel
theorem d_K_isRoundKept_102 : decode b_K_isRoundKept 102 = .ok (.invokevirtual 118, 3) := by decide +kernel
theorem d_K_isRoundKept_105 : decode b_K_isRoundKept 105 = .ok (.iconst 1, 1) := by decide +kernel
theorem d_K_isRoundKept_106 : decode b_K_isRoundKept 106 = .ok (.ireturn, 1) := by decide +kernel
theorem d_B_countLine_0 : decode b_B_countLine 0 = .ok (.aload_n 0, 1) := by decide +kernel
theorem d_B_countLine_1 : decode b_B_countLine 1 = .ok (.invokevirtual 25, 3) := by decide +kernel
theorem d_B_countLine_4 : decode b_B_countLine 4 = .ok (.iconst 0, 1) := by decide +kernel
theorem d_B_countLine_5 : decode b_B_countLine 5 = .ok (.istore_n 3, 1) := by decide +kernel
theorem d_B_countLine_6 : decode b_B_countLine 6 = .ok (.iload_n 3, 1) := by decide +kernel
theorem d_B_countLine_7 : decode b_B_countLine 7 = .ok (.aload_n 1, 1) := by decide +kernel
theorem d_B_countLine_8 : decode b_B_countLine 8 = .ok (.getfield 28, 3) := by decide +kernel
theorem d_B_countLine_11 : decode b_B_countLine 11 = .ok (.if_icmp .ge 50, 3) := by decide +kernel
theorem d_B_countLine_14 : decode b_B_countLine 14 = .ok (.aload_n 0, 1) := by decide +kernel
theorem d_B_countLine_15 : decode b_B_countLine 15 = .ok (.getfield 16, 3) := by decide +kernel
theorem d_B_countLine_18 : decode b_B_countLine 18 = .ok (.aload_n 2, 1) := by decide +kernel
theorem d_B_countLine_19 : decode b_B_countLine 19 = .ok (.iload_n 3, 1) := by decide +kernel
theorem d_B_countLine_20 : decode b_B_countLine 20 = .ok (.iaload, 1) := by decide +kernel
theorem d_B_countLine_21 : decode b_B_countLine 21 = .ok (.aaload, 1) := by decide +kernel
theorem d_B_countLine_22 : decode b_B_countLine 22 = .ok (.aload_n 1, 1) := by decide +kernel
theorem d_B_countLine_23 : decode b_B_countLine 23 = .ok (.getfield 34, 3) := by decide +kernel
theorem d_B_countLine_26 : decode b_B_countLine 26 = .ok (.iload_n 3, 1) := by decide +kernel
theorem d_B_countLine_27 : decode b_B_countLine 27 = .ok (.iaload, 1) := by decide +kernel
theorem d_B_countLine_28 : decode b_B_countLine 28 = .ok (.dup2, 1) := by decide +kernel
theorem d_B_countLine_29 : decode b_B_countLine 29 = .ok (.iaload, 1) := by decide +kernel
theorem d_B_countLine_30 : decode b_B_countLine 30 = .ok (.iconst 1, 1) := by decide +kernel
theorem d_B_countLine_31 : decode b_B_countLine 31 = .ok (.iadd, 1) := by decide +kernel
theorem d_B_countLine_32 : decode b_B_countLine 32 = .ok (.iastore, 1) := by decide +kernel
theorem d_B_countLine_33 : decode b_B_countLine 33 = .ok (.iload_n 3, 1) := by decide +kernel
theorem d_B_countLine_34 : decode b_B_countLine 34 = .ok (.ifCond .le 21, 3) := by decide +kernel
theorem d_B_countLine_37 : decode b_B_countLine 37 = .ok (.aload_n 0, 1) := by decide +kernel
theorem d_B_countLine_38 : decode b_B_countLine 38 = .ok (.getfield 11, 3) := by decide +kernel
theorem d_B_countLine_41 : decode b_B_countLine 41 = .ok (.aload_n 2, 1) := by decide +kernel
theorem d_B_countLine_42 : decode b_B_countLine 42 = .ok (.iload_n 3, 1) := by decide +kernel
theorem d_B_countLine_43 : decode b_B_countLine 43 = .ok (.iconst 1, 1) := by decide +kernel
theorem d_B_countLine_44 : decode b_B_countLine 44 = .ok (.isub, 1) := by decide +kernel
theorem d_B_countLine_45 : decode b_B_countLine 45 = .ok (.iaload, 1) := by decide +kernel
theorem d_B_countLine_46 : decode b_B_countLine 46 = .ok (.aaload, 1) := by decide +kernel
theorem d_B_countLine_47 : decode b_B_countLine 47 = .ok (.aload_n 2, 1) := by decide +kernel
theorem d_B_countLine_48 : decode b_B_countLine 48 = .ok (.iload_n 3, 1) := by decide +kernel
theorem d_B_countLine_49 : decode b_B_countLine 49 = .ok (.iaload, 1) := by decide +kernel
theorem d_B_countLine_50 : decode b_B_countLine 50 = .ok (.dup2, 1) := by decide +kernel
theorem d_B_countLine_51 : decode b_B_countLine 51 = .ok (.iaload, 1) := by decide +kernel
theorem d_B_countLine_52 : decode b_B_countLine 52 = .ok (.iconst 1, 1) := by decide +kernel
theorem d_B_countLine_53 : decode b_B_countLine 53 = .ok (.iadd, 1) := by decide +kernel
theorem d_B_countLine_54 : decode b_B_countLine 54 = .ok (.iastore, 1) := by decide +kernel
theorem d_B_countLine_55 : decode b_B_countLine 55 = .ok (.iinc 3 1, 3) := by decide +kernel
theorem d_B_countLine_58 : decode b_B_countLine 58 = .ok (.goto (-52), 3) := by decide +kernel
theorem d_B_countLine_61 : decode b_B_countLine 61 = .ok (.return_, 1) := by decide +kernel
theorem d_B_clear_0 : decode b_B_clear 0 = .ok (.iconst 0, 1) := by decide +kernel
theorem d_B_clear_1 : decode b_B_clear 1 = .ok (.istore_n 1, 1) := by decide +kernel
theorem d_B_clear_2 : decode b_B_clear 2 = .ok (.iload_n 1, 1) := by decide +kernel
theorem d_B_clear_3 : decode b_B_clear 3 = .ok (.aload_n 0, 1) := by decide +kernel
theorem d_B_clear_4 : decode b_B_clear 4 = .ok (.getfield 11, 3) := by decide +kernel
theorem d_B_clear_7 : decode b_B_clear 7 = .ok (.arraylength, 1) := by decide +kernel
theorem d_B_clear_8 : decode b_B_clear 8 = .ok (.if_icmp .ge 29, 3) := by decide +kernel
theorem d_B_clear_11 : decode b_B_clear 11 = .ok (.aload_n 0, 1) := by decide +kernel
theorem d_B_clear_12 : decode b_B_clear 12 = .ok (.getfield 11, 3) := by decide +kernel
theorem d_B_clear_15 : decode b_B_clear 15 = .ok (.iload_n 1, 1) := by decide +kernel
theorem d_B_clear_16 : decode b_B_clear 16 = .ok (.aaload, 1) := by decide +kernel
theorem d_B_clear_17 : decode b_B_clear 17 = .ok (.iconst 0, 1) := by decide +kernel
theorem d_B_clear_18 : decode b_B_clear 18 = .ok (.invokestatic 42, 3) := by decide +kernel
theorem d_B_clear_21 : decode b_B_clear 21 = .ok (.aload_n 0, 1) := by decide +kernel
theorem d_B_clear_22 : decode b_B_clear 22 = .ok (.getfield 16, 3) := by decide +kernel
theorem d_B_clear_25 : decode b_B_clear 25 = .ok (.iload_n 1, 1) := by decide +kernel
theorem d_B_clear_26 : decode b_B_clear 26 = .ok (.aaload, 1) := by decide +kernel
theorem d_B_clear_27 : decode b_B_clear 27 = .ok (.iconst 0, 1) := by decide +kernel
theorem d_B_clear_28 : decode b_B_clear 28 = .ok (.invokestatic 42, 3) := by decide +kernel
theorem d_B_clear_31 : decode b_B_clear 31 = .ok (.iinc 1 1, 3) := by decide +kernel
theorem d_B_clear_34 : decode b_B_clear 34 = .ok (.goto (-32), 3) := by decide +kernel
theorem d_B_clear_37 : decode b_B_clear 37 = .ok (.return_, 1) := by decide +kernel
theorem d_B_copyFrom_0 : decode b_B_copyFrom 0 = .ok (.iconst 0, 1) := by decide +kernel
theorem d_B_copyFrom_1 : decode b_B_copyFrom 1 = .ok (.istore_n 2, 1) := by decide +kernel
theorem d_B_copyFrom_2 : decode b_B_copyFrom 2 = .ok (.iload_n 2, 1) := by decide +kernel
theorem d_B_copyFrom_3 : decode b_B_copyFrom 3 = .ok (.aload_n 0, 1) := by decide +kernel
theorem d_B_copyFrom_4 : decode b_B_copyFrom 4 = .ok (.getfield 11, 3) := by decide +kernel
theorem d_B_copyFrom_7 : decode b_B_copyFrom 7 = .ok (.arraylength, 1) := by decide +kernel
theorem d_B_copyFrom_8 : decode b_B_copyFrom 8 = .ok (.if_icmp .ge 57, 3) := by decide +kernel
theorem d_B_copyFrom_11 : decode b_B_copyFrom 11 = .ok (.aload_n 1, 1) := by decide +kernel
theorem d_B_copyFrom_12 : decode b_B_copyFrom 12 = .ok (.getfield 11, 3) := by decide +kernel
theorem d_B_copyFrom_15 : decode b_B_copyFrom 15 = .ok (.iload_n 2, 1) := by decide +kernel
theorem d_B_copyFrom_16 : decode b_B_copyFrom 16 = .ok (.aaload, 1) := by decide +kernel
theorem d_B_copyFrom_17 : decode b_B_copyFrom 17 = .ok (.iconst 0, 1) := by decide +kernel
theorem d_B_copyFrom_18 : decode b_B_copyFrom 18 = .ok (.aload_n 0, 1) := by decide +kernel
theorem d_B_copyFrom_19 : decode b_B_copyFrom 19 = .ok (.getfield 11, 3) := by decide +kernel
theorem d_B_copyFrom_22 : decode b_B_copyFrom 22 = .ok (.iload_n 2, 1) := by decide +kernel
theorem d_B_copyFrom_23 : decode b_B_copyFrom 23 = .ok (.aaload, 1) := by decide +kernel
theorem d_B_copyFrom_24 : decode b_B_copyFrom 24 = .ok (.iconst 0, 1) := by decide +kernel
theorem d_B_copyFrom_25 : decode b_B_copyFrom 25 = .ok (.aload_n 0, 1) := by decide +kernel
theorem d_B_copyFrom_26 : decode b_B_copyFrom 26 = .ok (.getfield 11, 3) := by decide +kernel
theorem d_B_copyFrom_29 : decode b_B_copyFrom 29 = .ok (.iload_n 2, 1) := by decide +kernel
theorem d_B_copyFrom_30 : decode b_B_copyFrom 30 = .ok (.aaload, 1) := by decide +kernel
theorem d_B_copyFrom_31 : decode b_B_copyFrom 31 = .ok (.arraylength, 1) := by decide +kernel
theorem d_B_copyFrom_32 : decode b_B_copyFrom 32 = .ok (.invokestatic 19, 3) := by decide +kernel
theorem d_B_copyFrom_35 : decode b_B_copyFrom 35 = .ok (.aload_n 1, 1) := by decide +kernel
theorem d_B_copyFrom_36 : decode b_B_copyFrom 36 = .ok (.getfield 16, 3) := by decide +kernel
theorem d_B_copyFrom_39 : decode b_B_copyFrom 39 = .ok (.iload_n 2, 1) := by decide +kernel
theorem d_B_copyFrom_40 : decode b_B_copyFrom 40 = .ok (.aaload, 1) := by decide +kernel
theorem d_B_copyFrom_41 : decode b_B_copyFrom 41 = .ok (.iconst 0, 1) := by decide +kernel
theorem d_B_copyFrom_42 : decode b_B_copyFrom 42 = .ok (.aload_n 0, 1) := by decide +kernel
theorem d_B_copyFrom_43 : decode b_B_copyFrom 43 = .ok (.getfield 16, 3) := by decide +kernel
theorem d_B_copyFrom_46 : decode b_B_copyFrom 46 = .ok (.iload_n 2, 1) := by decide +kernel
theorem d_B_copyFrom_47 : decode b_B_copyFrom 47 = .ok (.aaload, 1) := by decide +kernel
theorem d_B_copyFrom_48 : decode b_B_copyFrom 48 = .ok (.iconst 0, 1) := by decide +kernel
theorem d_B_copyFrom_49 : decode b_B_copyFrom 49 = .ok (.aload_n 0, 1) := by decide +kernel
theorem d_B_copyFrom_50 : decode b_B_copyFrom 50 = .ok (.getfield 16, 3) := by decide +kernel
theorem d_B_copyFrom_53 : decode b_B_copyFrom 53 = .ok (.iload_n 2, 1) := by decide +kernel
theorem d_B_copyFrom_54 : decode b_B_copyFrom 54 = .ok (.aaload, 1) := by decide +kernel
theorem d_B_copyFrom_55 : decode b_B_copyFrom 55 = .ok (.arraylength, 1) := by decide +kernel
theorem d_B_copyFrom_56 : decode b_B_copyFrom 56 = .ok (.invokestatic 19, 3) := by decide +kernel
theorem d_B_copyFrom_59 : decode b_B_copyFrom 59 = .ok (.iinc 2 1, 3) := by decide +kernel
theorem d_B_copyFrom_62 : decode b_B_copyFrom 62 = .ok (.goto (-60), 3) := by decide +kernel
theorem d_B_copyFrom_65 : decode b_B_copyFrom 65 = .ok (.return_, 1) := by decide +kernel
theorem d_B_fitTo_0 : decode b_B_fitTo 0 = .ok (.iconst 0, 1) := by decide +kernel
theorem d_B_fitTo_1 : decode b_B_fitTo 1 = .ok (.istore_n 2, 1) := by decide +kernel
theorem d_B_fitTo_2 : decode b_B_fitTo 2 = .ok (.iload_n 2, 1) := by decide +kernel
theorem d_B_fitTo_3 : decode b_B_fitTo 3 = .ok (.aload_n 0, 1) := by decide +kernel
theorem d_B_fitTo_4 : decode b_B_fitTo 4 = .ok (.getfield 11, 3) := by decide +kernel
theorem d_B_fitTo_7 : decode b_B_fitTo 7 = .ok (.arraylength, 1) := by decide +kernel
theorem d_B_fitTo_8 : decode b_B_fitTo 8 = .ok (.if_icmp .ge 39, 3) := by decide +kernel
theorem d_B_fitTo_11 : decode b_B_fitTo 11 = .ok (.aload_n 1, 1) := by decide +kernel
theorem d_B_fitTo_12 : decode b_B_fitTo 12 = .ok (.getfield 11, 3) := by decide +kernel
theorem d_B_fitTo_15 : decode b_B_fitTo 15 = .ok (.iload_n 2, 1) := by decide +kernel
theorem d_B_fitTo_16 : decode b_B_fitTo 16 = .ok (.aaload, 1) := by decide +kernel
theorem d_B_fitTo_17 : decode b_B_fitTo 17 = .ok (.aload_n 0, 1) := by decide +kernel
theorem d_B_fitTo_18 : decode b_B_fitTo 18 = .ok (.getfield 11, 3) := by decide +kernel
theorem d_B_fitTo_21 : decode b_B_fitTo 21 = .ok (.iload_n 2, 1) := by decide +kernel
theorem d_B_fitTo_22 : decode b_B_fitTo 22 = .ok (.aaload, 1) := by decide +kernel
theorem d_B_fitTo_23 : decode b_B_fitTo 23 = .ok (.invokestatic 38, 3) := by decide +kernel
theorem d_B_fitTo_26 : decode b_B_fitTo 26 = .ok (.aload_n 1, 1) := by decide +kernel
theorem d_B_fitTo_27 : decode b_B_fitTo 27 = .ok (.getfield 16, 3) := by decide +kernel
theorem d_B_fitTo_30 : decode b_B_fitTo 30 = .ok (.iload_n 2, 1) := by decide +kernel
theorem d_B_fitTo_31 : decode b_B_fitTo 31 = .ok (.aaload, 1) := by decide +kernel
theorem d_B_fitTo_32 : decode b_B_fitTo 32 = .ok (.aload_n 0, 1) := by decide +kernel
theorem d_B_fitTo_33 : decode b_B_fitTo 33 = .ok (.getfield 16, 3) := by decide +kernel
theorem d_B_fitTo_36 : decode b_B_fitTo 36 = .ok (.iload_n 2, 1) := by decide +kernel
theorem d_B_fitTo_37 : decode b_B_fitTo 37 = .ok (.aaload, 1) := by decide +kernel
theorem d_B_fitTo_38 : decode b_B_fitTo 38 = .ok (.invokestatic 38, 3) := by decide +kernel
theorem d_B_fitTo_41 : decode b_B_fitTo 41 = .ok (.iinc 2 1, 3) := by decide +kernel
theorem d_B_fitTo_44 : decode b_B_fitTo 44 = .ok (.goto (-42), 3) := by decide +kernel
theorem d_B_fitTo_47 : decode b_B_fitTo 47 = .ok (.return_, 1) := by decide +kernel
theorem d_B_fitShares_0 : decode b_B_fitShares 0 = .ok (.iconst 0, 1) := by decide +kernel
theorem d_B_fitShares_1 : decode b_B_fitShares 1 = .ok (.istore_n 2, 1) := by decide +kernel
theorem d_B_fitShares_2 : decode b_B_fitShares 2 = .ok (.iconst 0, 1) := by decide +kernel
theorem d_B_fitShares_3 : decode b_B_fitShares 3 = .ok (.istore_n 3, 1) := by decide +kernel
theorem d_B_fitShares_4 : decode b_B_fitShares 4 = .ok (.iload_n 3, 1) := by decide +kernel
theorem d_B_fitShares_5 : decode b_B_fitShares 5 = .ok (.aload_n 0, 1) := by decide +kernel
theorem d_B_fitShares_6 : decode b_B_fitShares 6 = .ok (.arraylength, 1) := by decide +kernel
theorem d_B_fitShares_7 : decode b_B_fitShares 7 = .ok (.if_icmp .ge 15, 3) := by decide +kernel
theorem d_B_fitShares_10 : decode b_B_fitShares 10 = .ok (.iload_n 2, 1) := by decide +kernel
theorem d_B_fitShares_11 : decode b_B_fitShares 11 = .ok (.aload_n 0, 1) := by decide +kernel
theorem d_B_fitShares_12 : decode b_B_fitShares 12 = .ok (.iload_n 3, 1) := by decide +kernel
theorem d_B_fitShares_13 : decode b_B_fitShares 13 = .ok (.iaload, 1) := by decide +kernel
theorem d_B_fitShares_14 : decode b_B_fitShares 14 = .ok (.iadd, 1) := by decide +kernel
theorem d_B_fitShares_15 : decode b_B_fitShares 15 = .ok (.istore_n 2, 1) := by decide +kernel
theorem d_B_fitShares_16 : decode b_B_fitShares 16 = .ok (.iinc 3 1, 3) := by decide +kernel
theorem d_B_fitShares_19 : decode b_B_fitShares 19 = .ok (.goto (-15), 3) := by decide +kernel
theorem d_B_fitShares_22 : decode b_B_fitShares 22 = .ok (.iload_n 2, 1) := by decide +kernel
theorem d_B_fitShares_23 : decode b_B_fitShares 23 = .ok (.ifCond .ne 4, 3) := by decide +kernel
theorem d_B_fitShares_26 : decode b_B_fitShares 26 = .ok (.return_, 1) := by decide +kernel
theorem d_B_fitShares_27 : decode b_B_fitShares 27 = .ok (.iconst 0, 1) := by decide +kernel
theorem d_B_fitShares_28 : decode b_B_fitShares 28 = .ok (.istore_n 3, 1) := by decide +kernel
theorem d_B_fitShares_29 : decode b_B_fitShares 29 = .ok (.iload_n 3, 1) := by decide +kernel
theorem d_B_fitShares_30 : decode b_B_fitShares 30 = .ok (.aload_n 0, 1) := by decide +kernel
theorem d_B_fitShares_31 : decode b_B_fitShares 31 = .ok (.arraylength, 1) := by decide +kernel
theorem d_B_fitShares_32 : decode b_B_fitShares 32 = .ok (.if_icmp .ge 23, 3) := by decide +kernel
theorem d_B_fitShares_35 : decode b_B_fitShares 35 = .ok (.aload_n 1, 1) := by decide +kernel
theorem d_B_fitShares_36 : decode b_B_fitShares 36 = .ok (.iload_n 3, 1) := by decide +kernel
theorem d_B_fitShares_37 : decode b_B_fitShares 37 = .ok (.sipush 1000, 3) := by decide +kernel
theorem d_B_fitShares_40 : decode b_B_fitShares 40 = .ok (.iload_n 2, 1) := by decide +kernel
theorem d_B_fitShares_41 : decode b_B_fitShares 41 = .ok (.aload_n 0, 1) := by decide +kernel
theorem d_B_fitShares_42 : decode b_B_fitShares 42 = .ok (.iload_n 3, 1) := by decide +kernel
theorem d_B_fitShares_43 : decode b_B_fitShares 43 = .ok (.iaload, 1) := by decide +kernel
theorem d_B_fitShares_44 : decode b_B_fitShares 44 = .ok (.isub, 1) := by decide +kernel
theorem d_B_fitShares_45 : decode b_B_fitShares 45 = .ok (.imul, 1) := by decide +kernel
theorem d_B_fitShares_46 : decode b_B_fitShares 46 = .ok (.iload_n 2, 1) := by decide +kernel
theorem d_B_fitShares_47 : decode b_B_fitShares 47 = .ok (.idiv, 1) := by decide +kernel
theorem d_B_fitShares_48 : decode b_B_fitShares 48 = .ok (.iastore, 1) := by decide +kernel
theorem d_B_fitShares_49 : decode b_B_fitShares 49 = .ok (.iinc 3 1, 3) := by decide +kernel
theorem d_B_fitShares_52 : decode b_B_fitShares 52 = .ok (.goto (-23), 3) := by decide +kernel
theorem d_B_fitShares_55 : decode b_B_fitShares 55 = .ok (.return_, 1) := by decide +kernel
theorem d_K_sum_0 : decode b_K_sum 0 = .ok (.iload_n 1, 1) := by decide +kernel
theorem d_K_sum_1 : decode b_K_sum 1 = .ok (.ifCond .lt 20, 3) := by decide +kernel
theorem d_K_sum_4 : decode b_K_sum 4 = .ok (.iload_n 1, 1) := by decide +kernel
theorem d_K_sum_5 : decode b_K_sum 5 = .ok (.aload_n 0, 1) := by decide +kernel
theorem d_K_sum_6 : decode b_K_sum 6 = .ok (.getfield 76, 3) := by decide +kernel
theorem d_K_sum_9 : decode b_K_sum 9 = .ok (.if_icmp .gt 12, 3) := by decide +kernel
theorem d_K_sum_12 : decode b_K_sum 12 = .ok (.aload_n 0, 1) := by decide +kernel
theorem d_K_sum_13 : decode b_K_sum 13 = .ok (.getfield 72, 3) := by decide +kernel
theorem d_K_sum_16 : decode b_K_sum 16 = .ok (.iload_n 1, 1) := by decide +kernel
theorem d_K_sum_17 : decode b_K_sum 17 = .ok (.laload, 1) := by decide +kernel
theorem d_K_sum_18 : decode b_K_sum 18 = .ok (.goto 6, 3) := by decide +kernel
theorem d_K_sum_21 : decode b_K_sum 21 = .ok (.ldc2_w 146, 3) := by decide +kernel
theorem d_K_sum_24 : decode b_K_sum 24 = .ok (.lreturn, 1) := by decide +kernel
theorem d_K_leftOut_0 : decode b_K_leftOut 0 = .ok (.aload_n 0, 1) := by decide +kernel
theorem d_K_leftOut_1 : decode b_K_leftOut 1 = .ok (.getfield 25, 3) := by decide +kernel
theorem d_K_leftOut_4 : decode b_K_leftOut 4 = .ok (.iload_n 1, 1) := by decide +kernel
theorem d_K_leftOut_5 : decode b_K_leftOut 5 = .ok (.invokevirtual 148, 3) := by decide +kernel
theorem d_K_leftOut_8 : decode b_K_leftOut 8 = .ok (.istore_n 2, 1) := by decide +kernel
theorem d_K_leftOut_9 : decode b_K_leftOut 9 = .ok (.iload_n 2, 1) := by decide +kernel
theorem d_K_leftOut_10 : decode b_K_leftOut 10 = .ok (.ifCond .ne 5, 3) := by decide +kernel
theorem d_K_leftOut_13 : decode b_K_leftOut 13 = .ok (.iconst (-1), 1) := by decide +kernel
theorem d_K_leftOut_14 : decode b_K_leftOut 14 = .ok (.ireturn, 1) := by decide +kernel
theorem d_K_leftOut_15 : decode b_K_leftOut 15 = .ok (.aload_n 0, 1) := by decide +kernel
theorem d_K_leftOut_16 : decode b_K_leftOut 16 = .ok (.getfield 47, 3) := by decide +kernel
theorem d_K_leftOut_19 : decode b_K_leftOut 19 = .ok (.aload_n 0, 1) := by decide +kernel
theorem d_K_leftOut_20 : decode b_K_leftOut 20 = .ok (.getfield 25, 3) := by decide +kernel
theorem d_K_leftOut_23 : decode b_K_leftOut 23 = .ok (.aload_n 0, 1) := by decide +kernel
theorem d_K_leftOut_24 : decode b_K_leftOut 24 = .ok (.getfield 34, 3) := by decide +kernel
theorem d_K_leftOut_27 : decode b_K_leftOut 27 = .ok (.iload_n 1, 1) := by decide +kernel
theorem d_K_leftOut_28 : decode b_K_leftOut 28 = .ok (.invokevirtual 114, 3) := by decide +kernel
theorem d_K_leftOut_31 : decode b_K_leftOut 31 = .ok (.sipush 1000, 3) := by decide +kernel
theorem d_K_leftOut_34 : decode b_K_leftOut 34 = .ok (.aload_n 0, 1) := by decide +kernel
theorem d_K_leftOut_35 : decode b_K_leftOut 35 = .ok (.getfield 25, 3) := by decide +kernel
theorem d_K_leftOut_38 : decode b_K_leftOut 38 = .ok (.iload_n 1, 1) := by decide +kernel
theorem d_K_leftOut_39 : decode b_K_leftOut 39 = .ok (.aload_n 0, 1) := by decide +kernel
theorem d_K_leftOut_40 : decode b_K_leftOut 40 = .ok (.getfield 47, 3) := by decide +kernel
theorem d_K_leftOut_43 : decode b_K_leftOut 43 = .ok (.getfield 152, 3) := by decide +kernel
theorem d_K_leftOut_46 : decode b_K_leftOut 46 = .ok (.invokevirtual 153, 3) := by decide +kernel
theorem d_K_leftOut_49 : decode b_K_leftOut 49 = .ok (.imul, 1) := by decide +kernel
theorem d_K_leftOut_50 : decode b_K_leftOut 50 = .ok (.iload_n 2, 1) := by decide +kernel
theorem d_K_leftOut_51 : decode b_K_leftOut 51 = .ok (.idiv, 1) := by decide +kernel
theorem d_K_leftOut_52 : decode b_K_leftOut 52 = .ok (.ireturn, 1) := by decide +kernel
theorem d_T_truthsOf_0 : decode b_T_truthsOf 0 = .ok (.iconst 0, 1) := by decide +kernel
theorem d_T_truthsOf_1 : decode b_T_truthsOf 1 = .ok (.istore_n 2, 1) := by decide +kernel
theorem d_T_truthsOf_2 : decode b_T_truthsOf 2 = .ok (.iconst 0, 1) := by decide +kernel
theorem d_T_truthsOf_3 : decode b_T_truthsOf 3 = .ok (.istore_n 3, 1) := by decide +kernel
theorem d_T_truthsOf_4 : decode b_T_truthsOf 4 = .ok (.iload_n 3, 1) := by decide +kernel
theorem d_T_truthsOf_5 : decode b_T_truthsOf 5 = .ok (.aload_n 0, 1) := by decide +kernel
theorem d_T_truthsOf_6 : decode b_T_truthsOf 6 = .ok (.getfield 28, 3) := by decide +kernel
theorem d_T_truthsOf_9 : decode b_T_truthsOf 9 = .ok (.if_icmp .ge 21, 3) := by decide +kernel
theorem d_T_truthsOf_12 : decode b_T_truthsOf 12 = .ok (.aload_n 0, 1) := by decide +kernel
theorem d_T_truthsOf_13 : decode b_T_truthsOf 13 = .ok (.iload_n 3, 1) := by decide +kernel
theorem d_T_truthsOf_14 : decode b_T_truthsOf 14 = .ok (.iload_n 1, 1) := by decide +kernel
theorem d_T_truthsOf_15 : decode b_T_truthsOf 15 = .ok (.invokevirtual 32, 3) := by decide +kernel
theorem d_T_truthsOf_18 : decode b_T_truthsOf 18 = .ok (.ifCond .eq 6, 3) := by decide +kernel
theorem d_T_truthsOf_21 : decode b_T_truthsOf 21 = .ok (.iinc 2 1, 3) := by decide +kernel
theorem d_T_truthsOf_24 : decode b_T_truthsOf 24 = .ok (.iinc 3 1, 3) := by decide +kernel
theorem d_T_truthsOf_27 : decode b_T_truthsOf 27 = .ok (.goto (-23), 3) := by decide +kernel
theorem d_T_truthsOf_30 : decode b_T_truthsOf 30 = .ok (.iload_n 2, 1) := by decide +kernel
theorem d_T_truthsOf_31 : decode b_T_truthsOf 31 = .ok (.ireturn, 1) := by decide +kernel
theorem d_T_hasTruthOf_0 : decode b_T_hasTruthOf 0 = .ok (.aload_n 0, 1) := by decide +kernel
theorem d_T_hasTruthOf_1 : decode b_T_hasTruthOf 1 = .ok (.getfield 25, 3) := by decide +kernel
theorem d_T_hasTruthOf_4 : decode b_T_hasTruthOf 4 = .ok (.iload_n 1, 1) := by decide +kernel
theorem d_T_hasTruthOf_5 : decode b_T_hasTruthOf 5 = .ok (.iaload, 1) := by decide +kernel
theorem d_T_hasTruthOf_6 : decode b_T_hasTruthOf 6 = .ok (.iconst (-1), 1) := by decide +kernel
theorem d_T_hasTruthOf_7 : decode b_T_hasTruthOf 7 = .ok (.if_icmp .eq 17, 3) := by decide +kernel
theorem d_T_hasTruthOf_10 : decode b_T_hasTruthOf 10 = .ok (.aload_n 0, 1) := by decide +kernel
theorem d_T_hasTruthOf_11 : decode b_T_hasTruthOf 11 = .ok (.getfield 22, 3) := by decide +kernel
theorem d_T_hasTruthOf_14 : decode b_T_hasTruthOf 14 = .ok (.iload_n 1, 1) := by decide +kernel
theorem d_T_hasTruthOf_15 : decode b_T_hasTruthOf 15 = .ok (.iaload, 1) := by decide +kernel
theorem d_T_hasTruthOf_16 : decode b_T_hasTruthOf 16 = .ok (.iload_n 2, 1) := by decide +kernel
theorem d_T_hasTruthOf_17 : decode b_T_hasTruthOf 17 = .ok (.if_icmp .ne 7, 3) := by decide +kernel
theorem d_T_hasTruthOf_20 : decode b_T_hasTruthOf 20 = .ok (.iconst 1, 1) := by decide +kernel
theorem d_T_hasTruthOf_21 : decode b_T_hasTruthOf 21 = .ok (.goto 4, 3) := by decide +kernel
theorem d_T_hasTruthOf_24 : decode b_T_hasTruthOf 24 = .ok (.iconst 0, 1) := by decide +kernel
theorem d_T_hasTruthOf_25 : decode b_T_hasTruthOf 25 = .ok (.ireturn, 1) := by decide +kernel
theorem d_T_truthsMissed_0 : decode b_T_truthsMissed 0 = .ok (.iconst 0, 1) := by decide +kernel
theorem d_T_truthsMissed_1 : decode b_T_truthsMissed 1 = .ok (.istore_n 3, 1) := by decide +kernel
theorem d_T_truthsMissed_2 : decode b_T_truthsMissed 2 = .ok (.iconst 0, 1) := by decide +kernel
theorem d_T_truthsMissed_3 : decode b_T_truthsMissed 3 = .ok (.istore 4, 2) := by decide +kernel
theorem d_T_truthsMissed_5 : decode b_T_truthsMissed 5 = .ok (.iload 4, 2) := by decide +kernel
theorem d_T_truthsMissed_7 : decode b_T_truthsMissed 7 = .ok (.aload_n 0, 1) := by decide +kernel
theorem d_T_truthsMissed_8 : decode b_T_truthsMissed 8 = .ok (.getfield 28, 3) := by decide +kernel
theorem d_T_truthsMissed_11 : decode b_T_truthsMissed 11 = .ok (.if_icmp .ge 36, 3) := by decide +kernel
theorem d_T_truthsMissed_14 : decode b_T_truthsMissed 14 = .ok (.aload_n 0, 1) := by decide +kernel
theorem d_T_truthsMissed_15 : decode b_T_truthsMissed 15 = .ok (.iload 4, 2) := by decide +kernel
theorem d_T_truthsMissed_17 : decode b_T_truthsMissed 17 = .ok (.iload_n 1, 1) := by decide +kernel
theorem d_T_truthsMissed_18 : decode b_T_truthsMissed 18 = .ok (.invokevirtual 32, 3) := by decide +kernel
theorem d_T_truthsMissed_21 : decode b_T_truthsMissed 21 = .ok (.ifCond .eq 20, 3) := by decide +kernel
theorem d_T_truthsMissed_24 : decode b_T_truthsMissed 24 = .ok (.aload_n 0, 1) := by decide +kernel
theorem d_T_truthsMissed_25 : decode b_T_truthsMissed 25 = .ok (.getfield 25, 3) := by decide +kernel
theorem d_T_truthsMissed_28 : decode b_T_truthsMissed 28 = .ok (.iload 4, 2) := by decide +kernel
theorem d_T_truthsMissed_30 : decode b_T_truthsMissed 30 = .ok (.iaload, 1) := by decide +kernel
theorem d_T_truthsMissed_31 : decode b_T_truthsMissed 31 = .ok (.aload_n 2, 1) := by decide +kernel
theorem d_T_truthsMissed_32 : decode b_T_truthsMissed 32 = .ok (.iload 4, 2) := by decide +kernel
theorem d_T_truthsMissed_34 : decode b_T_truthsMissed 34 = .ok (.iaload, 1) := by decide +kernel
theorem d_T_truthsMissed_35 : decode b_T_truthsMissed 35 = .ok (.if_icmp .eq 6, 3) := by decide +kernel
theorem d_T_truthsMissed_38 : decode b_T_truthsMissed 38 = .ok (.iinc 3 1, 3) := by decide +kernel
theorem d_T_truthsMissed_41 : decode b_T_truthsMissed 41 = .ok (.iinc 4 1, 3) := by decide +kernel
theorem d_T_truthsMissed_44 : decode b_T_truthsMissed 44 = .ok (.goto (-39), 3) := by decide +kernel
theorem d_T_truthsMissed_47 : decode b_T_truthsMissed 47 = .ok (.iload_n 3, 1) := by decide +kernel
theorem d_T_truthsMissed_48 : decode b_T_truthsMissed 48 = .ok (.ireturn, 1) := by decide +kernel
theorem d_K_hours_0 : decode b_K_hours 0 = .ok (.aload_n 0, 1) := by decide +kernel
theorem d_K_hours_1 : decode b_K_hours 1 = .ok (.iload_n 1, 1) := by decide +kernel
theorem d_K_hours_2 : decode b_K_hours 2 = .ok (.invokevirtual 85, 3) := by decide +kernel
theorem d_K_hours_5 : decode b_K_hours 5 = .ok (.ifCond .eq 31, 3) := by decide +kernel
theorem d_K_hours_8 : decode b_K_hours 8 = .ok (.aload_n 0, 1) := by decide +kernel
theorem d_K_hours_9 : decode b_K_hours 9 = .ok (.getfield 54, 3) := by decide +kernel
theorem d_K_hours_12 : decode b_K_hours 12 = .ok (.invokevirtual 132, 3) := by decide +kernel
theorem d_K_hours_15 : decode b_K_hours 15 = .ok (.ifCond .eq 21, 3) := by decide +kernel
theorem d_K_hours_18 : decode b_K_hours 18 = .ok (.aload_n 0, 1) := by decide +kernel
theorem d_K_hours_19 : decode b_K_hours 19 = .ok (.getfield 54, 3) := by decide +kernel
theorem d_K_hours_22 : decode b_K_hours 22 = .ok (.iload_n 1, 1) := by decide +kernel
theorem d_K_hours_23 : decode b_K_hours 23 = .ok (.aload_n 0, 1) := by decide +kernel
theorem d_K_hours_24 : decode b_K_hours 24 = .ok (.getfield 25, 3) := by decide +kernel
theorem d_K_hours_27 : decode b_K_hours 27 = .ok (.getfield 157, 3) := by decide +kernel
theorem d_K_hours_30 : decode b_K_hours 30 = .ok (.invokevirtual 160, 3) := by decide +kernel
theorem d_K_hours_33 : decode b_K_hours 33 = .ok (.goto 6, 3) := by decide +kernel
theorem d_K_hours_36 : decode b_K_hours 36 = .ok (.ldc2_w 146, 3) := by decide +kernel
theorem d_K_hours_39 : decode b_K_hours 39 = .ok (.lreturn, 1) := by decide +kernel
theorem d_N_secondsOf_0 : decode b_N_secondsOf 0 = .ok (.lconst 0, 1) := by decide +kernel
theorem d_N_secondsOf_1 : decode b_N_secondsOf 1 = .ok (.lstore_n 3, 1) := by decide +kernel
theorem d_N_secondsOf_2 : decode b_N_secondsOf 2 = .ok (.iconst 0, 1) := by decide +kernel
theorem d_N_secondsOf_3 : decode b_N_secondsOf 3 = .ok (.istore 5, 2) := by decide +kernel
theorem d_N_secondsOf_5 : decode b_N_secondsOf 5 = .ok (.iload 5, 2) := by decide +kernel
theorem d_N_secondsOf_7 : decode b_N_secondsOf 7 = .ok (.aload_n 0, 1) := by decide +kernel
theorem d_N_secondsOf_8 : decode b_N_secondsOf 8 = .ok (.getfield 18, 3) := by decide +kernel
theorem d_N_secondsOf_11 : decode b_N_secondsOf 11 = .ok (.if_icmp .ge 35, 3) := by decide +kernel
theorem d_N_secondsOf_14 : decode b_N_secondsOf 14 = .ok (.aload_n 0, 1) := by decide +kernel
theorem d_N_secondsOf_15 : decode b_N_secondsOf 15 = .ok (.getfield 9, 3) := by decide +kernel
theorem d_N_secondsOf_18 : decode b_N_secondsOf 18 = .ok (.iload 5, 2) := by decide +kernel
theorem d_N_secondsOf_20 : decode b_N_secondsOf 20 = .ok (.iaload, 1) := by decide +kernel
theorem d_N_secondsOf_21 : decode b_N_secondsOf 21 = .ok (.iload_n 1, 1) := by decide +kernel
theorem d_N_secondsOf_22 : decode b_N_secondsOf 22 = .ok (.if_icmp .ne 18, 3) := by decide +kernel
theorem d_N_secondsOf_25 : decode b_N_secondsOf 25 = .ok (.lload_n 3, 1) := by decide +kernel
theorem d_N_secondsOf_26 : decode b_N_secondsOf 26 = .ok (.aload_n 0, 1) := by decide +kernel
theorem d_N_secondsOf_27 : decode b_N_secondsOf 27 = .ok (.iload 5, 2) := by decide +kernel
theorem d_N_secondsOf_29 : decode b_N_secondsOf 29 = .ok (.aload_n 2, 1) := by decide +kernel
theorem d_N_secondsOf_30 : decode b_N_secondsOf 30 = .ok (.invokevirtual 56, 3) := by decide +kernel
theorem d_N_secondsOf_33 : decode b_N_secondsOf 33 = .ok (.aload_n 2, 1) := by decide +kernel
theorem d_N_secondsOf_34 : decode b_N_secondsOf 34 = .ok (.iload 5, 2) := by decide +kernel
theorem d_N_secondsOf_36 : decode b_N_secondsOf 36 = .ok (.laload, 1) := by decide +kernel
theorem d_N_secondsOf_37 : decode b_N_secondsOf 37 = .ok (.lsub, 1) := by decide +kernel
theorem d_N_secondsOf_38 : decode b_N_secondsOf 38 = .ok (.ladd, 1) := by decide +kernel
theorem d_N_secondsOf_39 : decode b_N_secondsOf 39 = .ok (.lstore_n 3, 1) := by decide +kernel
theorem d_N_secondsOf_40 : decode b_N_secondsOf 40 = .ok (.iinc 5 1, 3) := by decide +kernel
theorem d_N_secondsOf_43 : decode b_N_secondsOf 43 = .ok (.goto (-38), 3) := by decide +kernel
theorem d_N_secondsOf_46 : decode b_N_secondsOf 46 = .ok (.lload_n 3, 1) := by decide +kernel
theorem d_N_secondsOf_47 : decode b_N_secondsOf 47 = .ok (.lreturn, 1) := by decide +kernel
theorem d_N_endOf_0 : decode b_N_endOf 0 = .ok (.aload_n 2, 1) := by decide +kernel
theorem d_N_endOf_1 : decode b_N_endOf 1 = .ok (.iload_n 1, 1) := by decide +kernel
theorem d_N_endOf_2 : decode b_N_endOf 2 = .ok (.iconst 1, 1) := by decide +kernel
theorem d_N_endOf_3 : decode b_N_endOf 3 = .ok (.iadd, 1) := by decide +kernel
theorem d_N_endOf_4 : decode b_N_endOf 4 = .ok (.aload_n 0, 1) := by decide +kernel
theorem d_N_endOf_5 : decode b_N_endOf 5 = .ok (.getfield 18, 3) := by decide +kernel
theorem d_N_endOf_8 : decode b_N_endOf 8 = .ok (.iconst 1, 1) := by decide +kernel
theorem d_N_endOf_9 : decode b_N_endOf 9 = .ok (.isub, 1) := by decide +kernel
theorem d_N_endOf_10 : decode b_N_endOf 10 = .ok (.invokestatic 50, 3) := by decide +kernel
theorem d_N_endOf_13 : decode b_N_endOf 13 = .ok (.laload, 1) := by decide +kernel
theorem d_N_endOf_14 : decode b_N_endOf 14 = .ok (.lreturn, 1) := by decide +kernel
theorem d_K_haul_0 : decode b_K_haul 0 = .ok (.aload_n 0, 1) := by decide +kernel
theorem d_K_haul_1 : decode b_K_haul 1 = .ok (.getfield 54, 3) := by decide +kernel
theorem d_K_haul_4 : decode b_K_haul 4 = .ok (.iload_n 1, 1) := by decide +kernel
theorem d_K_haul_5 : decode b_K_haul 5 = .ok (.invokevirtual 164, 3) := by decide +kernel
theorem d_K_haul_8 : decode b_K_haul 8 = .ok (.istore_n 3, 1) := by decide +kernel
theorem d_K_haul_9 : decode b_K_haul 9 = .ok (.iload_n 3, 1) := by decide +kernel
theorem d_K_haul_10 : decode b_K_haul 10 = .ok (.iconst (-1), 1) := by decide +kernel
theorem d_K_haul_11 : decode b_K_haul 11 = .ok (.if_icmp .eq 11, 3) := by decide +kernel
theorem d_K_haul_14 : decode b_K_haul 14 = .ok (.iload_n 2, 1) := by decide +kernel
theorem d_K_haul_15 : decode b_K_haul 15 = .ok (.iconst 2, 1) := by decide +kernel
theorem d_K_haul_16 : decode b_K_haul 16 = .ok (.invokestatic 96, 3) := by decide +kernel
theorem d_K_haul_19 : decode b_K_haul 19 = .ok (.ifCond .ne 5, 3) := by decide +kernel
theorem d_K_haul_22 : decode b_K_haul 22 = .ok (.iconst (-1), 1) := by decide +kernel
theorem d_K_haul_23 : decode b_K_haul 23 = .ok (.ireturn, 1) := by decide +kernel
theorem d_K_haul_24 : decode b_K_haul 24 = .ok (.iload_n 2, 1) := by decide +kernel
theorem d_K_haul_25 : decode b_K_haul 25 = .ok (.ifCond .ne 15, 3) := by decide +kernel
theorem d_K_haul_28 : decode b_K_haul 28 = .ok (.aload_n 0, 1) := by decide +kernel
theorem d_K_haul_29 : decode b_K_haul 29 = .ok (.getfield 25, 3) := by decide +kernel
theorem d_K_haul_32 : decode b_K_haul 32 = .ok (.getfield 157, 3) := by decide +kernel
theorem d_K_haul_35 : decode b_K_haul 35 = .ok (.iload_n 3, 1) := by decide +kernel
theorem d_K_haul_36 : decode b_K_haul 36 = .ok (.laload, 1) := by decide +kernel
theorem d_K_haul_37 : decode b_K_haul 37 = .ok (.goto 25, 3) := by decide +kernel
theorem d_K_haul_40 : decode b_K_haul 40 = .ok (.aload_n 0, 1) := by decide +kernel
theorem d_K_haul_41 : decode b_K_haul 41 = .ok (.getfield 54, 3) := by decide +kernel
theorem d_K_haul_44 : decode b_K_haul 44 = .ok (.aload_n 0, 1) := by decide +kernel
theorem d_K_haul_45 : decode b_K_haul 45 = .ok (.getfield 54, 3) := by decide +kernel
theorem d_K_haul_48 : decode b_K_haul 48 = .ok (.iload_n 3, 1) := by decide +kernel
theorem d_K_haul_49 : decode b_K_haul 49 = .ok (.invokevirtual 167, 3) := by decide +kernel
theorem d_K_haul_52 : decode b_K_haul 52 = .ok (.aload_n 0, 1) := by decide +kernel
theorem d_K_haul_53 : decode b_K_haul 53 = .ok (.getfield 25, 3) := by decide +kernel
theorem d_K_haul_56 : decode b_K_haul 56 = .ok (.getfield 157, 3) := by decide +kernel
theorem d_K_haul_59 : decode b_K_haul 59 = .ok (.invokevirtual 170, 3) := by decide +kernel
theorem d_K_haul_62 : decode b_K_haul 62 = .ok (.lstore 4, 2) := by decide +kernel
theorem d_K_haul_64 : decode b_K_haul 64 = .ok (.lload 4, 2) := by decide +kernel
theorem d_K_haul_66 : decode b_K_haul 66 = .ok (.ldc2_w 173, 3) := by decide +kernel
theorem d_K_haul_69 : decode b_K_haul 69 = .ok (.lcmp, 1) := by decide +kernel
theorem d_K_haul_70 : decode b_K_haul 70 = .ok (.ifCond .gt 9, 3) := by decide +kernel
theorem d_K_haul_73 : decode b_K_haul 73 = .ok (.lload 4, 2) := by decide +kernel
theorem d_K_haul_75 : decode b_K_haul 75 = .ok (.l2i, 1) := by decide +kernel
theorem d_K_haul_76 : decode b_K_haul 76 = .ok (.goto 4, 3) := by decide +kernel
theorem d_K_haul_79 : decode b_K_haul 79 = .ok (.iconst (-1), 1) := by decide +kernel
theorem d_K_haul_80 : decode b_K_haul 80 = .ok (.ireturn, 1) := by decide +kernel
theorem d_N_haulStart_0 : decode b_N_haulStart 0 = .ok (.iconst 0, 1) := by decide +kernel
theorem d_N_haulStart_1 : decode b_N_haulStart 1 = .ok (.istore_n 2, 1) := by decide +kernel
theorem d_N_haulStart_2 : decode b_N_haulStart 2 = .ok (.iconst 0, 1) := by decide +kernel
theorem d_N_haulStart_3 : decode b_N_haulStart 3 = .ok (.istore_n 3, 1) := by decide +kernel
theorem d_N_haulStart_4 : decode b_N_haulStart 4 = .ok (.iload_n 3, 1) := by decide +kernel
theorem d_N_haulStart_5 : decode b_N_haulStart 5 = .ok (.aload_n 0, 1) := by decide +kernel
theorem d_N_haulStart_6 : decode b_N_haulStart 6 = .ok (.getfield 18, 3) := by decide +kernel
theorem d_N_haulStart_9 : decode b_N_haulStart 9 = .ok (.if_icmp .ge 37, 3) := by decide +kernel
theorem d_N_haulStart_12 : decode b_N_haulStart 12 = .ok (.aload_n 0, 1) := by decide +kernel
theorem d_N_haulStart_13 : decode b_N_haulStart 13 = .ok (.iload_n 3, 1) := by decide +kernel
theorem d_N_haulStart_14 : decode b_N_haulStart 14 = .ok (.invokevirtual 60, 3) := by decide +kernel
theorem d_N_haulStart_17 : decode b_N_haulStart 17 = .ok (.ifCond .eq 23, 3) := by decide +kernel
theorem d_N_haulStart_20 : decode b_N_haulStart 20 = .ok (.aload_n 0, 1) := by decide +kernel
theorem d_N_haulStart_21 : decode b_N_haulStart 21 = .ok (.iload_n 3, 1) := by decide +kernel
theorem d_N_haulStart_22 : decode b_N_haulStart 22 = .ok (.iconst 1, 1) := by decide +kernel
theorem d_N_haulStart_23 : decode b_N_haulStart 23 = .ok (.isub, 1) := by decide +kernel
theorem d_N_haulStart_24 : decode b_N_haulStart 24 = .ok (.invokevirtual 60, 3) := by decide +kernel
theorem d_N_haulStart_27 : decode b_N_haulStart 27 = .ok (.ifCond .ne 13, 3) := by decide +kernel
theorem d_N_haulStart_30 : decode b_N_haulStart 30 = .ok (.iload_n 2, 1) := by decide +kernel
theorem d_N_haulStart_31 : decode b_N_haulStart 31 = .ok (.iload_n 1, 1) := by decide +kernel
theorem d_N_haulStart_32 : decode b_N_haulStart 32 = .ok (.if_icmp .ne 5, 3) := by decide +kernel
theorem d_N_haulStart_35 : decode b_N_haulStart 35 = .ok (.iload_n 3, 1) := by decide +kernel
theorem d_N_haulStart_36 : decode b_N_haulStart 36 = .ok (.ireturn, 1) := by decide +kernel
theorem d_N_haulStart_37 : decode b_N_haulStart 37 = .ok (.iinc 2 1, 3) := by decide +kernel
theorem d_N_haulStart_40 : decode b_N_haulStart 40 = .ok (.iinc 3 1, 3) := by decide +kernel
theorem d_N_haulStart_43 : decode b_N_haulStart 43 = .ok (.goto (-39), 3) := by decide +kernel
theorem d_N_haulStart_46 : decode b_N_haulStart 46 = .ok (.iconst (-1), 1) := by decide +kernel
theorem d_N_haulStart_47 : decode b_N_haulStart 47 = .ok (.ireturn, 1) := by decide +kernel
theorem d_N_isHauling_0 : decode b_N_isHauling 0 = .ok (.aload_n 0, 1) := by decide +kernel
theorem d_N_isHauling_1 : decode b_N_isHauling 1 = .ok (.iload_n 1, 1) := by decide +kernel
theorem d_N_isHauling_2 : decode b_N_isHauling 2 = .ok (.invokevirtual 46, 3) := by decide +kernel
theorem d_N_isHauling_5 : decode b_N_isHauling 5 = .ok (.ifCond .eq 17, 3) := by decide +kernel
theorem d_N_isHauling_8 : decode b_N_isHauling 8 = .ok (.aload_n 0, 1) := by decide +kernel
theorem d_N_isHauling_9 : decode b_N_isHauling 9 = .ok (.getfield 9, 3) := by decide +kernel
theorem d_N_isHauling_12 : decode b_N_isHauling 12 = .ok (.iload_n 1, 1) := by decide +kernel
theorem d_N_isHauling_13 : decode b_N_isHauling 13 = .ok (.iaload, 1) := by decide +kernel
theorem d_N_isHauling_14 : decode b_N_isHauling 14 = .ok (.iconst 3, 1) := by decide +kernel
theorem d_N_isHauling_15 : decode b_N_isHauling 15 = .ok (.if_icmp .ne 7, 3) := by decide +kernel
theorem d_N_isHauling_18 : decode b_N_isHauling 18 = .ok (.iconst 1, 1) := by decide +kernel
theorem d_N_isHauling_19 : decode b_N_isHauling 19 = .ok (.goto 4, 3) := by decide +kernel
theorem d_N_isHauling_22 : decode b_N_isHauling 22 = .ok (.iconst 0, 1) := by decide +kernel
theorem d_N_isHauling_23 : decode b_N_isHauling 23 = .ok (.ireturn, 1) := by decide +kernel
theorem d_N_haulLast_0 : decode b_N_haulLast 0 = .ok (.iload_n 1, 1) := by decide +kernel
theorem d_N_haulLast_1 : decode b_N_haulLast 1 = .ok (.istore_n 2, 1) := by decide +kernel
theorem d_N_haulLast_2 : decode b_N_haulLast 2 = .ok (.iload_n 1, 1) := by decide +kernel
theorem d_N_haulLast_3 : decode b_N_haulLast 3 = .ok (.iconst 1, 1) := by decide +kernel
theorem d_N_haulLast_4 : decode b_N_haulLast 4 = .ok (.iadd, 1) := by decide +kernel
theorem d_N_haulLast_5 : decode b_N_haulLast 5 = .ok (.istore_n 3, 1) := by decide +kernel
theorem d_N_haulLast_6 : decode b_N_haulLast 6 = .ok (.iload_n 3, 1) := by decide +kernel
theorem d_N_haulLast_7 : decode b_N_haulLast 7 = .ok (.aload_n 0, 1) := by decide +kernel
theorem d_N_haulLast_8 : decode b_N_haulLast 8 = .ok (.getfield 18, 3) := by decide +kernel
theorem d_N_haulLast_11 : decode b_N_haulLast 11 = .ok (.if_icmp .ge 19, 3) := by decide +kernel
theorem d_N_haulLast_14 : decode b_N_haulLast 14 = .ok (.aload_n 0, 1) := by decide +kernel
theorem d_N_haulLast_15 : decode b_N_haulLast 15 = .ok (.iload_n 3, 1) := by decide +kernel
theorem d_N_haulLast_16 : decode b_N_haulLast 16 = .ok (.invokevirtual 60, 3) := by decide +kernel
theorem d_N_haulLast_19 : decode b_N_haulLast 19 = .ok (.ifCond .eq 11, 3) := by decide +kernel
theorem d_N_haulLast_22 : decode b_N_haulLast 22 = .ok (.iload_n 3, 1) := by decide +kernel
theorem d_N_haulLast_23 : decode b_N_haulLast 23 = .ok (.istore_n 2, 1) := by decide +kernel
theorem d_N_haulLast_24 : decode b_N_haulLast 24 = .ok (.iinc 3 1, 3) := by decide +kernel
theorem d_N_haulLast_27 : decode b_N_haulLast 27 = .ok (.goto (-21), 3) := by decide +kernel
theorem d_N_haulLast_30 : decode b_N_haulLast 30 = .ok (.iload_n 2, 1) := by decide +kernel
theorem d_N_haulLast_31 : decode b_N_haulLast 31 = .ok (.ireturn, 1) := by decide +kernel
theorem d_K_differs_0 : decode b_K_differs 0 = .ok (.aload_n 0, 1) := by decide +kernel
theorem d_K_differs_1 : decode b_K_differs 1 = .ok (.iload_n 1, 1) := by decide +kernel
theorem d_K_differs_2 : decode b_K_differs 2 = .ok (.invokevirtual 175, 3) := by decide +kernel
theorem d_K_differs_5 : decode b_K_differs 5 = .ok (.istore_n 3, 1) := by decide +kernel
theorem d_K_differs_6 : decode b_K_differs 6 = .ok (.iload_n 3, 1) := by decide +kernel
theorem d_K_differs_7 : decode b_K_differs 7 = .ok (.iconst (-1), 1) := by decide +kernel
theorem d_K_differs_8 : decode b_K_differs 8 = .ok (.if_icmp .eq 11, 3) := by decide +kernel
theorem d_K_differs_11 : decode b_K_differs 11 = .ok (.iload_n 2, 1) := by decide +kernel
theorem d_K_differs_12 : decode b_K_differs 12 = .ok (.iconst 2, 1) := by decide +kernel
theorem d_K_differs_13 : decode b_K_differs 13 = .ok (.invokestatic 96, 3) := by decide +kernel
theorem d_K_differs_16 : decode b_K_differs 16 = .ok (.ifCond .ne 5, 3) := by decide +kernel
theorem d_K_differs_19 : decode b_K_differs 19 = .ok (.iconst (-1), 1) := by decide +kernel
theorem d_K_differs_20 : decode b_K_differs 20 = .ok (.ireturn, 1) := by decide +kernel
theorem d_K_differs_21 : decode b_K_differs 21 = .ok (.iload_n 2, 1) := by decide +kernel
theorem d_K_differs_22 : decode b_K_differs 22 = .ok (.ifCond .ne 7, 3) := by decide +kernel
theorem d_K_differs_25 : decode b_K_differs 25 = .ok (.iload_n 3, 1) := by decide +kernel
theorem d_K_differs_26 : decode b_K_differs 26 = .ok (.goto 19, 3) := by decide +kernel
theorem d_K_differs_29 : decode b_K_differs 29 = .ok (.aload_n 0, 1) := by decide +kernel
theorem d_K_differs_30 : decode b_K_differs 30 = .ok (.getfield 61, 3) := by decide +kernel
theorem d_K_differs_33 : decode b_K_differs 33 = .ok (.aload_n 0, 1) := by decide +kernel
theorem d_K_differs_34 : decode b_K_differs 34 = .ok (.getfield 25, 3) := by decide +kernel
theorem d_K_differs_37 : decode b_K_differs 37 = .ok (.getfield 157, 3) := by decide +kernel
theorem d_K_differs_40 : decode b_K_differs 40 = .ok (.iload_n 3, 1) := by decide +kernel
theorem d_K_differs_41 : decode b_K_differs 41 = .ok (.laload, 1) := by decide +kernel
theorem d_K_differs_42 : decode b_K_differs 42 = .ok (.invokevirtual 178, 3) := by decide +kernel
theorem d_K_differs_45 : decode b_K_differs 45 = .ok (.ireturn, 1) := by decide +kernel
theorem d_K_differingRow_0 : decode b_K_differingRow 0 = .ok (.iconst 0, 1) := by decide +kernel
theorem d_K_differingRow_1 : decode b_K_differingRow 1 = .ok (.istore_n 2, 1) := by decide +kernel
theorem d_K_differingRow_2 : decode b_K_differingRow 2 = .ok (.iconst 0, 1) := by decide +kernel
theorem d_K_differingRow_3 : decode b_K_differingRow 3 = .ok (.istore_n 3, 1) := by decide +kernel
theorem d_K_differingRow_4 : decode b_K_differingRow 4 = .ok (.iload_n 3, 1) := by decide +kernel
theorem d_K_differingRow_5 : decode b_K_differingRow 5 = .ok (.aload_n 0, 1) := by decide +kernel
theorem d_K_differingRow_6 : decode b_K_differingRow 6 = .ok (.getfield 54, 3) := by decide +kernel
theorem d_K_differingRow_9 : decode b_K_differingRow 9 = .ok (.getfield 209, 3) := by decide +kernel
theorem d_K_differingRow_12 : decode b_K_differingRow 12 = .ok (.if_icmp .ge 57, 3) := by decide +kernel
theorem d_K_differingRow_15 : decode b_K_differingRow 15 = .ok (.aload_n 0, 1) := by decide +kernel
theorem d_K_differingRow_16 : decode b_K_differingRow 16 = .ok (.getfield 61, 3) := by decide +kernel
theorem d_K_differingRow_19 : decode b_K_differingRow 19 = .ok (.aload_n 0, 1) := by decide +kernel
theorem d_K_differingRow_20 : decode b_K_differingRow 20 = .ok (.getfield 25, 3) := by decide +kernel
theorem d_K_differingRow_23 : decode b_K_differingRow 23 = .ok (.getfield 157, 3) := by decide +kernel
theorem d_K_differingRow_26 : decode b_K_differingRow 26 = .ok (.iload_n 3, 1) := by decide +kernel
theorem d_K_differingRow_27 : decode b_K_differingRow 27 = .ok (.laload, 1) := by decide +kernel
theorem d_K_differingRow_28 : decode b_K_differingRow 28 = .ok (.invokevirtual 178, 3) := by decide +kernel
theorem d_K_differingRow_31 : decode b_K_differingRow 31 = .ok (.istore 4, 2) := by decide +kernel
theorem d_K_differingRow_33 : decode b_K_differingRow 33 = .ok (.iload 4, 2) := by decide +kernel
theorem d_K_differingRow_35 : decode b_K_differingRow 35 = .ok (.iconst (-1), 1) := by decide +kernel
theorem d_K_differingRow_36 : decode b_K_differingRow 36 = .ok (.if_icmp .eq 27, 3) := by decide +kernel
theorem d_K_differingRow_39 : decode b_K_differingRow 39 = .ok (.iload 4, 2) := by decide +kernel
theorem d_K_differingRow_41 : decode b_K_differingRow 41 = .ok (.aload_n 0, 1) := by decide +kernel
theorem d_K_differingRow_42 : decode b_K_differingRow 42 = .ok (.getfield 54, 3) := by decide +kernel
theorem d_K_differingRow_45 : decode b_K_differingRow 45 = .ok (.getfield 128, 3) := by decide +kernel
theorem d_K_differingRow_48 : decode b_K_differingRow 48 = .ok (.iload_n 3, 1) := by decide +kernel
theorem d_K_differingRow_49 : decode b_K_differingRow 49 = .ok (.iaload, 1) := by decide +kernel
theorem d_K_differingRow_50 : decode b_K_differingRow 50 = .ok (.if_icmp .eq 13, 3) := by decide +kernel
theorem d_K_differingRow_53 : decode b_K_differingRow 53 = .ok (.iload_n 2, 1) := by decide +kernel
theorem d_K_differingRow_54 : decode b_K_differingRow 54 = .ok (.iload_n 1, 1) := by decide +kernel
theorem d_K_differingRow_55 : decode b_K_differingRow 55 = .ok (.if_icmp .ne 5, 3) := by decide +kernel
theorem d_K_differingRow_58 : decode b_K_differingRow 58 = .ok (.iload_n 3, 1) := by decide +kernel
theorem d_K_differingRow_59 : decode b_K_differingRow 59 = .ok (.ireturn, 1) := by decide +kernel
theorem d_K_differingRow_60 : decode b_K_differingRow 60 = .ok (.iinc 2 1, 3) := by decide +kernel
theorem d_K_differingRow_63 : decode b_K_differingRow 63 = .ok (.iinc 3 1, 3) := by decide +kernel
theorem d_K_differingRow_66 : decode b_K_differingRow 66 = .ok (.goto (-62), 3) := by decide +kernel
theorem d_K_differingRow_69 : decode b_K_differingRow 69 = .ok (.iconst (-1), 1) := by decide +kernel
theorem d_K_differingRow_70 : decode b_K_differingRow 70 = .ok (.ireturn, 1) := by decide +kernel
theorem d_P_actAt_0 : decode b_P_actAt 0 = .ok (.aload_n 0, 1) := by decide +kernel
theorem d_P_actAt_1 : decode b_P_actAt 1 = .ok (.getfield 22, 3) := by decide +kernel
theorem d_P_actAt_4 : decode b_P_actAt 4 = .ok (.iconst 1, 1) := by decide +kernel
theorem d_P_actAt_5 : decode b_P_actAt 5 = .ok (.isub, 1) := by decide +kernel
theorem d_P_actAt_6 : decode b_P_actAt 6 = .ok (.istore_n 3, 1) := by decide +kernel
theorem d_P_actAt_7 : decode b_P_actAt 7 = .ok (.iload_n 3, 1) := by decide +kernel
theorem d_P_actAt_8 : decode b_P_actAt 8 = .ok (.ifCond .lt 38, 3) := by decide +kernel
theorem d_P_actAt_11 : decode b_P_actAt 11 = .ok (.aload_n 0, 1) := by decide +kernel
theorem d_P_actAt_12 : decode b_P_actAt 12 = .ok (.getfield 9, 3) := by decide +kernel
theorem d_P_actAt_15 : decode b_P_actAt 15 = .ok (.iload_n 3, 1) := by decide +kernel
theorem d_P_actAt_16 : decode b_P_actAt 16 = .ok (.laload, 1) := by decide +kernel
theorem d_P_actAt_17 : decode b_P_actAt 17 = .ok (.lload_n 1, 1) := by decide +kernel
theorem d_P_actAt_18 : decode b_P_actAt 18 = .ok (.lcmp, 1) := by decide +kernel
theorem d_P_actAt_19 : decode b_P_actAt 19 = .ok (.ifCond .gt 21, 3) := by decide +kernel
theorem d_P_actAt_22 : decode b_P_actAt 22 = .ok (.lload_n 1, 1) := by decide +kernel
theorem d_P_actAt_23 : decode b_P_actAt 23 = .ok (.aload_n 0, 1) := by decide +kernel
theorem d_P_actAt_24 : decode b_P_actAt 24 = .ok (.getfield 15, 3) := by decide +kernel
theorem d_P_actAt_27 : decode b_P_actAt 27 = .ok (.iload_n 3, 1) := by decide +kernel
theorem d_P_actAt_28 : decode b_P_actAt 28 = .ok (.laload, 1) := by decide +kernel
theorem d_P_actAt_29 : decode b_P_actAt 29 = .ok (.lcmp, 1) := by decide +kernel
theorem d_P_actAt_30 : decode b_P_actAt 30 = .ok (.ifCond .ge 10, 3) := by decide +kernel
theorem d_P_actAt_33 : decode b_P_actAt 33 = .ok (.aload_n 0, 1) := by decide +kernel
theorem d_P_actAt_34 : decode b_P_actAt 34 = .ok (.getfield 18, 3) := by decide +kernel
theorem d_P_actAt_37 : decode b_P_actAt 37 = .ok (.iload_n 3, 1) := by decide +kernel
theorem d_P_actAt_38 : decode b_P_actAt 38 = .ok (.iaload, 1) := by decide +kernel
theorem d_P_actAt_39 : decode b_P_actAt 39 = .ok (.ireturn, 1) := by decide +kernel
theorem d_P_actAt_40 : decode b_P_actAt 40 = .ok (.iinc 3 (-1), 3) := by decide +kernel
theorem d_P_actAt_43 : decode b_P_actAt 43 = .ok (.goto (-36), 3) := by decide +kernel
theorem d_P_actAt_46 : decode b_P_actAt 46 = .ok (.iconst (-1), 1) := by decide +kernel
theorem d_P_actAt_47 : decode b_P_actAt 47 = .ok (.ireturn, 1) := by decide +kernel
theorem d_K_page_0 : decode b_K_page 0 = .ok (.aload_n 0, 1) := by decide +kernel
theorem d_K_page_1 : decode b_K_page 1 = .ok (.iload 5, 2) := by decide +kernel
theorem d_K_page_3 : decode b_K_page 3 = .ok (.invokevirtual 85, 3) := by decide +kernel
theorem d_K_page_6 : decode b_K_page 6 = .ok (.ifCond .eq 27, 3) := by decide +kernel
theorem d_K_page_9 : decode b_K_page 9 = .ok (.lload_n 1, 1) := by decide +kernel
theorem d_K_page_10 : decode b_K_page 10 = .ok (.lconst 0, 1) := by decide +kernel
theorem d_K_page_11 : decode b_K_page 11 = .ok (.lcmp, 1) := by decide +kernel
theorem d_K_page_12 : decode b_K_page 12 = .ok (.ifCond .lt 21, 3) := by decide +kernel
theorem d_K_page_15 : decode b_K_page 15 = .ok (.lload_n 1, 1) := by decide +kernel
theorem d_K_page_16 : decode b_K_page 16 = .ok (.lload_n 3, 1) := by decide +kernel
theorem d_K_page_17 : decode b_K_page 17 = .ok (.lcmp, 1) := by decide +kernel
theorem d_K_page_18 : decode b_K_page 18 = .ok (.ifCond .ge 15, 3) := by decide +kernel
theorem d_K_page_21 : decode b_K_page 21 = .ok (.aload_n 0, 1) := by decide +kernel
theorem d_K_page_22 : decode b_K_page 22 = .ok (.getfield 61, 3) := by decide +kernel
theorem d_K_page_25 : decode b_K_page 25 = .ok (.getfield 182, 3) := by decide +kernel
theorem d_K_page_28 : decode b_K_page 28 = .ok (.bipush 50, 2) := by decide +kernel
theorem d_K_page_30 : decode b_K_page 30 = .ok (.if_icmp .lt 5, 3) := by decide +kernel
theorem d_K_page_33 : decode b_K_page 33 = .ok (.iconst 0, 1) := by decide +kernel
theorem d_K_page_34 : decode b_K_page 34 = .ok (.ireturn, 1) := by decide +kernel
theorem d_K_page_35 : decode b_K_page 35 = .ok (.aload_n 0, 1) := by decide +kernel
theorem d_K_page_36 : decode b_K_page 36 = .ok (.getfield 61, 3) := by decide +kernel
theorem d_K_page_39 : decode b_K_page 39 = .ok (.lload_n 1, 1) := by decide +kernel
theorem d_K_page_40 : decode b_K_page 40 = .ok (.lload_n 3, 1) := by decide +kernel
theorem d_K_page_41 : decode b_K_page 41 = .ok (.iload 5, 2) := by decide +kernel
theorem d_K_page_43 : decode b_K_page 43 = .ok (.invokevirtual 183, 3) := by decide +kernel
theorem d_K_page_46 : decode b_K_page 46 = .ok (.iconst 1, 1) := by decide +kernel
theorem d_K_page_47 : decode b_K_page 47 = .ok (.ireturn, 1) := by decide +kernel
theorem d_P_add_0 : decode b_P_add 0 = .ok (.aload_n 0, 1) := by decide +kernel
theorem d_P_add_1 : decode b_P_add 1 = .ok (.getfield 9, 3) := by decide +kernel
theorem d_P_add_4 : decode b_P_add 4 = .ok (.aload_n 0, 1) := by decide +kernel
theorem d_P_add_5 : decode b_P_add 5 = .ok (.getfield 22, 3) := by decide +kernel
theorem d_P_add_8 : decode b_P_add 8 = .ok (.lload_n 1, 1) := by decide +kernel
theorem d_P_add_9 : decode b_P_add 9 = .ok (.lastore, 1) := by decide +kernel
theorem d_P_add_10 : decode b_P_add 10 = .ok (.aload_n 0, 1) := by decide +kernel
theorem d_P_add_11 : decode b_P_add 11 = .ok (.getfield 15, 3) := by decide +kernel
theorem d_P_add_14 : decode b_P_add 14 = .ok (.aload_n 0, 1) := by decide +kernel
theorem d_P_add_15 : decode b_P_add 15 = .ok (.getfield 22, 3) := by decide +kernel
theorem d_P_add_18 : decode b_P_add 18 = .ok (.lload_n 3, 1) := by decide +kernel
theorem d_P_add_19 : decode b_P_add 19 = .ok (.lastore, 1) := by decide +kernel
theorem d_P_add_20 : decode b_P_add 20 = .ok (.aload_n 0, 1) := by decide +kernel
theorem d_P_add_21 : decode b_P_add 21 = .ok (.getfield 18, 3) := by decide +kernel
theorem d_P_add_24 : decode b_P_add 24 = .ok (.aload_n 0, 1) := by decide +kernel
theorem d_P_add_25 : decode b_P_add 25 = .ok (.getfield 22, 3) := by decide +kernel
theorem d_P_add_28 : decode b_P_add 28 = .ok (.iload 5, 2) := by decide +kernel
theorem d_P_add_30 : decode b_P_add 30 = .ok (.iastore, 1) := by decide +kernel
theorem d_P_add_31 : decode b_P_add 31 = .ok (.aload_n 0, 1) := by decide +kernel
theorem d_P_add_32 : decode b_P_add 32 = .ok (.dup, 1) := by decide +kernel
theorem d_P_add_33 : decode b_P_add 33 = .ok (.getfield 22, 3) := by decide +kernel
theorem d_P_add_36 : decode b_P_add 36 = .ok (.iconst 1, 1) := by decide +kernel
theorem d_P_add_37 : decode b_P_add 37 = .ok (.iadd, 1) := by decide +kernel
theorem d_P_add_38 : decode b_P_add 38 = .ok (.putfield 22, 3) := by decide +kernel
theorem d_P_add_41 : decode b_P_add 41 = .ok (.return_, 1) := by decide +kernel
theorem d_K_unsure_0 : decode b_K_unsure 0 = .ok (.aload_n 0, 1) := by decide +kernel
theorem d_K_unsure_1 : decode b_K_unsure 1 = .ok (.getfield 54, 3) := by decide +kernel
theorem d_K_unsure_4 : decode b_K_unsure 4 = .ok (.iload_n 1, 1) := by decide +kernel
theorem d_K_unsure_5 : decode b_K_unsure 5 = .ok (.invokevirtual 186, 3) := by decide +kernel
theorem d_K_unsure_8 : decode b_K_unsure 8 = .ok (.ifCond .eq 31, 3) := by decide +kernel
theorem d_K_unsure_11 : decode b_K_unsure 11 = .ok (.aload_n 0, 1) := by decide +kernel
theorem d_K_unsure_12 : decode b_K_unsure 12 = .ok (.getfield 54, 3) := by decide +kernel
theorem d_K_unsure_15 : decode b_K_unsure 15 = .ok (.getfield 189, 3) := by decide +kernel
theorem d_K_unsure_18 : decode b_K_unsure 18 = .ok (.iload_n 1, 1) := by decide +kernel
theorem d_K_unsure_19 : decode b_K_unsure 19 = .ok (.iaload, 1) := by decide +kernel
theorem d_K_unsure_20 : decode b_K_unsure 20 = .ok (.aload_n 0, 1) := by decide +kernel
theorem d_K_unsure_21 : decode b_K_unsure 21 = .ok (.getfield 54, 3) := by decide +kernel
theorem d_K_unsure_24 : decode b_K_unsure 24 = .ok (.getfield 122, 3) := by decide +kernel
theorem d_K_unsure_27 : decode b_K_unsure 27 = .ok (.isub, 1) := by decide +kernel
theorem d_K_unsure_28 : decode b_K_unsure 28 = .ok (.aload_n 0, 1) := by decide +kernel
theorem d_K_unsure_29 : decode b_K_unsure 29 = .ok (.getfield 82, 3) := by decide +kernel
theorem d_K_unsure_32 : decode b_K_unsure 32 = .ok (.if_icmp .gt 7, 3) := by decide +kernel
theorem d_K_unsure_35 : decode b_K_unsure 35 = .ok (.iconst 1, 1) := by decide +kernel
theorem d_K_unsure_36 : decode b_K_unsure 36 = .ok (.goto 4, 3) := by decide +kernel
theorem d_K_unsure_39 : decode b_K_unsure 39 = .ok (.iconst 0, 1) := by decide +kernel
theorem d_K_unsure_40 : decode b_K_unsure 40 = .ok (.ireturn, 1) := by decide +kernel
theorem d_N_hasNextCost_0 : decode b_N_hasNextCost 0 = .ok (.aload_n 0, 1) := by decide +kernel
theorem d_N_hasNextCost_1 : decode b_N_hasNextCost 1 = .ok (.iload_n 1, 1) := by decide +kernel
theorem d_N_hasNextCost_2 : decode b_N_hasNextCost 2 = .ok (.invokevirtual 46, 3) := by decide +kernel
theorem d_N_hasNextCost_5 : decode b_N_hasNextCost 5 = .ok (.ifCond .eq 17, 3) := by decide +kernel
theorem d_N_hasNextCost_8 : decode b_N_hasNextCost 8 = .ok (.aload_n 0, 1) := by decide +kernel
theorem d_N_hasNextCost_9 : decode b_N_hasNextCost 9 = .ok (.getfield 15, 3) := by decide +kernel
theorem d_N_hasNextCost_12 : decode b_N_hasNextCost 12 = .ok (.iload_n 1, 1) := by decide +kernel
theorem d_N_hasNextCost_13 : decode b_N_hasNextCost 13 = .ok (.iaload, 1) := by decide +kernel
theorem d_N_hasNextCost_14 : decode b_N_hasNextCost 14 = .ok (.iconst (-1), 1) := by decide +kernel
theorem d_N_hasNextCost_15 : decode b_N_hasNextCost 15 = .ok (.if_icmp .eq 7, 3) := by decide +kernel
theorem d_N_hasNextCost_18 : decode b_N_hasNextCost 18 = .ok (.iconst 1, 1) := by decide +kernel
theorem d_N_hasNextCost_19 : decode b_N_hasNextCost 19 = .ok (.goto 4, 3) := by decide +kernel
theorem d_N_hasNextCost_22 : decode b_N_hasNextCost 22 = .ok (.iconst 0, 1) := by decide +kernel
theorem d_N_hasNextCost_23 : decode b_N_hasNextCost 23 = .ok (.ireturn, 1) := by decide +kernel
theorem d_K_margin_0 : decode b_K_margin 0 = .ok (.iload_n 1, 1) := by decide +kernel
theorem d_K_margin_1 : decode b_K_margin 1 = .ok (.ifCond .lt 9, 3) := by decide +kernel
theorem d_K_margin_4 : decode b_K_margin 4 = .ok (.iload_n 1, 1) := by decide +kernel
theorem d_K_margin_5 : decode b_K_margin 5 = .ok (.ldc 192, 2) := by decide +kernel
theorem d_K_margin_7 : decode b_K_margin 7 = .ok (.if_icmp .le 5, 3) := by decide +kernel
theorem d_K_margin_10 : decode b_K_margin 10 = .ok (.iconst 0, 1) := by decide +kernel
theorem d_K_margin_11 : decode b_K_margin 11 = .ok (.ireturn, 1) := by decide +kernel
theorem d_K_margin_12 : decode b_K_margin 12 = .ok (.aload_n 0, 1) := by decide +kernel
theorem d_K_margin_13 : decode b_K_margin 13 = .ok (.iload_n 1, 1) := by decide +kernel
theorem d_K_margin_14 : decode b_K_margin 14 = .ok (.putfield 82, 3) := by decide +kernel
theorem d_K_margin_17 : decode b_K_margin 17 = .ok (.iconst 1, 1) := by decide +kernel
theorem d_K_margin_18 : decode b_K_margin 18 = .ok (.ireturn, 1) := by decide +kernel
theorem d_K_map_0 : decode b_K_map 0 = .ok (.iload_n 1, 1) := by decide +kernel
theorem d_K_map_1 : decode b_K_map 1 = .ok (.iload_n 2, 1) := by decide +kernel
theorem d_K_map_2 : decode b_K_map 2 = .ok (.invokestatic 193, 3) := by decide +kernel
theorem d_K_map_5 : decode b_K_map 5 = .ok (.ifCond .eq 13, 3) := by decide +kernel
theorem d_K_map_8 : decode b_K_map 8 = .ok (.aload_n 0, 1) := by decide +kernel
theorem d_K_map_9 : decode b_K_map 9 = .ok (.getfield 54, 3) := by decide +kernel
theorem d_K_map_12 : decode b_K_map 12 = .ok (.invokevirtual 132, 3) := by decide +kernel
theorem d_K_map_15 : decode b_K_map 15 = .ok (.ifCond .ne 7, 3) := by decide +kernel
theorem d_K_map_18 : decode b_K_map 18 = .ok (.ldc2_w 146, 3) := by decide +kernel
theorem d_K_map_21 : decode b_K_map 21 = .ok (.lreturn, 1) := by decide +kernel
theorem d_K_map_22 : decode b_K_map 22 = .ok (.aload_n 0, 1) := by decide +kernel
theorem d_K_map_23 : decode b_K_map 23 = .ok (.getfield 68, 3) := by decide +kernel
theorem d_K_map_26 : decode b_K_map 26 = .ok (.iload_n 1, 1) := by decide +kernel
theorem d_K_map_27 : decode b_K_map 27 = .ok (.iload_n 2, 1) := by decide +kernel
theorem d_K_map_28 : decode b_K_map 28 = .ok (.aload_n 0, 1) := by decide +kernel
theorem d_K_map_29 : decode b_K_map 29 = .ok (.getfield 54, 3) := by decide +kernel
theorem d_K_map_32 : decode b_K_map 32 = .ok (.invokevirtual 196, 3) := by decide +kernel
theorem d_K_map_35 : decode b_K_map 35 = .ok (.lreturn, 1) := by decide +kernel
theorem d_K_isOnMap_0 : decode b_K_isOnMap 0 = .ok (.iload_n 0, 1) := by decide +kernel
theorem d_K_isOnMap_1 : decode b_K_isOnMap 1 = .ok (.bipush 20, 2) := by decide +kernel
theorem d_K_isOnMap_3 : decode b_K_isOnMap 3 = .ok (.invokestatic 96, 3) := by decide +kernel
theorem d_K_isOnMap_6 : decode b_K_isOnMap 6 = .ok (.ifCond .eq 16, 3) := by decide +kernel
theorem d_K_isOnMap_9 : decode b_K_isOnMap 9 = .ok (.iload_n 1, 1) := by decide +kernel
theorem d_K_isOnMap_10 : decode b_K_isOnMap 10 = .ok (.bipush 20, 2) := by decide +kernel
theorem d_K_isOnMap_12 : decode b_K_isOnMap 12 = .ok (.invokestatic 96, 3) := by decide +kernel
theorem d_K_isOnMap_15 : decode b_K_isOnMap 15 = .ok (.ifCond .eq 7, 3) := by decide +kernel
theorem d_K_isOnMap_18 : decode b_K_isOnMap 18 = .ok (.iconst 1, 1) := by decide +kernel
theorem d_K_isOnMap_19 : decode b_K_isOnMap 19 = .ok (.goto 4, 3) := by decide +kernel
theorem d_K_isOnMap_22 : decode b_K_isOnMap 22 = .ok (.iconst 0, 1) := by decide +kernel
theorem d_K_isOnMap_23 : decode b_K_isOnMap 23 = .ok (.ireturn, 1) := by decide +kernel
theorem d_C_haulingSeconds_0 : decode b_C_haulingSeconds 0 = .ok (.lconst 0, 1) := by decide +kernel
theorem d_C_haulingSeconds_1 : decode b_C_haulingSeconds 1 = .ok (.lstore 4, 2) := by decide +kernel
theorem d_C_haulingSeconds_3 : decode b_C_haulingSeconds 3 = .ok (.iconst 0, 1) := by decide +kernel
theorem d_C_haulingSeconds_4 : decode b_C_haulingSeconds 4 = .ok (.istore 6, 2) := by decide +kernel
theorem d_C_haulingSeconds_6 : decode b_C_haulingSeconds 6 = .ok (.iload 6, 2) := by decide +kernel
theorem d_C_haulingSeconds_8 : decode b_C_haulingSeconds 8 = .ok (.aload_n 0, 1) := by decide +kernel
theorem d_C_haulingSeconds_9 : decode b_C_haulingSeconds 9 = .ok (.getfield 25, 3) := by decide +kernel
theorem d_C_haulingSeconds_12 : decode b_C_haulingSeconds 12 = .ok (.if_icmp .ge 57, 3) := by decide +kernel
theorem d_C_haulingSeconds_15 : decode b_C_haulingSeconds 15 = .ok (.aload_n 0, 1) := by decide +kernel
theorem d_C_haulingSeconds_16 : decode b_C_haulingSeconds 16 = .ok (.getfield 15, 3) := by decide +kernel
theorem d_C_haulingSeconds_19 : decode b_C_haulingSeconds 19 = .ok (.iload 6, 2) := by decide +kernel
theorem d_C_haulingSeconds_21 : decode b_C_haulingSeconds 21 = .ok (.iaload, 1) := by decide +kernel
theorem d_C_haulingSeconds_22 : decode b_C_haulingSeconds 22 = .ok (.iload_n 1, 1) := by decide +kernel
theorem d_C_haulingSeconds_23 : decode b_C_haulingSeconds 23 = .ok (.if_icmp .ne 40, 3) := by decide +kernel
theorem d_C_haulingSeconds_26 : decode b_C_haulingSeconds 26 = .ok (.aload_n 0, 1) := by decide +kernel
theorem d_C_haulingSeconds_27 : decode b_C_haulingSeconds 27 = .ok (.getfield 18, 3) := by decide +kernel
theorem d_C_haulingSeconds_30 : decode b_C_haulingSeconds 30 = .ok (.iload 6, 2) := by decide +kernel
theorem d_C_haulingSeconds_32 : decode b_C_haulingSeconds 32 = .ok (.iaload, 1) := by decide +kernel
theorem d_C_haulingSeconds_33 : decode b_C_haulingSeconds 33 = .ok (.iload_n 2, 1) := by decide +kernel
theorem d_C_haulingSeconds_34 : decode b_C_haulingSeconds 34 = .ok (.if_icmp .ne 29, 3) := by decide +kernel
theorem d_C_haulingSeconds_37 : decode b_C_haulingSeconds 37 = .ok (.aload_n 3, 1) := by decide +kernel
theorem d_C_haulingSeconds_38 : decode b_C_haulingSeconds 38 = .ok (.aload_n 0, 1) := by decide +kernel
theorem d_C_haulingSeconds_39 : decode b_C_haulingSeconds 39 = .ok (.getfield 9, 3) := by decide +kernel
theorem d_C_haulingSeconds_42 : decode b_C_haulingSeconds 42 = .ok (.iload 6, 2) := by decide +kernel
theorem d_C_haulingSeconds_44 : decode b_C_haulingSeconds 44 = .ok (.iaload, 1) := by decide +kernel
theorem d_C_haulingSeconds_45 : decode b_C_haulingSeconds 45 = .ok (.invokevirtual 29, 3) := by decide +kernel
theorem d_C_haulingSeconds_48 : decode b_C_haulingSeconds 48 = .ok (.ifCond .eq 15, 3) := by decide +kernel
theorem d_C_haulingSeconds_51 : decode b_C_haulingSeconds 51 = .ok (.lload 4, 2) := by decide +kernel
theorem d_C_haulingSeconds_53 : decode b_C_haulingSeconds 53 = .ok (.aload_n 0, 1) := by decide +kernel
theorem d_C_haulingSeconds_54 : decode b_C_haulingSeconds 54 = .ok (.getfield 21, 3) := by decide +kernel
theorem d_C_haulingSeconds_57 : decode b_C_haulingSeconds 57 = .ok (.iload 6, 2) := by decide +kernel
theorem d_C_haulingSeconds_59 : decode b_C_haulingSeconds 59 = .ok (.laload, 1) := by decide +kernel
theorem d_C_haulingSeconds_60 : decode b_C_haulingSeconds 60 = .ok (.ladd, 1) := by decide +kernel
theorem d_C_haulingSeconds_61 : decode b_C_haulingSeconds 61 = .ok (.lstore 4, 2) := by decide +kernel
theorem d_C_haulingSeconds_63 : decode b_C_haulingSeconds 63 = .ok (.iinc 6 1, 3) := by decide +kernel
theorem d_C_haulingSeconds_66 : decode b_C_haulingSeconds 66 = .ok (.goto (-60), 3) := by decide +kernel
theorem d_C_haulingSeconds_69 : decode b_C_haulingSeconds 69 = .ok (.lload 4, 2) := by decide +kernel
theorem d_C_haulingSeconds_71 : decode b_C_haulingSeconds 71 = .ok (.lreturn, 1) := by decide +kernel
theorem d_K_cell_0 : decode b_K_cell 0 = .ok (.iload_n 1, 1) := by decide +kernel
theorem d_K_cell_1 : decode b_K_cell 1 = .ok (.aload_n 0, 1) := by decide +kernel
theorem d_K_cell_2 : decode b_K_cell 2 = .ok (.getfield 25, 3) := by decide +kernel
theorem d_K_cell_5 : decode b_K_cell 5 = .ok (.getfield 111, 3) := by decide +kernel
theorem d_K_cell_8 : decode b_K_cell 8 = .ok (.invokestatic 96, 3) := by decide +kernel
theorem d_K_cell_11 : decode b_K_cell 11 = .ok (.ifCond .eq 11, 3) := by decide +kernel
theorem d_K_cell_14 : decode b_K_cell 14 = .ok (.iload_n 2, 1) := by decide +kernel
theorem d_K_cell_15 : decode b_K_cell 15 = .ok (.iload_n 3, 1) := by decide +kernel
theorem d_K_cell_16 : decode b_K_cell 16 = .ok (.invokestatic 193, 3) := by decide +kernel
theorem d_K_cell_19 : decode b_K_cell 19 = .ok (.ifCond .ne 5, 3) := by decide +kernel
theorem d_K_cell_22 : decode b_K_cell 22 = .ok (.iconst 0, 1) := by decide +kernel
theorem d_K_cell_23 : decode b_K_cell 23 = .ok (.ireturn, 1) := by decide +kernel
theorem d_K_cell_24 : decode b_K_cell 24 = .ok (.lload 4, 2) := by decide +kernel
theorem d_K_cell_26 : decode b_K_cell 26 = .ok (.lconst 1, 1) := by decide +kernel
theorem d_K_cell_27 : decode b_K_cell 27 = .ok (.lcmp, 1) := by decide +kernel
theorem d_K_cell_28 : decode b_K_cell 28 = .ok (.ifCond .lt 25, 3) := by decide +kernel
theorem d_K_cell_31 : decode b_K_cell 31 = .ok (.lload 4, 2) := by decide +kernel
theorem d_K_cell_33 : decode b_K_cell 33 = .ok (.ldc2_w 200, 3) := by decide +kernel
theorem d_K_cell_36 : decode b_K_cell 36 = .ok (.lcmp, 1) := by decide +kernel
theorem d_K_cell_37 : decode b_K_cell 37 = .ok (.ifCond .gt 16, 3) := by decide +kernel
theorem d_K_cell_40 : decode b_K_cell 40 = .ok (.aload_n 0, 1) := by decide +kernel
theorem d_K_cell_41 : decode b_K_cell 41 = .ok (.getfield 68, 3) := by decide +kernel
theorem d_K_cell_44 : decode b_K_cell 44 = .ok (.getfield 202, 3) := by decide +kernel
theorem d_K_cell_47 : decode b_K_cell 47 = .ok (.sipush 300, 3) := by decide +kernel
theorem d_K_cell_50 : decode b_K_cell 50 = .ok (.if_icmp .lt 5, 3) := by decide +kernel
theorem d_K_cell_53 : decode b_K_cell 53 = .ok (.iconst 0, 1) := by decide +kernel
theorem d_K_cell_54 : decode b_K_cell 54 = .ok (.ireturn, 1) := by decide +kernel
theorem d_K_cell_55 : decode b_K_cell 55 = .ok (.aload_n 0, 1) := by decide +kernel
theorem d_K_cell_56 : decode b_K_cell 56 = .ok (.getfield 68, 3) := by decide +kernel
theorem d_K_cell_59 : decode b_K_cell 59 = .ok (.iload_n 1, 1) := by decide +kernel
theorem d_K_cell_60 : decode b_K_cell 60 = .ok (.iload_n 2, 1) := by decide +kernel
theorem d_K_cell_61 : decode b_K_cell 61 = .ok (.iload_n 3, 1) := by decide +kernel
theorem d_K_cell_62 : decode b_K_cell 62 = .ok (.lload 4, 2) := by decide +kernel
theorem d_K_cell_64 : decode b_K_cell 64 = .ok (.invokevirtual 203, 3) := by decide +kernel
theorem d_K_cell_67 : decode b_K_cell 67 = .ok (.iconst 1, 1) := by decide +kernel
theorem d_K_cell_68 : decode b_K_cell 68 = .ok (.ireturn, 1) := by decide +kernel
theorem d_C_add_0 : decode b_C_add 0 = .ok (.aload_n 0, 1) := by decide +kernel
theorem d_C_add_1 : decode b_C_add 1 = .ok (.getfield 9, 3) := by decide +kernel
theorem d_C_add_4 : decode b_C_add 4 = .ok (.aload_n 0, 1) := by decide +kernel
theorem d_C_add_5 : decode b_C_add 5 = .ok (.getfield 25, 3) := by decide +kernel
theorem d_C_add_8 : decode b_C_add 8 = .ok (.iload_n 1, 1) := by decide +kernel
theorem d_C_add_9 : decode b_C_add 9 = .ok (.iastore, 1) := by decide +kernel
theorem d_C_add_10 : decode b_C_add 10 = .ok (.aload_n 0, 1) := by decide +kernel
theorem d_C_add_11 : decode b_C_add 11 = .ok (.getfield 15, 3) := by decide +kernel
theorem d_C_add_14 : decode b_C_add 14 = .ok (.aload_n 0, 1) := by decide +kernel
theorem d_C_add_15 : decode b_C_add 15 = .ok (.getfield 25, 3) := by decide +kernel
theorem d_C_add_18 : decode b_C_add 18 = .ok (.iload_n 2, 1) := by decide +kernel
theorem d_C_add_19 : decode b_C_add 19 = .ok (.iastore, 1) := by decide +kernel
theorem d_C_add_20 : decode b_C_add 20 = .ok (.aload_n 0, 1) := by decide +kernel
theorem d_C_add_21 : decode b_C_add 21 = .ok (.getfield 18, 3) := by decide +kernel
theorem d_C_add_24 : decode b_C_add 24 = .ok (.aload_n 0, 1) := by decide +kernel
theorem d_C_add_25 : decode b_C_add 25 = .ok (.getfield 25, 3) := by decide +kernel
theorem d_C_add_28 : decode b_C_add 28 = .ok (.iload_n 3, 1) := by decide +kernel
theorem d_C_add_29 : decode b_C_add 29 = .ok (.iastore, 1) := by decide +kernel
theorem d_C_add_30 : decode b_C_add 30 = .ok (.aload_n 0, 1) := by decide +kernel
theorem d_C_add_31 : decode b_C_add 31 = .ok (.getfield 21, 3) := by decide +kernel
theorem d_C_add_34 : decode b_C_add 34 = .ok (.aload_n 0, 1) := by decide +kernel
theorem d_C_add_35 : decode b_C_add 35 = .ok (.getfield 25, 3) := by decide +kernel
theorem d_C_add_38 : decode b_C_add 38 = .ok (.lload 4, 2) := by decide +kernel
theorem d_C_add_40 : decode b_C_add 40 = .ok (.lastore, 1) := by decide +kernel
theorem d_C_add_41 : decode b_C_add 41 = .ok (.aload_n 0, 1) := by decide +kernel
theorem d_C_add_42 : decode b_C_add 42 = .ok (.dup, 1) := by decide +kernel
theorem d_C_add_43 : decode b_C_add 43 = .ok (.getfield 25, 3) := by decide +kernel
theorem d_C_add_46 : decode b_C_add 46 = .ok (.iconst 1, 1) := by decide +kernel
theorem d_C_add_47 : decode b_C_add 47 = .ok (.iadd, 1) := by decide +kernel
theorem d_C_add_48 : decode b_C_add 48 = .ok (.putfield 25, 3) := by decide +kernel
theorem d_C_add_51 : decode b_C_add 51 = .ok (.return_, 1) := by decide +kernel
theorem d_K_gear_0 : decode b_K_gear 0 = .ok (.aload_n 0, 1) := by decide +kernel
theorem d_K_gear_1 : decode b_K_gear 1 = .ok (.getfield 54, 3) := by decide +kernel
theorem d_K_gear_4 : decode b_K_gear 4 = .ok (.iload_n 1, 1) := by decide +kernel
theorem d_K_gear_5 : decode b_K_gear 5 = .ok (.invokevirtual 164, 3) := by decide +kernel
theorem d_K_gear_8 : decode b_K_gear 8 = .ok (.istore_n 2, 1) := by decide +kernel
theorem d_K_gear_9 : decode b_K_gear 9 = .ok (.iload_n 2, 1) := by decide +kernel
theorem d_K_gear_10 : decode b_K_gear 10 = .ok (.iconst (-1), 1) := by decide +kernel
theorem d_K_gear_11 : decode b_K_gear 11 = .ok (.if_icmp .ne 5, 3) := by decide +kernel
theorem d_K_gear_14 : decode b_K_gear 14 = .ok (.iconst (-1), 1) := by decide +kernel
theorem d_K_gear_15 : decode b_K_gear 15 = .ok (.ireturn, 1) := by decide +kernel
theorem d_K_gear_16 : decode b_K_gear 16 = .ok (.aload_n 0, 1) := by decide +kernel
theorem d_K_gear_17 : decode b_K_gear 17 = .ok (.getfield 54, 3) := by decide +kernel
theorem d_K_gear_20 : decode b_K_gear 20 = .ok (.iload_n 2, 1) := by decide +kernel
theorem d_K_gear_21 : decode b_K_gear 21 = .ok (.invokevirtual 167, 3) := by decide +kernel
theorem d_K_gear_24 : decode b_K_gear 24 = .ok (.istore_n 3, 1) := by decide +kernel
theorem d_K_gear_25 : decode b_K_gear 25 = .ok (.aload_n 0, 1) := by decide +kernel
theorem d_K_gear_26 : decode b_K_gear 26 = .ok (.getfield 25, 3) := by decide +kernel
theorem d_K_gear_29 : decode b_K_gear 29 = .ok (.iload_n 2, 1) := by decide +kernel
theorem d_K_gear_30 : decode b_K_gear 30 = .ok (.iload_n 3, 1) := by decide +kernel
theorem d_K_gear_31 : decode b_K_gear 31 = .ok (.invokevirtual 206, 3) := by decide +kernel
theorem d_K_gear_34 : decode b_K_gear 34 = .ok (.istore 4, 2) := by decide +kernel
theorem d_K_gear_36 : decode b_K_gear 36 = .ok (.iconst 2, 1) := by decide +kernel
theorem d_K_gear_37 : decode b_K_gear 37 = .ok (.iload 4, 2) := by decide +kernel
theorem d_K_gear_39 : decode b_K_gear 39 = .ok (.imul, 1) := by decide +kernel
theorem d_K_gear_40 : decode b_K_gear 40 = .ok (.iload_n 3, 1) := by decide +kernel
theorem d_K_gear_41 : decode b_K_gear 41 = .ok (.iload_n 2, 1) := by decide +kernel
theorem d_K_gear_42 : decode b_K_gear 42 = .ok (.isub, 1) := by decide +kernel
theorem d_K_gear_43 : decode b_K_gear 43 = .ok (.iconst 1, 1) := by decide +kernel
theorem d_K_gear_44 : decode b_K_gear 44 = .ok (.iadd, 1) := by decide +kernel
theorem d_K_gear_45 : decode b_K_gear 45 = .ok (.if_icmp .le 7, 3) := by decide +kernel
theorem d_K_gear_48 : decode b_K_gear 48 = .ok (.iconst 1, 1) := by decide +kernel
theorem d_K_gear_49 : decode b_K_gear 49 = .ok (.goto 4, 3) := by decide +kernel
theorem d_K_gear_52 : decode b_K_gear 52 = .ok (.iconst 0, 1) := by decide +kernel
theorem d_K_gear_53 : decode b_K_gear 53 = .ok (.ireturn, 1) := by decide +kernel
theorem d_T_turningRows_0 : decode b_T_turningRows 0 = .ok (.iconst 0, 1) := by decide +kernel
theorem d_T_turningRows_1 : decode b_T_turningRows 1 = .ok (.istore_n 3, 1) := by decide +kernel
theorem d_T_turningRows_2 : decode b_T_turningRows 2 = .ok (.iload_n 1, 1) := by decide +kernel
theorem d_T_turningRows_3 : decode b_T_turningRows 3 = .ok (.istore 4, 2) := by decide +kernel
theorem d_T_turningRows_5 : decode b_T_turningRows 5 = .ok (.iload 4, 2) := by decide +kernel
theorem d_T_turningRows_7 : decode b_T_turningRows 7 = .ok (.iload_n 2, 1) := by decide +kernel
theorem d_T_turningRows_8 : decode b_T_turningRows 8 = .ok (.if_icmp .gt 23, 3) := by decide +kernel
theorem d_T_turningRows_11 : decode b_T_turningRows 11 = .ok (.aload_n 0, 1) := by decide +kernel
theorem d_T_turningRows_12 : decode b_T_turningRows 12 = .ok (.getfield 19, 3) := by decide +kernel
theorem d_T_turningRows_15 : decode b_T_turningRows 15 = .ok (.iload 4, 2) := by decide +kernel
theorem d_T_turningRows_17 : decode b_T_turningRows 17 = .ok (.iaload, 1) := by decide +kernel
theorem d_T_turningRows_18 : decode b_T_turningRows 18 = .ok (.iconst 2, 1) := by decide +kernel
theorem d_T_turningRows_19 : decode b_T_turningRows 19 = .ok (.if_icmp .lt 6, 3) := by decide +kernel
theorem d_T_turningRows_22 : decode b_T_turningRows 22 = .ok (.iinc 3 1, 3) := by decide +kernel
theorem d_T_turningRows_25 : decode b_T_turningRows 25 = .ok (.iinc 4 1, 3) := by decide +kernel
theorem d_T_turningRows_28 : decode b_T_turningRows 28 = .ok (.goto (-23), 3) := by decide +kernel
theorem d_T_turningRows_31 : decode b_T_turningRows 31 = .ok (.iload_n 3, 1) := by decide +kernel
theorem d_T_turningRows_32 : decode b_T_turningRows 32 = .ok (.ireturn, 1) := by decide +kernel
theorem d_K_ship_0 : decode b_K_ship 0 = .ok (.iload_n 1, 1) := by decide +kernel
theorem d_K_ship_1 : decode b_K_ship 1 = .ok (.bipush 10, 2) := by decide +kernel
theorem d_K_ship_3 : decode b_K_ship 3 = .ok (.invokestatic 96, 3) := by decide +kernel
theorem d_K_ship_6 : decode b_K_ship 6 = .ok (.ifCond .ne 5, 3) := by decide +kernel
theorem d_K_ship_9 : decode b_K_ship 9 = .ok (.iconst 0, 1) := by decide +kernel
theorem d_K_ship_10 : decode b_K_ship 10 = .ok (.ireturn, 1) := by decide +kernel
theorem d_K_ship_11 : decode b_K_ship 11 = .ok (.aload_n 0, 1) := by decide +kernel
theorem d_K_ship_12 : decode b_K_ship 12 = .ok (.iload_n 1, 1) := by decide +kernel
theorem d_K_ship_13 : decode b_K_ship 13 = .ok (.putfield 79, 3) := by decide +kernel
theorem d_K_ship_16 : decode b_K_ship 16 = .ok (.iconst 1, 1) := by decide +kernel
theorem d_K_ship_17 : decode b_K_ship 17 = .ok (.ireturn, 1) := by decide +kernel
theorem d_K_total_0 : decode b_K_total 0 = .ok (.aload_n 0, 1) := by decide +kernel
theorem d_K_total_1 : decode b_K_total 1 = .ok (.getfield 54, 3) := by decide +kernel
theorem d_K_total_4 : decode b_K_total 4 = .ok (.invokevirtual 132, 3) := by decide +kernel
theorem d_K_total_7 : decode b_K_total 7 = .ok (.ifCond .eq 33, 3) := by decide +kernel
theorem d_K_total_10 : decode b_K_total 10 = .ok (.aload_n 0, 1) := by decide +kernel
theorem d_K_total_11 : decode b_K_total 11 = .ok (.getfield 25, 3) := by decide +kernel
theorem d_K_total_14 : decode b_K_total 14 = .ok (.getfield 157, 3) := by decide +kernel
theorem d_K_total_17 : decode b_K_total 17 = .ok (.aload_n 0, 1) := by decide +kernel
theorem d_K_total_18 : decode b_K_total 18 = .ok (.getfield 54, 3) := by decide +kernel
theorem d_K_total_21 : decode b_K_total 21 = .ok (.getfield 209, 3) := by decide +kernel
theorem d_K_total_24 : decode b_K_total 24 = .ok (.iconst 1, 1) := by decide +kernel
theorem d_K_total_25 : decode b_K_total 25 = .ok (.isub, 1) := by decide +kernel
theorem d_K_total_26 : decode b_K_total 26 = .ok (.laload, 1) := by decide +kernel
theorem d_K_total_27 : decode b_K_total 27 = .ok (.aload_n 0, 1) := by decide +kernel
theorem d_K_total_28 : decode b_K_total 28 = .ok (.getfield 25, 3) := by decide +kernel
theorem d_K_total_31 : decode b_K_total 31 = .ok (.getfield 157, 3) := by decide +kernel
theorem d_K_total_34 : decode b_K_total 34 = .ok (.iconst 0, 1) := by decide +kernel
theorem d_K_total_35 : decode b_K_total 35 = .ok (.laload, 1) := by decide +kernel
theorem d_K_total_36 : decode b_K_total 36 = .ok (.lsub, 1) := by decide +kernel
theorem d_K_total_37 : decode b_K_total 37 = .ok (.goto 6, 3) := by decide +kernel
theorem d_K_total_40 : decode b_K_total 40 = .ok (.ldc2_w 146, 3) := by decide +kernel
theorem d_K_total_43 : decode b_K_total 43 = .ok (.lreturn, 1) := by decide +kernel
theorem d_K_tied_0 : decode b_K_tied 0 = .ok (.aload_n 0, 1) := by decide +kernel
theorem d_K_tied_1 : decode b_K_tied 1 = .ok (.getfield 54, 3) := by decide +kernel
theorem d_K_tied_4 : decode b_K_tied 4 = .ok (.iload_n 1, 1) := by decide +kernel
theorem d_K_tied_5 : decode b_K_tied 5 = .ok (.invokevirtual 186, 3) := by decide +kernel
theorem d_K_tied_8 : decode b_K_tied 8 = .ok (.ifCond .eq 26, 3) := by decide +kernel
theorem d_K_tied_11 : decode b_K_tied 11 = .ok (.aload_n 0, 1) := by decide +kernel
theorem d_K_tied_12 : decode b_K_tied 12 = .ok (.getfield 54, 3) := by decide +kernel
theorem d_K_tied_15 : decode b_K_tied 15 = .ok (.getfield 189, 3) := by decide +kernel
theorem d_K_tied_18 : decode b_K_tied 18 = .ok (.iload_n 1, 1) := by decide +kernel
theorem d_K_tied_19 : decode b_K_tied 19 = .ok (.iaload, 1) := by decide +kernel
theorem d_K_tied_20 : decode b_K_tied 20 = .ok (.aload_n 0, 1) := by decide +kernel
theorem d_K_tied_21 : decode b_K_tied 21 = .ok (.getfield 54, 3) := by decide +kernel
theorem d_K_tied_24 : decode b_K_tied 24 = .ok (.getfield 122, 3) := by decide +kernel
theorem d_K_tied_27 : decode b_K_tied 27 = .ok (.if_icmp .ne 7, 3) := by decide +kernel
theorem d_K_tied_30 : decode b_K_tied 30 = .ok (.iconst 1, 1) := by decide +kernel
theorem d_K_tied_31 : decode b_K_tied 31 = .ok (.goto 4, 3) := by decide +kernel
theorem d_K_tied_34 : decode b_K_tied 34 = .ok (.iconst 0, 1) := by decide +kernel
theorem d_K_tied_35 : decode b_K_tied 35 = .ok (.ireturn, 1) := by decide +kernel
theorem d_K_night_0 : decode b_K_night 0 = .ok (.iload_n 1, 1) := by decide +kernel
theorem d_K_night_1 : decode b_K_night 1 = .ok (.aload_n 0, 1) := by decide +kernel
theorem d_K_night_2 : decode b_K_night 2 = .ok (.getfield 25, 3) := by decide +kernel
theorem d_K_night_5 : decode b_K_night 5 = .ok (.getfield 111, 3) := by decide +kernel
theorem d_K_night_8 : decode b_K_night 8 = .ok (.invokestatic 96, 3) := by decide +kernel
theorem d_K_night_11 : decode b_K_night 11 = .ok (.ifCond .ne 5, 3) := by decide +kernel
theorem d_K_night_14 : decode b_K_night 14 = .ok (.iconst (-1), 1) := by decide +kernel
theorem d_K_night_15 : decode b_K_night 15 = .ok (.ireturn, 1) := by decide +kernel
theorem d_K_night_16 : decode b_K_night 16 = .ok (.aload_n 0, 1) := by decide +kernel
theorem d_K_night_17 : decode b_K_night 17 = .ok (.getfield 25, 3) := by decide +kernel
theorem d_K_night_20 : decode b_K_night 20 = .ok (.getfield 157, 3) := by decide +kernel
theorem d_K_night_23 : decode b_K_night 23 = .ok (.iload_n 1, 1) := by decide +kernel
theorem d_K_night_24 : decode b_K_night 24 = .ok (.laload, 1) := by decide +kernel
theorem d_K_night_25 : decode b_K_night 25 = .ok (.ldc2_w 210, 3) := by decide +kernel
theorem d_K_night_28 : decode b_K_night 28 = .ok (.lrem, 1) := by decide +kernel
theorem d_K_night_29 : decode b_K_night 29 = .ok (.lstore_n 2, 1) := by decide +kernel
theorem d_K_night_30 : decode b_K_night 30 = .ok (.lload_n 2, 1) := by decide +kernel
theorem d_K_night_31 : decode b_K_night 31 = .ok (.ldc2_w 212, 3) := by decide +kernel
theorem d_K_night_34 : decode b_K_night 34 = .ok (.lcmp, 1) := by decide +kernel
theorem d_K_night_35 : decode b_K_night 35 = .ok (.ifCond .lt 11, 3) := by decide +kernel
theorem d_K_night_38 : decode b_K_night 38 = .ok (.lload_n 2, 1) := by decide +kernel
theorem d_K_night_39 : decode b_K_night 39 = .ok (.ldc2_w 214, 3) := by decide +kernel
theorem d_K_night_42 : decode b_K_night 42 = .ok (.lcmp, 1) := by decide +kernel
theorem d_K_night_43 : decode b_K_night 43 = .ok (.ifCond .lt 7, 3) := by decide +kernel
theorem d_K_night_46 : decode b_K_night 46 = .ok (.iconst 1, 1) := by decide +kernel
theorem d_K_night_47 : decode b_K_night 47 = .ok (.goto 4, 3) := by decide +kernel
theorem d_K_night_50 : decode b_K_night 50 = .ok (.iconst 0, 1) := by decide +kernel
theorem d_K_night_51 : decode b_K_night 51 = .ok (.ireturn, 1) := by decide +kernel
