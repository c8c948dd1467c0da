theorem dd_T_init_0 : decode prog_5_method_1_code 0 = .ok (.aload_n 0, 1) := by decide +kernel
theorem dd_T_init_1 : decode prog_5_method_1_code 1 = .ok (.invokespecial 3, 3) := by decide +kernel
theorem dd_T_init_4 : decode prog_5_method_1_code 4 = .ok (.aload_n 0, 1) := by decide +kernel
theorem dd_T_init_5 : decode prog_5_method_1_code 5 = .ok (.bipush 16, 2) := by decide +kernel
theorem dd_T_init_7 : decode prog_5_method_1_code 7 = .ok (.newarray .int, 2) := by decide +kernel
theorem dd_T_init_9 : decode prog_5_method_1_code 9 = .ok (.putfield 9, 3) := by decide +kernel
theorem dd_T_init_12 : decode prog_5_method_1_code 12 = .ok (.aload_n 0, 1) := by decide +kernel
theorem dd_T_init_13 : decode prog_5_method_1_code 13 = .ok (.bipush 16, 2) := by decide +kernel
theorem dd_T_init_15 : decode prog_5_method_1_code 15 = .ok (.newarray .int, 2) := by decide +kernel
theorem dd_T_init_17 : decode prog_5_method_1_code 17 = .ok (.putfield 15, 3) := by decide +kernel
theorem dd_T_init_20 : decode prog_5_method_1_code 20 = .ok (.aload_n 0, 1) := by decide +kernel
theorem dd_T_init_21 : decode prog_5_method_1_code 21 = .ok (.bipush 8, 2) := by decide +kernel
theorem dd_T_init_23 : decode prog_5_method_1_code 23 = .ok (.newarray .int, 2) := by decide +kernel
theorem dd_T_init_25 : decode prog_5_method_1_code 25 = .ok (.putfield 18, 3) := by decide +kernel
theorem dd_T_init_28 : decode prog_5_method_1_code 28 = .ok (.aload_n 0, 1) := by decide +kernel
theorem dd_T_init_29 : decode prog_5_method_1_code 29 = .ok (.iconst 0, 1) := by decide +kernel
theorem dd_T_init_30 : decode prog_5_method_1_code 30 = .ok (.putfield 21, 3) := by decide +kernel
theorem dd_T_init_33 : decode prog_5_method_1_code 33 = .ok (.aload_n 0, 1) := by decide +kernel
theorem dd_T_init_34 : decode prog_5_method_1_code 34 = .ok (.iconst 0, 1) := by decide +kernel
theorem dd_T_init_35 : decode prog_5_method_1_code 35 = .ok (.putfield 25, 3) := by decide +kernel
theorem dd_T_init_38 : decode prog_5_method_1_code 38 = .ok (.return_, 1) := by decide +kernel
theorem dd_G_init_0 : decode prog_2_method_1_code 0 = .ok (.aload_n 0, 1) := by decide +kernel
theorem dd_G_init_1 : decode prog_2_method_1_code 1 = .ok (.invokespecial 3, 3) := by decide +kernel
theorem dd_G_init_4 : decode prog_2_method_1_code 4 = .ok (.aload_n 0, 1) := by decide +kernel
theorem dd_G_init_5 : decode prog_2_method_1_code 5 = .ok (.bipush 81, 2) := by decide +kernel
theorem dd_G_init_7 : decode prog_2_method_1_code 7 = .ok (.newarray .int, 2) := by decide +kernel
theorem dd_G_init_9 : decode prog_2_method_1_code 9 = .ok (.putfield 11, 3) := by decide +kernel
theorem dd_G_init_12 : decode prog_2_method_1_code 12 = .ok (.aload_n 0, 1) := by decide +kernel
theorem dd_G_init_13 : decode prog_2_method_1_code 13 = .ok (.bipush 8, 2) := by decide +kernel
theorem dd_G_init_15 : decode prog_2_method_1_code 15 = .ok (.newarray .int, 2) := by decide +kernel
theorem dd_G_init_17 : decode prog_2_method_1_code 17 = .ok (.putfield 15, 3) := by decide +kernel
theorem dd_G_init_20 : decode prog_2_method_1_code 20 = .ok (.aload_n 0, 1) := by decide +kernel
theorem dd_G_init_21 : decode prog_2_method_1_code 21 = .ok (.iconst 0, 1) := by decide +kernel
theorem dd_G_init_22 : decode prog_2_method_1_code 22 = .ok (.putfield 18, 3) := by decide +kernel
theorem dd_G_init_25 : decode prog_2_method_1_code 25 = .ok (.aload_n 0, 1) := by decide +kernel
theorem dd_G_init_26 : decode prog_2_method_1_code 26 = .ok (.iconst 0, 1) := by decide +kernel
theorem dd_G_init_27 : decode prog_2_method_1_code 27 = .ok (.putfield 22, 3) := by decide +kernel
theorem dd_G_init_30 : decode prog_2_method_1_code 30 = .ok (.return_, 1) := by decide +kernel
theorem dd_P_init_0 : decode prog_3_method_1_code 0 = .ok (.aload_n 0, 1) := by decide +kernel
theorem dd_P_init_1 : decode prog_3_method_1_code 1 = .ok (.invokespecial 3, 3) := by decide +kernel
theorem dd_P_init_4 : decode prog_3_method_1_code 4 = .ok (.aload_n 0, 1) := by decide +kernel
theorem dd_P_init_5 : decode prog_3_method_1_code 5 = .ok (.iconst 0, 1) := by decide +kernel
theorem dd_P_init_6 : decode prog_3_method_1_code 6 = .ok (.putfield 9, 3) := by decide +kernel
theorem dd_P_init_9 : decode prog_3_method_1_code 9 = .ok (.aload_n 0, 1) := by decide +kernel
theorem dd_P_init_10 : decode prog_3_method_1_code 10 = .ok (.iconst 0, 1) := by decide +kernel
theorem dd_P_init_11 : decode prog_3_method_1_code 11 = .ok (.putfield 15, 3) := by decide +kernel
theorem dd_P_init_14 : decode prog_3_method_1_code 14 = .ok (.aload_n 0, 1) := by decide +kernel
theorem dd_P_init_15 : decode prog_3_method_1_code 15 = .ok (.iconst 0, 1) := by decide +kernel
theorem dd_P_init_16 : decode prog_3_method_1_code 16 = .ok (.putfield 18, 3) := by decide +kernel
theorem dd_P_init_19 : decode prog_3_method_1_code 19 = .ok (.aload_n 0, 1) := by decide +kernel
theorem dd_P_init_20 : decode prog_3_method_1_code 20 = .ok (.iload_n 1, 1) := by decide +kernel
theorem dd_P_init_21 : decode prog_3_method_1_code 21 = .ok (.putfield 21, 3) := by decide +kernel
theorem dd_P_init_24 : decode prog_3_method_1_code 24 = .ok (.aload_n 0, 1) := by decide +kernel
theorem dd_P_init_25 : decode prog_3_method_1_code 25 = .ok (.iload_n 2, 1) := by decide +kernel
theorem dd_P_init_26 : decode prog_3_method_1_code 26 = .ok (.putfield 24, 3) := by decide +kernel
theorem dd_P_init_29 : decode prog_3_method_1_code 29 = .ok (.aload_n 0, 1) := by decide +kernel
theorem dd_P_init_30 : decode prog_3_method_1_code 30 = .ok (.sipush 256, 3) := by decide +kernel
theorem dd_P_init_33 : decode prog_3_method_1_code 33 = .ok (.newarray .int, 2) := by decide +kernel
theorem dd_P_init_35 : decode prog_3_method_1_code 35 = .ok (.putfield 27, 3) := by decide +kernel
theorem dd_P_init_38 : decode prog_3_method_1_code 38 = .ok (.return_, 1) := by decide +kernel
theorem dd_D_init_0 : decode prog_4_method_1_code 0 = .ok (.aload_n 0, 1) := by decide +kernel
theorem dd_D_init_1 : decode prog_4_method_1_code 1 = .ok (.invokespecial 3, 3) := by decide +kernel
theorem dd_D_init_4 : decode prog_4_method_1_code 4 = .ok (.aload_n 0, 1) := by decide +kernel
theorem dd_D_init_5 : decode prog_4_method_1_code 5 = .ok (.bipush 80, 2) := by decide +kernel
theorem dd_D_init_7 : decode prog_4_method_1_code 7 = .ok (.newarray .int, 2) := by decide +kernel
theorem dd_D_init_9 : decode prog_4_method_1_code 9 = .ok (.putfield 9, 3) := by decide +kernel
theorem dd_D_init_12 : decode prog_4_method_1_code 12 = .ok (.aload_n 0, 1) := by decide +kernel
theorem dd_D_init_13 : decode prog_4_method_1_code 13 = .ok (.iconst 4, 1) := by decide +kernel
theorem dd_D_init_14 : decode prog_4_method_1_code 14 = .ok (.newarray .int, 2) := by decide +kernel
theorem dd_D_init_16 : decode prog_4_method_1_code 16 = .ok (.putfield 15, 3) := by decide +kernel
theorem dd_D_init_19 : decode prog_4_method_1_code 19 = .ok (.aload_n 0, 1) := by decide +kernel
theorem dd_D_init_20 : decode prog_4_method_1_code 20 = .ok (.iconst 0, 1) := by decide +kernel
theorem dd_D_init_21 : decode prog_4_method_1_code 21 = .ok (.putfield 18, 3) := by decide +kernel
theorem dd_D_init_24 : decode prog_4_method_1_code 24 = .ok (.aload_n 0, 1) := by decide +kernel
theorem dd_D_init_25 : decode prog_4_method_1_code 25 = .ok (.getfield 9, 3) := by decide +kernel
theorem dd_D_init_28 : decode prog_4_method_1_code 28 = .ok (.iconst (-1), 1) := by decide +kernel
theorem dd_D_init_29 : decode prog_4_method_1_code 29 = .ok (.invokestatic 22, 3) := by decide +kernel
theorem dd_D_init_32 : decode prog_4_method_1_code 32 = .ok (.return_, 1) := by decide +kernel
theorem dd_M_init_0 : decode prog_7_method_1_code 0 = .ok (.aload_n 0, 1) := by decide +kernel
theorem dd_M_init_1 : decode prog_7_method_1_code 1 = .ok (.invokespecial 1, 3) := by decide +kernel
theorem dd_M_init_4 : decode prog_7_method_1_code 4 = .ok (.aload_n 0, 1) := by decide +kernel
theorem dd_M_init_5 : decode prog_7_method_1_code 5 = .ok (.sipush 256, 3) := by decide +kernel
theorem dd_M_init_8 : decode prog_7_method_1_code 8 = .ok (.newarray .int, 2) := by decide +kernel
theorem dd_M_init_10 : decode prog_7_method_1_code 10 = .ok (.putfield 7, 3) := by decide +kernel
theorem dd_M_init_13 : decode prog_7_method_1_code 13 = .ok (.aload_n 0, 1) := by decide +kernel
theorem dd_M_init_14 : decode prog_7_method_1_code 14 = .ok (.bipush 8, 2) := by decide +kernel
theorem dd_M_init_16 : decode prog_7_method_1_code 16 = .ok (.newarray .int, 2) := by decide +kernel
theorem dd_M_init_18 : decode prog_7_method_1_code 18 = .ok (.putfield 13, 3) := by decide +kernel
theorem dd_M_init_21 : decode prog_7_method_1_code 21 = .ok (.aload_n 0, 1) := by decide +kernel
theorem dd_M_init_22 : decode prog_7_method_1_code 22 = .ok (.bipush 8, 2) := by decide +kernel
theorem dd_M_init_24 : decode prog_7_method_1_code 24 = .ok (.newarray .int, 2) := by decide +kernel
theorem dd_M_init_26 : decode prog_7_method_1_code 26 = .ok (.putfield 16, 3) := by decide +kernel
theorem dd_M_init_29 : decode prog_7_method_1_code 29 = .ok (.aload_n 0, 1) := by decide +kernel
theorem dd_M_init_30 : decode prog_7_method_1_code 30 = .ok (.iconst 2, 1) := by decide +kernel
theorem dd_M_init_31 : decode prog_7_method_1_code 31 = .ok (.putfield 19, 3) := by decide +kernel
theorem dd_M_init_34 : decode prog_7_method_1_code 34 = .ok (.aload_n 0, 1) := by decide +kernel
theorem dd_M_init_35 : decode prog_7_method_1_code 35 = .ok (.iconst 5, 1) := by decide +kernel
theorem dd_M_init_36 : decode prog_7_method_1_code 36 = .ok (.putfield 23, 3) := by decide +kernel
theorem dd_M_init_39 : decode prog_7_method_1_code 39 = .ok (.aload_n 0, 1) := by decide +kernel
theorem dd_M_init_40 : decode prog_7_method_1_code 40 = .ok (.bipush 16, 2) := by decide +kernel
theorem dd_M_init_42 : decode prog_7_method_1_code 42 = .ok (.newarray .int, 2) := by decide +kernel
theorem dd_M_init_44 : decode prog_7_method_1_code 44 = .ok (.putfield 26, 3) := by decide +kernel
theorem dd_M_init_47 : decode prog_7_method_1_code 47 = .ok (.aload_n 0, 1) := by decide +kernel
theorem dd_M_init_48 : decode prog_7_method_1_code 48 = .ok (.bipush 16, 2) := by decide +kernel
theorem dd_M_init_50 : decode prog_7_method_1_code 50 = .ok (.newarray .int, 2) := by decide +kernel
theorem dd_M_init_52 : decode prog_7_method_1_code 52 = .ok (.putfield 29, 3) := by decide +kernel
theorem dd_M_init_55 : decode prog_7_method_1_code 55 = .ok (.aload_n 0, 1) := by decide +kernel
theorem dd_M_init_56 : decode prog_7_method_1_code 56 = .ok (.bipush 16, 2) := by decide +kernel
theorem dd_M_init_58 : decode prog_7_method_1_code 58 = .ok (.newarray .int, 2) := by decide +kernel
theorem dd_M_init_60 : decode prog_7_method_1_code 60 = .ok (.putfield 32, 3) := by decide +kernel
theorem dd_M_init_63 : decode prog_7_method_1_code 63 = .ok (.aload_n 0, 1) := by decide +kernel
theorem dd_M_init_64 : decode prog_7_method_1_code 64 = .ok (.bipush 16, 2) := by decide +kernel
theorem dd_M_init_66 : decode prog_7_method_1_code 66 = .ok (.newarray .int, 2) := by decide +kernel
theorem dd_M_init_68 : decode prog_7_method_1_code 68 = .ok (.putfield 35, 3) := by decide +kernel
theorem dd_M_init_71 : decode prog_7_method_1_code 71 = .ok (.aload_n 0, 1) := by decide +kernel
theorem dd_M_init_72 : decode prog_7_method_1_code 72 = .ok (.sipush 289, 3) := by decide +kernel
theorem dd_M_init_75 : decode prog_7_method_1_code 75 = .ok (.newarray .int, 2) := by decide +kernel
theorem dd_M_init_77 : decode prog_7_method_1_code 77 = .ok (.putfield 38, 3) := by decide +kernel
theorem dd_M_init_80 : decode prog_7_method_1_code 80 = .ok (.aload_n 0, 1) := by decide +kernel
theorem dd_M_init_81 : decode prog_7_method_1_code 81 = .ok (.bipush 16, 2) := by decide +kernel
theorem dd_M_init_83 : decode prog_7_method_1_code 83 = .ok (.newarray .int, 2) := by decide +kernel
theorem dd_M_init_85 : decode prog_7_method_1_code 85 = .ok (.putfield 41, 3) := by decide +kernel
theorem dd_M_init_88 : decode prog_7_method_1_code 88 = .ok (.aload_n 0, 1) := by decide +kernel
theorem dd_M_init_89 : decode prog_7_method_1_code 89 = .ok (.bipush 80, 2) := by decide +kernel
theorem dd_M_init_91 : decode prog_7_method_1_code 91 = .ok (.newarray .int, 2) := by decide +kernel
theorem dd_M_init_93 : decode prog_7_method_1_code 93 = .ok (.putfield 44, 3) := by decide +kernel
theorem dd_M_init_96 : decode prog_7_method_1_code 96 = .ok (.aload_n 0, 1) := by decide +kernel
theorem dd_M_init_97 : decode prog_7_method_1_code 97 = .ok (.iload_n 1, 1) := by decide +kernel
theorem dd_M_init_98 : decode prog_7_method_1_code 98 = .ok (.iconst 1, 1) := by decide +kernel
theorem dd_M_init_99 : decode prog_7_method_1_code 99 = .ok (.if_icmp .ge 7, 3) := by decide +kernel
theorem dd_M_init_102 : decode prog_7_method_1_code 102 = .ok (.iconst 1, 1) := by decide +kernel
theorem dd_M_init_103 : decode prog_7_method_1_code 103 = .ok (.goto 15, 3) := by decide +kernel
theorem dd_M_init_106 : decode prog_7_method_1_code 106 = .ok (.iload_n 1, 1) := by decide +kernel
theorem dd_M_init_107 : decode prog_7_method_1_code 107 = .ok (.bipush 16, 2) := by decide +kernel
theorem dd_M_init_109 : decode prog_7_method_1_code 109 = .ok (.if_icmp .le 8, 3) := by decide +kernel
theorem dd_M_init_112 : decode prog_7_method_1_code 112 = .ok (.bipush 16, 2) := by decide +kernel
theorem dd_M_init_114 : decode prog_7_method_1_code 114 = .ok (.goto 4, 3) := by decide +kernel
theorem dd_M_init_117 : decode prog_7_method_1_code 117 = .ok (.iload_n 1, 1) := by decide +kernel
theorem dd_M_init_118 : decode prog_7_method_1_code 118 = .ok (.putfield 47, 3) := by decide +kernel
theorem dd_M_init_121 : decode prog_7_method_1_code 121 = .ok (.aload_n 0, 1) := by decide +kernel
theorem dd_M_init_122 : decode prog_7_method_1_code 122 = .ok (.iload_n 2, 1) := by decide +kernel
theorem dd_M_init_123 : decode prog_7_method_1_code 123 = .ok (.iconst 1, 1) := by decide +kernel
theorem dd_M_init_124 : decode prog_7_method_1_code 124 = .ok (.if_icmp .ge 7, 3) := by decide +kernel
theorem dd_M_init_127 : decode prog_7_method_1_code 127 = .ok (.iconst 1, 1) := by decide +kernel
theorem dd_M_init_128 : decode prog_7_method_1_code 128 = .ok (.goto 15, 3) := by decide +kernel
theorem dd_M_init_131 : decode prog_7_method_1_code 131 = .ok (.iload_n 2, 1) := by decide +kernel
theorem dd_M_init_132 : decode prog_7_method_1_code 132 = .ok (.bipush 16, 2) := by decide +kernel
theorem dd_M_init_134 : decode prog_7_method_1_code 134 = .ok (.if_icmp .le 8, 3) := by decide +kernel
theorem dd_M_init_137 : decode prog_7_method_1_code 137 = .ok (.bipush 16, 2) := by decide +kernel
theorem dd_M_init_139 : decode prog_7_method_1_code 139 = .ok (.goto 4, 3) := by decide +kernel
theorem dd_M_init_142 : decode prog_7_method_1_code 142 = .ok (.iload_n 2, 1) := by decide +kernel
theorem dd_M_init_143 : decode prog_7_method_1_code 143 = .ok (.putfield 50, 3) := by decide +kernel
theorem dd_M_init_146 : decode prog_7_method_1_code 146 = .ok (.return_, 1) := by decide +kernel
theorem dd_S_init_0 : decode prog_1_method_1_code 0 = .ok (.aload_n 0, 1) := by decide +kernel
theorem dd_S_init_1 : decode prog_1_method_1_code 1 = .ok (.invokespecial 3, 3) := by decide +kernel
theorem dd_S_init_4 : decode prog_1_method_1_code 4 = .ok (.aload_n 0, 1) := by decide +kernel
theorem dd_S_init_5 : decode prog_1_method_1_code 5 = .ok (.bipush 8, 2) := by decide +kernel
theorem dd_S_init_7 : decode prog_1_method_1_code 7 = .ok (.newarray .int, 2) := by decide +kernel
theorem dd_S_init_9 : decode prog_1_method_1_code 9 = .ok (.putfield 9, 3) := by decide +kernel
theorem dd_S_init_12 : decode prog_1_method_1_code 12 = .ok (.aload_n 0, 1) := by decide +kernel
theorem dd_S_init_13 : decode prog_1_method_1_code 13 = .ok (.bipush 8, 2) := by decide +kernel
theorem dd_S_init_15 : decode prog_1_method_1_code 15 = .ok (.newarray .int, 2) := by decide +kernel
theorem dd_S_init_17 : decode prog_1_method_1_code 17 = .ok (.putfield 13, 3) := by decide +kernel
theorem dd_S_init_20 : decode prog_1_method_1_code 20 = .ok (.aload_n 0, 1) := by decide +kernel
theorem dd_S_init_21 : decode prog_1_method_1_code 21 = .ok (.new 16, 3) := by decide +kernel
theorem dd_S_init_24 : decode prog_1_method_1_code 24 = .ok (.dup, 1) := by decide +kernel
theorem dd_S_init_25 : decode prog_1_method_1_code 25 = .ok (.invokespecial 18, 3) := by decide +kernel
theorem dd_S_init_28 : decode prog_1_method_1_code 28 = .ok (.putfield 19, 3) := by decide +kernel
theorem dd_S_init_31 : decode prog_1_method_1_code 31 = .ok (.aload_n 0, 1) := by decide +kernel
theorem dd_S_init_32 : decode prog_1_method_1_code 32 = .ok (.new 16, 3) := by decide +kernel
theorem dd_S_init_35 : decode prog_1_method_1_code 35 = .ok (.dup, 1) := by decide +kernel
theorem dd_S_init_36 : decode prog_1_method_1_code 36 = .ok (.invokespecial 18, 3) := by decide +kernel
theorem dd_S_init_39 : decode prog_1_method_1_code 39 = .ok (.putfield 23, 3) := by decide +kernel
theorem dd_S_init_42 : decode prog_1_method_1_code 42 = .ok (.aload_n 0, 1) := by decide +kernel
theorem dd_S_init_43 : decode prog_1_method_1_code 43 = .ok (.new 26, 3) := by decide +kernel
theorem dd_S_init_46 : decode prog_1_method_1_code 46 = .ok (.dup, 1) := by decide +kernel
theorem dd_S_init_47 : decode prog_1_method_1_code 47 = .ok (.invokespecial 28, 3) := by decide +kernel
theorem dd_S_init_50 : decode prog_1_method_1_code 50 = .ok (.putfield 29, 3) := by decide +kernel
theorem dd_S_init_53 : decode prog_1_method_1_code 53 = .ok (.aload_n 0, 1) := by decide +kernel
theorem dd_S_init_54 : decode prog_1_method_1_code 54 = .ok (.new 33, 3) := by decide +kernel
theorem dd_S_init_57 : decode prog_1_method_1_code 57 = .ok (.dup, 1) := by decide +kernel
theorem dd_S_init_58 : decode prog_1_method_1_code 58 = .ok (.invokespecial 35, 3) := by decide +kernel
theorem dd_S_init_61 : decode prog_1_method_1_code 61 = .ok (.putfield 36, 3) := by decide +kernel
theorem dd_S_init_64 : decode prog_1_method_1_code 64 = .ok (.aload_n 0, 1) := by decide +kernel
theorem dd_S_init_65 : decode prog_1_method_1_code 65 = .ok (.iconst 0, 1) := by decide +kernel
theorem dd_S_init_66 : decode prog_1_method_1_code 66 = .ok (.putfield 40, 3) := by decide +kernel
theorem dd_S_init_69 : decode prog_1_method_1_code 69 = .ok (.aload_n 0, 1) := by decide +kernel
theorem dd_S_init_70 : decode prog_1_method_1_code 70 = .ok (.iconst 2, 1) := by decide +kernel
theorem dd_S_init_71 : decode prog_1_method_1_code 71 = .ok (.putfield 44, 3) := by decide +kernel
theorem dd_S_init_74 : decode prog_1_method_1_code 74 = .ok (.aload_n 0, 1) := by decide +kernel
theorem dd_S_init_75 : decode prog_1_method_1_code 75 = .ok (.iconst 5, 1) := by decide +kernel
theorem dd_S_init_76 : decode prog_1_method_1_code 76 = .ok (.putfield 47, 3) := by decide +kernel
theorem dd_S_init_79 : decode prog_1_method_1_code 79 = .ok (.aload_n 0, 1) := by decide +kernel
theorem dd_S_init_80 : decode prog_1_method_1_code 80 = .ok (.new 50, 3) := by decide +kernel
theorem dd_S_init_83 : decode prog_1_method_1_code 83 = .ok (.dup, 1) := by decide +kernel
theorem dd_S_init_84 : decode prog_1_method_1_code 84 = .ok (.iload_n 1, 1) := by decide +kernel
theorem dd_S_init_85 : decode prog_1_method_1_code 85 = .ok (.invokestatic 52, 3) := by decide +kernel
theorem dd_S_init_88 : decode prog_1_method_1_code 88 = .ok (.iload_n 2, 1) := by decide +kernel
theorem dd_S_init_89 : decode prog_1_method_1_code 89 = .ok (.invokestatic 52, 3) := by decide +kernel
theorem dd_S_init_92 : decode prog_1_method_1_code 92 = .ok (.invokespecial 56, 3) := by decide +kernel
theorem dd_S_init_95 : decode prog_1_method_1_code 95 = .ok (.putfield 59, 3) := by decide +kernel
theorem dd_S_init_98 : decode prog_1_method_1_code 98 = .ok (.return_, 1) := by decide +kernel
theorem dd_S_nearestSide_0 : decode prog_1_method_28_code 0 = .ok (.iconst 1, 1) := by decide +kernel
theorem dd_S_nearestSide_1 : decode prog_1_method_28_code 1 = .ok (.iload_n 0, 1) := by decide +kernel
theorem dd_S_nearestSide_2 : decode prog_1_method_28_code 2 = .ok (.bipush 16, 2) := by decide +kernel
theorem dd_S_nearestSide_4 : decode prog_1_method_28_code 4 = .ok (.invokestatic 216, 3) := by decide +kernel
theorem dd_S_nearestSide_7 : decode prog_1_method_28_code 7 = .ok (.invokestatic 186, 3) := by decide +kernel
theorem dd_S_nearestSide_10 : decode prog_1_method_28_code 10 = .ok (.ireturn, 1) := by decide +kernel
theorem dd_A_fill_0 : decode prog_16_method_103_code 0 = .ok (.iconst 0, 1) := by decide +kernel
theorem dd_A_fill_1 : decode prog_16_method_103_code 1 = .ok (.istore_n 2, 1) := by decide +kernel
theorem dd_A_fill_2 : decode prog_16_method_103_code 2 = .ok (.aload_n 0, 1) := by decide +kernel
theorem dd_A_fill_3 : decode prog_16_method_103_code 3 = .ok (.arraylength, 1) := by decide +kernel
theorem dd_A_fill_4 : decode prog_16_method_103_code 4 = .ok (.istore_n 3, 1) := by decide +kernel
theorem dd_A_fill_5 : decode prog_16_method_103_code 5 = .ok (.iload_n 2, 1) := by decide +kernel
theorem dd_A_fill_6 : decode prog_16_method_103_code 6 = .ok (.iload_n 3, 1) := by decide +kernel
theorem dd_A_fill_7 : decode prog_16_method_103_code 7 = .ok (.if_icmp .ge 13, 3) := by decide +kernel
theorem dd_A_fill_10 : decode prog_16_method_103_code 10 = .ok (.aload_n 0, 1) := by decide +kernel
theorem dd_A_fill_11 : decode prog_16_method_103_code 11 = .ok (.iload_n 2, 1) := by decide +kernel
theorem dd_A_fill_12 : decode prog_16_method_103_code 12 = .ok (.iload_n 1, 1) := by decide +kernel
theorem dd_A_fill_13 : decode prog_16_method_103_code 13 = .ok (.iastore, 1) := by decide +kernel
theorem dd_A_fill_14 : decode prog_16_method_103_code 14 = .ok (.iinc 2 1, 3) := by decide +kernel
theorem dd_A_fill_17 : decode prog_16_method_103_code 17 = .ok (.goto (-12), 3) := by decide +kernel
theorem dd_A_fill_20 : decode prog_16_method_103_code 20 = .ok (.return_, 1) := by decide +kernel
theorem dd_L_cell_0 : decode method_2_code 0 = .ok (.iload_n 1, 1) := by decide +kernel
theorem dd_L_cell_1 : decode method_2_code 1 = .ok (.aload_n 0, 1) := by decide +kernel
theorem dd_L_cell_2 : decode method_2_code 2 = .ok (.arraylength, 1) := by decide +kernel
theorem dd_L_cell_3 : decode method_2_code 3 = .ok (.if_icmp .ge 9, 3) := by decide +kernel
theorem dd_L_cell_6 : decode method_2_code 6 = .ok (.aload_n 0, 1) := by decide +kernel
theorem dd_L_cell_7 : decode method_2_code 7 = .ok (.iload_n 1, 1) := by decide +kernel
theorem dd_L_cell_8 : decode method_2_code 8 = .ok (.iaload, 1) := by decide +kernel
theorem dd_L_cell_9 : decode method_2_code 9 = .ok (.goto 4, 3) := by decide +kernel
theorem dd_L_cell_12 : decode method_2_code 12 = .ok (.iconst 0, 1) := by decide +kernel
theorem dd_L_cell_13 : decode method_2_code 13 = .ok (.ireturn, 1) := by decide +kernel
