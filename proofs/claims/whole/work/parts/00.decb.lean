theorem dd_M_thrown_0 : decode prog_7_method_2_code 0 = .ok (.aload_n 0, 1) := by decide +kernel
theorem dd_M_thrown_1 : decode prog_7_method_2_code 1 = .ok (.getfield 53, 3) := by decide +kernel
theorem dd_M_thrown_4 : decode prog_7_method_2_code 4 = .ok (.ireturn, 1) := by decide +kernel
theorem dd_M_isIn_0 : decode prog_7_method_3_code 0 = .ok (.iload_n 0, 1) := by decide +kernel
theorem dd_M_isIn_1 : decode prog_7_method_3_code 1 = .ok (.iload_n 1, 1) := by decide +kernel
theorem dd_M_isIn_2 : decode prog_7_method_3_code 2 = .ok (.if_icmp .lt 12, 3) := by decide +kernel
theorem dd_M_isIn_5 : decode prog_7_method_3_code 5 = .ok (.iload_n 0, 1) := by decide +kernel
theorem dd_M_isIn_6 : decode prog_7_method_3_code 6 = .ok (.iload_n 2, 1) := by decide +kernel
theorem dd_M_isIn_7 : decode prog_7_method_3_code 7 = .ok (.if_icmp .gt 7, 3) := by decide +kernel
theorem dd_M_isIn_10 : decode prog_7_method_3_code 10 = .ok (.iconst 1, 1) := by decide +kernel
theorem dd_M_isIn_11 : decode prog_7_method_3_code 11 = .ok (.goto 4, 3) := by decide +kernel
theorem dd_M_isIn_14 : decode prog_7_method_3_code 14 = .ok (.iconst 0, 1) := by decide +kernel
theorem dd_M_isIn_15 : decode prog_7_method_3_code 15 = .ok (.ireturn, 1) := by decide +kernel
theorem dd_M_isThere_0 : decode prog_7_method_4_code 0 = .ok (.iload_n 1, 1) := by decide +kernel
theorem dd_M_isThere_1 : decode prog_7_method_4_code 1 = .ok (.iconst 0, 1) := by decide +kernel
theorem dd_M_isThere_2 : decode prog_7_method_4_code 2 = .ok (.aload_n 0, 1) := by decide +kernel
theorem dd_M_isThere_3 : decode prog_7_method_4_code 3 = .ok (.getfield 47, 3) := by decide +kernel
theorem dd_M_isThere_6 : decode prog_7_method_4_code 6 = .ok (.iconst 1, 1) := by decide +kernel
theorem dd_M_isThere_7 : decode prog_7_method_4_code 7 = .ok (.isub, 1) := by decide +kernel
theorem dd_M_isThere_8 : decode prog_7_method_4_code 8 = .ok (.invokestatic 56, 3) := by decide +kernel
theorem dd_M_isThere_11 : decode prog_7_method_4_code 11 = .ok (.ifCond .eq 21, 3) := by decide +kernel
theorem dd_M_isThere_14 : decode prog_7_method_4_code 14 = .ok (.iload_n 2, 1) := by decide +kernel
theorem dd_M_isThere_15 : decode prog_7_method_4_code 15 = .ok (.iconst 0, 1) := by decide +kernel
theorem dd_M_isThere_16 : decode prog_7_method_4_code 16 = .ok (.aload_n 0, 1) := by decide +kernel
theorem dd_M_isThere_17 : decode prog_7_method_4_code 17 = .ok (.getfield 50, 3) := by decide +kernel
theorem dd_M_isThere_20 : decode prog_7_method_4_code 20 = .ok (.iconst 1, 1) := by decide +kernel
theorem dd_M_isThere_21 : decode prog_7_method_4_code 21 = .ok (.isub, 1) := by decide +kernel
theorem dd_M_isThere_22 : decode prog_7_method_4_code 22 = .ok (.invokestatic 56, 3) := by decide +kernel
theorem dd_M_isThere_25 : decode prog_7_method_4_code 25 = .ok (.ifCond .eq 7, 3) := by decide +kernel
theorem dd_M_isThere_28 : decode prog_7_method_4_code 28 = .ok (.iconst 1, 1) := by decide +kernel
theorem dd_M_isThere_29 : decode prog_7_method_4_code 29 = .ok (.goto 4, 3) := by decide +kernel
theorem dd_M_isThere_32 : decode prog_7_method_4_code 32 = .ok (.iconst 0, 1) := by decide +kernel
theorem dd_M_isThere_33 : decode prog_7_method_4_code 33 = .ok (.ireturn, 1) := by decide +kernel
theorem dd_M_pixel_0 : decode prog_7_method_5_code 0 = .ok (.aload_n 0, 1) := by decide +kernel
theorem dd_M_pixel_1 : decode prog_7_method_5_code 1 = .ok (.aload_n 0, 1) := by decide +kernel
theorem dd_M_pixel_2 : decode prog_7_method_5_code 2 = .ok (.iload_n 1, 1) := by decide +kernel
theorem dd_M_pixel_3 : decode prog_7_method_5_code 3 = .ok (.iload_n 2, 1) := by decide +kernel
theorem dd_M_pixel_4 : decode prog_7_method_5_code 4 = .ok (.invokevirtual 60, 3) := by decide +kernel
theorem dd_M_pixel_7 : decode prog_7_method_5_code 7 = .ok (.ifCond .ne 7, 3) := by decide +kernel
theorem dd_M_pixel_10 : decode prog_7_method_5_code 10 = .ok (.iconst 1, 1) := by decide +kernel
theorem dd_M_pixel_11 : decode prog_7_method_5_code 11 = .ok (.goto 19, 3) := by decide +kernel
theorem dd_M_pixel_14 : decode prog_7_method_5_code 14 = .ok (.iload_n 3, 1) := by decide +kernel
theorem dd_M_pixel_15 : decode prog_7_method_5_code 15 = .ok (.iconst 0, 1) := by decide +kernel
theorem dd_M_pixel_16 : decode prog_7_method_5_code 16 = .ok (.sipush 255, 3) := by decide +kernel
theorem dd_M_pixel_19 : decode prog_7_method_5_code 19 = .ok (.invokestatic 56, 3) := by decide +kernel
theorem dd_M_pixel_22 : decode prog_7_method_5_code 22 = .ok (.ifCond .ne 7, 3) := by decide +kernel
theorem dd_M_pixel_25 : decode prog_7_method_5_code 25 = .ok (.iconst 2, 1) := by decide +kernel
theorem dd_M_pixel_26 : decode prog_7_method_5_code 26 = .ok (.goto 4, 3) := by decide +kernel
theorem dd_M_pixel_29 : decode prog_7_method_5_code 29 = .ok (.iconst 0, 1) := by decide +kernel
theorem dd_M_pixel_30 : decode prog_7_method_5_code 30 = .ok (.putfield 53, 3) := by decide +kernel
theorem dd_M_pixel_33 : decode prog_7_method_5_code 33 = .ok (.aload_n 0, 1) := by decide +kernel
theorem dd_M_pixel_34 : decode prog_7_method_5_code 34 = .ok (.getfield 53, 3) := by decide +kernel
theorem dd_M_pixel_37 : decode prog_7_method_5_code 37 = .ok (.ifCond .le 5, 3) := by decide +kernel
theorem dd_M_pixel_40 : decode prog_7_method_5_code 40 = .ok (.iconst 0, 1) := by decide +kernel
theorem dd_M_pixel_41 : decode prog_7_method_5_code 41 = .ok (.ireturn, 1) := by decide +kernel
theorem dd_M_pixel_42 : decode prog_7_method_5_code 42 = .ok (.aload_n 0, 1) := by decide +kernel
theorem dd_M_pixel_43 : decode prog_7_method_5_code 43 = .ok (.getfield 7, 3) := by decide +kernel
theorem dd_M_pixel_46 : decode prog_7_method_5_code 46 = .ok (.bipush 16, 2) := by decide +kernel
theorem dd_M_pixel_48 : decode prog_7_method_5_code 48 = .ok (.iload_n 2, 1) := by decide +kernel
theorem dd_M_pixel_49 : decode prog_7_method_5_code 49 = .ok (.imul, 1) := by decide +kernel
theorem dd_M_pixel_50 : decode prog_7_method_5_code 50 = .ok (.iload_n 1, 1) := by decide +kernel
theorem dd_M_pixel_51 : decode prog_7_method_5_code 51 = .ok (.iadd, 1) := by decide +kernel
theorem dd_M_pixel_52 : decode prog_7_method_5_code 52 = .ok (.iaload, 1) := by decide +kernel
theorem dd_M_pixel_53 : decode prog_7_method_5_code 53 = .ok (.iload_n 3, 1) := by decide +kernel
theorem dd_M_pixel_54 : decode prog_7_method_5_code 54 = .ok (.if_icmp .eq 7, 3) := by decide +kernel
theorem dd_M_pixel_57 : decode prog_7_method_5_code 57 = .ok (.iconst 1, 1) := by decide +kernel
theorem dd_M_pixel_58 : decode prog_7_method_5_code 58 = .ok (.goto 4, 3) := by decide +kernel
theorem dd_M_pixel_61 : decode prog_7_method_5_code 61 = .ok (.iconst 0, 1) := by decide +kernel
theorem dd_M_pixel_62 : decode prog_7_method_5_code 62 = .ok (.istore 4, 2) := by decide +kernel
theorem dd_M_pixel_64 : decode prog_7_method_5_code 64 = .ok (.aload_n 0, 1) := by decide +kernel
theorem dd_M_pixel_65 : decode prog_7_method_5_code 65 = .ok (.getfield 7, 3) := by decide +kernel
theorem dd_M_pixel_68 : decode prog_7_method_5_code 68 = .ok (.bipush 16, 2) := by decide +kernel
theorem dd_M_pixel_70 : decode prog_7_method_5_code 70 = .ok (.iload_n 2, 1) := by decide +kernel
theorem dd_M_pixel_71 : decode prog_7_method_5_code 71 = .ok (.imul, 1) := by decide +kernel
theorem dd_M_pixel_72 : decode prog_7_method_5_code 72 = .ok (.iload_n 1, 1) := by decide +kernel
theorem dd_M_pixel_73 : decode prog_7_method_5_code 73 = .ok (.iadd, 1) := by decide +kernel
theorem dd_M_pixel_74 : decode prog_7_method_5_code 74 = .ok (.iload_n 3, 1) := by decide +kernel
theorem dd_M_pixel_75 : decode prog_7_method_5_code 75 = .ok (.iastore, 1) := by decide +kernel
theorem dd_M_pixel_76 : decode prog_7_method_5_code 76 = .ok (.iload 4, 2) := by decide +kernel
theorem dd_M_pixel_78 : decode prog_7_method_5_code 78 = .ok (.ireturn, 1) := by decide +kernel
theorem dd_M_sumOf_0 : decode prog_7_method_6_code 0 = .ok (.iconst 0, 1) := by decide +kernel
theorem dd_M_sumOf_1 : decode prog_7_method_6_code 1 = .ok (.istore_n 2, 1) := by decide +kernel
theorem dd_M_sumOf_2 : decode prog_7_method_6_code 2 = .ok (.iconst 0, 1) := by decide +kernel
theorem dd_M_sumOf_3 : decode prog_7_method_6_code 3 = .ok (.istore_n 3, 1) := by decide +kernel
theorem dd_M_sumOf_4 : decode prog_7_method_6_code 4 = .ok (.iload_n 3, 1) := by decide +kernel
theorem dd_M_sumOf_5 : decode prog_7_method_6_code 5 = .ok (.sipush 256, 3) := by decide +kernel
theorem dd_M_sumOf_8 : decode prog_7_method_6_code 8 = .ok (.if_icmp .ge 43, 3) := by decide +kernel
theorem dd_M_sumOf_11 : decode prog_7_method_6_code 11 = .ok (.iload_n 2, 1) := by decide +kernel
theorem dd_M_sumOf_12 : decode prog_7_method_6_code 12 = .ok (.iload_n 1, 1) := by decide +kernel
theorem dd_M_sumOf_13 : decode prog_7_method_6_code 13 = .ok (.ifCond .ne 10, 3) := by decide +kernel
theorem dd_M_sumOf_16 : decode prog_7_method_6_code 16 = .ok (.iload_n 3, 1) := by decide +kernel
theorem dd_M_sumOf_17 : decode prog_7_method_6_code 17 = .ok (.bipush 16, 2) := by decide +kernel
theorem dd_M_sumOf_19 : decode prog_7_method_6_code 19 = .ok (.irem, 1) := by decide +kernel
theorem dd_M_sumOf_20 : decode prog_7_method_6_code 20 = .ok (.goto 16, 3) := by decide +kernel
theorem dd_M_sumOf_23 : decode prog_7_method_6_code 23 = .ok (.iload_n 1, 1) := by decide +kernel
theorem dd_M_sumOf_24 : decode prog_7_method_6_code 24 = .ok (.iconst 1, 1) := by decide +kernel
theorem dd_M_sumOf_25 : decode prog_7_method_6_code 25 = .ok (.if_icmp .ne 10, 3) := by decide +kernel
theorem dd_M_sumOf_28 : decode prog_7_method_6_code 28 = .ok (.iload_n 3, 1) := by decide +kernel
theorem dd_M_sumOf_29 : decode prog_7_method_6_code 29 = .ok (.bipush 16, 2) := by decide +kernel
theorem dd_M_sumOf_31 : decode prog_7_method_6_code 31 = .ok (.idiv, 1) := by decide +kernel
theorem dd_M_sumOf_32 : decode prog_7_method_6_code 32 = .ok (.goto 4, 3) := by decide +kernel
theorem dd_M_sumOf_35 : decode prog_7_method_6_code 35 = .ok (.iconst 1, 1) := by decide +kernel
theorem dd_M_sumOf_36 : decode prog_7_method_6_code 36 = .ok (.aload_n 0, 1) := by decide +kernel
theorem dd_M_sumOf_37 : decode prog_7_method_6_code 37 = .ok (.getfield 7, 3) := by decide +kernel
theorem dd_M_sumOf_40 : decode prog_7_method_6_code 40 = .ok (.iload_n 3, 1) := by decide +kernel
theorem dd_M_sumOf_41 : decode prog_7_method_6_code 41 = .ok (.iaload, 1) := by decide +kernel
theorem dd_M_sumOf_42 : decode prog_7_method_6_code 42 = .ok (.imul, 1) := by decide +kernel
theorem dd_M_sumOf_43 : decode prog_7_method_6_code 43 = .ok (.iadd, 1) := by decide +kernel
theorem dd_M_sumOf_44 : decode prog_7_method_6_code 44 = .ok (.istore_n 2, 1) := by decide +kernel
theorem dd_M_sumOf_45 : decode prog_7_method_6_code 45 = .ok (.iinc 3 1, 3) := by decide +kernel
theorem dd_M_sumOf_48 : decode prog_7_method_6_code 48 = .ok (.goto (-44), 3) := by decide +kernel
theorem dd_M_sumOf_51 : decode prog_7_method_6_code 51 = .ok (.iload_n 2, 1) := by decide +kernel
theorem dd_M_sumOf_52 : decode prog_7_method_6_code 52 = .ok (.ireturn, 1) := by decide +kernel
theorem dd_M_middleOf_0 : decode prog_7_method_7_code 0 = .ok (.aload_n 0, 1) := by decide +kernel
theorem dd_M_middleOf_1 : decode prog_7_method_7_code 1 = .ok (.iconst 2, 1) := by decide +kernel
theorem dd_M_middleOf_2 : decode prog_7_method_7_code 2 = .ok (.invokevirtual 64, 3) := by decide +kernel
theorem dd_M_middleOf_5 : decode prog_7_method_7_code 5 = .ok (.istore_n 2, 1) := by decide +kernel
theorem dd_M_middleOf_6 : decode prog_7_method_7_code 6 = .ok (.iload_n 2, 1) := by decide +kernel
theorem dd_M_middleOf_7 : decode prog_7_method_7_code 7 = .ok (.ifCond .ne 7, 3) := by decide +kernel
theorem dd_M_middleOf_10 : decode prog_7_method_7_code 10 = .ok (.iconst (-1), 1) := by decide +kernel
theorem dd_M_middleOf_11 : decode prog_7_method_7_code 11 = .ok (.goto 10, 3) := by decide +kernel
theorem dd_M_middleOf_14 : decode prog_7_method_7_code 14 = .ok (.aload_n 0, 1) := by decide +kernel
theorem dd_M_middleOf_15 : decode prog_7_method_7_code 15 = .ok (.iload_n 1, 1) := by decide +kernel
theorem dd_M_middleOf_16 : decode prog_7_method_7_code 16 = .ok (.invokevirtual 64, 3) := by decide +kernel
theorem dd_M_middleOf_19 : decode prog_7_method_7_code 19 = .ok (.iload_n 2, 1) := by decide +kernel
theorem dd_M_middleOf_20 : decode prog_7_method_7_code 20 = .ok (.idiv, 1) := by decide +kernel
theorem dd_M_middleOf_21 : decode prog_7_method_7_code 21 = .ok (.ireturn, 1) := by decide +kernel
theorem dd_M_middle_0 : decode prog_7_method_8_code 0 = .ok (.aload_n 0, 1) := by decide +kernel
theorem dd_M_middle_1 : decode prog_7_method_8_code 1 = .ok (.iload_n 1, 1) := by decide +kernel
theorem dd_M_middle_2 : decode prog_7_method_8_code 2 = .ok (.iconst 0, 1) := by decide +kernel
theorem dd_M_middle_3 : decode prog_7_method_8_code 3 = .ok (.iconst 1, 1) := by decide +kernel
theorem dd_M_middle_4 : decode prog_7_method_8_code 4 = .ok (.invokestatic 56, 3) := by decide +kernel
theorem dd_M_middle_7 : decode prog_7_method_8_code 7 = .ok (.ifCond .ne 7, 3) := by decide +kernel
theorem dd_M_middle_10 : decode prog_7_method_8_code 10 = .ok (.iconst 1, 1) := by decide +kernel
theorem dd_M_middle_11 : decode prog_7_method_8_code 11 = .ok (.goto 4, 3) := by decide +kernel
theorem dd_M_middle_14 : decode prog_7_method_8_code 14 = .ok (.iconst 0, 1) := by decide +kernel
theorem dd_M_middle_15 : decode prog_7_method_8_code 15 = .ok (.putfield 53, 3) := by decide +kernel
theorem dd_M_middle_18 : decode prog_7_method_8_code 18 = .ok (.aload_n 0, 1) := by decide +kernel
theorem dd_M_middle_19 : decode prog_7_method_8_code 19 = .ok (.getfield 53, 3) := by decide +kernel
theorem dd_M_middle_22 : decode prog_7_method_8_code 22 = .ok (.ifCond .le 7, 3) := by decide +kernel
theorem dd_M_middle_25 : decode prog_7_method_8_code 25 = .ok (.iconst 0, 1) := by decide +kernel
theorem dd_M_middle_26 : decode prog_7_method_8_code 26 = .ok (.goto 8, 3) := by decide +kernel
theorem dd_M_middle_29 : decode prog_7_method_8_code 29 = .ok (.aload_n 0, 1) := by decide +kernel
theorem dd_M_middle_30 : decode prog_7_method_8_code 30 = .ok (.iload_n 1, 1) := by decide +kernel
theorem dd_M_middle_31 : decode prog_7_method_8_code 31 = .ok (.invokevirtual 68, 3) := by decide +kernel
theorem dd_M_middle_34 : decode prog_7_method_8_code 34 = .ok (.ireturn, 1) := by decide +kernel
theorem dd_M_ray_0 : decode prog_7_method_9_code 0 = .ok (.aload_n 0, 1) := by decide +kernel
theorem dd_M_ray_1 : decode prog_7_method_9_code 1 = .ok (.iload_n 1, 1) := by decide +kernel
theorem dd_M_ray_2 : decode prog_7_method_9_code 2 = .ok (.bipush (-5), 2) := by decide +kernel
theorem dd_M_ray_4 : decode prog_7_method_9_code 4 = .ok (.iconst 5, 1) := by decide +kernel
theorem dd_M_ray_5 : decode prog_7_method_9_code 5 = .ok (.invokestatic 56, 3) := by decide +kernel
theorem dd_M_ray_8 : decode prog_7_method_9_code 8 = .ok (.ifCond .eq 21, 3) := by decide +kernel
theorem dd_M_ray_11 : decode prog_7_method_9_code 11 = .ok (.iload_n 2, 1) := by decide +kernel
theorem dd_M_ray_12 : decode prog_7_method_9_code 12 = .ok (.bipush (-5), 2) := by decide +kernel
theorem dd_M_ray_14 : decode prog_7_method_9_code 14 = .ok (.iconst 5, 1) := by decide +kernel
theorem dd_M_ray_15 : decode prog_7_method_9_code 15 = .ok (.invokestatic 56, 3) := by decide +kernel
theorem dd_M_ray_18 : decode prog_7_method_9_code 18 = .ok (.ifCond .eq 11, 3) := by decide +kernel
theorem dd_M_ray_21 : decode prog_7_method_9_code 21 = .ok (.iload_n 1, 1) := by decide +kernel
theorem dd_M_ray_22 : decode prog_7_method_9_code 22 = .ok (.ifCond .ne 11, 3) := by decide +kernel
theorem dd_M_ray_25 : decode prog_7_method_9_code 25 = .ok (.iload_n 2, 1) := by decide +kernel
theorem dd_M_ray_26 : decode prog_7_method_9_code 26 = .ok (.ifCond .ne 7, 3) := by decide +kernel
theorem dd_M_ray_29 : decode prog_7_method_9_code 29 = .ok (.iconst 1, 1) := by decide +kernel
theorem dd_M_ray_30 : decode prog_7_method_9_code 30 = .ok (.goto 17, 3) := by decide +kernel
theorem dd_M_ray_33 : decode prog_7_method_9_code 33 = .ok (.aload_n 0, 1) := by decide +kernel
theorem dd_M_ray_34 : decode prog_7_method_9_code 34 = .ok (.getfield 71, 3) := by decide +kernel
theorem dd_M_ray_37 : decode prog_7_method_9_code 37 = .ok (.bipush 8, 2) := by decide +kernel
theorem dd_M_ray_39 : decode prog_7_method_9_code 39 = .ok (.if_icmp .ne 7, 3) := by decide +kernel
theorem dd_M_ray_42 : decode prog_7_method_9_code 42 = .ok (.iconst 2, 1) := by decide +kernel
theorem dd_M_ray_43 : decode prog_7_method_9_code 43 = .ok (.goto 4, 3) := by decide +kernel
theorem dd_M_ray_46 : decode prog_7_method_9_code 46 = .ok (.iconst 0, 1) := by decide +kernel
theorem dd_M_ray_47 : decode prog_7_method_9_code 47 = .ok (.putfield 53, 3) := by decide +kernel
theorem dd_M_ray_50 : decode prog_7_method_9_code 50 = .ok (.aload_n 0, 1) := by decide +kernel
theorem dd_M_ray_51 : decode prog_7_method_9_code 51 = .ok (.getfield 53, 3) := by decide +kernel
theorem dd_M_ray_54 : decode prog_7_method_9_code 54 = .ok (.ifCond .le 5, 3) := by decide +kernel
theorem dd_M_ray_57 : decode prog_7_method_9_code 57 = .ok (.iconst 0, 1) := by decide +kernel
theorem dd_M_ray_58 : decode prog_7_method_9_code 58 = .ok (.ireturn, 1) := by decide +kernel
theorem dd_M_ray_59 : decode prog_7_method_9_code 59 = .ok (.aload_n 0, 1) := by decide +kernel
theorem dd_M_ray_60 : decode prog_7_method_9_code 60 = .ok (.getfield 13, 3) := by decide +kernel
theorem dd_M_ray_63 : decode prog_7_method_9_code 63 = .ok (.aload_n 0, 1) := by decide +kernel
theorem dd_M_ray_64 : decode prog_7_method_9_code 64 = .ok (.getfield 71, 3) := by decide +kernel
theorem dd_M_ray_67 : decode prog_7_method_9_code 67 = .ok (.iload_n 1, 1) := by decide +kernel
theorem dd_M_ray_68 : decode prog_7_method_9_code 68 = .ok (.iastore, 1) := by decide +kernel
theorem dd_M_ray_69 : decode prog_7_method_9_code 69 = .ok (.aload_n 0, 1) := by decide +kernel
theorem dd_M_ray_70 : decode prog_7_method_9_code 70 = .ok (.getfield 16, 3) := by decide +kernel
theorem dd_M_ray_73 : decode prog_7_method_9_code 73 = .ok (.aload_n 0, 1) := by decide +kernel
theorem dd_M_ray_74 : decode prog_7_method_9_code 74 = .ok (.getfield 71, 3) := by decide +kernel
theorem dd_M_ray_77 : decode prog_7_method_9_code 77 = .ok (.iload_n 2, 1) := by decide +kernel
theorem dd_M_ray_78 : decode prog_7_method_9_code 78 = .ok (.iastore, 1) := by decide +kernel
theorem dd_M_ray_79 : decode prog_7_method_9_code 79 = .ok (.aload_n 0, 1) := by decide +kernel
theorem dd_M_ray_80 : decode prog_7_method_9_code 80 = .ok (.dup, 1) := by decide +kernel
theorem dd_M_ray_81 : decode prog_7_method_9_code 81 = .ok (.getfield 71, 3) := by decide +kernel
theorem dd_M_ray_84 : decode prog_7_method_9_code 84 = .ok (.iconst 1, 1) := by decide +kernel
theorem dd_M_ray_85 : decode prog_7_method_9_code 85 = .ok (.iadd, 1) := by decide +kernel
theorem dd_M_ray_86 : decode prog_7_method_9_code 86 = .ok (.putfield 71, 3) := by decide +kernel
theorem dd_M_ray_89 : decode prog_7_method_9_code 89 = .ok (.aload_n 0, 1) := by decide +kernel
theorem dd_M_ray_90 : decode prog_7_method_9_code 90 = .ok (.getfield 71, 3) := by decide +kernel
theorem dd_M_ray_93 : decode prog_7_method_9_code 93 = .ok (.iconst 1, 1) := by decide +kernel
theorem dd_M_ray_94 : decode prog_7_method_9_code 94 = .ok (.isub, 1) := by decide +kernel
theorem dd_M_ray_95 : decode prog_7_method_9_code 95 = .ok (.ireturn, 1) := by decide +kernel
theorem dd_M_noRay_0 : decode prog_7_method_13_code 0 = .ok (.iload_n 1, 1) := by decide +kernel
theorem dd_M_noRay_1 : decode prog_7_method_13_code 1 = .ok (.iconst 0, 1) := by decide +kernel
theorem dd_M_noRay_2 : decode prog_7_method_13_code 2 = .ok (.aload_n 0, 1) := by decide +kernel
theorem dd_M_noRay_3 : decode prog_7_method_13_code 3 = .ok (.getfield 71, 3) := by decide +kernel
theorem dd_M_noRay_6 : decode prog_7_method_13_code 6 = .ok (.iconst 1, 1) := by decide +kernel
theorem dd_M_noRay_7 : decode prog_7_method_13_code 7 = .ok (.isub, 1) := by decide +kernel
theorem dd_M_noRay_8 : decode prog_7_method_13_code 8 = .ok (.invokestatic 56, 3) := by decide +kernel
theorem dd_M_noRay_11 : decode prog_7_method_13_code 11 = .ok (.ifCond .ne 7, 3) := by decide +kernel
theorem dd_M_noRay_14 : decode prog_7_method_13_code 14 = .ok (.iconst 1, 1) := by decide +kernel
theorem dd_M_noRay_15 : decode prog_7_method_13_code 15 = .ok (.goto 4, 3) := by decide +kernel
theorem dd_M_noRay_18 : decode prog_7_method_13_code 18 = .ok (.iconst 0, 1) := by decide +kernel
theorem dd_M_noRay_19 : decode prog_7_method_13_code 19 = .ok (.ireturn, 1) := by decide +kernel
theorem dd_M_size_0 : decode prog_7_method_10_code 0 = .ok (.iload_n 0, 1) := by decide +kernel
theorem dd_M_size_1 : decode prog_7_method_10_code 1 = .ok (.ifCond .ge 8, 3) := by decide +kernel
theorem dd_M_size_4 : decode prog_7_method_10_code 4 = .ok (.iload_n 0, 1) := by decide +kernel
theorem dd_M_size_5 : decode prog_7_method_10_code 5 = .ok (.ineg, 1) := by decide +kernel
theorem dd_M_size_6 : decode prog_7_method_10_code 6 = .ok (.goto 4, 3) := by decide +kernel
theorem dd_M_size_9 : decode prog_7_method_10_code 9 = .ok (.iload_n 0, 1) := by decide +kernel
theorem dd_M_size_10 : decode prog_7_method_10_code 10 = .ok (.ireturn, 1) := by decide +kernel
theorem dd_M_down_0 : decode prog_7_method_11_code 0 = .ok (.iload_n 0, 1) := by decide +kernel
theorem dd_M_down_1 : decode prog_7_method_11_code 1 = .ok (.iload_n 1, 1) := by decide +kernel
theorem dd_M_down_2 : decode prog_7_method_11_code 2 = .ok (.idiv, 1) := by decide +kernel
theorem dd_M_down_3 : decode prog_7_method_11_code 3 = .ok (.istore_n 2, 1) := by decide +kernel
theorem dd_M_down_4 : decode prog_7_method_11_code 4 = .ok (.iload_n 2, 1) := by decide +kernel
theorem dd_M_down_5 : decode prog_7_method_11_code 5 = .ok (.iload_n 1, 1) := by decide +kernel
theorem dd_M_down_6 : decode prog_7_method_11_code 6 = .ok (.imul, 1) := by decide +kernel
theorem dd_M_down_7 : decode prog_7_method_11_code 7 = .ok (.iload_n 0, 1) := by decide +kernel
theorem dd_M_down_8 : decode prog_7_method_11_code 8 = .ok (.if_icmp .le 9, 3) := by decide +kernel
theorem dd_M_down_11 : decode prog_7_method_11_code 11 = .ok (.iload_n 2, 1) := by decide +kernel
theorem dd_M_down_12 : decode prog_7_method_11_code 12 = .ok (.iconst 1, 1) := by decide +kernel
theorem dd_M_down_13 : decode prog_7_method_11_code 13 = .ok (.isub, 1) := by decide +kernel
theorem dd_M_down_14 : decode prog_7_method_11_code 14 = .ok (.goto 4, 3) := by decide +kernel
theorem dd_M_down_17 : decode prog_7_method_11_code 17 = .ok (.iload_n 2, 1) := by decide +kernel
theorem dd_M_down_18 : decode prog_7_method_11_code 18 = .ok (.ireturn, 1) := by decide +kernel
theorem dd_M_lay_0 : decode prog_7_method_12_code 0 = .ok (.aload_n 0, 1) := by decide +kernel
theorem dd_M_lay_1 : decode prog_7_method_12_code 1 = .ok (.getfield 13, 3) := by decide +kernel
theorem dd_M_lay_4 : decode prog_7_method_12_code 4 = .ok (.iload_n 1, 1) := by decide +kernel
theorem dd_M_lay_5 : decode prog_7_method_12_code 5 = .ok (.iaload, 1) := by decide +kernel
theorem dd_M_lay_6 : decode prog_7_method_12_code 6 = .ok (.invokestatic 74, 3) := by decide +kernel
theorem dd_M_lay_9 : decode prog_7_method_12_code 9 = .ok (.aload_n 0, 1) := by decide +kernel
theorem dd_M_lay_10 : decode prog_7_method_12_code 10 = .ok (.getfield 16, 3) := by decide +kernel
theorem dd_M_lay_13 : decode prog_7_method_12_code 13 = .ok (.iload_n 1, 1) := by decide +kernel
theorem dd_M_lay_14 : decode prog_7_method_12_code 14 = .ok (.iaload, 1) := by decide +kernel
theorem dd_M_lay_15 : decode prog_7_method_12_code 15 = .ok (.invokestatic 74, 3) := by decide +kernel
theorem dd_M_lay_18 : decode prog_7_method_12_code 18 = .ok (.if_icmp .le 15, 3) := by decide +kernel
theorem dd_M_lay_21 : decode prog_7_method_12_code 21 = .ok (.aload_n 0, 1) := by decide +kernel
theorem dd_M_lay_22 : decode prog_7_method_12_code 22 = .ok (.getfield 13, 3) := by decide +kernel
theorem dd_M_lay_25 : decode prog_7_method_12_code 25 = .ok (.iload_n 1, 1) := by decide +kernel
theorem dd_M_lay_26 : decode prog_7_method_12_code 26 = .ok (.iaload, 1) := by decide +kernel
theorem dd_M_lay_27 : decode prog_7_method_12_code 27 = .ok (.invokestatic 74, 3) := by decide +kernel
theorem dd_M_lay_30 : decode prog_7_method_12_code 30 = .ok (.goto 12, 3) := by decide +kernel
theorem dd_M_lay_33 : decode prog_7_method_12_code 33 = .ok (.aload_n 0, 1) := by decide +kernel
theorem dd_M_lay_34 : decode prog_7_method_12_code 34 = .ok (.getfield 16, 3) := by decide +kernel
theorem dd_M_lay_37 : decode prog_7_method_12_code 37 = .ok (.iload_n 1, 1) := by decide +kernel
theorem dd_M_lay_38 : decode prog_7_method_12_code 38 = .ok (.iaload, 1) := by decide +kernel
theorem dd_M_lay_39 : decode prog_7_method_12_code 39 = .ok (.invokestatic 74, 3) := by decide +kernel
theorem dd_M_lay_42 : decode prog_7_method_12_code 42 = .ok (.istore_n 2, 1) := by decide +kernel
theorem dd_M_lay_43 : decode prog_7_method_12_code 43 = .ok (.aload_n 0, 1) := by decide +kernel
theorem dd_M_lay_44 : decode prog_7_method_12_code 44 = .ok (.iconst 0, 1) := by decide +kernel
theorem dd_M_lay_45 : decode prog_7_method_12_code 45 = .ok (.invokevirtual 68, 3) := by decide +kernel
theorem dd_M_lay_48 : decode prog_7_method_12_code 48 = .ok (.istore_n 3, 1) := by decide +kernel
theorem dd_M_lay_49 : decode prog_7_method_12_code 49 = .ok (.aload_n 0, 1) := by decide +kernel
theorem dd_M_lay_50 : decode prog_7_method_12_code 50 = .ok (.iconst 1, 1) := by decide +kernel
theorem dd_M_lay_51 : decode prog_7_method_12_code 51 = .ok (.invokevirtual 68, 3) := by decide +kernel
theorem dd_M_lay_54 : decode prog_7_method_12_code 54 = .ok (.istore 4, 2) := by decide +kernel
theorem dd_M_lay_56 : decode prog_7_method_12_code 56 = .ok (.aload_n 0, 1) := by decide +kernel
theorem dd_M_lay_57 : decode prog_7_method_12_code 57 = .ok (.iconst 0, 1) := by decide +kernel
theorem dd_M_lay_58 : decode prog_7_method_12_code 58 = .ok (.putfield 77, 3) := by decide +kernel
theorem dd_M_lay_61 : decode prog_7_method_12_code 61 = .ok (.iload_n 3, 1) := by decide +kernel
theorem dd_M_lay_62 : decode prog_7_method_12_code 62 = .ok (.iconst (-1), 1) := by decide +kernel
theorem dd_M_lay_63 : decode prog_7_method_12_code 63 = .ok (.if_icmp .eq 7, 3) := by decide +kernel
theorem dd_M_lay_66 : decode prog_7_method_12_code 66 = .ok (.iconst 1, 1) := by decide +kernel
theorem dd_M_lay_67 : decode prog_7_method_12_code 67 = .ok (.goto 4, 3) := by decide +kernel
theorem dd_M_lay_70 : decode prog_7_method_12_code 70 = .ok (.iconst 0, 1) := by decide +kernel
theorem dd_M_lay_71 : decode prog_7_method_12_code 71 = .ok (.istore 5, 2) := by decide +kernel
theorem dd_M_lay_73 : decode prog_7_method_12_code 73 = .ok (.iload 5, 2) := by decide +kernel
theorem dd_M_lay_75 : decode prog_7_method_12_code 75 = .ok (.ifCond .eq 104, 3) := by decide +kernel
theorem dd_M_lay_78 : decode prog_7_method_12_code 78 = .ok (.iload_n 3, 1) := by decide +kernel
theorem dd_M_lay_79 : decode prog_7_method_12_code 79 = .ok (.iconst 2, 1) := by decide +kernel
theorem dd_M_lay_80 : decode prog_7_method_12_code 80 = .ok (.aload_n 0, 1) := by decide +kernel
theorem dd_M_lay_81 : decode prog_7_method_12_code 81 = .ok (.getfield 13, 3) := by decide +kernel
theorem dd_M_lay_84 : decode prog_7_method_12_code 84 = .ok (.iload_n 1, 1) := by decide +kernel
theorem dd_M_lay_85 : decode prog_7_method_12_code 85 = .ok (.iaload, 1) := by decide +kernel
theorem dd_M_lay_86 : decode prog_7_method_12_code 86 = .ok (.imul, 1) := by decide +kernel
theorem dd_M_lay_87 : decode prog_7_method_12_code 87 = .ok (.aload_n 0, 1) := by decide +kernel
theorem dd_M_lay_88 : decode prog_7_method_12_code 88 = .ok (.getfield 77, 3) := by decide +kernel
theorem dd_M_lay_91 : decode prog_7_method_12_code 91 = .ok (.imul, 1) := by decide +kernel
theorem dd_M_lay_92 : decode prog_7_method_12_code 92 = .ok (.iload_n 2, 1) := by decide +kernel
theorem dd_M_lay_93 : decode prog_7_method_12_code 93 = .ok (.iadd, 1) := by decide +kernel
theorem dd_M_lay_94 : decode prog_7_method_12_code 94 = .ok (.iconst 2, 1) := by decide +kernel
theorem dd_M_lay_95 : decode prog_7_method_12_code 95 = .ok (.iload_n 2, 1) := by decide +kernel
theorem dd_M_lay_96 : decode prog_7_method_12_code 96 = .ok (.imul, 1) := by decide +kernel
theorem dd_M_lay_97 : decode prog_7_method_12_code 97 = .ok (.invokestatic 80, 3) := by decide +kernel
theorem dd_M_lay_100 : decode prog_7_method_12_code 100 = .ok (.iadd, 1) := by decide +kernel
theorem dd_M_lay_101 : decode prog_7_method_12_code 101 = .ok (.istore 6, 2) := by decide +kernel
theorem dd_M_lay_103 : decode prog_7_method_12_code 103 = .ok (.iload 4, 2) := by decide +kernel
theorem dd_M_lay_105 : decode prog_7_method_12_code 105 = .ok (.iconst 2, 1) := by decide +kernel
theorem dd_M_lay_106 : decode prog_7_method_12_code 106 = .ok (.aload_n 0, 1) := by decide +kernel
theorem dd_M_lay_107 : decode prog_7_method_12_code 107 = .ok (.getfield 16, 3) := by decide +kernel
theorem dd_M_lay_110 : decode prog_7_method_12_code 110 = .ok (.iload_n 1, 1) := by decide +kernel
theorem dd_M_lay_111 : decode prog_7_method_12_code 111 = .ok (.iaload, 1) := by decide +kernel
theorem dd_M_lay_112 : decode prog_7_method_12_code 112 = .ok (.imul, 1) := by decide +kernel
theorem dd_M_lay_113 : decode prog_7_method_12_code 113 = .ok (.aload_n 0, 1) := by decide +kernel
theorem dd_M_lay_114 : decode prog_7_method_12_code 114 = .ok (.getfield 77, 3) := by decide +kernel
theorem dd_M_lay_117 : decode prog_7_method_12_code 117 = .ok (.imul, 1) := by decide +kernel
theorem dd_M_lay_118 : decode prog_7_method_12_code 118 = .ok (.iload_n 2, 1) := by decide +kernel
theorem dd_M_lay_119 : decode prog_7_method_12_code 119 = .ok (.iadd, 1) := by decide +kernel
theorem dd_M_lay_120 : decode prog_7_method_12_code 120 = .ok (.iconst 2, 1) := by decide +kernel
theorem dd_M_lay_121 : decode prog_7_method_12_code 121 = .ok (.iload_n 2, 1) := by decide +kernel
theorem dd_M_lay_122 : decode prog_7_method_12_code 122 = .ok (.imul, 1) := by decide +kernel
theorem dd_M_lay_123 : decode prog_7_method_12_code 123 = .ok (.invokestatic 80, 3) := by decide +kernel
theorem dd_M_lay_126 : decode prog_7_method_12_code 126 = .ok (.iadd, 1) := by decide +kernel
theorem dd_M_lay_127 : decode prog_7_method_12_code 127 = .ok (.istore 7, 2) := by decide +kernel
theorem dd_M_lay_129 : decode prog_7_method_12_code 129 = .ok (.aload_n 0, 1) := by decide +kernel
theorem dd_M_lay_130 : decode prog_7_method_12_code 130 = .ok (.iload 6, 2) := by decide +kernel
theorem dd_M_lay_132 : decode prog_7_method_12_code 132 = .ok (.iload 7, 2) := by decide +kernel
theorem dd_M_lay_134 : decode prog_7_method_12_code 134 = .ok (.invokevirtual 60, 3) := by decide +kernel
theorem dd_M_lay_137 : decode prog_7_method_12_code 137 = .ok (.istore 5, 2) := by decide +kernel
theorem dd_M_lay_139 : decode prog_7_method_12_code 139 = .ok (.iload 5, 2) := by decide +kernel
theorem dd_M_lay_141 : decode prog_7_method_12_code 141 = .ok (.ifCond .eq 35, 3) := by decide +kernel
theorem dd_M_lay_144 : decode prog_7_method_12_code 144 = .ok (.aload_n 0, 1) := by decide +kernel
theorem dd_M_lay_145 : decode prog_7_method_12_code 145 = .ok (.getfield 26, 3) := by decide +kernel
theorem dd_M_lay_148 : decode prog_7_method_12_code 148 = .ok (.aload_n 0, 1) := by decide +kernel
theorem dd_M_lay_149 : decode prog_7_method_12_code 149 = .ok (.getfield 77, 3) := by decide +kernel
theorem dd_M_lay_152 : decode prog_7_method_12_code 152 = .ok (.aload_n 0, 1) := by decide +kernel
theorem dd_M_lay_153 : decode prog_7_method_12_code 153 = .ok (.getfield 7, 3) := by decide +kernel
theorem dd_M_lay_156 : decode prog_7_method_12_code 156 = .ok (.bipush 16, 2) := by decide +kernel
theorem dd_M_lay_158 : decode prog_7_method_12_code 158 = .ok (.iload 7, 2) := by decide +kernel
theorem dd_M_lay_160 : decode prog_7_method_12_code 160 = .ok (.imul, 1) := by decide +kernel
theorem dd_M_lay_161 : decode prog_7_method_12_code 161 = .ok (.iload 6, 2) := by decide +kernel
theorem dd_M_lay_163 : decode prog_7_method_12_code 163 = .ok (.iadd, 1) := by decide +kernel
theorem dd_M_lay_164 : decode prog_7_method_12_code 164 = .ok (.iaload, 1) := by decide +kernel
theorem dd_M_lay_165 : decode prog_7_method_12_code 165 = .ok (.iastore, 1) := by decide +kernel
theorem dd_M_lay_166 : decode prog_7_method_12_code 166 = .ok (.aload_n 0, 1) := by decide +kernel
theorem dd_M_lay_167 : decode prog_7_method_12_code 167 = .ok (.dup, 1) := by decide +kernel
theorem dd_M_lay_168 : decode prog_7_method_12_code 168 = .ok (.getfield 77, 3) := by decide +kernel
theorem dd_M_lay_171 : decode prog_7_method_12_code 171 = .ok (.iconst 1, 1) := by decide +kernel
theorem dd_M_lay_172 : decode prog_7_method_12_code 172 = .ok (.iadd, 1) := by decide +kernel
theorem dd_M_lay_173 : decode prog_7_method_12_code 173 = .ok (.putfield 77, 3) := by decide +kernel
theorem dd_M_lay_176 : decode prog_7_method_12_code 176 = .ok (.goto (-103), 3) := by decide +kernel
theorem dd_M_lay_179 : decode prog_7_method_12_code 179 = .ok (.iconst 0, 1) := by decide +kernel
theorem dd_M_lay_180 : decode prog_7_method_12_code 180 = .ok (.istore 6, 2) := by decide +kernel
theorem dd_M_lay_182 : decode prog_7_method_12_code 182 = .ok (.iload 6, 2) := by decide +kernel
theorem dd_M_lay_184 : decode prog_7_method_12_code 184 = .ok (.aload_n 0, 1) := by decide +kernel
theorem dd_M_lay_185 : decode prog_7_method_12_code 185 = .ok (.getfield 77, 3) := by decide +kernel
theorem dd_M_lay_188 : decode prog_7_method_12_code 188 = .ok (.if_icmp .ge 93, 3) := by decide +kernel
theorem dd_M_lay_191 : decode prog_7_method_12_code 191 = .ok (.iload 6, 2) := by decide +kernel
theorem dd_M_lay_193 : decode prog_7_method_12_code 193 = .ok (.ifCond .ne 13, 3) := by decide +kernel
theorem dd_M_lay_196 : decode prog_7_method_12_code 196 = .ok (.aload_n 0, 1) := by decide +kernel
theorem dd_M_lay_197 : decode prog_7_method_12_code 197 = .ok (.getfield 26, 3) := by decide +kernel
theorem dd_M_lay_200 : decode prog_7_method_12_code 200 = .ok (.iload 6, 2) := by decide +kernel
theorem dd_M_lay_202 : decode prog_7_method_12_code 202 = .ok (.iaload, 1) := by decide +kernel
theorem dd_M_lay_203 : decode prog_7_method_12_code 203 = .ok (.goto 12, 3) := by decide +kernel
theorem dd_M_lay_206 : decode prog_7_method_12_code 206 = .ok (.aload_n 0, 1) := by decide +kernel
theorem dd_M_lay_207 : decode prog_7_method_12_code 207 = .ok (.getfield 26, 3) := by decide +kernel
theorem dd_M_lay_210 : decode prog_7_method_12_code 210 = .ok (.iload 6, 2) := by decide +kernel
theorem dd_M_lay_212 : decode prog_7_method_12_code 212 = .ok (.iconst 1, 1) := by decide +kernel
theorem dd_M_lay_213 : decode prog_7_method_12_code 213 = .ok (.isub, 1) := by decide +kernel
theorem dd_M_lay_214 : decode prog_7_method_12_code 214 = .ok (.iaload, 1) := by decide +kernel
theorem dd_M_lay_215 : decode prog_7_method_12_code 215 = .ok (.istore 7, 2) := by decide +kernel
theorem dd_M_lay_217 : decode prog_7_method_12_code 217 = .ok (.iload 6, 2) := by decide +kernel
theorem dd_M_lay_219 : decode prog_7_method_12_code 219 = .ok (.aload_n 0, 1) := by decide +kernel
theorem dd_M_lay_220 : decode prog_7_method_12_code 220 = .ok (.getfield 77, 3) := by decide +kernel
theorem dd_M_lay_223 : decode prog_7_method_12_code 223 = .ok (.iconst 1, 1) := by decide +kernel
theorem dd_M_lay_224 : decode prog_7_method_12_code 224 = .ok (.isub, 1) := by decide +kernel
theorem dd_M_lay_225 : decode prog_7_method_12_code 225 = .ok (.if_icmp .ne 13, 3) := by decide +kernel
theorem dd_M_lay_228 : decode prog_7_method_12_code 228 = .ok (.aload_n 0, 1) := by decide +kernel
theorem dd_M_lay_229 : decode prog_7_method_12_code 229 = .ok (.getfield 26, 3) := by decide +kernel
theorem dd_M_lay_232 : decode prog_7_method_12_code 232 = .ok (.iload 6, 2) := by decide +kernel
theorem dd_M_lay_234 : decode prog_7_method_12_code 234 = .ok (.iaload, 1) := by decide +kernel
theorem dd_M_lay_235 : decode prog_7_method_12_code 235 = .ok (.goto 12, 3) := by decide +kernel
theorem dd_M_lay_238 : decode prog_7_method_12_code 238 = .ok (.aload_n 0, 1) := by decide +kernel
theorem dd_M_lay_239 : decode prog_7_method_12_code 239 = .ok (.getfield 26, 3) := by decide +kernel
theorem dd_M_lay_242 : decode prog_7_method_12_code 242 = .ok (.iload 6, 2) := by decide +kernel
theorem dd_M_lay_244 : decode prog_7_method_12_code 244 = .ok (.iconst 1, 1) := by decide +kernel
theorem dd_M_lay_245 : decode prog_7_method_12_code 245 = .ok (.iadd, 1) := by decide +kernel
theorem dd_M_lay_246 : decode prog_7_method_12_code 246 = .ok (.iaload, 1) := by decide +kernel
theorem dd_M_lay_247 : decode prog_7_method_12_code 247 = .ok (.istore 8, 2) := by decide +kernel
theorem dd_M_lay_249 : decode prog_7_method_12_code 249 = .ok (.aload_n 0, 1) := by decide +kernel
theorem dd_M_lay_250 : decode prog_7_method_12_code 250 = .ok (.getfield 29, 3) := by decide +kernel
theorem dd_M_lay_253 : decode prog_7_method_12_code 253 = .ok (.iload 6, 2) := by decide +kernel
theorem dd_M_lay_255 : decode prog_7_method_12_code 255 = .ok (.iload 7, 2) := by decide +kernel
theorem dd_M_lay_257 : decode prog_7_method_12_code 257 = .ok (.iconst 2, 1) := by decide +kernel
theorem dd_M_lay_258 : decode prog_7_method_12_code 258 = .ok (.aload_n 0, 1) := by decide +kernel
theorem dd_M_lay_259 : decode prog_7_method_12_code 259 = .ok (.getfield 26, 3) := by decide +kernel
theorem dd_M_lay_262 : decode prog_7_method_12_code 262 = .ok (.iload 6, 2) := by decide +kernel
theorem dd_M_lay_264 : decode prog_7_method_12_code 264 = .ok (.iaload, 1) := by decide +kernel
theorem dd_M_lay_265 : decode prog_7_method_12_code 265 = .ok (.imul, 1) := by decide +kernel
theorem dd_M_lay_266 : decode prog_7_method_12_code 266 = .ok (.iadd, 1) := by decide +kernel
theorem dd_M_lay_267 : decode prog_7_method_12_code 267 = .ok (.iload 8, 2) := by decide +kernel
theorem dd_M_lay_269 : decode prog_7_method_12_code 269 = .ok (.iadd, 1) := by decide +kernel
theorem dd_M_lay_270 : decode prog_7_method_12_code 270 = .ok (.iconst 2, 1) := by decide +kernel
theorem dd_M_lay_271 : decode prog_7_method_12_code 271 = .ok (.iadd, 1) := by decide +kernel
theorem dd_M_lay_272 : decode prog_7_method_12_code 272 = .ok (.iconst 4, 1) := by decide +kernel
theorem dd_M_lay_273 : decode prog_7_method_12_code 273 = .ok (.idiv, 1) := by decide +kernel
theorem dd_M_lay_274 : decode prog_7_method_12_code 274 = .ok (.iastore, 1) := by decide +kernel
theorem dd_M_lay_275 : decode prog_7_method_12_code 275 = .ok (.iinc 6 1, 3) := by decide +kernel
theorem dd_M_lay_278 : decode prog_7_method_12_code 278 = .ok (.goto (-96), 3) := by decide +kernel
theorem dd_M_lay_281 : decode prog_7_method_12_code 281 = .ok (.aload_n 0, 1) := by decide +kernel
theorem dd_M_lay_282 : decode prog_7_method_12_code 282 = .ok (.iconst 0, 1) := by decide +kernel
theorem dd_M_lay_283 : decode prog_7_method_12_code 283 = .ok (.putfield 84, 3) := by decide +kernel
theorem dd_M_lay_286 : decode prog_7_method_12_code 286 = .ok (.iconst 0, 1) := by decide +kernel
theorem dd_M_lay_287 : decode prog_7_method_12_code 287 = .ok (.istore 6, 2) := by decide +kernel
theorem dd_M_lay_289 : decode prog_7_method_12_code 289 = .ok (.aload_n 0, 1) := by decide +kernel
theorem dd_M_lay_290 : decode prog_7_method_12_code 290 = .ok (.getfield 77, 3) := by decide +kernel
theorem dd_M_lay_293 : decode prog_7_method_12_code 293 = .ok (.ifCond .le 12, 3) := by decide +kernel
theorem dd_M_lay_296 : decode prog_7_method_12_code 296 = .ok (.aload_n 0, 1) := by decide +kernel
theorem dd_M_lay_297 : decode prog_7_method_12_code 297 = .ok (.getfield 29, 3) := by decide +kernel
theorem dd_M_lay_300 : decode prog_7_method_12_code 300 = .ok (.iconst 0, 1) := by decide +kernel
theorem dd_M_lay_301 : decode prog_7_method_12_code 301 = .ok (.iaload, 1) := by decide +kernel
theorem dd_M_lay_302 : decode prog_7_method_12_code 302 = .ok (.goto 4, 3) := by decide +kernel
theorem dd_M_lay_305 : decode prog_7_method_12_code 305 = .ok (.iconst 0, 1) := by decide +kernel
theorem dd_M_lay_306 : decode prog_7_method_12_code 306 = .ok (.istore 7, 2) := by decide +kernel
theorem dd_M_lay_308 : decode prog_7_method_12_code 308 = .ok (.iconst 1, 1) := by decide +kernel
theorem dd_M_lay_309 : decode prog_7_method_12_code 309 = .ok (.istore 8, 2) := by decide +kernel
theorem dd_M_lay_311 : decode prog_7_method_12_code 311 = .ok (.iload 8, 2) := by decide +kernel
theorem dd_M_lay_313 : decode prog_7_method_12_code 313 = .ok (.aload_n 0, 1) := by decide +kernel
theorem dd_M_lay_314 : decode prog_7_method_12_code 314 = .ok (.getfield 77, 3) := by decide +kernel
theorem dd_M_lay_317 : decode prog_7_method_12_code 317 = .ok (.iconst 1, 1) := by decide +kernel
theorem dd_M_lay_318 : decode prog_7_method_12_code 318 = .ok (.isub, 1) := by decide +kernel
theorem dd_M_lay_319 : decode prog_7_method_12_code 319 = .ok (.if_icmp .ge 136, 3) := by decide +kernel
theorem dd_M_lay_322 : decode prog_7_method_12_code 322 = .ok (.aload_n 0, 1) := by decide +kernel
theorem dd_M_lay_323 : decode prog_7_method_12_code 323 = .ok (.getfield 29, 3) := by decide +kernel
theorem dd_M_lay_326 : decode prog_7_method_12_code 326 = .ok (.iload 8, 2) := by decide +kernel
theorem dd_M_lay_328 : decode prog_7_method_12_code 328 = .ok (.iaload, 1) := by decide +kernel
theorem dd_M_lay_329 : decode prog_7_method_12_code 329 = .ok (.iload 7, 2) := by decide +kernel
theorem dd_M_lay_331 : decode prog_7_method_12_code 331 = .ok (.if_icmp .ge 13, 3) := by decide +kernel
theorem dd_M_lay_334 : decode prog_7_method_12_code 334 = .ok (.aload_n 0, 1) := by decide +kernel
theorem dd_M_lay_335 : decode prog_7_method_12_code 335 = .ok (.getfield 29, 3) := by decide +kernel
theorem dd_M_lay_338 : decode prog_7_method_12_code 338 = .ok (.iload 8, 2) := by decide +kernel
theorem dd_M_lay_340 : decode prog_7_method_12_code 340 = .ok (.iaload, 1) := by decide +kernel
theorem dd_M_lay_341 : decode prog_7_method_12_code 341 = .ok (.goto 5, 3) := by decide +kernel
theorem dd_M_lay_344 : decode prog_7_method_12_code 344 = .ok (.iload 7, 2) := by decide +kernel
theorem dd_M_lay_346 : decode prog_7_method_12_code 346 = .ok (.istore 7, 2) := by decide +kernel
theorem dd_M_lay_348 : decode prog_7_method_12_code 348 = .ok (.aload_n 0, 1) := by decide +kernel
theorem dd_M_lay_349 : decode prog_7_method_12_code 349 = .ok (.getfield 29, 3) := by decide +kernel
theorem dd_M_lay_352 : decode prog_7_method_12_code 352 = .ok (.iload 8, 2) := by decide +kernel
theorem dd_M_lay_354 : decode prog_7_method_12_code 354 = .ok (.iaload, 1) := by decide +kernel
theorem dd_M_lay_355 : decode prog_7_method_12_code 355 = .ok (.aload_n 0, 1) := by decide +kernel
theorem dd_M_lay_356 : decode prog_7_method_12_code 356 = .ok (.getfield 29, 3) := by decide +kernel
theorem dd_M_lay_359 : decode prog_7_method_12_code 359 = .ok (.iload 8, 2) := by decide +kernel
theorem dd_M_lay_361 : decode prog_7_method_12_code 361 = .ok (.iconst 1, 1) := by decide +kernel
theorem dd_M_lay_362 : decode prog_7_method_12_code 362 = .ok (.isub, 1) := by decide +kernel
theorem dd_M_lay_363 : decode prog_7_method_12_code 363 = .ok (.iaload, 1) := by decide +kernel
theorem dd_M_lay_364 : decode prog_7_method_12_code 364 = .ok (.if_icmp .le 85, 3) := by decide +kernel
theorem dd_M_lay_367 : decode prog_7_method_12_code 367 = .ok (.aload_n 0, 1) := by decide +kernel
theorem dd_M_lay_368 : decode prog_7_method_12_code 368 = .ok (.getfield 29, 3) := by decide +kernel
theorem dd_M_lay_371 : decode prog_7_method_12_code 371 = .ok (.iload 8, 2) := by decide +kernel
theorem dd_M_lay_373 : decode prog_7_method_12_code 373 = .ok (.iaload, 1) := by decide +kernel
theorem dd_M_lay_374 : decode prog_7_method_12_code 374 = .ok (.aload_n 0, 1) := by decide +kernel
theorem dd_M_lay_375 : decode prog_7_method_12_code 375 = .ok (.getfield 29, 3) := by decide +kernel
theorem dd_M_lay_378 : decode prog_7_method_12_code 378 = .ok (.iload 8, 2) := by decide +kernel
theorem dd_M_lay_380 : decode prog_7_method_12_code 380 = .ok (.iconst 1, 1) := by decide +kernel
theorem dd_M_lay_381 : decode prog_7_method_12_code 381 = .ok (.iadd, 1) := by decide +kernel
theorem dd_M_lay_382 : decode prog_7_method_12_code 382 = .ok (.iaload, 1) := by decide +kernel
theorem dd_M_lay_383 : decode prog_7_method_12_code 383 = .ok (.if_icmp .lt 66, 3) := by decide +kernel
theorem dd_M_lay_386 : decode prog_7_method_12_code 386 = .ok (.iload 8, 2) := by decide +kernel
theorem dd_M_lay_388 : decode prog_7_method_12_code 388 = .ok (.iload 6, 2) := by decide +kernel
theorem dd_M_lay_390 : decode prog_7_method_12_code 390 = .ok (.isub, 1) := by decide +kernel
theorem dd_M_lay_391 : decode prog_7_method_12_code 391 = .ok (.aload_n 0, 1) := by decide +kernel
theorem dd_M_lay_392 : decode prog_7_method_12_code 392 = .ok (.getfield 19, 3) := by decide +kernel
theorem dd_M_lay_395 : decode prog_7_method_12_code 395 = .ok (.if_icmp .lt 54, 3) := by decide +kernel
theorem dd_M_lay_398 : decode prog_7_method_12_code 398 = .ok (.aload_n 0, 1) := by decide +kernel
theorem dd_M_lay_399 : decode prog_7_method_12_code 399 = .ok (.getfield 29, 3) := by decide +kernel
theorem dd_M_lay_402 : decode prog_7_method_12_code 402 = .ok (.iload 8, 2) := by decide +kernel
theorem dd_M_lay_404 : decode prog_7_method_12_code 404 = .ok (.iaload, 1) := by decide +kernel
theorem dd_M_lay_405 : decode prog_7_method_12_code 405 = .ok (.iload 7, 2) := by decide +kernel
theorem dd_M_lay_407 : decode prog_7_method_12_code 407 = .ok (.aload_n 0, 1) := by decide +kernel
theorem dd_M_lay_408 : decode prog_7_method_12_code 408 = .ok (.getfield 23, 3) := by decide +kernel
theorem dd_M_lay_411 : decode prog_7_method_12_code 411 = .ok (.iadd, 1) := by decide +kernel
theorem dd_M_lay_412 : decode prog_7_method_12_code 412 = .ok (.if_icmp .lt 37, 3) := by decide +kernel
theorem dd_M_lay_415 : decode prog_7_method_12_code 415 = .ok (.aload_n 0, 1) := by decide +kernel
theorem dd_M_lay_416 : decode prog_7_method_12_code 416 = .ok (.getfield 32, 3) := by decide +kernel
theorem dd_M_lay_419 : decode prog_7_method_12_code 419 = .ok (.aload_n 0, 1) := by decide +kernel
theorem dd_M_lay_420 : decode prog_7_method_12_code 420 = .ok (.getfield 84, 3) := by decide +kernel
theorem dd_M_lay_423 : decode prog_7_method_12_code 423 = .ok (.iload 8, 2) := by decide +kernel
theorem dd_M_lay_425 : decode prog_7_method_12_code 425 = .ok (.iastore, 1) := by decide +kernel
theorem dd_M_lay_426 : decode prog_7_method_12_code 426 = .ok (.aload_n 0, 1) := by decide +kernel
theorem dd_M_lay_427 : decode prog_7_method_12_code 427 = .ok (.dup, 1) := by decide +kernel
theorem dd_M_lay_428 : decode prog_7_method_12_code 428 = .ok (.getfield 84, 3) := by decide +kernel
theorem dd_M_lay_431 : decode prog_7_method_12_code 431 = .ok (.iconst 1, 1) := by decide +kernel
theorem dd_M_lay_432 : decode prog_7_method_12_code 432 = .ok (.iadd, 1) := by decide +kernel
theorem dd_M_lay_433 : decode prog_7_method_12_code 433 = .ok (.putfield 84, 3) := by decide +kernel
theorem dd_M_lay_436 : decode prog_7_method_12_code 436 = .ok (.iload 8, 2) := by decide +kernel
theorem dd_M_lay_438 : decode prog_7_method_12_code 438 = .ok (.istore 6, 2) := by decide +kernel
theorem dd_M_lay_440 : decode prog_7_method_12_code 440 = .ok (.aload_n 0, 1) := by decide +kernel
theorem dd_M_lay_441 : decode prog_7_method_12_code 441 = .ok (.getfield 29, 3) := by decide +kernel
theorem dd_M_lay_444 : decode prog_7_method_12_code 444 = .ok (.iload 8, 2) := by decide +kernel
theorem dd_M_lay_446 : decode prog_7_method_12_code 446 = .ok (.iaload, 1) := by decide +kernel
theorem dd_M_lay_447 : decode prog_7_method_12_code 447 = .ok (.istore 7, 2) := by decide +kernel
theorem dd_M_lay_449 : decode prog_7_method_12_code 449 = .ok (.iinc 8 1, 3) := by decide +kernel
theorem dd_M_lay_452 : decode prog_7_method_12_code 452 = .ok (.goto (-141), 3) := by decide +kernel
theorem dd_M_lay_455 : decode prog_7_method_12_code 455 = .ok (.return_, 1) := by decide +kernel
theorem dd_M_samples_0 : decode prog_7_method_14_code 0 = .ok (.aload_n 0, 1) := by decide +kernel
theorem dd_M_samples_1 : decode prog_7_method_14_code 1 = .ok (.aload_n 0, 1) := by decide +kernel
theorem dd_M_samples_2 : decode prog_7_method_14_code 2 = .ok (.iload_n 1, 1) := by decide +kernel
theorem dd_M_samples_3 : decode prog_7_method_14_code 3 = .ok (.invokevirtual 87, 3) := by decide +kernel
theorem dd_M_samples_6 : decode prog_7_method_14_code 6 = .ok (.ifCond .eq 7, 3) := by decide +kernel
theorem dd_M_samples_9 : decode prog_7_method_14_code 9 = .ok (.iconst 1, 1) := by decide +kernel
theorem dd_M_samples_10 : decode prog_7_method_14_code 10 = .ok (.goto 4, 3) := by decide +kernel
theorem dd_M_samples_13 : decode prog_7_method_14_code 13 = .ok (.iconst 0, 1) := by decide +kernel
theorem dd_M_samples_14 : decode prog_7_method_14_code 14 = .ok (.putfield 53, 3) := by decide +kernel
theorem dd_M_samples_17 : decode prog_7_method_14_code 17 = .ok (.aload_n 0, 1) := by decide +kernel
theorem dd_M_samples_18 : decode prog_7_method_14_code 18 = .ok (.getfield 53, 3) := by decide +kernel
theorem dd_M_samples_21 : decode prog_7_method_14_code 21 = .ok (.ifCond .le 5, 3) := by decide +kernel
theorem dd_M_samples_24 : decode prog_7_method_14_code 24 = .ok (.iconst 0, 1) := by decide +kernel
theorem dd_M_samples_25 : decode prog_7_method_14_code 25 = .ok (.ireturn, 1) := by decide +kernel
theorem dd_M_samples_26 : decode prog_7_method_14_code 26 = .ok (.aload_n 0, 1) := by decide +kernel
theorem dd_M_samples_27 : decode prog_7_method_14_code 27 = .ok (.iload_n 1, 1) := by decide +kernel
theorem dd_M_samples_28 : decode prog_7_method_14_code 28 = .ok (.invokevirtual 91, 3) := by decide +kernel
theorem dd_M_samples_31 : decode prog_7_method_14_code 31 = .ok (.aload_n 0, 1) := by decide +kernel
theorem dd_M_samples_32 : decode prog_7_method_14_code 32 = .ok (.getfield 77, 3) := by decide +kernel
theorem dd_M_samples_35 : decode prog_7_method_14_code 35 = .ok (.ireturn, 1) := by decide +kernel
theorem dd_M_sample_0 : decode prog_7_method_15_code 0 = .ok (.aload_n 0, 1) := by decide +kernel
theorem dd_M_sample_1 : decode prog_7_method_15_code 1 = .ok (.iload_n 1, 1) := by decide +kernel
theorem dd_M_sample_2 : decode prog_7_method_15_code 2 = .ok (.invokevirtual 95, 3) := by decide +kernel
theorem dd_M_sample_5 : decode prog_7_method_15_code 5 = .ok (.istore 4, 2) := by decide +kernel
theorem dd_M_sample_7 : decode prog_7_method_15_code 7 = .ok (.aload_n 0, 1) := by decide +kernel
theorem dd_M_sample_8 : decode prog_7_method_15_code 8 = .ok (.aload_n 0, 1) := by decide +kernel
theorem dd_M_sample_9 : decode prog_7_method_15_code 9 = .ok (.getfield 53, 3) := by decide +kernel
theorem dd_M_sample_12 : decode prog_7_method_15_code 12 = .ok (.ifCond .gt 15, 3) := by decide +kernel
theorem dd_M_sample_15 : decode prog_7_method_15_code 15 = .ok (.iload_n 2, 1) := by decide +kernel
theorem dd_M_sample_16 : decode prog_7_method_15_code 16 = .ok (.iconst 0, 1) := by decide +kernel
theorem dd_M_sample_17 : decode prog_7_method_15_code 17 = .ok (.iload 4, 2) := by decide +kernel
theorem dd_M_sample_19 : decode prog_7_method_15_code 19 = .ok (.iconst 1, 1) := by decide +kernel
theorem dd_M_sample_20 : decode prog_7_method_15_code 20 = .ok (.isub, 1) := by decide +kernel
theorem dd_M_sample_21 : decode prog_7_method_15_code 21 = .ok (.invokestatic 56, 3) := by decide +kernel
theorem dd_M_sample_24 : decode prog_7_method_15_code 24 = .ok (.ifCond .ne 7, 3) := by decide +kernel
theorem dd_M_sample_27 : decode prog_7_method_15_code 27 = .ok (.iconst 1, 1) := by decide +kernel
theorem dd_M_sample_28 : decode prog_7_method_15_code 28 = .ok (.goto 4, 3) := by decide +kernel
theorem dd_M_sample_31 : decode prog_7_method_15_code 31 = .ok (.iconst 0, 1) := by decide +kernel
theorem dd_M_sample_32 : decode prog_7_method_15_code 32 = .ok (.putfield 53, 3) := by decide +kernel
theorem dd_M_sample_35 : decode prog_7_method_15_code 35 = .ok (.aload_n 0, 1) := by decide +kernel
theorem dd_M_sample_36 : decode prog_7_method_15_code 36 = .ok (.getfield 53, 3) := by decide +kernel
theorem dd_M_sample_39 : decode prog_7_method_15_code 39 = .ok (.ifCond .le 7, 3) := by decide +kernel
theorem dd_M_sample_42 : decode prog_7_method_15_code 42 = .ok (.iconst 0, 1) := by decide +kernel
theorem dd_M_sample_43 : decode prog_7_method_15_code 43 = .ok (.goto 22, 3) := by decide +kernel
theorem dd_M_sample_46 : decode prog_7_method_15_code 46 = .ok (.iload_n 3, 1) := by decide +kernel
theorem dd_M_sample_47 : decode prog_7_method_15_code 47 = .ok (.ifCond .eq 12, 3) := by decide +kernel
theorem dd_M_sample_50 : decode prog_7_method_15_code 50 = .ok (.aload_n 0, 1) := by decide +kernel
theorem dd_M_sample_51 : decode prog_7_method_15_code 51 = .ok (.getfield 29, 3) := by decide +kernel
theorem dd_M_sample_54 : decode prog_7_method_15_code 54 = .ok (.iload_n 2, 1) := by decide +kernel
theorem dd_M_sample_55 : decode prog_7_method_15_code 55 = .ok (.iaload, 1) := by decide +kernel
theorem dd_M_sample_56 : decode prog_7_method_15_code 56 = .ok (.goto 9, 3) := by decide +kernel
theorem dd_M_sample_59 : decode prog_7_method_15_code 59 = .ok (.aload_n 0, 1) := by decide +kernel
theorem dd_M_sample_60 : decode prog_7_method_15_code 60 = .ok (.getfield 26, 3) := by decide +kernel
theorem dd_M_sample_63 : decode prog_7_method_15_code 63 = .ok (.iload_n 2, 1) := by decide +kernel
theorem dd_M_sample_64 : decode prog_7_method_15_code 64 = .ok (.iaload, 1) := by decide +kernel
theorem dd_M_sample_65 : decode prog_7_method_15_code 65 = .ok (.ireturn, 1) := by decide +kernel
theorem dd_M_rule_0 : decode prog_7_method_16_code 0 = .ok (.aload_n 0, 1) := by decide +kernel
theorem dd_M_rule_1 : decode prog_7_method_16_code 1 = .ok (.iload_n 1, 1) := by decide +kernel
theorem dd_M_rule_2 : decode prog_7_method_16_code 2 = .ok (.iconst 1, 1) := by decide +kernel
theorem dd_M_rule_3 : decode prog_7_method_16_code 3 = .ok (.bipush 10, 2) := by decide +kernel
theorem dd_M_rule_5 : decode prog_7_method_16_code 5 = .ok (.invokestatic 56, 3) := by decide +kernel
theorem dd_M_rule_8 : decode prog_7_method_16_code 8 = .ok (.ifCond .eq 14, 3) := by decide +kernel
theorem dd_M_rule_11 : decode prog_7_method_16_code 11 = .ok (.iload_n 2, 1) := by decide +kernel
theorem dd_M_rule_12 : decode prog_7_method_16_code 12 = .ok (.iconst 0, 1) := by decide +kernel
theorem dd_M_rule_13 : decode prog_7_method_16_code 13 = .ok (.sipush 255, 3) := by decide +kernel
theorem dd_M_rule_16 : decode prog_7_method_16_code 16 = .ok (.invokestatic 56, 3) := by decide +kernel
theorem dd_M_rule_19 : decode prog_7_method_16_code 19 = .ok (.ifCond .ne 7, 3) := by decide +kernel
theorem dd_M_rule_22 : decode prog_7_method_16_code 22 = .ok (.iconst 1, 1) := by decide +kernel
theorem dd_M_rule_23 : decode prog_7_method_16_code 23 = .ok (.goto 4, 3) := by decide +kernel
theorem dd_M_rule_26 : decode prog_7_method_16_code 26 = .ok (.iconst 0, 1) := by decide +kernel
theorem dd_M_rule_27 : decode prog_7_method_16_code 27 = .ok (.putfield 53, 3) := by decide +kernel
theorem dd_M_rule_30 : decode prog_7_method_16_code 30 = .ok (.aload_n 0, 1) := by decide +kernel
theorem dd_M_rule_31 : decode prog_7_method_16_code 31 = .ok (.getfield 53, 3) := by decide +kernel
theorem dd_M_rule_34 : decode prog_7_method_16_code 34 = .ok (.ifCond .ne 13, 3) := by decide +kernel
theorem dd_M_rule_37 : decode prog_7_method_16_code 37 = .ok (.aload_n 0, 1) := by decide +kernel
theorem dd_M_rule_38 : decode prog_7_method_16_code 38 = .ok (.iload_n 1, 1) := by decide +kernel
theorem dd_M_rule_39 : decode prog_7_method_16_code 39 = .ok (.putfield 19, 3) := by decide +kernel
theorem dd_M_rule_42 : decode prog_7_method_16_code 42 = .ok (.aload_n 0, 1) := by decide +kernel
theorem dd_M_rule_43 : decode prog_7_method_16_code 43 = .ok (.iload_n 2, 1) := by decide +kernel
theorem dd_M_rule_44 : decode prog_7_method_16_code 44 = .ok (.putfield 23, 3) := by decide +kernel
theorem dd_M_rule_47 : decode prog_7_method_16_code 47 = .ok (.return_, 1) := by decide +kernel
theorem dd_M_rings_0 : decode prog_7_method_17_code 0 = .ok (.aload_n 0, 1) := by decide +kernel
theorem dd_M_rings_1 : decode prog_7_method_17_code 1 = .ok (.iload_n 1, 1) := by decide +kernel
theorem dd_M_rings_2 : decode prog_7_method_17_code 2 = .ok (.invokevirtual 95, 3) := by decide +kernel
theorem dd_M_rings_5 : decode prog_7_method_17_code 5 = .ok (.istore_n 2, 1) := by decide +kernel
theorem dd_M_rings_6 : decode prog_7_method_17_code 6 = .ok (.aload_n 0, 1) := by decide +kernel
theorem dd_M_rings_7 : decode prog_7_method_17_code 7 = .ok (.getfield 53, 3) := by decide +kernel
theorem dd_M_rings_10 : decode prog_7_method_17_code 10 = .ok (.ifCond .le 7, 3) := by decide +kernel
theorem dd_M_rings_13 : decode prog_7_method_17_code 13 = .ok (.iconst 0, 1) := by decide +kernel
theorem dd_M_rings_14 : decode prog_7_method_17_code 14 = .ok (.goto 7, 3) := by decide +kernel
theorem dd_M_rings_17 : decode prog_7_method_17_code 17 = .ok (.aload_n 0, 1) := by decide +kernel
theorem dd_M_rings_18 : decode prog_7_method_17_code 18 = .ok (.getfield 84, 3) := by decide +kernel
theorem dd_M_rings_21 : decode prog_7_method_17_code 21 = .ok (.ireturn, 1) := by decide +kernel
theorem dd_M_widthOf_0 : decode prog_7_method_18_code 0 = .ok (.iload_n 1, 1) := by decide +kernel
theorem dd_M_widthOf_1 : decode prog_7_method_18_code 1 = .ok (.ifCond .ne 12, 3) := by decide +kernel
theorem dd_M_widthOf_4 : decode prog_7_method_18_code 4 = .ok (.aload_n 0, 1) := by decide +kernel
theorem dd_M_widthOf_5 : decode prog_7_method_18_code 5 = .ok (.getfield 32, 3) := by decide +kernel
theorem dd_M_widthOf_8 : decode prog_7_method_18_code 8 = .ok (.iconst 0, 1) := by decide +kernel
theorem dd_M_widthOf_9 : decode prog_7_method_18_code 9 = .ok (.iaload, 1) := by decide +kernel
theorem dd_M_widthOf_10 : decode prog_7_method_18_code 10 = .ok (.goto 18, 3) := by decide +kernel
theorem dd_M_widthOf_13 : decode prog_7_method_18_code 13 = .ok (.aload_n 0, 1) := by decide +kernel
theorem dd_M_widthOf_14 : decode prog_7_method_18_code 14 = .ok (.getfield 32, 3) := by decide +kernel
theorem dd_M_widthOf_17 : decode prog_7_method_18_code 17 = .ok (.iload_n 1, 1) := by decide +kernel
theorem dd_M_widthOf_18 : decode prog_7_method_18_code 18 = .ok (.iaload, 1) := by decide +kernel
theorem dd_M_widthOf_19 : decode prog_7_method_18_code 19 = .ok (.aload_n 0, 1) := by decide +kernel
theorem dd_M_widthOf_20 : decode prog_7_method_18_code 20 = .ok (.getfield 32, 3) := by decide +kernel
theorem dd_M_widthOf_23 : decode prog_7_method_18_code 23 = .ok (.iload_n 1, 1) := by decide +kernel
theorem dd_M_widthOf_24 : decode prog_7_method_18_code 24 = .ok (.iconst 1, 1) := by decide +kernel
theorem dd_M_widthOf_25 : decode prog_7_method_18_code 25 = .ok (.isub, 1) := by decide +kernel
theorem dd_M_widthOf_26 : decode prog_7_method_18_code 26 = .ok (.iaload, 1) := by decide +kernel
theorem dd_M_widthOf_27 : decode prog_7_method_18_code 27 = .ok (.isub, 1) := by decide +kernel
theorem dd_M_widthOf_28 : decode prog_7_method_18_code 28 = .ok (.ireturn, 1) := by decide +kernel
theorem dd_M_ring_0 : decode prog_7_method_19_code 0 = .ok (.aload_n 0, 1) := by decide +kernel
theorem dd_M_ring_1 : decode prog_7_method_19_code 1 = .ok (.iload_n 1, 1) := by decide +kernel
theorem dd_M_ring_2 : decode prog_7_method_19_code 2 = .ok (.invokevirtual 98, 3) := by decide +kernel
theorem dd_M_ring_5 : decode prog_7_method_19_code 5 = .ok (.istore 4, 2) := by decide +kernel
theorem dd_M_ring_7 : decode prog_7_method_19_code 7 = .ok (.aload_n 0, 1) := by decide +kernel
theorem dd_M_ring_8 : decode prog_7_method_19_code 8 = .ok (.aload_n 0, 1) := by decide +kernel
theorem dd_M_ring_9 : decode prog_7_method_19_code 9 = .ok (.getfield 53, 3) := by decide +kernel
theorem dd_M_ring_12 : decode prog_7_method_19_code 12 = .ok (.ifCond .gt 24, 3) := by decide +kernel
theorem dd_M_ring_15 : decode prog_7_method_19_code 15 = .ok (.iload_n 2, 1) := by decide +kernel
theorem dd_M_ring_16 : decode prog_7_method_19_code 16 = .ok (.iconst 0, 1) := by decide +kernel
theorem dd_M_ring_17 : decode prog_7_method_19_code 17 = .ok (.iload 4, 2) := by decide +kernel
theorem dd_M_ring_19 : decode prog_7_method_19_code 19 = .ok (.iconst 1, 1) := by decide +kernel
theorem dd_M_ring_20 : decode prog_7_method_19_code 20 = .ok (.isub, 1) := by decide +kernel
theorem dd_M_ring_21 : decode prog_7_method_19_code 21 = .ok (.invokestatic 56, 3) := by decide +kernel
theorem dd_M_ring_24 : decode prog_7_method_19_code 24 = .ok (.ifCond .eq 12, 3) := by decide +kernel
theorem dd_M_ring_27 : decode prog_7_method_19_code 27 = .ok (.iload_n 3, 1) := by decide +kernel
theorem dd_M_ring_28 : decode prog_7_method_19_code 28 = .ok (.iconst 0, 1) := by decide +kernel
theorem dd_M_ring_29 : decode prog_7_method_19_code 29 = .ok (.iconst 3, 1) := by decide +kernel
theorem dd_M_ring_30 : decode prog_7_method_19_code 30 = .ok (.invokestatic 56, 3) := by decide +kernel
theorem dd_M_ring_33 : decode prog_7_method_19_code 33 = .ok (.ifCond .ne 7, 3) := by decide +kernel
theorem dd_M_ring_36 : decode prog_7_method_19_code 36 = .ok (.iconst 1, 1) := by decide +kernel
theorem dd_M_ring_37 : decode prog_7_method_19_code 37 = .ok (.goto 4, 3) := by decide +kernel
theorem dd_M_ring_40 : decode prog_7_method_19_code 40 = .ok (.iconst 0, 1) := by decide +kernel
theorem dd_M_ring_41 : decode prog_7_method_19_code 41 = .ok (.putfield 53, 3) := by decide +kernel
theorem dd_M_ring_44 : decode prog_7_method_19_code 44 = .ok (.aload_n 0, 1) := by decide +kernel
theorem dd_M_ring_45 : decode prog_7_method_19_code 45 = .ok (.getfield 53, 3) := by decide +kernel
theorem dd_M_ring_48 : decode prog_7_method_19_code 48 = .ok (.ifCond .le 5, 3) := by decide +kernel
theorem dd_M_ring_51 : decode prog_7_method_19_code 51 = .ok (.iconst 0, 1) := by decide +kernel
theorem dd_M_ring_52 : decode prog_7_method_19_code 52 = .ok (.ireturn, 1) := by decide +kernel
theorem dd_M_ring_53 : decode prog_7_method_19_code 53 = .ok (.iload_n 3, 1) := by decide +kernel
theorem dd_M_ring_54 : decode prog_7_method_19_code 54 = .ok (.tableswitch 51 0 2 #[26, 33, 45], 26) := by decide +kernel
theorem dd_M_ring_80 : decode prog_7_method_19_code 80 = .ok (.aload_n 0, 1) := by decide +kernel
theorem dd_M_ring_81 : decode prog_7_method_19_code 81 = .ok (.getfield 32, 3) := by decide +kernel
theorem dd_M_ring_84 : decode prog_7_method_19_code 84 = .ok (.iload_n 2, 1) := by decide +kernel
theorem dd_M_ring_85 : decode prog_7_method_19_code 85 = .ok (.iaload, 1) := by decide +kernel
theorem dd_M_ring_86 : decode prog_7_method_19_code 86 = .ok (.ireturn, 1) := by decide +kernel
theorem dd_M_ring_87 : decode prog_7_method_19_code 87 = .ok (.aload_n 0, 1) := by decide +kernel
theorem dd_M_ring_88 : decode prog_7_method_19_code 88 = .ok (.getfield 29, 3) := by decide +kernel
theorem dd_M_ring_91 : decode prog_7_method_19_code 91 = .ok (.aload_n 0, 1) := by decide +kernel
theorem dd_M_ring_92 : decode prog_7_method_19_code 92 = .ok (.getfield 32, 3) := by decide +kernel
theorem dd_M_ring_95 : decode prog_7_method_19_code 95 = .ok (.iload_n 2, 1) := by decide +kernel
theorem dd_M_ring_96 : decode prog_7_method_19_code 96 = .ok (.iaload, 1) := by decide +kernel
theorem dd_M_ring_97 : decode prog_7_method_19_code 97 = .ok (.iaload, 1) := by decide +kernel
theorem dd_M_ring_98 : decode prog_7_method_19_code 98 = .ok (.ireturn, 1) := by decide +kernel
theorem dd_M_ring_99 : decode prog_7_method_19_code 99 = .ok (.aload_n 0, 1) := by decide +kernel
theorem dd_M_ring_100 : decode prog_7_method_19_code 100 = .ok (.iload_n 2, 1) := by decide +kernel
theorem dd_M_ring_101 : decode prog_7_method_19_code 101 = .ok (.invokevirtual 100, 3) := by decide +kernel
theorem dd_M_ring_104 : decode prog_7_method_19_code 104 = .ok (.ireturn, 1) := by decide +kernel
theorem dd_M_ring_105 : decode prog_7_method_19_code 105 = .ok (.iload_n 2, 1) := by decide +kernel
theorem dd_M_ring_106 : decode prog_7_method_19_code 106 = .ok (.ifCond .le 15, 3) := by decide +kernel
theorem dd_M_ring_109 : decode prog_7_method_19_code 109 = .ok (.iload_n 2, 1) := by decide +kernel
theorem dd_M_ring_110 : decode prog_7_method_19_code 110 = .ok (.iload 4, 2) := by decide +kernel
theorem dd_M_ring_112 : decode prog_7_method_19_code 112 = .ok (.iconst 1, 1) := by decide +kernel
theorem dd_M_ring_113 : decode prog_7_method_19_code 113 = .ok (.isub, 1) := by decide +kernel
theorem dd_M_ring_114 : decode prog_7_method_19_code 114 = .ok (.if_icmp .ge 7, 3) := by decide +kernel
theorem dd_M_ring_117 : decode prog_7_method_19_code 117 = .ok (.iconst 1, 1) := by decide +kernel
theorem dd_M_ring_118 : decode prog_7_method_19_code 118 = .ok (.goto 4, 3) := by decide +kernel
theorem dd_M_ring_121 : decode prog_7_method_19_code 121 = .ok (.iconst 0, 1) := by decide +kernel
theorem dd_M_ring_122 : decode prog_7_method_19_code 122 = .ok (.istore 5, 2) := by decide +kernel
theorem dd_M_ring_124 : decode prog_7_method_19_code 124 = .ok (.iload 5, 2) := by decide +kernel
theorem dd_M_ring_126 : decode prog_7_method_19_code 126 = .ok (.ifCond .eq 41, 3) := by decide +kernel
theorem dd_M_ring_129 : decode prog_7_method_19_code 129 = .ok (.iconst 2, 1) := by decide +kernel
theorem dd_M_ring_130 : decode prog_7_method_19_code 130 = .ok (.aload_n 0, 1) := by decide +kernel
theorem dd_M_ring_131 : decode prog_7_method_19_code 131 = .ok (.iload_n 2, 1) := by decide +kernel
theorem dd_M_ring_132 : decode prog_7_method_19_code 132 = .ok (.invokevirtual 100, 3) := by decide +kernel
theorem dd_M_ring_135 : decode prog_7_method_19_code 135 = .ok (.imul, 1) := by decide +kernel
theorem dd_M_ring_136 : decode prog_7_method_19_code 136 = .ok (.aload_n 0, 1) := by decide +kernel
theorem dd_M_ring_137 : decode prog_7_method_19_code 137 = .ok (.iload_n 2, 1) := by decide +kernel
theorem dd_M_ring_138 : decode prog_7_method_19_code 138 = .ok (.iconst 1, 1) := by decide +kernel
theorem dd_M_ring_139 : decode prog_7_method_19_code 139 = .ok (.isub, 1) := by decide +kernel
theorem dd_M_ring_140 : decode prog_7_method_19_code 140 = .ok (.invokevirtual 100, 3) := by decide +kernel
theorem dd_M_ring_143 : decode prog_7_method_19_code 143 = .ok (.if_icmp .ge 24, 3) := by decide +kernel
theorem dd_M_ring_146 : decode prog_7_method_19_code 146 = .ok (.iconst 2, 1) := by decide +kernel
theorem dd_M_ring_147 : decode prog_7_method_19_code 147 = .ok (.aload_n 0, 1) := by decide +kernel
theorem dd_M_ring_148 : decode prog_7_method_19_code 148 = .ok (.iload_n 2, 1) := by decide +kernel
theorem dd_M_ring_149 : decode prog_7_method_19_code 149 = .ok (.invokevirtual 100, 3) := by decide +kernel
theorem dd_M_ring_152 : decode prog_7_method_19_code 152 = .ok (.imul, 1) := by decide +kernel
theorem dd_M_ring_153 : decode prog_7_method_19_code 153 = .ok (.aload_n 0, 1) := by decide +kernel
theorem dd_M_ring_154 : decode prog_7_method_19_code 154 = .ok (.iload_n 2, 1) := by decide +kernel
theorem dd_M_ring_155 : decode prog_7_method_19_code 155 = .ok (.iconst 1, 1) := by decide +kernel
theorem dd_M_ring_156 : decode prog_7_method_19_code 156 = .ok (.iadd, 1) := by decide +kernel
theorem dd_M_ring_157 : decode prog_7_method_19_code 157 = .ok (.invokevirtual 100, 3) := by decide +kernel
theorem dd_M_ring_160 : decode prog_7_method_19_code 160 = .ok (.if_icmp .ge 7, 3) := by decide +kernel
theorem dd_M_ring_163 : decode prog_7_method_19_code 163 = .ok (.iconst 1, 1) := by decide +kernel
theorem dd_M_ring_164 : decode prog_7_method_19_code 164 = .ok (.goto 4, 3) := by decide +kernel
theorem dd_M_ring_167 : decode prog_7_method_19_code 167 = .ok (.iconst 0, 1) := by decide +kernel
theorem dd_M_ring_168 : decode prog_7_method_19_code 168 = .ok (.ireturn, 1) := by decide +kernel
theorem dd_M_together_0 : decode prog_7_method_20_code 0 = .ok (.aload_n 0, 1) := by decide +kernel
theorem dd_M_together_1 : decode prog_7_method_20_code 1 = .ok (.getfield 32, 3) := by decide +kernel
theorem dd_M_together_4 : decode prog_7_method_20_code 4 = .ok (.iload_n 1, 1) := by decide +kernel
theorem dd_M_together_5 : decode prog_7_method_20_code 5 = .ok (.iaload, 1) := by decide +kernel
theorem dd_M_together_6 : decode prog_7_method_20_code 6 = .ok (.aload_n 0, 1) := by decide +kernel
theorem dd_M_together_7 : decode prog_7_method_20_code 7 = .ok (.getfield 35, 3) := by decide +kernel
theorem dd_M_together_10 : decode prog_7_method_20_code 10 = .ok (.iload_n 2, 1) := by decide +kernel
theorem dd_M_together_11 : decode prog_7_method_20_code 11 = .ok (.iaload, 1) := by decide +kernel
theorem dd_M_together_12 : decode prog_7_method_20_code 12 = .ok (.isub, 1) := by decide +kernel
theorem dd_M_together_13 : decode prog_7_method_20_code 13 = .ok (.invokestatic 74, 3) := by decide +kernel
theorem dd_M_together_16 : decode prog_7_method_20_code 16 = .ok (.aload_n 0, 1) := by decide +kernel
theorem dd_M_together_17 : decode prog_7_method_20_code 17 = .ok (.getfield 38, 3) := by decide +kernel
theorem dd_M_together_20 : decode prog_7_method_20_code 20 = .ok (.bipush 17, 2) := by decide +kernel
theorem dd_M_together_22 : decode prog_7_method_20_code 22 = .ok (.iload_n 1, 1) := by decide +kernel
theorem dd_M_together_23 : decode prog_7_method_20_code 23 = .ok (.iconst 1, 1) := by decide +kernel
theorem dd_M_together_24 : decode prog_7_method_20_code 24 = .ok (.iadd, 1) := by decide +kernel
theorem dd_M_together_25 : decode prog_7_method_20_code 25 = .ok (.imul, 1) := by decide +kernel
theorem dd_M_together_26 : decode prog_7_method_20_code 26 = .ok (.iload_n 2, 1) := by decide +kernel
theorem dd_M_together_27 : decode prog_7_method_20_code 27 = .ok (.iadd, 1) := by decide +kernel
theorem dd_M_together_28 : decode prog_7_method_20_code 28 = .ok (.iconst 1, 1) := by decide +kernel
theorem dd_M_together_29 : decode prog_7_method_20_code 29 = .ok (.iadd, 1) := by decide +kernel
theorem dd_M_together_30 : decode prog_7_method_20_code 30 = .ok (.iaload, 1) := by decide +kernel
theorem dd_M_together_31 : decode prog_7_method_20_code 31 = .ok (.iadd, 1) := by decide +kernel
theorem dd_M_together_32 : decode prog_7_method_20_code 32 = .ok (.ireturn, 1) := by decide +kernel
theorem dd_M_join_0 : decode prog_7_method_21_code 0 = .ok (.aload_n 0, 1) := by decide +kernel
theorem dd_M_join_1 : decode prog_7_method_21_code 1 = .ok (.aload_n 0, 1) := by decide +kernel
theorem dd_M_join_2 : decode prog_7_method_21_code 2 = .ok (.iload_n 1, 1) := by decide +kernel
theorem dd_M_join_3 : decode prog_7_method_21_code 3 = .ok (.invokevirtual 87, 3) := by decide +kernel
theorem dd_M_join_6 : decode prog_7_method_21_code 6 = .ok (.ifCond .ne 11, 3) := by decide +kernel
theorem dd_M_join_9 : decode prog_7_method_21_code 9 = .ok (.aload_n 0, 1) := by decide +kernel
theorem dd_M_join_10 : decode prog_7_method_21_code 10 = .ok (.iload_n 2, 1) := by decide +kernel
theorem dd_M_join_11 : decode prog_7_method_21_code 11 = .ok (.invokevirtual 87, 3) := by decide +kernel
theorem dd_M_join_14 : decode prog_7_method_21_code 14 = .ok (.ifCond .eq 7, 3) := by decide +kernel
theorem dd_M_join_17 : decode prog_7_method_21_code 17 = .ok (.iconst 1, 1) := by decide +kernel
theorem dd_M_join_18 : decode prog_7_method_21_code 18 = .ok (.goto 18, 3) := by decide +kernel
theorem dd_M_join_21 : decode prog_7_method_21_code 21 = .ok (.iload_n 3, 1) := by decide +kernel
theorem dd_M_join_22 : decode prog_7_method_21_code 22 = .ok (.iconst 0, 1) := by decide +kernel
theorem dd_M_join_23 : decode prog_7_method_21_code 23 = .ok (.bipush 50, 2) := by decide +kernel
theorem dd_M_join_25 : decode prog_7_method_21_code 25 = .ok (.invokestatic 56, 3) := by decide +kernel
theorem dd_M_join_28 : decode prog_7_method_21_code 28 = .ok (.ifCond .ne 7, 3) := by decide +kernel
theorem dd_M_join_31 : decode prog_7_method_21_code 31 = .ok (.iconst 2, 1) := by decide +kernel
theorem dd_M_join_32 : decode prog_7_method_21_code 32 = .ok (.goto 4, 3) := by decide +kernel
theorem dd_M_join_35 : decode prog_7_method_21_code 35 = .ok (.iconst 0, 1) := by decide +kernel
theorem dd_M_join_36 : decode prog_7_method_21_code 36 = .ok (.putfield 53, 3) := by decide +kernel
theorem dd_M_join_39 : decode prog_7_method_21_code 39 = .ok (.aload_n 0, 1) := by decide +kernel
theorem dd_M_join_40 : decode prog_7_method_21_code 40 = .ok (.getfield 53, 3) := by decide +kernel
theorem dd_M_join_43 : decode prog_7_method_21_code 43 = .ok (.ifCond .le 5, 3) := by decide +kernel
theorem dd_M_join_46 : decode prog_7_method_21_code 46 = .ok (.iconst 0, 1) := by decide +kernel
theorem dd_M_join_47 : decode prog_7_method_21_code 47 = .ok (.ireturn, 1) := by decide +kernel
theorem dd_M_join_48 : decode prog_7_method_21_code 48 = .ok (.aload_n 0, 1) := by decide +kernel
theorem dd_M_join_49 : decode prog_7_method_21_code 49 = .ok (.iload_n 2, 1) := by decide +kernel
theorem dd_M_join_50 : decode prog_7_method_21_code 50 = .ok (.invokevirtual 91, 3) := by decide +kernel
theorem dd_M_join_53 : decode prog_7_method_21_code 53 = .ok (.aload_n 0, 1) := by decide +kernel
theorem dd_M_join_54 : decode prog_7_method_21_code 54 = .ok (.aload_n 0, 1) := by decide +kernel
theorem dd_M_join_55 : decode prog_7_method_21_code 55 = .ok (.getfield 84, 3) := by decide +kernel
theorem dd_M_join_58 : decode prog_7_method_21_code 58 = .ok (.putfield 103, 3) := by decide +kernel
theorem dd_M_join_61 : decode prog_7_method_21_code 61 = .ok (.iconst 0, 1) := by decide +kernel
theorem dd_M_join_62 : decode prog_7_method_21_code 62 = .ok (.istore 4, 2) := by decide +kernel
theorem dd_M_join_64 : decode prog_7_method_21_code 64 = .ok (.iload 4, 2) := by decide +kernel
theorem dd_M_join_66 : decode prog_7_method_21_code 66 = .ok (.aload_n 0, 1) := by decide +kernel
theorem dd_M_join_67 : decode prog_7_method_21_code 67 = .ok (.getfield 103, 3) := by decide +kernel
theorem dd_M_join_70 : decode prog_7_method_21_code 70 = .ok (.if_icmp .ge 23, 3) := by decide +kernel
theorem dd_M_join_73 : decode prog_7_method_21_code 73 = .ok (.aload_n 0, 1) := by decide +kernel
theorem dd_M_join_74 : decode prog_7_method_21_code 74 = .ok (.getfield 35, 3) := by decide +kernel
theorem dd_M_join_77 : decode prog_7_method_21_code 77 = .ok (.iload 4, 2) := by decide +kernel
theorem dd_M_join_79 : decode prog_7_method_21_code 79 = .ok (.aload_n 0, 1) := by decide +kernel
theorem dd_M_join_80 : decode prog_7_method_21_code 80 = .ok (.getfield 32, 3) := by decide +kernel
theorem dd_M_join_83 : decode prog_7_method_21_code 83 = .ok (.iload 4, 2) := by decide +kernel
theorem dd_M_join_85 : decode prog_7_method_21_code 85 = .ok (.iaload, 1) := by decide +kernel
theorem dd_M_join_86 : decode prog_7_method_21_code 86 = .ok (.iastore, 1) := by decide +kernel
theorem dd_M_join_87 : decode prog_7_method_21_code 87 = .ok (.iinc 4 1, 3) := by decide +kernel
theorem dd_M_join_90 : decode prog_7_method_21_code 90 = .ok (.goto (-26), 3) := by decide +kernel
theorem dd_M_join_93 : decode prog_7_method_21_code 93 = .ok (.aload_n 0, 1) := by decide +kernel
theorem dd_M_join_94 : decode prog_7_method_21_code 94 = .ok (.iload_n 1, 1) := by decide +kernel
theorem dd_M_join_95 : decode prog_7_method_21_code 95 = .ok (.invokevirtual 91, 3) := by decide +kernel
theorem dd_M_join_98 : decode prog_7_method_21_code 98 = .ok (.aload_n 0, 1) := by decide +kernel
theorem dd_M_join_99 : decode prog_7_method_21_code 99 = .ok (.getfield 84, 3) := by decide +kernel
theorem dd_M_join_102 : decode prog_7_method_21_code 102 = .ok (.istore 4, 2) := by decide +kernel
theorem dd_M_join_104 : decode prog_7_method_21_code 104 = .ok (.iload 4, 2) := by decide +kernel
theorem dd_M_join_106 : decode prog_7_method_21_code 106 = .ok (.ifCond .lt 223, 3) := by decide +kernel
theorem dd_M_join_109 : decode prog_7_method_21_code 109 = .ok (.aload_n 0, 1) := by decide +kernel
theorem dd_M_join_110 : decode prog_7_method_21_code 110 = .ok (.getfield 103, 3) := by decide +kernel
theorem dd_M_join_113 : decode prog_7_method_21_code 113 = .ok (.istore 5, 2) := by decide +kernel
theorem dd_M_join_115 : decode prog_7_method_21_code 115 = .ok (.iload 5, 2) := by decide +kernel
theorem dd_M_join_117 : decode prog_7_method_21_code 117 = .ok (.ifCond .lt 206, 3) := by decide +kernel
theorem dd_M_join_120 : decode prog_7_method_21_code 120 = .ok (.iload 4, 2) := by decide +kernel
theorem dd_M_join_122 : decode prog_7_method_21_code 122 = .ok (.aload_n 0, 1) := by decide +kernel
theorem dd_M_join_123 : decode prog_7_method_21_code 123 = .ok (.getfield 84, 3) := by decide +kernel
theorem dd_M_join_126 : decode prog_7_method_21_code 126 = .ok (.if_icmp .ne 16, 3) := by decide +kernel
theorem dd_M_join_129 : decode prog_7_method_21_code 129 = .ok (.iload 5, 2) := by decide +kernel
theorem dd_M_join_131 : decode prog_7_method_21_code 131 = .ok (.aload_n 0, 1) := by decide +kernel
theorem dd_M_join_132 : decode prog_7_method_21_code 132 = .ok (.getfield 103, 3) := by decide +kernel
theorem dd_M_join_135 : decode prog_7_method_21_code 135 = .ok (.if_icmp .ne 7, 3) := by decide +kernel
theorem dd_M_join_138 : decode prog_7_method_21_code 138 = .ok (.iconst 0, 1) := by decide +kernel
theorem dd_M_join_139 : decode prog_7_method_21_code 139 = .ok (.goto 5, 3) := by decide +kernel
theorem dd_M_join_142 : decode prog_7_method_21_code 142 = .ok (.ldc 106, 2) := by decide +kernel
theorem dd_M_join_144 : decode prog_7_method_21_code 144 = .ok (.istore 6, 2) := by decide +kernel
theorem dd_M_join_146 : decode prog_7_method_21_code 146 = .ok (.iload 4, 2) := by decide +kernel
theorem dd_M_join_148 : decode prog_7_method_21_code 148 = .ok (.aload_n 0, 1) := by decide +kernel
theorem dd_M_join_149 : decode prog_7_method_21_code 149 = .ok (.getfield 84, 3) := by decide +kernel
theorem dd_M_join_152 : decode prog_7_method_21_code 152 = .ok (.if_icmp .ge 36, 3) := by decide +kernel
theorem dd_M_join_155 : decode prog_7_method_21_code 155 = .ok (.iload 5, 2) := by decide +kernel
theorem dd_M_join_157 : decode prog_7_method_21_code 157 = .ok (.aload_n 0, 1) := by decide +kernel
theorem dd_M_join_158 : decode prog_7_method_21_code 158 = .ok (.getfield 103, 3) := by decide +kernel
theorem dd_M_join_161 : decode prog_7_method_21_code 161 = .ok (.if_icmp .ge 27, 3) := by decide +kernel
theorem dd_M_join_164 : decode prog_7_method_21_code 164 = .ok (.aload_n 0, 1) := by decide +kernel
theorem dd_M_join_165 : decode prog_7_method_21_code 165 = .ok (.iload 4, 2) := by decide +kernel
theorem dd_M_join_167 : decode prog_7_method_21_code 167 = .ok (.iload 5, 2) := by decide +kernel
theorem dd_M_join_169 : decode prog_7_method_21_code 169 = .ok (.invokevirtual 107, 3) := by decide +kernel
theorem dd_M_join_172 : decode prog_7_method_21_code 172 = .ok (.iload 6, 2) := by decide +kernel
theorem dd_M_join_174 : decode prog_7_method_21_code 174 = .ok (.if_icmp .ge 14, 3) := by decide +kernel
theorem dd_M_join_177 : decode prog_7_method_21_code 177 = .ok (.aload_n 0, 1) := by decide +kernel
theorem dd_M_join_178 : decode prog_7_method_21_code 178 = .ok (.iload 4, 2) := by decide +kernel
theorem dd_M_join_180 : decode prog_7_method_21_code 180 = .ok (.iload 5, 2) := by decide +kernel
theorem dd_M_join_182 : decode prog_7_method_21_code 182 = .ok (.invokevirtual 107, 3) := by decide +kernel
theorem dd_M_join_185 : decode prog_7_method_21_code 185 = .ok (.goto 5, 3) := by decide +kernel
theorem dd_M_join_188 : decode prog_7_method_21_code 188 = .ok (.iload 6, 2) := by decide +kernel
theorem dd_M_join_190 : decode prog_7_method_21_code 190 = .ok (.istore 6, 2) := by decide +kernel
theorem dd_M_join_192 : decode prog_7_method_21_code 192 = .ok (.iload 4, 2) := by decide +kernel
theorem dd_M_join_194 : decode prog_7_method_21_code 194 = .ok (.aload_n 0, 1) := by decide +kernel
theorem dd_M_join_195 : decode prog_7_method_21_code 195 = .ok (.getfield 84, 3) := by decide +kernel
theorem dd_M_join_198 : decode prog_7_method_21_code 198 = .ok (.if_icmp .ge 45, 3) := by decide +kernel
theorem dd_M_join_201 : decode prog_7_method_21_code 201 = .ok (.iload_n 3, 1) := by decide +kernel
theorem dd_M_join_202 : decode prog_7_method_21_code 202 = .ok (.aload_n 0, 1) := by decide +kernel
theorem dd_M_join_203 : decode prog_7_method_21_code 203 = .ok (.getfield 38, 3) := by decide +kernel
theorem dd_M_join_206 : decode prog_7_method_21_code 206 = .ok (.bipush 17, 2) := by decide +kernel
theorem dd_M_join_208 : decode prog_7_method_21_code 208 = .ok (.iload 4, 2) := by decide +kernel
theorem dd_M_join_210 : decode prog_7_method_21_code 210 = .ok (.iconst 1, 1) := by decide +kernel
theorem dd_M_join_211 : decode prog_7_method_21_code 211 = .ok (.iadd, 1) := by decide +kernel
theorem dd_M_join_212 : decode prog_7_method_21_code 212 = .ok (.imul, 1) := by decide +kernel
theorem dd_M_join_213 : decode prog_7_method_21_code 213 = .ok (.iload 5, 2) := by decide +kernel
theorem dd_M_join_215 : decode prog_7_method_21_code 215 = .ok (.iadd, 1) := by decide +kernel
theorem dd_M_join_216 : decode prog_7_method_21_code 216 = .ok (.iaload, 1) := by decide +kernel
theorem dd_M_join_217 : decode prog_7_method_21_code 217 = .ok (.iadd, 1) := by decide +kernel
theorem dd_M_join_218 : decode prog_7_method_21_code 218 = .ok (.iload 6, 2) := by decide +kernel
theorem dd_M_join_220 : decode prog_7_method_21_code 220 = .ok (.if_icmp .ge 23, 3) := by decide +kernel
theorem dd_M_join_223 : decode prog_7_method_21_code 223 = .ok (.iload_n 3, 1) := by decide +kernel
theorem dd_M_join_224 : decode prog_7_method_21_code 224 = .ok (.aload_n 0, 1) := by decide +kernel
theorem dd_M_join_225 : decode prog_7_method_21_code 225 = .ok (.getfield 38, 3) := by decide +kernel
theorem dd_M_join_228 : decode prog_7_method_21_code 228 = .ok (.bipush 17, 2) := by decide +kernel
theorem dd_M_join_230 : decode prog_7_method_21_code 230 = .ok (.iload 4, 2) := by decide +kernel
theorem dd_M_join_232 : decode prog_7_method_21_code 232 = .ok (.iconst 1, 1) := by decide +kernel
theorem dd_M_join_233 : decode prog_7_method_21_code 233 = .ok (.iadd, 1) := by decide +kernel
theorem dd_M_join_234 : decode prog_7_method_21_code 234 = .ok (.imul, 1) := by decide +kernel
theorem dd_M_join_235 : decode prog_7_method_21_code 235 = .ok (.iload 5, 2) := by decide +kernel
theorem dd_M_join_237 : decode prog_7_method_21_code 237 = .ok (.iadd, 1) := by decide +kernel
theorem dd_M_join_238 : decode prog_7_method_21_code 238 = .ok (.iaload, 1) := by decide +kernel
theorem dd_M_join_239 : decode prog_7_method_21_code 239 = .ok (.iadd, 1) := by decide +kernel
theorem dd_M_join_240 : decode prog_7_method_21_code 240 = .ok (.goto 5, 3) := by decide +kernel
theorem dd_M_join_243 : decode prog_7_method_21_code 243 = .ok (.iload 6, 2) := by decide +kernel
theorem dd_M_join_245 : decode prog_7_method_21_code 245 = .ok (.istore 6, 2) := by decide +kernel
theorem dd_M_join_247 : decode prog_7_method_21_code 247 = .ok (.iload 5, 2) := by decide +kernel
theorem dd_M_join_249 : decode prog_7_method_21_code 249 = .ok (.aload_n 0, 1) := by decide +kernel
theorem dd_M_join_250 : decode prog_7_method_21_code 250 = .ok (.getfield 103, 3) := by decide +kernel
theorem dd_M_join_253 : decode prog_7_method_21_code 253 = .ok (.if_icmp .ge 45, 3) := by decide +kernel
theorem dd_M_join_256 : decode prog_7_method_21_code 256 = .ok (.iload_n 3, 1) := by decide +kernel
theorem dd_M_join_257 : decode prog_7_method_21_code 257 = .ok (.aload_n 0, 1) := by decide +kernel
theorem dd_M_join_258 : decode prog_7_method_21_code 258 = .ok (.getfield 38, 3) := by decide +kernel
theorem dd_M_join_261 : decode prog_7_method_21_code 261 = .ok (.bipush 17, 2) := by decide +kernel
theorem dd_M_join_263 : decode prog_7_method_21_code 263 = .ok (.iload 4, 2) := by decide +kernel
theorem dd_M_join_265 : decode prog_7_method_21_code 265 = .ok (.imul, 1) := by decide +kernel
theorem dd_M_join_266 : decode prog_7_method_21_code 266 = .ok (.iload 5, 2) := by decide +kernel
theorem dd_M_join_268 : decode prog_7_method_21_code 268 = .ok (.iadd, 1) := by decide +kernel
theorem dd_M_join_269 : decode prog_7_method_21_code 269 = .ok (.iconst 1, 1) := by decide +kernel
theorem dd_M_join_270 : decode prog_7_method_21_code 270 = .ok (.iadd, 1) := by decide +kernel
theorem dd_M_join_271 : decode prog_7_method_21_code 271 = .ok (.iaload, 1) := by decide +kernel
theorem dd_M_join_272 : decode prog_7_method_21_code 272 = .ok (.iadd, 1) := by decide +kernel
theorem dd_M_join_273 : decode prog_7_method_21_code 273 = .ok (.iload 6, 2) := by decide +kernel
theorem dd_M_join_275 : decode prog_7_method_21_code 275 = .ok (.if_icmp .ge 23, 3) := by decide +kernel
theorem dd_M_join_278 : decode prog_7_method_21_code 278 = .ok (.iload_n 3, 1) := by decide +kernel
theorem dd_M_join_279 : decode prog_7_method_21_code 279 = .ok (.aload_n 0, 1) := by decide +kernel
theorem dd_M_join_280 : decode prog_7_method_21_code 280 = .ok (.getfield 38, 3) := by decide +kernel
theorem dd_M_join_283 : decode prog_7_method_21_code 283 = .ok (.bipush 17, 2) := by decide +kernel
theorem dd_M_join_285 : decode prog_7_method_21_code 285 = .ok (.iload 4, 2) := by decide +kernel
theorem dd_M_join_287 : decode prog_7_method_21_code 287 = .ok (.imul, 1) := by decide +kernel
theorem dd_M_join_288 : decode prog_7_method_21_code 288 = .ok (.iload 5, 2) := by decide +kernel
theorem dd_M_join_290 : decode prog_7_method_21_code 290 = .ok (.iadd, 1) := by decide +kernel
theorem dd_M_join_291 : decode prog_7_method_21_code 291 = .ok (.iconst 1, 1) := by decide +kernel
theorem dd_M_join_292 : decode prog_7_method_21_code 292 = .ok (.iadd, 1) := by decide +kernel
theorem dd_M_join_293 : decode prog_7_method_21_code 293 = .ok (.iaload, 1) := by decide +kernel
theorem dd_M_join_294 : decode prog_7_method_21_code 294 = .ok (.iadd, 1) := by decide +kernel
theorem dd_M_join_295 : decode prog_7_method_21_code 295 = .ok (.goto 5, 3) := by decide +kernel
theorem dd_M_join_298 : decode prog_7_method_21_code 298 = .ok (.iload 6, 2) := by decide +kernel
theorem dd_M_join_300 : decode prog_7_method_21_code 300 = .ok (.istore 6, 2) := by decide +kernel
theorem dd_M_join_302 : decode prog_7_method_21_code 302 = .ok (.aload_n 0, 1) := by decide +kernel
theorem dd_M_join_303 : decode prog_7_method_21_code 303 = .ok (.getfield 38, 3) := by decide +kernel
theorem dd_M_join_306 : decode prog_7_method_21_code 306 = .ok (.bipush 17, 2) := by decide +kernel
theorem dd_M_join_308 : decode prog_7_method_21_code 308 = .ok (.iload 4, 2) := by decide +kernel
theorem dd_M_join_310 : decode prog_7_method_21_code 310 = .ok (.imul, 1) := by decide +kernel
theorem dd_M_join_311 : decode prog_7_method_21_code 311 = .ok (.iload 5, 2) := by decide +kernel
theorem dd_M_join_313 : decode prog_7_method_21_code 313 = .ok (.iadd, 1) := by decide +kernel
theorem dd_M_join_314 : decode prog_7_method_21_code 314 = .ok (.iload 6, 2) := by decide +kernel
theorem dd_M_join_316 : decode prog_7_method_21_code 316 = .ok (.iastore, 1) := by decide +kernel
theorem dd_M_join_317 : decode prog_7_method_21_code 317 = .ok (.iinc 5 (-1), 3) := by decide +kernel
theorem dd_M_join_320 : decode prog_7_method_21_code 320 = .ok (.goto (-205), 3) := by decide +kernel
theorem dd_M_join_323 : decode prog_7_method_21_code 323 = .ok (.iinc 4 (-1), 3) := by decide +kernel
theorem dd_M_join_326 : decode prog_7_method_21_code 326 = .ok (.goto (-222), 3) := by decide +kernel
theorem dd_M_join_329 : decode prog_7_method_21_code 329 = .ok (.iconst 0, 1) := by decide +kernel
theorem dd_M_join_330 : decode prog_7_method_21_code 330 = .ok (.istore 4, 2) := by decide +kernel
theorem dd_M_join_332 : decode prog_7_method_21_code 332 = .ok (.iconst 0, 1) := by decide +kernel
theorem dd_M_join_333 : decode prog_7_method_21_code 333 = .ok (.istore 5, 2) := by decide +kernel
theorem dd_M_join_335 : decode prog_7_method_21_code 335 = .ok (.iload 4, 2) := by decide +kernel
theorem dd_M_join_337 : decode prog_7_method_21_code 337 = .ok (.aload_n 0, 1) := by decide +kernel
theorem dd_M_join_338 : decode prog_7_method_21_code 338 = .ok (.getfield 84, 3) := by decide +kernel
theorem dd_M_join_341 : decode prog_7_method_21_code 341 = .ok (.if_icmp .lt 12, 3) := by decide +kernel
theorem dd_M_join_344 : decode prog_7_method_21_code 344 = .ok (.iload 5, 2) := by decide +kernel
theorem dd_M_join_346 : decode prog_7_method_21_code 346 = .ok (.aload_n 0, 1) := by decide +kernel
theorem dd_M_join_347 : decode prog_7_method_21_code 347 = .ok (.getfield 103, 3) := by decide +kernel
theorem dd_M_join_350 : decode prog_7_method_21_code 350 = .ok (.if_icmp .ge 118, 3) := by decide +kernel
theorem dd_M_join_353 : decode prog_7_method_21_code 353 = .ok (.aload_n 0, 1) := by decide +kernel
theorem dd_M_join_354 : decode prog_7_method_21_code 354 = .ok (.getfield 38, 3) := by decide +kernel
theorem dd_M_join_357 : decode prog_7_method_21_code 357 = .ok (.bipush 17, 2) := by decide +kernel
theorem dd_M_join_359 : decode prog_7_method_21_code 359 = .ok (.iload 4, 2) := by decide +kernel
theorem dd_M_join_361 : decode prog_7_method_21_code 361 = .ok (.imul, 1) := by decide +kernel
theorem dd_M_join_362 : decode prog_7_method_21_code 362 = .ok (.iload 5, 2) := by decide +kernel
theorem dd_M_join_364 : decode prog_7_method_21_code 364 = .ok (.iadd, 1) := by decide +kernel
theorem dd_M_join_365 : decode prog_7_method_21_code 365 = .ok (.iaload, 1) := by decide +kernel
theorem dd_M_join_366 : decode prog_7_method_21_code 366 = .ok (.istore 6, 2) := by decide +kernel
theorem dd_M_join_368 : decode prog_7_method_21_code 368 = .ok (.iload 4, 2) := by decide +kernel
theorem dd_M_join_370 : decode prog_7_method_21_code 370 = .ok (.aload_n 0, 1) := by decide +kernel
theorem dd_M_join_371 : decode prog_7_method_21_code 371 = .ok (.getfield 84, 3) := by decide +kernel
theorem dd_M_join_374 : decode prog_7_method_21_code 374 = .ok (.if_icmp .ge 43, 3) := by decide +kernel
theorem dd_M_join_377 : decode prog_7_method_21_code 377 = .ok (.iload 5, 2) := by decide +kernel
theorem dd_M_join_379 : decode prog_7_method_21_code 379 = .ok (.aload_n 0, 1) := by decide +kernel
theorem dd_M_join_380 : decode prog_7_method_21_code 380 = .ok (.getfield 103, 3) := by decide +kernel
theorem dd_M_join_383 : decode prog_7_method_21_code 383 = .ok (.if_icmp .ge 34, 3) := by decide +kernel
theorem dd_M_join_386 : decode prog_7_method_21_code 386 = .ok (.aload_n 0, 1) := by decide +kernel
theorem dd_M_join_387 : decode prog_7_method_21_code 387 = .ok (.iload 4, 2) := by decide +kernel
theorem dd_M_join_389 : decode prog_7_method_21_code 389 = .ok (.iload 5, 2) := by decide +kernel
theorem dd_M_join_391 : decode prog_7_method_21_code 391 = .ok (.invokevirtual 107, 3) := by decide +kernel
theorem dd_M_join_394 : decode prog_7_method_21_code 394 = .ok (.iload 6, 2) := by decide +kernel
theorem dd_M_join_396 : decode prog_7_method_21_code 396 = .ok (.if_icmp .ne 21, 3) := by decide +kernel
theorem dd_M_join_399 : decode prog_7_method_21_code 399 = .ok (.aload_n 0, 1) := by decide +kernel
theorem dd_M_join_400 : decode prog_7_method_21_code 400 = .ok (.getfield 41, 3) := by decide +kernel
theorem dd_M_join_403 : decode prog_7_method_21_code 403 = .ok (.iload 4, 2) := by decide +kernel
theorem dd_M_join_405 : decode prog_7_method_21_code 405 = .ok (.iload 5, 2) := by decide +kernel
theorem dd_M_join_407 : decode prog_7_method_21_code 407 = .ok (.iastore, 1) := by decide +kernel
theorem dd_M_join_408 : decode prog_7_method_21_code 408 = .ok (.iinc 4 1, 3) := by decide +kernel
theorem dd_M_join_411 : decode prog_7_method_21_code 411 = .ok (.iinc 5 1, 3) := by decide +kernel
theorem dd_M_join_414 : decode prog_7_method_21_code 414 = .ok (.goto 51, 3) := by decide +kernel
theorem dd_M_join_417 : decode prog_7_method_21_code 417 = .ok (.iload 4, 2) := by decide +kernel
theorem dd_M_join_419 : decode prog_7_method_21_code 419 = .ok (.aload_n 0, 1) := by decide +kernel
theorem dd_M_join_420 : decode prog_7_method_21_code 420 = .ok (.getfield 84, 3) := by decide +kernel
theorem dd_M_join_423 : decode prog_7_method_21_code 423 = .ok (.if_icmp .ge 39, 3) := by decide +kernel
theorem dd_M_join_426 : decode prog_7_method_21_code 426 = .ok (.iload_n 3, 1) := by decide +kernel
theorem dd_M_join_427 : decode prog_7_method_21_code 427 = .ok (.aload_n 0, 1) := by decide +kernel
theorem dd_M_join_428 : decode prog_7_method_21_code 428 = .ok (.getfield 38, 3) := by decide +kernel
theorem dd_M_join_431 : decode prog_7_method_21_code 431 = .ok (.bipush 17, 2) := by decide +kernel
theorem dd_M_join_433 : decode prog_7_method_21_code 433 = .ok (.iload 4, 2) := by decide +kernel
theorem dd_M_join_435 : decode prog_7_method_21_code 435 = .ok (.iconst 1, 1) := by decide +kernel
theorem dd_M_join_436 : decode prog_7_method_21_code 436 = .ok (.iadd, 1) := by decide +kernel
theorem dd_M_join_437 : decode prog_7_method_21_code 437 = .ok (.imul, 1) := by decide +kernel
theorem dd_M_join_438 : decode prog_7_method_21_code 438 = .ok (.iload 5, 2) := by decide +kernel
theorem dd_M_join_440 : decode prog_7_method_21_code 440 = .ok (.iadd, 1) := by decide +kernel
theorem dd_M_join_441 : decode prog_7_method_21_code 441 = .ok (.iaload, 1) := by decide +kernel
theorem dd_M_join_442 : decode prog_7_method_21_code 442 = .ok (.iadd, 1) := by decide +kernel
theorem dd_M_join_443 : decode prog_7_method_21_code 443 = .ok (.iload 6, 2) := by decide +kernel
theorem dd_M_join_445 : decode prog_7_method_21_code 445 = .ok (.if_icmp .ne 17, 3) := by decide +kernel
theorem dd_M_join_448 : decode prog_7_method_21_code 448 = .ok (.aload_n 0, 1) := by decide +kernel
theorem dd_M_join_449 : decode prog_7_method_21_code 449 = .ok (.getfield 41, 3) := by decide +kernel
theorem dd_M_join_452 : decode prog_7_method_21_code 452 = .ok (.iload 4, 2) := by decide +kernel
theorem dd_M_join_454 : decode prog_7_method_21_code 454 = .ok (.iconst (-1), 1) := by decide +kernel
theorem dd_M_join_455 : decode prog_7_method_21_code 455 = .ok (.iastore, 1) := by decide +kernel
theorem dd_M_join_456 : decode prog_7_method_21_code 456 = .ok (.iinc 4 1, 3) := by decide +kernel
theorem dd_M_join_459 : decode prog_7_method_21_code 459 = .ok (.goto 6, 3) := by decide +kernel
theorem dd_M_join_462 : decode prog_7_method_21_code 462 = .ok (.iinc 5 1, 3) := by decide +kernel
theorem dd_M_join_465 : decode prog_7_method_21_code 465 = .ok (.goto (-130), 3) := by decide +kernel
theorem dd_M_join_468 : decode prog_7_method_21_code 468 = .ok (.aload_n 0, 1) := by decide +kernel
theorem dd_M_join_469 : decode prog_7_method_21_code 469 = .ok (.iconst 1, 1) := by decide +kernel
theorem dd_M_join_470 : decode prog_7_method_21_code 470 = .ok (.putfield 110, 3) := by decide +kernel
theorem dd_M_join_473 : decode prog_7_method_21_code 473 = .ok (.aload_n 0, 1) := by decide +kernel
theorem dd_M_join_474 : decode prog_7_method_21_code 474 = .ok (.aload_n 0, 1) := by decide +kernel
theorem dd_M_join_475 : decode prog_7_method_21_code 475 = .ok (.getfield 84, 3) := by decide +kernel
theorem dd_M_join_478 : decode prog_7_method_21_code 478 = .ok (.putfield 114, 3) := by decide +kernel
theorem dd_M_join_481 : decode prog_7_method_21_code 481 = .ok (.aload_n 0, 1) := by decide +kernel
theorem dd_M_join_482 : decode prog_7_method_21_code 482 = .ok (.getfield 38, 3) := by decide +kernel
theorem dd_M_join_485 : decode prog_7_method_21_code 485 = .ok (.iconst 0, 1) := by decide +kernel
theorem dd_M_join_486 : decode prog_7_method_21_code 486 = .ok (.iaload, 1) := by decide +kernel
theorem dd_M_join_487 : decode prog_7_method_21_code 487 = .ok (.ireturn, 1) := by decide +kernel
theorem dd_M_joined_0 : decode prog_7_method_22_code 0 = .ok (.aload_n 0, 1) := by decide +kernel
theorem dd_M_joined_1 : decode prog_7_method_22_code 1 = .ok (.aload_n 0, 1) := by decide +kernel
theorem dd_M_joined_2 : decode prog_7_method_22_code 2 = .ok (.getfield 110, 3) := by decide +kernel
theorem dd_M_joined_5 : decode prog_7_method_22_code 5 = .ok (.ifCond .ne 7, 3) := by decide +kernel
theorem dd_M_joined_8 : decode prog_7_method_22_code 8 = .ok (.iconst 1, 1) := by decide +kernel
theorem dd_M_joined_9 : decode prog_7_method_22_code 9 = .ok (.goto 22, 3) := by decide +kernel
theorem dd_M_joined_12 : decode prog_7_method_22_code 12 = .ok (.iload_n 1, 1) := by decide +kernel
theorem dd_M_joined_13 : decode prog_7_method_22_code 13 = .ok (.iconst 0, 1) := by decide +kernel
theorem dd_M_joined_14 : decode prog_7_method_22_code 14 = .ok (.aload_n 0, 1) := by decide +kernel
theorem dd_M_joined_15 : decode prog_7_method_22_code 15 = .ok (.getfield 114, 3) := by decide +kernel
theorem dd_M_joined_18 : decode prog_7_method_22_code 18 = .ok (.iconst 1, 1) := by decide +kernel
theorem dd_M_joined_19 : decode prog_7_method_22_code 19 = .ok (.isub, 1) := by decide +kernel
theorem dd_M_joined_20 : decode prog_7_method_22_code 20 = .ok (.invokestatic 56, 3) := by decide +kernel
theorem dd_M_joined_23 : decode prog_7_method_22_code 23 = .ok (.ifCond .ne 7, 3) := by decide +kernel
theorem dd_M_joined_26 : decode prog_7_method_22_code 26 = .ok (.iconst 2, 1) := by decide +kernel
theorem dd_M_joined_27 : decode prog_7_method_22_code 27 = .ok (.goto 4, 3) := by decide +kernel
theorem dd_M_joined_30 : decode prog_7_method_22_code 30 = .ok (.iconst 0, 1) := by decide +kernel
theorem dd_M_joined_31 : decode prog_7_method_22_code 31 = .ok (.putfield 53, 3) := by decide +kernel
theorem dd_M_joined_34 : decode prog_7_method_22_code 34 = .ok (.aload_n 0, 1) := by decide +kernel
theorem dd_M_joined_35 : decode prog_7_method_22_code 35 = .ok (.getfield 53, 3) := by decide +kernel
theorem dd_M_joined_38 : decode prog_7_method_22_code 38 = .ok (.ifCond .le 7, 3) := by decide +kernel
theorem dd_M_joined_41 : decode prog_7_method_22_code 41 = .ok (.iconst 0, 1) := by decide +kernel
theorem dd_M_joined_42 : decode prog_7_method_22_code 42 = .ok (.goto 9, 3) := by decide +kernel
theorem dd_M_joined_45 : decode prog_7_method_22_code 45 = .ok (.aload_n 0, 1) := by decide +kernel
theorem dd_M_joined_46 : decode prog_7_method_22_code 46 = .ok (.getfield 41, 3) := by decide +kernel
theorem dd_M_joined_49 : decode prog_7_method_22_code 49 = .ok (.iload_n 1, 1) := by decide +kernel
theorem dd_M_joined_50 : decode prog_7_method_22_code 50 = .ok (.iaload, 1) := by decide +kernel
theorem dd_M_joined_51 : decode prog_7_method_22_code 51 = .ok (.ireturn, 1) := by decide +kernel
theorem dd_M_back_0 : decode prog_7_method_23_code 0 = .ok (.aload_n 0, 1) := by decide +kernel
theorem dd_M_back_1 : decode prog_7_method_23_code 1 = .ok (.iload_n 1, 1) := by decide +kernel
theorem dd_M_back_2 : decode prog_7_method_23_code 2 = .ok (.invokevirtual 98, 3) := by decide +kernel
theorem dd_M_back_5 : decode prog_7_method_23_code 5 = .ok (.istore 4, 2) := by decide +kernel
theorem dd_M_back_7 : decode prog_7_method_23_code 7 = .ok (.aload_n 0, 1) := by decide +kernel
theorem dd_M_back_8 : decode prog_7_method_23_code 8 = .ok (.aload_n 0, 1) := by decide +kernel
theorem dd_M_back_9 : decode prog_7_method_23_code 9 = .ok (.getfield 53, 3) := by decide +kernel
theorem dd_M_back_12 : decode prog_7_method_23_code 12 = .ok (.ifCond .gt 15, 3) := by decide +kernel
theorem dd_M_back_15 : decode prog_7_method_23_code 15 = .ok (.iload_n 2, 1) := by decide +kernel
theorem dd_M_back_16 : decode prog_7_method_23_code 16 = .ok (.iconst 0, 1) := by decide +kernel
theorem dd_M_back_17 : decode prog_7_method_23_code 17 = .ok (.iload 4, 2) := by decide +kernel
theorem dd_M_back_19 : decode prog_7_method_23_code 19 = .ok (.iconst 1, 1) := by decide +kernel
theorem dd_M_back_20 : decode prog_7_method_23_code 20 = .ok (.isub, 1) := by decide +kernel
theorem dd_M_back_21 : decode prog_7_method_23_code 21 = .ok (.invokestatic 56, 3) := by decide +kernel
theorem dd_M_back_24 : decode prog_7_method_23_code 24 = .ok (.ifCond .ne 7, 3) := by decide +kernel
theorem dd_M_back_27 : decode prog_7_method_23_code 27 = .ok (.iconst 1, 1) := by decide +kernel
theorem dd_M_back_28 : decode prog_7_method_23_code 28 = .ok (.goto 18, 3) := by decide +kernel
theorem dd_M_back_31 : decode prog_7_method_23_code 31 = .ok (.iload_n 3, 1) := by decide +kernel
theorem dd_M_back_32 : decode prog_7_method_23_code 32 = .ok (.iconst 0, 1) := by decide +kernel
theorem dd_M_back_33 : decode prog_7_method_23_code 33 = .ok (.ldc 117, 2) := by decide +kernel
theorem dd_M_back_35 : decode prog_7_method_23_code 35 = .ok (.invokestatic 56, 3) := by decide +kernel
theorem dd_M_back_38 : decode prog_7_method_23_code 38 = .ok (.ifCond .ne 7, 3) := by decide +kernel
theorem dd_M_back_41 : decode prog_7_method_23_code 41 = .ok (.iconst 2, 1) := by decide +kernel
theorem dd_M_back_42 : decode prog_7_method_23_code 42 = .ok (.goto 4, 3) := by decide +kernel
theorem dd_M_back_45 : decode prog_7_method_23_code 45 = .ok (.iconst 0, 1) := by decide +kernel
theorem dd_M_back_46 : decode prog_7_method_23_code 46 = .ok (.putfield 53, 3) := by decide +kernel
theorem dd_M_back_49 : decode prog_7_method_23_code 49 = .ok (.aload_n 0, 1) := by decide +kernel
theorem dd_M_back_50 : decode prog_7_method_23_code 50 = .ok (.getfield 53, 3) := by decide +kernel
theorem dd_M_back_53 : decode prog_7_method_23_code 53 = .ok (.ifCond .le 7, 3) := by decide +kernel
theorem dd_M_back_56 : decode prog_7_method_23_code 56 = .ok (.iconst 0, 1) := by decide +kernel
theorem dd_M_back_57 : decode prog_7_method_23_code 57 = .ok (.goto 18, 3) := by decide +kernel
theorem dd_M_back_60 : decode prog_7_method_23_code 60 = .ok (.iload_n 3, 1) := by decide +kernel
theorem dd_M_back_61 : decode prog_7_method_23_code 61 = .ok (.aload_n 0, 1) := by decide +kernel
theorem dd_M_back_62 : decode prog_7_method_23_code 62 = .ok (.getfield 32, 3) := by decide +kernel
theorem dd_M_back_65 : decode prog_7_method_23_code 65 = .ok (.iload_n 2, 1) := by decide +kernel
theorem dd_M_back_66 : decode prog_7_method_23_code 66 = .ok (.iaload, 1) := by decide +kernel
theorem dd_M_back_67 : decode prog_7_method_23_code 67 = .ok (.imul, 1) := by decide +kernel
theorem dd_M_back_68 : decode prog_7_method_23_code 68 = .ok (.aload_n 0, 1) := by decide +kernel
theorem dd_M_back_69 : decode prog_7_method_23_code 69 = .ok (.getfield 77, 3) := by decide +kernel
theorem dd_M_back_72 : decode prog_7_method_23_code 72 = .ok (.iconst 1, 1) := by decide +kernel
theorem dd_M_back_73 : decode prog_7_method_23_code 73 = .ok (.isub, 1) := by decide +kernel
theorem dd_M_back_74 : decode prog_7_method_23_code 74 = .ok (.idiv, 1) := by decide +kernel
theorem dd_M_back_75 : decode prog_7_method_23_code 75 = .ok (.ireturn, 1) := by decide +kernel
theorem dd_M_noOne_0 : decode prog_7_method_24_code 0 = .ok (.iload_n 0, 1) := by decide +kernel
theorem dd_M_noOne_1 : decode prog_7_method_24_code 1 = .ok (.iconst 0, 1) := by decide +kernel
theorem dd_M_noOne_2 : decode prog_7_method_24_code 2 = .ok (.iconst 3, 1) := by decide +kernel
theorem dd_M_noOne_3 : decode prog_7_method_24_code 3 = .ok (.invokestatic 56, 3) := by decide +kernel
theorem dd_M_noOne_6 : decode prog_7_method_24_code 6 = .ok (.ifCond .eq 13, 3) := by decide +kernel
theorem dd_M_noOne_9 : decode prog_7_method_24_code 9 = .ok (.iload_n 1, 1) := by decide +kernel
theorem dd_M_noOne_10 : decode prog_7_method_24_code 10 = .ok (.iconst 0, 1) := by decide +kernel
theorem dd_M_noOne_11 : decode prog_7_method_24_code 11 = .ok (.bipush 19, 2) := by decide +kernel
theorem dd_M_noOne_13 : decode prog_7_method_24_code 13 = .ok (.invokestatic 56, 3) := by decide +kernel
theorem dd_M_noOne_16 : decode prog_7_method_24_code 16 = .ok (.ifCond .ne 7, 3) := by decide +kernel
theorem dd_M_noOne_19 : decode prog_7_method_24_code 19 = .ok (.iconst 1, 1) := by decide +kernel
theorem dd_M_noOne_20 : decode prog_7_method_24_code 20 = .ok (.goto 4, 3) := by decide +kernel
theorem dd_M_noOne_23 : decode prog_7_method_24_code 23 = .ok (.iconst 0, 1) := by decide +kernel
theorem dd_M_noOne_24 : decode prog_7_method_24_code 24 = .ok (.ireturn, 1) := by decide +kernel
theorem dd_M_tell_0 : decode prog_7_method_25_code 0 = .ok (.aload_n 0, 1) := by decide +kernel
theorem dd_M_tell_1 : decode prog_7_method_25_code 1 = .ok (.iload_n 1, 1) := by decide +kernel
theorem dd_M_tell_2 : decode prog_7_method_25_code 2 = .ok (.iload_n 2, 1) := by decide +kernel
theorem dd_M_tell_3 : decode prog_7_method_25_code 3 = .ok (.invokestatic 118, 3) := by decide +kernel
theorem dd_M_tell_6 : decode prog_7_method_25_code 6 = .ok (.ifCond .eq 7, 3) := by decide +kernel
theorem dd_M_tell_9 : decode prog_7_method_25_code 9 = .ok (.iconst 1, 1) := by decide +kernel
theorem dd_M_tell_10 : decode prog_7_method_25_code 10 = .ok (.goto 36, 3) := by decide +kernel
theorem dd_M_tell_13 : decode prog_7_method_25_code 13 = .ok (.iload_n 3, 1) := by decide +kernel
theorem dd_M_tell_14 : decode prog_7_method_25_code 14 = .ok (.iconst 0, 1) := by decide +kernel
theorem dd_M_tell_15 : decode prog_7_method_25_code 15 = .ok (.bipush 60, 2) := by decide +kernel
theorem dd_M_tell_17 : decode prog_7_method_25_code 17 = .ok (.invokestatic 56, 3) := by decide +kernel
theorem dd_M_tell_20 : decode prog_7_method_25_code 20 = .ok (.ifCond .ne 7, 3) := by decide +kernel
theorem dd_M_tell_23 : decode prog_7_method_25_code 23 = .ok (.iconst 2, 1) := by decide +kernel
theorem dd_M_tell_24 : decode prog_7_method_25_code 24 = .ok (.goto 22, 3) := by decide +kernel
theorem dd_M_tell_27 : decode prog_7_method_25_code 27 = .ok (.aload_n 0, 1) := by decide +kernel
theorem dd_M_tell_28 : decode prog_7_method_25_code 28 = .ok (.getfield 44, 3) := by decide +kernel
theorem dd_M_tell_31 : decode prog_7_method_25_code 31 = .ok (.bipush 20, 2) := by decide +kernel
theorem dd_M_tell_33 : decode prog_7_method_25_code 33 = .ok (.iload_n 1, 1) := by decide +kernel
theorem dd_M_tell_34 : decode prog_7_method_25_code 34 = .ok (.imul, 1) := by decide +kernel
theorem dd_M_tell_35 : decode prog_7_method_25_code 35 = .ok (.iload_n 2, 1) := by decide +kernel
theorem dd_M_tell_36 : decode prog_7_method_25_code 36 = .ok (.iadd, 1) := by decide +kernel
theorem dd_M_tell_37 : decode prog_7_method_25_code 37 = .ok (.iaload, 1) := by decide +kernel
theorem dd_M_tell_38 : decode prog_7_method_25_code 38 = .ok (.ifCond .le 7, 3) := by decide +kernel
theorem dd_M_tell_41 : decode prog_7_method_25_code 41 = .ok (.iconst 3, 1) := by decide +kernel
theorem dd_M_tell_42 : decode prog_7_method_25_code 42 = .ok (.goto 4, 3) := by decide +kernel
theorem dd_M_tell_45 : decode prog_7_method_25_code 45 = .ok (.iconst 0, 1) := by decide +kernel
theorem dd_M_tell_46 : decode prog_7_method_25_code 46 = .ok (.putfield 53, 3) := by decide +kernel
theorem dd_M_tell_49 : decode prog_7_method_25_code 49 = .ok (.aload_n 0, 1) := by decide +kernel
theorem dd_M_tell_50 : decode prog_7_method_25_code 50 = .ok (.getfield 53, 3) := by decide +kernel
theorem dd_M_tell_53 : decode prog_7_method_25_code 53 = .ok (.ifCond .ne 17, 3) := by decide +kernel
theorem dd_M_tell_56 : decode prog_7_method_25_code 56 = .ok (.aload_n 0, 1) := by decide +kernel
theorem dd_M_tell_57 : decode prog_7_method_25_code 57 = .ok (.getfield 44, 3) := by decide +kernel
theorem dd_M_tell_60 : decode prog_7_method_25_code 60 = .ok (.bipush 20, 2) := by decide +kernel
theorem dd_M_tell_62 : decode prog_7_method_25_code 62 = .ok (.iload_n 1, 1) := by decide +kernel
theorem dd_M_tell_63 : decode prog_7_method_25_code 63 = .ok (.imul, 1) := by decide +kernel
theorem dd_M_tell_64 : decode prog_7_method_25_code 64 = .ok (.iload_n 2, 1) := by decide +kernel
theorem dd_M_tell_65 : decode prog_7_method_25_code 65 = .ok (.iadd, 1) := by decide +kernel
theorem dd_M_tell_66 : decode prog_7_method_25_code 66 = .ok (.iload_n 3, 1) := by decide +kernel
theorem dd_M_tell_67 : decode prog_7_method_25_code 67 = .ok (.iconst 1, 1) := by decide +kernel
theorem dd_M_tell_68 : decode prog_7_method_25_code 68 = .ok (.iadd, 1) := by decide +kernel
theorem dd_M_tell_69 : decode prog_7_method_25_code 69 = .ok (.iastore, 1) := by decide +kernel
theorem dd_M_tell_70 : decode prog_7_method_25_code 70 = .ok (.return_, 1) := by decide +kernel
theorem dd_M_may_0 : decode prog_7_method_26_code 0 = .ok (.aload_n 0, 1) := by decide +kernel
theorem dd_M_may_1 : decode prog_7_method_26_code 1 = .ok (.iload_n 1, 1) := by decide +kernel
theorem dd_M_may_2 : decode prog_7_method_26_code 2 = .ok (.iload_n 2, 1) := by decide +kernel
theorem dd_M_may_3 : decode prog_7_method_26_code 3 = .ok (.invokestatic 118, 3) := by decide +kernel
theorem dd_M_may_6 : decode prog_7_method_26_code 6 = .ok (.ifCond .eq 7, 3) := by decide +kernel
theorem dd_M_may_9 : decode prog_7_method_26_code 9 = .ok (.iconst 1, 1) := by decide +kernel
theorem dd_M_may_10 : decode prog_7_method_26_code 10 = .ok (.goto 4, 3) := by decide +kernel
theorem dd_M_may_13 : decode prog_7_method_26_code 13 = .ok (.iconst 0, 1) := by decide +kernel
theorem dd_M_may_14 : decode prog_7_method_26_code 14 = .ok (.putfield 53, 3) := by decide +kernel
theorem dd_M_may_17 : decode prog_7_method_26_code 17 = .ok (.aload_n 0, 1) := by decide +kernel
theorem dd_M_may_18 : decode prog_7_method_26_code 18 = .ok (.getfield 53, 3) := by decide +kernel
theorem dd_M_may_21 : decode prog_7_method_26_code 21 = .ok (.ifCond .ne 21, 3) := by decide +kernel
theorem dd_M_may_24 : decode prog_7_method_26_code 24 = .ok (.aload_n 0, 1) := by decide +kernel
theorem dd_M_may_25 : decode prog_7_method_26_code 25 = .ok (.getfield 44, 3) := by decide +kernel
theorem dd_M_may_28 : decode prog_7_method_26_code 28 = .ok (.bipush 20, 2) := by decide +kernel
theorem dd_M_may_30 : decode prog_7_method_26_code 30 = .ok (.iload_n 1, 1) := by decide +kernel
theorem dd_M_may_31 : decode prog_7_method_26_code 31 = .ok (.imul, 1) := by decide +kernel
theorem dd_M_may_32 : decode prog_7_method_26_code 32 = .ok (.iload_n 2, 1) := by decide +kernel
theorem dd_M_may_33 : decode prog_7_method_26_code 33 = .ok (.iadd, 1) := by decide +kernel
theorem dd_M_may_34 : decode prog_7_method_26_code 34 = .ok (.iaload, 1) := by decide +kernel
theorem dd_M_may_35 : decode prog_7_method_26_code 35 = .ok (.ifCond .le 7, 3) := by decide +kernel
theorem dd_M_may_38 : decode prog_7_method_26_code 38 = .ok (.iconst 1, 1) := by decide +kernel
theorem dd_M_may_39 : decode prog_7_method_26_code 39 = .ok (.goto 4, 3) := by decide +kernel
theorem dd_M_may_42 : decode prog_7_method_26_code 42 = .ok (.iconst 0, 1) := by decide +kernel
theorem dd_M_may_43 : decode prog_7_method_26_code 43 = .ok (.ireturn, 1) := by decide +kernel
theorem dd_M_seen_0 : decode prog_7_method_27_code 0 = .ok (.aload_n 0, 1) := by decide +kernel
theorem dd_M_seen_1 : decode prog_7_method_27_code 1 = .ok (.iload_n 1, 1) := by decide +kernel
theorem dd_M_seen_2 : decode prog_7_method_27_code 2 = .ok (.iload_n 3, 1) := by decide +kernel
theorem dd_M_seen_3 : decode prog_7_method_27_code 3 = .ok (.invokestatic 118, 3) := by decide +kernel
theorem dd_M_seen_6 : decode prog_7_method_27_code 6 = .ok (.ifCond .ne 11, 3) := by decide +kernel
theorem dd_M_seen_9 : decode prog_7_method_27_code 9 = .ok (.iload_n 2, 1) := by decide +kernel
theorem dd_M_seen_10 : decode prog_7_method_27_code 10 = .ok (.iload_n 3, 1) := by decide +kernel
theorem dd_M_seen_11 : decode prog_7_method_27_code 11 = .ok (.invokestatic 118, 3) := by decide +kernel
theorem dd_M_seen_14 : decode prog_7_method_27_code 14 = .ok (.ifCond .eq 7, 3) := by decide +kernel
theorem dd_M_seen_17 : decode prog_7_method_27_code 17 = .ok (.iconst 1, 1) := by decide +kernel
theorem dd_M_seen_18 : decode prog_7_method_27_code 18 = .ok (.goto 22, 3) := by decide +kernel
theorem dd_M_seen_21 : decode prog_7_method_27_code 21 = .ok (.aload_n 0, 1) := by decide +kernel
theorem dd_M_seen_22 : decode prog_7_method_27_code 22 = .ok (.getfield 44, 3) := by decide +kernel
theorem dd_M_seen_25 : decode prog_7_method_27_code 25 = .ok (.bipush 20, 2) := by decide +kernel
theorem dd_M_seen_27 : decode prog_7_method_27_code 27 = .ok (.iload_n 1, 1) := by decide +kernel
theorem dd_M_seen_28 : decode prog_7_method_27_code 28 = .ok (.imul, 1) := by decide +kernel
theorem dd_M_seen_29 : decode prog_7_method_27_code 29 = .ok (.iload_n 3, 1) := by decide +kernel
theorem dd_M_seen_30 : decode prog_7_method_27_code 30 = .ok (.iadd, 1) := by decide +kernel
theorem dd_M_seen_31 : decode prog_7_method_27_code 31 = .ok (.iaload, 1) := by decide +kernel
theorem dd_M_seen_32 : decode prog_7_method_27_code 32 = .ok (.ifCond .ne 7, 3) := by decide +kernel
theorem dd_M_seen_35 : decode prog_7_method_27_code 35 = .ok (.iconst 2, 1) := by decide +kernel
theorem dd_M_seen_36 : decode prog_7_method_27_code 36 = .ok (.goto 4, 3) := by decide +kernel
theorem dd_M_seen_39 : decode prog_7_method_27_code 39 = .ok (.iconst 0, 1) := by decide +kernel
theorem dd_M_seen_40 : decode prog_7_method_27_code 40 = .ok (.putfield 53, 3) := by decide +kernel
theorem dd_M_seen_43 : decode prog_7_method_27_code 43 = .ok (.aload_n 0, 1) := by decide +kernel
theorem dd_M_seen_44 : decode prog_7_method_27_code 44 = .ok (.getfield 53, 3) := by decide +kernel
theorem dd_M_seen_47 : decode prog_7_method_27_code 47 = .ok (.ifCond .le 7, 3) := by decide +kernel
theorem dd_M_seen_50 : decode prog_7_method_27_code 50 = .ok (.iconst 0, 1) := by decide +kernel
theorem dd_M_seen_51 : decode prog_7_method_27_code 51 = .ok (.goto 16, 3) := by decide +kernel
theorem dd_M_seen_54 : decode prog_7_method_27_code 54 = .ok (.aload_n 0, 1) := by decide +kernel
theorem dd_M_seen_55 : decode prog_7_method_27_code 55 = .ok (.getfield 44, 3) := by decide +kernel
theorem dd_M_seen_58 : decode prog_7_method_27_code 58 = .ok (.bipush 20, 2) := by decide +kernel
theorem dd_M_seen_60 : decode prog_7_method_27_code 60 = .ok (.iload_n 2, 1) := by decide +kernel
theorem dd_M_seen_61 : decode prog_7_method_27_code 61 = .ok (.imul, 1) := by decide +kernel
theorem dd_M_seen_62 : decode prog_7_method_27_code 62 = .ok (.iload_n 3, 1) := by decide +kernel
theorem dd_M_seen_63 : decode prog_7_method_27_code 63 = .ok (.iadd, 1) := by decide +kernel
theorem dd_M_seen_64 : decode prog_7_method_27_code 64 = .ok (.iaload, 1) := by decide +kernel
theorem dd_M_seen_65 : decode prog_7_method_27_code 65 = .ok (.iconst 1, 1) := by decide +kernel
theorem dd_M_seen_66 : decode prog_7_method_27_code 66 = .ok (.isub, 1) := by decide +kernel
theorem dd_M_seen_67 : decode prog_7_method_27_code 67 = .ok (.ireturn, 1) := by decide +kernel
theorem dd_M_noTwo_0 : decode prog_7_method_29_code 0 = .ok (.iload_n 1, 1) := by decide +kernel
theorem dd_M_noTwo_1 : decode prog_7_method_29_code 1 = .ok (.iconst 0, 1) := by decide +kernel
theorem dd_M_noTwo_2 : decode prog_7_method_29_code 2 = .ok (.iconst 3, 1) := by decide +kernel
theorem dd_M_noTwo_3 : decode prog_7_method_29_code 3 = .ok (.invokestatic 56, 3) := by decide +kernel
theorem dd_M_noTwo_6 : decode prog_7_method_29_code 6 = .ok (.ifCond .eq 21, 3) := by decide +kernel
theorem dd_M_noTwo_9 : decode prog_7_method_29_code 9 = .ok (.iload_n 2, 1) := by decide +kernel
theorem dd_M_noTwo_10 : decode prog_7_method_29_code 10 = .ok (.iconst 0, 1) := by decide +kernel
theorem dd_M_noTwo_11 : decode prog_7_method_29_code 11 = .ok (.iconst 3, 1) := by decide +kernel
theorem dd_M_noTwo_12 : decode prog_7_method_29_code 12 = .ok (.invokestatic 56, 3) := by decide +kernel
theorem dd_M_noTwo_15 : decode prog_7_method_29_code 15 = .ok (.ifCond .eq 12, 3) := by decide +kernel
theorem dd_M_noTwo_18 : decode prog_7_method_29_code 18 = .ok (.iload_n 3, 1) := by decide +kernel
theorem dd_M_noTwo_19 : decode prog_7_method_29_code 19 = .ok (.iconst 0, 1) := by decide +kernel
theorem dd_M_noTwo_20 : decode prog_7_method_29_code 20 = .ok (.iconst 1, 1) := by decide +kernel
theorem dd_M_noTwo_21 : decode prog_7_method_29_code 21 = .ok (.invokestatic 56, 3) := by decide +kernel
theorem dd_M_noTwo_24 : decode prog_7_method_29_code 24 = .ok (.ifCond .ne 7, 3) := by decide +kernel
theorem dd_M_noTwo_27 : decode prog_7_method_29_code 27 = .ok (.iconst 1, 1) := by decide +kernel
theorem dd_M_noTwo_28 : decode prog_7_method_29_code 28 = .ok (.goto 4, 3) := by decide +kernel
theorem dd_M_noTwo_31 : decode prog_7_method_29_code 31 = .ok (.iconst 0, 1) := by decide +kernel
theorem dd_M_noTwo_32 : decode prog_7_method_29_code 32 = .ok (.ireturn, 1) := by decide +kernel
theorem dd_M_both_0 : decode prog_7_method_30_code 0 = .ok (.aload_n 0, 1) := by decide +kernel
theorem dd_M_both_1 : decode prog_7_method_30_code 1 = .ok (.getfield 44, 3) := by decide +kernel
theorem dd_M_both_4 : decode prog_7_method_30_code 4 = .ok (.bipush 20, 2) := by decide +kernel
theorem dd_M_both_6 : decode prog_7_method_30_code 6 = .ok (.iload_n 1, 1) := by decide +kernel
theorem dd_M_both_7 : decode prog_7_method_30_code 7 = .ok (.imul, 1) := by decide +kernel
theorem dd_M_both_8 : decode prog_7_method_30_code 8 = .ok (.iload_n 3, 1) := by decide +kernel
theorem dd_M_both_9 : decode prog_7_method_30_code 9 = .ok (.iadd, 1) := by decide +kernel
theorem dd_M_both_10 : decode prog_7_method_30_code 10 = .ok (.iaload, 1) := by decide +kernel
theorem dd_M_both_11 : decode prog_7_method_30_code 11 = .ok (.ifCond .le 21, 3) := by decide +kernel
theorem dd_M_both_14 : decode prog_7_method_30_code 14 = .ok (.aload_n 0, 1) := by decide +kernel
theorem dd_M_both_15 : decode prog_7_method_30_code 15 = .ok (.getfield 44, 3) := by decide +kernel
theorem dd_M_both_18 : decode prog_7_method_30_code 18 = .ok (.bipush 20, 2) := by decide +kernel
theorem dd_M_both_20 : decode prog_7_method_30_code 20 = .ok (.iload_n 2, 1) := by decide +kernel
theorem dd_M_both_21 : decode prog_7_method_30_code 21 = .ok (.imul, 1) := by decide +kernel
theorem dd_M_both_22 : decode prog_7_method_30_code 22 = .ok (.iload_n 3, 1) := by decide +kernel
theorem dd_M_both_23 : decode prog_7_method_30_code 23 = .ok (.iadd, 1) := by decide +kernel
theorem dd_M_both_24 : decode prog_7_method_30_code 24 = .ok (.iaload, 1) := by decide +kernel
theorem dd_M_both_25 : decode prog_7_method_30_code 25 = .ok (.ifCond .le 7, 3) := by decide +kernel
theorem dd_M_both_28 : decode prog_7_method_30_code 28 = .ok (.iconst 1, 1) := by decide +kernel
theorem dd_M_both_29 : decode prog_7_method_30_code 29 = .ok (.goto 4, 3) := by decide +kernel
theorem dd_M_both_32 : decode prog_7_method_30_code 32 = .ok (.iconst 0, 1) := by decide +kernel
theorem dd_M_both_33 : decode prog_7_method_30_code 33 = .ok (.ireturn, 1) := by decide +kernel
theorem dd_M_part_0 : decode prog_7_method_28_code 0 = .ok (.iload_n 1, 1) := by decide +kernel
theorem dd_M_part_1 : decode prog_7_method_28_code 1 = .ok (.ifCond .ne 5, 3) := by decide +kernel
theorem dd_M_part_4 : decode prog_7_method_28_code 4 = .ok (.iload_n 2, 1) := by decide +kernel
theorem dd_M_part_5 : decode prog_7_method_28_code 5 = .ok (.ireturn, 1) := by decide +kernel
theorem dd_M_part_6 : decode prog_7_method_28_code 6 = .ok (.iload_n 0, 1) := by decide +kernel
theorem dd_M_part_7 : decode prog_7_method_28_code 7 = .ok (.invokestatic 74, 3) := by decide +kernel
theorem dd_M_part_10 : decode prog_7_method_28_code 10 = .ok (.istore_n 3, 1) := by decide +kernel
theorem dd_M_part_11 : decode prog_7_method_28_code 11 = .ok (.iload_n 1, 1) := by decide +kernel
theorem dd_M_part_12 : decode prog_7_method_28_code 12 = .ok (.istore 4, 2) := by decide +kernel
theorem dd_M_part_14 : decode prog_7_method_28_code 14 = .ok (.iload_n 3, 1) := by decide +kernel
theorem dd_M_part_15 : decode prog_7_method_28_code 15 = .ok (.ifCond .eq 18, 3) := by decide +kernel
theorem dd_M_part_18 : decode prog_7_method_28_code 18 = .ok (.iload 4, 2) := by decide +kernel
theorem dd_M_part_20 : decode prog_7_method_28_code 20 = .ok (.iload_n 3, 1) := by decide +kernel
theorem dd_M_part_21 : decode prog_7_method_28_code 21 = .ok (.irem, 1) := by decide +kernel
theorem dd_M_part_22 : decode prog_7_method_28_code 22 = .ok (.istore 5, 2) := by decide +kernel
theorem dd_M_part_24 : decode prog_7_method_28_code 24 = .ok (.iload_n 3, 1) := by decide +kernel
theorem dd_M_part_25 : decode prog_7_method_28_code 25 = .ok (.istore 4, 2) := by decide +kernel
theorem dd_M_part_27 : decode prog_7_method_28_code 27 = .ok (.iload 5, 2) := by decide +kernel
theorem dd_M_part_29 : decode prog_7_method_28_code 29 = .ok (.istore_n 3, 1) := by decide +kernel
theorem dd_M_part_30 : decode prog_7_method_28_code 30 = .ok (.goto (-16), 3) := by decide +kernel
theorem dd_M_part_33 : decode prog_7_method_28_code 33 = .ok (.iload_n 2, 1) := by decide +kernel
theorem dd_M_part_34 : decode prog_7_method_28_code 34 = .ok (.ifCond .ne 10, 3) := by decide +kernel
theorem dd_M_part_37 : decode prog_7_method_28_code 37 = .ok (.iload_n 0, 1) := by decide +kernel
theorem dd_M_part_38 : decode prog_7_method_28_code 38 = .ok (.iload 4, 2) := by decide +kernel
theorem dd_M_part_40 : decode prog_7_method_28_code 40 = .ok (.idiv, 1) := by decide +kernel
theorem dd_M_part_41 : decode prog_7_method_28_code 41 = .ok (.goto 7, 3) := by decide +kernel
theorem dd_M_part_44 : decode prog_7_method_28_code 44 = .ok (.iload_n 1, 1) := by decide +kernel
theorem dd_M_part_45 : decode prog_7_method_28_code 45 = .ok (.iload 4, 2) := by decide +kernel
theorem dd_M_part_47 : decode prog_7_method_28_code 47 = .ok (.idiv, 1) := by decide +kernel
theorem dd_M_part_48 : decode prog_7_method_28_code 48 = .ok (.ireturn, 1) := by decide +kernel
theorem dd_M_agree_0 : decode prog_7_method_31_code 0 = .ok (.aload_n 0, 1) := by decide +kernel
theorem dd_M_agree_1 : decode prog_7_method_31_code 1 = .ok (.aload_n 0, 1) := by decide +kernel
theorem dd_M_agree_2 : decode prog_7_method_31_code 2 = .ok (.iload_n 1, 1) := by decide +kernel
theorem dd_M_agree_3 : decode prog_7_method_31_code 3 = .ok (.iload_n 2, 1) := by decide +kernel
theorem dd_M_agree_4 : decode prog_7_method_31_code 4 = .ok (.iload_n 3, 1) := by decide +kernel
theorem dd_M_agree_5 : decode prog_7_method_31_code 5 = .ok (.invokevirtual 121, 3) := by decide +kernel
theorem dd_M_agree_8 : decode prog_7_method_31_code 8 = .ok (.ifCond .eq 7, 3) := by decide +kernel
theorem dd_M_agree_11 : decode prog_7_method_31_code 11 = .ok (.iconst 1, 1) := by decide +kernel
theorem dd_M_agree_12 : decode prog_7_method_31_code 12 = .ok (.goto 4, 3) := by decide +kernel
theorem dd_M_agree_15 : decode prog_7_method_31_code 15 = .ok (.iconst 0, 1) := by decide +kernel
theorem dd_M_agree_16 : decode prog_7_method_31_code 16 = .ok (.putfield 53, 3) := by decide +kernel
theorem dd_M_agree_19 : decode prog_7_method_31_code 19 = .ok (.iconst 0, 1) := by decide +kernel
theorem dd_M_agree_20 : decode prog_7_method_31_code 20 = .ok (.istore 4, 2) := by decide +kernel
theorem dd_M_agree_22 : decode prog_7_method_31_code 22 = .ok (.iconst 0, 1) := by decide +kernel
theorem dd_M_agree_23 : decode prog_7_method_31_code 23 = .ok (.istore 5, 2) := by decide +kernel
theorem dd_M_agree_25 : decode prog_7_method_31_code 25 = .ok (.iconst 0, 1) := by decide +kernel
theorem dd_M_agree_26 : decode prog_7_method_31_code 26 = .ok (.istore 6, 2) := by decide +kernel
theorem dd_M_agree_28 : decode prog_7_method_31_code 28 = .ok (.iload 6, 2) := by decide +kernel
theorem dd_M_agree_30 : decode prog_7_method_31_code 30 = .ok (.bipush 20, 2) := by decide +kernel
theorem dd_M_agree_32 : decode prog_7_method_31_code 32 = .ok (.if_icmp .ge 85, 3) := by decide +kernel
theorem dd_M_agree_35 : decode prog_7_method_31_code 35 = .ok (.aload_n 0, 1) := by decide +kernel
theorem dd_M_agree_36 : decode prog_7_method_31_code 36 = .ok (.getfield 53, 3) := by decide +kernel
theorem dd_M_agree_39 : decode prog_7_method_31_code 39 = .ok (.ifCond .ne 78, 3) := by decide +kernel
theorem dd_M_agree_42 : decode prog_7_method_31_code 42 = .ok (.aload_n 0, 1) := by decide +kernel
theorem dd_M_agree_43 : decode prog_7_method_31_code 43 = .ok (.iload_n 1, 1) := by decide +kernel
theorem dd_M_agree_44 : decode prog_7_method_31_code 44 = .ok (.iload_n 2, 1) := by decide +kernel
theorem dd_M_agree_45 : decode prog_7_method_31_code 45 = .ok (.iload 6, 2) := by decide +kernel
theorem dd_M_agree_47 : decode prog_7_method_31_code 47 = .ok (.invokevirtual 124, 3) := by decide +kernel
theorem dd_M_agree_50 : decode prog_7_method_31_code 50 = .ok (.istore 7, 2) := by decide +kernel
theorem dd_M_agree_52 : decode prog_7_method_31_code 52 = .ok (.iload 7, 2) := by decide +kernel
theorem dd_M_agree_54 : decode prog_7_method_31_code 54 = .ok (.ifCond .eq 10, 3) := by decide +kernel
theorem dd_M_agree_57 : decode prog_7_method_31_code 57 = .ok (.iload 5, 2) := by decide +kernel
theorem dd_M_agree_59 : decode prog_7_method_31_code 59 = .ok (.iconst 1, 1) := by decide +kernel
theorem dd_M_agree_60 : decode prog_7_method_31_code 60 = .ok (.iadd, 1) := by decide +kernel
theorem dd_M_agree_61 : decode prog_7_method_31_code 61 = .ok (.goto 5, 3) := by decide +kernel
theorem dd_M_agree_64 : decode prog_7_method_31_code 64 = .ok (.iload 5, 2) := by decide +kernel
theorem dd_M_agree_66 : decode prog_7_method_31_code 66 = .ok (.istore 5, 2) := by decide +kernel
theorem dd_M_agree_68 : decode prog_7_method_31_code 68 = .ok (.iload 7, 2) := by decide +kernel
theorem dd_M_agree_70 : decode prog_7_method_31_code 70 = .ok (.ifCond .eq 37, 3) := by decide +kernel
theorem dd_M_agree_73 : decode prog_7_method_31_code 73 = .ok (.aload_n 0, 1) := by decide +kernel
theorem dd_M_agree_74 : decode prog_7_method_31_code 74 = .ok (.getfield 44, 3) := by decide +kernel
theorem dd_M_agree_77 : decode prog_7_method_31_code 77 = .ok (.bipush 20, 2) := by decide +kernel
theorem dd_M_agree_79 : decode prog_7_method_31_code 79 = .ok (.iload_n 1, 1) := by decide +kernel
theorem dd_M_agree_80 : decode prog_7_method_31_code 80 = .ok (.imul, 1) := by decide +kernel
theorem dd_M_agree_81 : decode prog_7_method_31_code 81 = .ok (.iload 6, 2) := by decide +kernel
theorem dd_M_agree_83 : decode prog_7_method_31_code 83 = .ok (.iadd, 1) := by decide +kernel
theorem dd_M_agree_84 : decode prog_7_method_31_code 84 = .ok (.iaload, 1) := by decide +kernel
theorem dd_M_agree_85 : decode prog_7_method_31_code 85 = .ok (.aload_n 0, 1) := by decide +kernel
theorem dd_M_agree_86 : decode prog_7_method_31_code 86 = .ok (.getfield 44, 3) := by decide +kernel
theorem dd_M_agree_89 : decode prog_7_method_31_code 89 = .ok (.bipush 20, 2) := by decide +kernel
theorem dd_M_agree_91 : decode prog_7_method_31_code 91 = .ok (.iload_n 2, 1) := by decide +kernel
theorem dd_M_agree_92 : decode prog_7_method_31_code 92 = .ok (.imul, 1) := by decide +kernel
theorem dd_M_agree_93 : decode prog_7_method_31_code 93 = .ok (.iload 6, 2) := by decide +kernel
theorem dd_M_agree_95 : decode prog_7_method_31_code 95 = .ok (.iadd, 1) := by decide +kernel
theorem dd_M_agree_96 : decode prog_7_method_31_code 96 = .ok (.iaload, 1) := by decide +kernel
theorem dd_M_agree_97 : decode prog_7_method_31_code 97 = .ok (.if_icmp .ne 10, 3) := by decide +kernel
theorem dd_M_agree_100 : decode prog_7_method_31_code 100 = .ok (.iload 4, 2) := by decide +kernel
theorem dd_M_agree_102 : decode prog_7_method_31_code 102 = .ok (.iconst 1, 1) := by decide +kernel
theorem dd_M_agree_103 : decode prog_7_method_31_code 103 = .ok (.iadd, 1) := by decide +kernel
theorem dd_M_agree_104 : decode prog_7_method_31_code 104 = .ok (.goto 5, 3) := by decide +kernel
theorem dd_M_agree_107 : decode prog_7_method_31_code 107 = .ok (.iload 4, 2) := by decide +kernel
theorem dd_M_agree_109 : decode prog_7_method_31_code 109 = .ok (.istore 4, 2) := by decide +kernel
theorem dd_M_agree_111 : decode prog_7_method_31_code 111 = .ok (.iinc 6 1, 3) := by decide +kernel
theorem dd_M_agree_114 : decode prog_7_method_31_code 114 = .ok (.goto (-86), 3) := by decide +kernel
theorem dd_M_agree_117 : decode prog_7_method_31_code 117 = .ok (.aload_n 0, 1) := by decide +kernel
theorem dd_M_agree_118 : decode prog_7_method_31_code 118 = .ok (.getfield 53, 3) := by decide +kernel
theorem dd_M_agree_121 : decode prog_7_method_31_code 121 = .ok (.ifCond .le 7, 3) := by decide +kernel
theorem dd_M_agree_124 : decode prog_7_method_31_code 124 = .ok (.iconst 0, 1) := by decide +kernel
theorem dd_M_agree_125 : decode prog_7_method_31_code 125 = .ok (.goto 11, 3) := by decide +kernel
theorem dd_M_agree_128 : decode prog_7_method_31_code 128 = .ok (.iload 4, 2) := by decide +kernel
theorem dd_M_agree_130 : decode prog_7_method_31_code 130 = .ok (.iload 5, 2) := by decide +kernel
theorem dd_M_agree_132 : decode prog_7_method_31_code 132 = .ok (.iload_n 3, 1) := by decide +kernel
theorem dd_M_agree_133 : decode prog_7_method_31_code 133 = .ok (.invokestatic 127, 3) := by decide +kernel
theorem dd_M_agree_136 : decode prog_7_method_31_code 136 = .ok (.ireturn, 1) := by decide +kernel
theorem dd_M_bias_0 : decode prog_7_method_32_code 0 = .ok (.aload_n 0, 1) := by decide +kernel
theorem dd_M_bias_1 : decode prog_7_method_32_code 1 = .ok (.aload_n 0, 1) := by decide +kernel
theorem dd_M_bias_2 : decode prog_7_method_32_code 2 = .ok (.iload_n 1, 1) := by decide +kernel
theorem dd_M_bias_3 : decode prog_7_method_32_code 3 = .ok (.iload_n 2, 1) := by decide +kernel
theorem dd_M_bias_4 : decode prog_7_method_32_code 4 = .ok (.iload_n 3, 1) := by decide +kernel
theorem dd_M_bias_5 : decode prog_7_method_32_code 5 = .ok (.invokevirtual 121, 3) := by decide +kernel
theorem dd_M_bias_8 : decode prog_7_method_32_code 8 = .ok (.ifCond .eq 7, 3) := by decide +kernel
theorem dd_M_bias_11 : decode prog_7_method_32_code 11 = .ok (.iconst 1, 1) := by decide +kernel
theorem dd_M_bias_12 : decode prog_7_method_32_code 12 = .ok (.goto 4, 3) := by decide +kernel
theorem dd_M_bias_15 : decode prog_7_method_32_code 15 = .ok (.iconst 0, 1) := by decide +kernel
theorem dd_M_bias_16 : decode prog_7_method_32_code 16 = .ok (.putfield 53, 3) := by decide +kernel
theorem dd_M_bias_19 : decode prog_7_method_32_code 19 = .ok (.iconst 0, 1) := by decide +kernel
theorem dd_M_bias_20 : decode prog_7_method_32_code 20 = .ok (.istore 4, 2) := by decide +kernel
theorem dd_M_bias_22 : decode prog_7_method_32_code 22 = .ok (.iconst 0, 1) := by decide +kernel
theorem dd_M_bias_23 : decode prog_7_method_32_code 23 = .ok (.istore 5, 2) := by decide +kernel
theorem dd_M_bias_25 : decode prog_7_method_32_code 25 = .ok (.iconst 0, 1) := by decide +kernel
theorem dd_M_bias_26 : decode prog_7_method_32_code 26 = .ok (.istore 6, 2) := by decide +kernel
theorem dd_M_bias_28 : decode prog_7_method_32_code 28 = .ok (.iload 6, 2) := by decide +kernel
theorem dd_M_bias_30 : decode prog_7_method_32_code 30 = .ok (.bipush 20, 2) := by decide +kernel
theorem dd_M_bias_32 : decode prog_7_method_32_code 32 = .ok (.if_icmp .ge 82, 3) := by decide +kernel
theorem dd_M_bias_35 : decode prog_7_method_32_code 35 = .ok (.aload_n 0, 1) := by decide +kernel
theorem dd_M_bias_36 : decode prog_7_method_32_code 36 = .ok (.getfield 53, 3) := by decide +kernel
theorem dd_M_bias_39 : decode prog_7_method_32_code 39 = .ok (.ifCond .ne 75, 3) := by decide +kernel
theorem dd_M_bias_42 : decode prog_7_method_32_code 42 = .ok (.aload_n 0, 1) := by decide +kernel
theorem dd_M_bias_43 : decode prog_7_method_32_code 43 = .ok (.iload_n 1, 1) := by decide +kernel
theorem dd_M_bias_44 : decode prog_7_method_32_code 44 = .ok (.iload_n 2, 1) := by decide +kernel
theorem dd_M_bias_45 : decode prog_7_method_32_code 45 = .ok (.iload 6, 2) := by decide +kernel
theorem dd_M_bias_47 : decode prog_7_method_32_code 47 = .ok (.invokevirtual 124, 3) := by decide +kernel
theorem dd_M_bias_50 : decode prog_7_method_32_code 50 = .ok (.istore 7, 2) := by decide +kernel
theorem dd_M_bias_52 : decode prog_7_method_32_code 52 = .ok (.iload 7, 2) := by decide +kernel
theorem dd_M_bias_54 : decode prog_7_method_32_code 54 = .ok (.ifCond .eq 10, 3) := by decide +kernel
theorem dd_M_bias_57 : decode prog_7_method_32_code 57 = .ok (.iload 5, 2) := by decide +kernel
theorem dd_M_bias_59 : decode prog_7_method_32_code 59 = .ok (.iconst 1, 1) := by decide +kernel
theorem dd_M_bias_60 : decode prog_7_method_32_code 60 = .ok (.iadd, 1) := by decide +kernel
theorem dd_M_bias_61 : decode prog_7_method_32_code 61 = .ok (.goto 5, 3) := by decide +kernel
theorem dd_M_bias_64 : decode prog_7_method_32_code 64 = .ok (.iload 5, 2) := by decide +kernel
theorem dd_M_bias_66 : decode prog_7_method_32_code 66 = .ok (.istore 5, 2) := by decide +kernel
theorem dd_M_bias_68 : decode prog_7_method_32_code 68 = .ok (.iload 7, 2) := by decide +kernel
theorem dd_M_bias_70 : decode prog_7_method_32_code 70 = .ok (.ifCond .eq 34, 3) := by decide +kernel
theorem dd_M_bias_73 : decode prog_7_method_32_code 73 = .ok (.iload 4, 2) := by decide +kernel
theorem dd_M_bias_75 : decode prog_7_method_32_code 75 = .ok (.aload_n 0, 1) := by decide +kernel
theorem dd_M_bias_76 : decode prog_7_method_32_code 76 = .ok (.getfield 44, 3) := by decide +kernel
theorem dd_M_bias_79 : decode prog_7_method_32_code 79 = .ok (.bipush 20, 2) := by decide +kernel
theorem dd_M_bias_81 : decode prog_7_method_32_code 81 = .ok (.iload_n 1, 1) := by decide +kernel
theorem dd_M_bias_82 : decode prog_7_method_32_code 82 = .ok (.imul, 1) := by decide +kernel
theorem dd_M_bias_83 : decode prog_7_method_32_code 83 = .ok (.iload 6, 2) := by decide +kernel
theorem dd_M_bias_85 : decode prog_7_method_32_code 85 = .ok (.iadd, 1) := by decide +kernel
theorem dd_M_bias_86 : decode prog_7_method_32_code 86 = .ok (.iaload, 1) := by decide +kernel
theorem dd_M_bias_87 : decode prog_7_method_32_code 87 = .ok (.iadd, 1) := by decide +kernel
theorem dd_M_bias_88 : decode prog_7_method_32_code 88 = .ok (.aload_n 0, 1) := by decide +kernel
theorem dd_M_bias_89 : decode prog_7_method_32_code 89 = .ok (.getfield 44, 3) := by decide +kernel
theorem dd_M_bias_92 : decode prog_7_method_32_code 92 = .ok (.bipush 20, 2) := by decide +kernel
theorem dd_M_bias_94 : decode prog_7_method_32_code 94 = .ok (.iload_n 2, 1) := by decide +kernel
theorem dd_M_bias_95 : decode prog_7_method_32_code 95 = .ok (.imul, 1) := by decide +kernel
theorem dd_M_bias_96 : decode prog_7_method_32_code 96 = .ok (.iload 6, 2) := by decide +kernel
theorem dd_M_bias_98 : decode prog_7_method_32_code 98 = .ok (.iadd, 1) := by decide +kernel
theorem dd_M_bias_99 : decode prog_7_method_32_code 99 = .ok (.iaload, 1) := by decide +kernel
theorem dd_M_bias_100 : decode prog_7_method_32_code 100 = .ok (.isub, 1) := by decide +kernel
theorem dd_M_bias_101 : decode prog_7_method_32_code 101 = .ok (.goto 5, 3) := by decide +kernel
theorem dd_M_bias_104 : decode prog_7_method_32_code 104 = .ok (.iload 4, 2) := by decide +kernel
theorem dd_M_bias_106 : decode prog_7_method_32_code 106 = .ok (.istore 4, 2) := by decide +kernel
theorem dd_M_bias_108 : decode prog_7_method_32_code 108 = .ok (.iinc 6 1, 3) := by decide +kernel
theorem dd_M_bias_111 : decode prog_7_method_32_code 111 = .ok (.goto (-83), 3) := by decide +kernel
theorem dd_M_bias_114 : decode prog_7_method_32_code 114 = .ok (.aload_n 0, 1) := by decide +kernel
theorem dd_M_bias_115 : decode prog_7_method_32_code 115 = .ok (.getfield 53, 3) := by decide +kernel
theorem dd_M_bias_118 : decode prog_7_method_32_code 118 = .ok (.ifCond .le 7, 3) := by decide +kernel
theorem dd_M_bias_121 : decode prog_7_method_32_code 121 = .ok (.iconst 0, 1) := by decide +kernel
theorem dd_M_bias_122 : decode prog_7_method_32_code 122 = .ok (.goto 11, 3) := by decide +kernel
theorem dd_M_bias_125 : decode prog_7_method_32_code 125 = .ok (.iload 4, 2) := by decide +kernel
theorem dd_M_bias_127 : decode prog_7_method_32_code 127 = .ok (.iload 5, 2) := by decide +kernel
theorem dd_M_bias_129 : decode prog_7_method_32_code 129 = .ok (.iload_n 3, 1) := by decide +kernel
theorem dd_M_bias_130 : decode prog_7_method_32_code 130 = .ok (.invokestatic 127, 3) := by decide +kernel
theorem dd_M_bias_133 : decode prog_7_method_32_code 133 = .ok (.ireturn, 1) := by decide +kernel
theorem dd_M_toldOf_0 : decode prog_7_method_33_code 0 = .ok (.iconst (-1), 1) := by decide +kernel
theorem dd_M_toldOf_1 : decode prog_7_method_33_code 1 = .ok (.istore_n 2, 1) := by decide +kernel
theorem dd_M_toldOf_2 : decode prog_7_method_33_code 2 = .ok (.iconst 0, 1) := by decide +kernel
theorem dd_M_toldOf_3 : decode prog_7_method_33_code 3 = .ok (.istore_n 3, 1) := by decide +kernel
theorem dd_M_toldOf_4 : decode prog_7_method_33_code 4 = .ok (.iconst 0, 1) := by decide +kernel
theorem dd_M_toldOf_5 : decode prog_7_method_33_code 5 = .ok (.istore 4, 2) := by decide +kernel
theorem dd_M_toldOf_7 : decode prog_7_method_33_code 7 = .ok (.iload 4, 2) := by decide +kernel
theorem dd_M_toldOf_9 : decode prog_7_method_33_code 9 = .ok (.bipush 60, 2) := by decide +kernel
theorem dd_M_toldOf_11 : decode prog_7_method_33_code 11 = .ok (.if_icmp .gt 83, 3) := by decide +kernel
theorem dd_M_toldOf_14 : decode prog_7_method_33_code 14 = .ok (.iconst 0, 1) := by decide +kernel
theorem dd_M_toldOf_15 : decode prog_7_method_33_code 15 = .ok (.istore 5, 2) := by decide +kernel
theorem dd_M_toldOf_17 : decode prog_7_method_33_code 17 = .ok (.iconst 0, 1) := by decide +kernel
theorem dd_M_toldOf_18 : decode prog_7_method_33_code 18 = .ok (.istore 6, 2) := by decide +kernel
theorem dd_M_toldOf_20 : decode prog_7_method_33_code 20 = .ok (.iload 6, 2) := by decide +kernel
theorem dd_M_toldOf_22 : decode prog_7_method_33_code 22 = .ok (.iconst 4, 1) := by decide +kernel
theorem dd_M_toldOf_23 : decode prog_7_method_33_code 23 = .ok (.if_icmp .ge 39, 3) := by decide +kernel
theorem dd_M_toldOf_26 : decode prog_7_method_33_code 26 = .ok (.aload_n 0, 1) := by decide +kernel
theorem dd_M_toldOf_27 : decode prog_7_method_33_code 27 = .ok (.getfield 44, 3) := by decide +kernel
theorem dd_M_toldOf_30 : decode prog_7_method_33_code 30 = .ok (.bipush 20, 2) := by decide +kernel
theorem dd_M_toldOf_32 : decode prog_7_method_33_code 32 = .ok (.iload 6, 2) := by decide +kernel
theorem dd_M_toldOf_34 : decode prog_7_method_33_code 34 = .ok (.imul, 1) := by decide +kernel
theorem dd_M_toldOf_35 : decode prog_7_method_33_code 35 = .ok (.iload_n 1, 1) := by decide +kernel
theorem dd_M_toldOf_36 : decode prog_7_method_33_code 36 = .ok (.iadd, 1) := by decide +kernel
theorem dd_M_toldOf_37 : decode prog_7_method_33_code 37 = .ok (.iaload, 1) := by decide +kernel
theorem dd_M_toldOf_38 : decode prog_7_method_33_code 38 = .ok (.iload 4, 2) := by decide +kernel
theorem dd_M_toldOf_40 : decode prog_7_method_33_code 40 = .ok (.iconst 1, 1) := by decide +kernel
theorem dd_M_toldOf_41 : decode prog_7_method_33_code 41 = .ok (.iadd, 1) := by decide +kernel
theorem dd_M_toldOf_42 : decode prog_7_method_33_code 42 = .ok (.if_icmp .ne 10, 3) := by decide +kernel
theorem dd_M_toldOf_45 : decode prog_7_method_33_code 45 = .ok (.iload 5, 2) := by decide +kernel
theorem dd_M_toldOf_47 : decode prog_7_method_33_code 47 = .ok (.iconst 1, 1) := by decide +kernel
theorem dd_M_toldOf_48 : decode prog_7_method_33_code 48 = .ok (.iadd, 1) := by decide +kernel
theorem dd_M_toldOf_49 : decode prog_7_method_33_code 49 = .ok (.goto 5, 3) := by decide +kernel
theorem dd_M_toldOf_52 : decode prog_7_method_33_code 52 = .ok (.iload 5, 2) := by decide +kernel
theorem dd_M_toldOf_54 : decode prog_7_method_33_code 54 = .ok (.istore 5, 2) := by decide +kernel
theorem dd_M_toldOf_56 : decode prog_7_method_33_code 56 = .ok (.iinc 6 1, 3) := by decide +kernel
theorem dd_M_toldOf_59 : decode prog_7_method_33_code 59 = .ok (.goto (-39), 3) := by decide +kernel
theorem dd_M_toldOf_62 : decode prog_7_method_33_code 62 = .ok (.iload 5, 2) := by decide +kernel
theorem dd_M_toldOf_64 : decode prog_7_method_33_code 64 = .ok (.iload_n 3, 1) := by decide +kernel
theorem dd_M_toldOf_65 : decode prog_7_method_33_code 65 = .ok (.if_icmp .le 8, 3) := by decide +kernel
theorem dd_M_toldOf_68 : decode prog_7_method_33_code 68 = .ok (.iload 4, 2) := by decide +kernel
theorem dd_M_toldOf_70 : decode prog_7_method_33_code 70 = .ok (.goto 4, 3) := by decide +kernel
theorem dd_M_toldOf_73 : decode prog_7_method_33_code 73 = .ok (.iload_n 2, 1) := by decide +kernel
theorem dd_M_toldOf_74 : decode prog_7_method_33_code 74 = .ok (.istore_n 2, 1) := by decide +kernel
theorem dd_M_toldOf_75 : decode prog_7_method_33_code 75 = .ok (.iload 5, 2) := by decide +kernel
theorem dd_M_toldOf_77 : decode prog_7_method_33_code 77 = .ok (.iload_n 3, 1) := by decide +kernel
theorem dd_M_toldOf_78 : decode prog_7_method_33_code 78 = .ok (.if_icmp .le 8, 3) := by decide +kernel
theorem dd_M_toldOf_81 : decode prog_7_method_33_code 81 = .ok (.iload 5, 2) := by decide +kernel
theorem dd_M_toldOf_83 : decode prog_7_method_33_code 83 = .ok (.goto 4, 3) := by decide +kernel
theorem dd_M_toldOf_86 : decode prog_7_method_33_code 86 = .ok (.iload_n 3, 1) := by decide +kernel
theorem dd_M_toldOf_87 : decode prog_7_method_33_code 87 = .ok (.istore_n 3, 1) := by decide +kernel
theorem dd_M_toldOf_88 : decode prog_7_method_33_code 88 = .ok (.iinc 4 1, 3) := by decide +kernel
theorem dd_M_toldOf_91 : decode prog_7_method_33_code 91 = .ok (.goto (-84), 3) := by decide +kernel
theorem dd_M_toldOf_94 : decode prog_7_method_33_code 94 = .ok (.iload_n 2, 1) := by decide +kernel
theorem dd_M_toldOf_95 : decode prog_7_method_33_code 95 = .ok (.ireturn, 1) := by decide +kernel
theorem dd_M_told_0 : decode prog_7_method_34_code 0 = .ok (.aload_n 0, 1) := by decide +kernel
theorem dd_M_told_1 : decode prog_7_method_34_code 1 = .ok (.iload_n 1, 1) := by decide +kernel
theorem dd_M_told_2 : decode prog_7_method_34_code 2 = .ok (.iconst 0, 1) := by decide +kernel
theorem dd_M_told_3 : decode prog_7_method_34_code 3 = .ok (.bipush 19, 2) := by decide +kernel
theorem dd_M_told_5 : decode prog_7_method_34_code 5 = .ok (.invokestatic 56, 3) := by decide +kernel
theorem dd_M_told_8 : decode prog_7_method_34_code 8 = .ok (.ifCond .ne 7, 3) := by decide +kernel
theorem dd_M_told_11 : decode prog_7_method_34_code 11 = .ok (.iconst 1, 1) := by decide +kernel
theorem dd_M_told_12 : decode prog_7_method_34_code 12 = .ok (.goto 4, 3) := by decide +kernel
theorem dd_M_told_15 : decode prog_7_method_34_code 15 = .ok (.iconst 0, 1) := by decide +kernel
theorem dd_M_told_16 : decode prog_7_method_34_code 16 = .ok (.putfield 53, 3) := by decide +kernel
theorem dd_M_told_19 : decode prog_7_method_34_code 19 = .ok (.aload_n 0, 1) := by decide +kernel
theorem dd_M_told_20 : decode prog_7_method_34_code 20 = .ok (.getfield 53, 3) := by decide +kernel
theorem dd_M_told_23 : decode prog_7_method_34_code 23 = .ok (.ifCond .le 7, 3) := by decide +kernel
theorem dd_M_told_26 : decode prog_7_method_34_code 26 = .ok (.iconst 0, 1) := by decide +kernel
theorem dd_M_told_27 : decode prog_7_method_34_code 27 = .ok (.goto 8, 3) := by decide +kernel
theorem dd_M_told_30 : decode prog_7_method_34_code 30 = .ok (.aload_n 0, 1) := by decide +kernel
theorem dd_M_told_31 : decode prog_7_method_34_code 31 = .ok (.iload_n 1, 1) := by decide +kernel
theorem dd_M_told_32 : decode prog_7_method_34_code 32 = .ok (.invokevirtual 131, 3) := by decide +kernel
theorem dd_M_told_35 : decode prog_7_method_34_code 35 = .ok (.ireturn, 1) := by decide +kernel
theorem dd_M_rightOf_0 : decode prog_7_method_35_code 0 = .ok (.iconst 0, 1) := by decide +kernel
theorem dd_M_rightOf_1 : decode prog_7_method_35_code 1 = .ok (.istore_n 2, 1) := by decide +kernel
theorem dd_M_rightOf_2 : decode prog_7_method_35_code 2 = .ok (.iconst 0, 1) := by decide +kernel
theorem dd_M_rightOf_3 : decode prog_7_method_35_code 3 = .ok (.istore_n 3, 1) := by decide +kernel
theorem dd_M_rightOf_4 : decode prog_7_method_35_code 4 = .ok (.iload_n 3, 1) := by decide +kernel
theorem dd_M_rightOf_5 : decode prog_7_method_35_code 5 = .ok (.bipush 20, 2) := by decide +kernel
theorem dd_M_rightOf_7 : decode prog_7_method_35_code 7 = .ok (.if_icmp .ge 47, 3) := by decide +kernel
theorem dd_M_rightOf_10 : decode prog_7_method_35_code 10 = .ok (.aload_n 0, 1) := by decide +kernel
theorem dd_M_rightOf_11 : decode prog_7_method_35_code 11 = .ok (.getfield 44, 3) := by decide +kernel
theorem dd_M_rightOf_14 : decode prog_7_method_35_code 14 = .ok (.bipush 20, 2) := by decide +kernel
theorem dd_M_rightOf_16 : decode prog_7_method_35_code 16 = .ok (.iload_n 1, 1) := by decide +kernel
theorem dd_M_rightOf_17 : decode prog_7_method_35_code 17 = .ok (.imul, 1) := by decide +kernel
theorem dd_M_rightOf_18 : decode prog_7_method_35_code 18 = .ok (.iload_n 3, 1) := by decide +kernel
theorem dd_M_rightOf_19 : decode prog_7_method_35_code 19 = .ok (.iadd, 1) := by decide +kernel
theorem dd_M_rightOf_20 : decode prog_7_method_35_code 20 = .ok (.iaload, 1) := by decide +kernel
theorem dd_M_rightOf_21 : decode prog_7_method_35_code 21 = .ok (.istore 4, 2) := by decide +kernel
theorem dd_M_rightOf_23 : decode prog_7_method_35_code 23 = .ok (.iload 4, 2) := by decide +kernel
theorem dd_M_rightOf_25 : decode prog_7_method_35_code 25 = .ok (.ifCond .le 21, 3) := by decide +kernel
theorem dd_M_rightOf_28 : decode prog_7_method_35_code 28 = .ok (.iload 4, 2) := by decide +kernel
theorem dd_M_rightOf_30 : decode prog_7_method_35_code 30 = .ok (.iconst 1, 1) := by decide +kernel
theorem dd_M_rightOf_31 : decode prog_7_method_35_code 31 = .ok (.isub, 1) := by decide +kernel
theorem dd_M_rightOf_32 : decode prog_7_method_35_code 32 = .ok (.aload_n 0, 1) := by decide +kernel
theorem dd_M_rightOf_33 : decode prog_7_method_35_code 33 = .ok (.iload_n 3, 1) := by decide +kernel
theorem dd_M_rightOf_34 : decode prog_7_method_35_code 34 = .ok (.invokevirtual 131, 3) := by decide +kernel
theorem dd_M_rightOf_37 : decode prog_7_method_35_code 37 = .ok (.if_icmp .ne 9, 3) := by decide +kernel
theorem dd_M_rightOf_40 : decode prog_7_method_35_code 40 = .ok (.iload_n 2, 1) := by decide +kernel
theorem dd_M_rightOf_41 : decode prog_7_method_35_code 41 = .ok (.iconst 1, 1) := by decide +kernel
theorem dd_M_rightOf_42 : decode prog_7_method_35_code 42 = .ok (.iadd, 1) := by decide +kernel
theorem dd_M_rightOf_43 : decode prog_7_method_35_code 43 = .ok (.goto 4, 3) := by decide +kernel
theorem dd_M_rightOf_46 : decode prog_7_method_35_code 46 = .ok (.iload_n 2, 1) := by decide +kernel
theorem dd_M_rightOf_47 : decode prog_7_method_35_code 47 = .ok (.istore_n 2, 1) := by decide +kernel
theorem dd_M_rightOf_48 : decode prog_7_method_35_code 48 = .ok (.iinc 3 1, 3) := by decide +kernel
theorem dd_M_rightOf_51 : decode prog_7_method_35_code 51 = .ok (.goto (-47), 3) := by decide +kernel
theorem dd_M_rightOf_54 : decode prog_7_method_35_code 54 = .ok (.iload_n 2, 1) := by decide +kernel
theorem dd_M_rightOf_55 : decode prog_7_method_35_code 55 = .ok (.ireturn, 1) := by decide +kernel
theorem dd_M_right_0 : decode prog_7_method_36_code 0 = .ok (.aload_n 0, 1) := by decide +kernel
theorem dd_M_right_1 : decode prog_7_method_36_code 1 = .ok (.iload_n 1, 1) := by decide +kernel
theorem dd_M_right_2 : decode prog_7_method_36_code 2 = .ok (.iconst 0, 1) := by decide +kernel
theorem dd_M_right_3 : decode prog_7_method_36_code 3 = .ok (.iconst 3, 1) := by decide +kernel
theorem dd_M_right_4 : decode prog_7_method_36_code 4 = .ok (.invokestatic 56, 3) := by decide +kernel
theorem dd_M_right_7 : decode prog_7_method_36_code 7 = .ok (.ifCond .ne 7, 3) := by decide +kernel
theorem dd_M_right_10 : decode prog_7_method_36_code 10 = .ok (.iconst 1, 1) := by decide +kernel
theorem dd_M_right_11 : decode prog_7_method_36_code 11 = .ok (.goto 4, 3) := by decide +kernel
theorem dd_M_right_14 : decode prog_7_method_36_code 14 = .ok (.iconst 0, 1) := by decide +kernel
theorem dd_M_right_15 : decode prog_7_method_36_code 15 = .ok (.putfield 53, 3) := by decide +kernel
theorem dd_M_right_18 : decode prog_7_method_36_code 18 = .ok (.aload_n 0, 1) := by decide +kernel
theorem dd_M_right_19 : decode prog_7_method_36_code 19 = .ok (.getfield 53, 3) := by decide +kernel
theorem dd_M_right_22 : decode prog_7_method_36_code 22 = .ok (.ifCond .le 7, 3) := by decide +kernel
theorem dd_M_right_25 : decode prog_7_method_36_code 25 = .ok (.iconst 0, 1) := by decide +kernel
theorem dd_M_right_26 : decode prog_7_method_36_code 26 = .ok (.goto 8, 3) := by decide +kernel
theorem dd_M_right_29 : decode prog_7_method_36_code 29 = .ok (.aload_n 0, 1) := by decide +kernel
theorem dd_M_right_30 : decode prog_7_method_36_code 30 = .ok (.iload_n 1, 1) := by decide +kernel
theorem dd_M_right_31 : decode prog_7_method_36_code 31 = .ok (.invokevirtual 134, 3) := by decide +kernel
theorem dd_M_right_34 : decode prog_7_method_36_code 34 = .ok (.ireturn, 1) := by decide +kernel
theorem dd_M_best_0 : decode prog_7_method_37_code 0 = .ok (.aload_n 0, 1) := by decide +kernel
theorem dd_M_best_1 : decode prog_7_method_37_code 1 = .ok (.iload_n 1, 1) := by decide +kernel
theorem dd_M_best_2 : decode prog_7_method_37_code 2 = .ok (.iconst 0, 1) := by decide +kernel
theorem dd_M_best_3 : decode prog_7_method_37_code 3 = .ok (.iconst 3, 1) := by decide +kernel
theorem dd_M_best_4 : decode prog_7_method_37_code 4 = .ok (.invokestatic 56, 3) := by decide +kernel
theorem dd_M_best_7 : decode prog_7_method_37_code 7 = .ok (.ifCond .ne 7, 3) := by decide +kernel
theorem dd_M_best_10 : decode prog_7_method_37_code 10 = .ok (.iconst 1, 1) := by decide +kernel
theorem dd_M_best_11 : decode prog_7_method_37_code 11 = .ok (.goto 4, 3) := by decide +kernel
theorem dd_M_best_14 : decode prog_7_method_37_code 14 = .ok (.iconst 0, 1) := by decide +kernel
theorem dd_M_best_15 : decode prog_7_method_37_code 15 = .ok (.putfield 53, 3) := by decide +kernel
theorem dd_M_best_18 : decode prog_7_method_37_code 18 = .ok (.iconst 0, 1) := by decide +kernel
theorem dd_M_best_19 : decode prog_7_method_37_code 19 = .ok (.istore_n 2, 1) := by decide +kernel
theorem dd_M_best_20 : decode prog_7_method_37_code 20 = .ok (.iload_n 2, 1) := by decide +kernel
theorem dd_M_best_21 : decode prog_7_method_37_code 21 = .ok (.iconst 4, 1) := by decide +kernel
theorem dd_M_best_22 : decode prog_7_method_37_code 22 = .ok (.if_icmp .ge 82, 3) := by decide +kernel
theorem dd_M_best_25 : decode prog_7_method_37_code 25 = .ok (.aload_n 0, 1) := by decide +kernel
theorem dd_M_best_26 : decode prog_7_method_37_code 26 = .ok (.getfield 53, 3) := by decide +kernel
theorem dd_M_best_29 : decode prog_7_method_37_code 29 = .ok (.ifCond .ne 75, 3) := by decide +kernel
theorem dd_M_best_32 : decode prog_7_method_37_code 32 = .ok (.iconst 0, 1) := by decide +kernel
theorem dd_M_best_33 : decode prog_7_method_37_code 33 = .ok (.istore_n 3, 1) := by decide +kernel
theorem dd_M_best_34 : decode prog_7_method_37_code 34 = .ok (.iconst 0, 1) := by decide +kernel
theorem dd_M_best_35 : decode prog_7_method_37_code 35 = .ok (.istore 4, 2) := by decide +kernel
theorem dd_M_best_37 : decode prog_7_method_37_code 37 = .ok (.iload 4, 2) := by decide +kernel
theorem dd_M_best_39 : decode prog_7_method_37_code 39 = .ok (.iconst 4, 1) := by decide +kernel
theorem dd_M_best_40 : decode prog_7_method_37_code 40 = .ok (.if_icmp .ge 51, 3) := by decide +kernel
theorem dd_M_best_43 : decode prog_7_method_37_code 43 = .ok (.aload_n 0, 1) := by decide +kernel
theorem dd_M_best_44 : decode prog_7_method_37_code 44 = .ok (.iload 4, 2) := by decide +kernel
theorem dd_M_best_46 : decode prog_7_method_37_code 46 = .ok (.invokevirtual 134, 3) := by decide +kernel
theorem dd_M_best_49 : decode prog_7_method_37_code 49 = .ok (.aload_n 0, 1) := by decide +kernel
theorem dd_M_best_50 : decode prog_7_method_37_code 50 = .ok (.iload_n 2, 1) := by decide +kernel
theorem dd_M_best_51 : decode prog_7_method_37_code 51 = .ok (.invokevirtual 134, 3) := by decide +kernel
theorem dd_M_best_54 : decode prog_7_method_37_code 54 = .ok (.if_icmp .gt 23, 3) := by decide +kernel
theorem dd_M_best_57 : decode prog_7_method_37_code 57 = .ok (.aload_n 0, 1) := by decide +kernel
theorem dd_M_best_58 : decode prog_7_method_37_code 58 = .ok (.iload 4, 2) := by decide +kernel
theorem dd_M_best_60 : decode prog_7_method_37_code 60 = .ok (.invokevirtual 134, 3) := by decide +kernel
theorem dd_M_best_63 : decode prog_7_method_37_code 63 = .ok (.aload_n 0, 1) := by decide +kernel
theorem dd_M_best_64 : decode prog_7_method_37_code 64 = .ok (.iload_n 2, 1) := by decide +kernel
theorem dd_M_best_65 : decode prog_7_method_37_code 65 = .ok (.invokevirtual 134, 3) := by decide +kernel
theorem dd_M_best_68 : decode prog_7_method_37_code 68 = .ok (.if_icmp .ne 15, 3) := by decide +kernel
theorem dd_M_best_71 : decode prog_7_method_37_code 71 = .ok (.iload 4, 2) := by decide +kernel
theorem dd_M_best_73 : decode prog_7_method_37_code 73 = .ok (.iload_n 2, 1) := by decide +kernel
theorem dd_M_best_74 : decode prog_7_method_37_code 74 = .ok (.if_icmp .ge 9, 3) := by decide +kernel
theorem dd_M_best_77 : decode prog_7_method_37_code 77 = .ok (.iload_n 3, 1) := by decide +kernel
theorem dd_M_best_78 : decode prog_7_method_37_code 78 = .ok (.iconst 1, 1) := by decide +kernel
theorem dd_M_best_79 : decode prog_7_method_37_code 79 = .ok (.iadd, 1) := by decide +kernel
theorem dd_M_best_80 : decode prog_7_method_37_code 80 = .ok (.goto 4, 3) := by decide +kernel
theorem dd_M_best_83 : decode prog_7_method_37_code 83 = .ok (.iload_n 3, 1) := by decide +kernel
theorem dd_M_best_84 : decode prog_7_method_37_code 84 = .ok (.istore_n 3, 1) := by decide +kernel
theorem dd_M_best_85 : decode prog_7_method_37_code 85 = .ok (.iinc 4 1, 3) := by decide +kernel
theorem dd_M_best_88 : decode prog_7_method_37_code 88 = .ok (.goto (-51), 3) := by decide +kernel
theorem dd_M_best_91 : decode prog_7_method_37_code 91 = .ok (.iload_n 3, 1) := by decide +kernel
theorem dd_M_best_92 : decode prog_7_method_37_code 92 = .ok (.iload_n 1, 1) := by decide +kernel
theorem dd_M_best_93 : decode prog_7_method_37_code 93 = .ok (.if_icmp .ne 5, 3) := by decide +kernel
theorem dd_M_best_96 : decode prog_7_method_37_code 96 = .ok (.iload_n 2, 1) := by decide +kernel
theorem dd_M_best_97 : decode prog_7_method_37_code 97 = .ok (.ireturn, 1) := by decide +kernel
theorem dd_M_best_98 : decode prog_7_method_37_code 98 = .ok (.iinc 2 1, 3) := by decide +kernel
theorem dd_M_best_101 : decode prog_7_method_37_code 101 = .ok (.goto (-81), 3) := by decide +kernel
theorem dd_M_best_104 : decode prog_7_method_37_code 104 = .ok (.iconst 0, 1) := by decide +kernel
theorem dd_M_best_105 : decode prog_7_method_37_code 105 = .ok (.ireturn, 1) := by decide +kernel
theorem dd_M_age_0 : decode prog_7_method_38_code 0 = .ok (.aload_n 0, 1) := by decide +kernel
theorem dd_M_age_1 : decode prog_7_method_38_code 1 = .ok (.iload_n 1, 1) := by decide +kernel
theorem dd_M_age_2 : decode prog_7_method_38_code 2 = .ok (.iconst 0, 1) := by decide +kernel
theorem dd_M_age_3 : decode prog_7_method_38_code 3 = .ok (.bipush 19, 2) := by decide +kernel
theorem dd_M_age_5 : decode prog_7_method_38_code 5 = .ok (.invokestatic 56, 3) := by decide +kernel
theorem dd_M_age_8 : decode prog_7_method_38_code 8 = .ok (.ifCond .ne 7, 3) := by decide +kernel
theorem dd_M_age_11 : decode prog_7_method_38_code 11 = .ok (.iconst 1, 1) := by decide +kernel
theorem dd_M_age_12 : decode prog_7_method_38_code 12 = .ok (.goto 30, 3) := by decide +kernel
theorem dd_M_age_15 : decode prog_7_method_38_code 15 = .ok (.iload_n 2, 1) := by decide +kernel
theorem dd_M_age_16 : decode prog_7_method_38_code 16 = .ok (.iconst 0, 1) := by decide +kernel
theorem dd_M_age_17 : decode prog_7_method_38_code 17 = .ok (.sipush 364, 3) := by decide +kernel
theorem dd_M_age_20 : decode prog_7_method_38_code 20 = .ok (.invokestatic 56, 3) := by decide +kernel
theorem dd_M_age_23 : decode prog_7_method_38_code 23 = .ok (.ifCond .eq 14, 3) := by decide +kernel
theorem dd_M_age_26 : decode prog_7_method_38_code 26 = .ok (.iload_n 3, 1) := by decide +kernel
theorem dd_M_age_27 : decode prog_7_method_38_code 27 = .ok (.iconst 0, 1) := by decide +kernel
theorem dd_M_age_28 : decode prog_7_method_38_code 28 = .ok (.sipush 364, 3) := by decide +kernel
theorem dd_M_age_31 : decode prog_7_method_38_code 31 = .ok (.invokestatic 56, 3) := by decide +kernel
theorem dd_M_age_34 : decode prog_7_method_38_code 34 = .ok (.ifCond .ne 7, 3) := by decide +kernel
theorem dd_M_age_37 : decode prog_7_method_38_code 37 = .ok (.iconst 2, 1) := by decide +kernel
theorem dd_M_age_38 : decode prog_7_method_38_code 38 = .ok (.goto 4, 3) := by decide +kernel
theorem dd_M_age_41 : decode prog_7_method_38_code 41 = .ok (.iconst 0, 1) := by decide +kernel
theorem dd_M_age_42 : decode prog_7_method_38_code 42 = .ok (.putfield 53, 3) := by decide +kernel
theorem dd_M_age_45 : decode prog_7_method_38_code 45 = .ok (.aload_n 0, 1) := by decide +kernel
theorem dd_M_age_46 : decode prog_7_method_38_code 46 = .ok (.getfield 53, 3) := by decide +kernel
theorem dd_M_age_49 : decode prog_7_method_38_code 49 = .ok (.ifCond .le 5, 3) := by decide +kernel
theorem dd_M_age_52 : decode prog_7_method_38_code 52 = .ok (.iconst 0, 1) := by decide +kernel
theorem dd_M_age_53 : decode prog_7_method_38_code 53 = .ok (.ireturn, 1) := by decide +kernel
theorem dd_M_age_54 : decode prog_7_method_38_code 54 = .ok (.aload_n 0, 1) := by decide +kernel
theorem dd_M_age_55 : decode prog_7_method_38_code 55 = .ok (.iload_n 1, 1) := by decide +kernel
theorem dd_M_age_56 : decode prog_7_method_38_code 56 = .ok (.invokevirtual 131, 3) := by decide +kernel
theorem dd_M_age_59 : decode prog_7_method_38_code 59 = .ok (.istore 4, 2) := by decide +kernel
theorem dd_M_age_61 : decode prog_7_method_38_code 61 = .ok (.iload 4, 2) := by decide +kernel
theorem dd_M_age_63 : decode prog_7_method_38_code 63 = .ok (.ifCond .le 15, 3) := by decide +kernel
theorem dd_M_age_66 : decode prog_7_method_38_code 66 = .ok (.iload_n 2, 1) := by decide +kernel
theorem dd_M_age_67 : decode prog_7_method_38_code 67 = .ok (.iload_n 3, 1) := by decide +kernel
theorem dd_M_age_68 : decode prog_7_method_38_code 68 = .ok (.if_icmp .ge 10, 3) := by decide +kernel
theorem dd_M_age_71 : decode prog_7_method_38_code 71 = .ok (.iload 4, 2) := by decide +kernel
theorem dd_M_age_73 : decode prog_7_method_38_code 73 = .ok (.iconst 1, 1) := by decide +kernel
theorem dd_M_age_74 : decode prog_7_method_38_code 74 = .ok (.isub, 1) := by decide +kernel
theorem dd_M_age_75 : decode prog_7_method_38_code 75 = .ok (.goto 5, 3) := by decide +kernel
theorem dd_M_age_78 : decode prog_7_method_38_code 78 = .ok (.iload 4, 2) := by decide +kernel
theorem dd_M_age_80 : decode prog_7_method_38_code 80 = .ok (.ireturn, 1) := by decide +kernel
theorem dd_M_twin_0 : decode prog_7_method_39_code 0 = .ok (.aload_n 0, 1) := by decide +kernel
theorem dd_M_twin_1 : decode prog_7_method_39_code 1 = .ok (.aload_n 0, 1) := by decide +kernel
theorem dd_M_twin_2 : decode prog_7_method_39_code 2 = .ok (.iload_n 1, 1) := by decide +kernel
theorem dd_M_twin_3 : decode prog_7_method_39_code 3 = .ok (.invokevirtual 87, 3) := by decide +kernel
theorem dd_M_twin_6 : decode prog_7_method_39_code 6 = .ok (.ifCond .ne 11, 3) := by decide +kernel
theorem dd_M_twin_9 : decode prog_7_method_39_code 9 = .ok (.aload_n 0, 1) := by decide +kernel
theorem dd_M_twin_10 : decode prog_7_method_39_code 10 = .ok (.iload_n 2, 1) := by decide +kernel
theorem dd_M_twin_11 : decode prog_7_method_39_code 11 = .ok (.invokevirtual 87, 3) := by decide +kernel
theorem dd_M_twin_14 : decode prog_7_method_39_code 14 = .ok (.ifCond .eq 7, 3) := by decide +kernel
theorem dd_M_twin_17 : decode prog_7_method_39_code 17 = .ok (.iconst 1, 1) := by decide +kernel
theorem dd_M_twin_18 : decode prog_7_method_39_code 18 = .ok (.goto 4, 3) := by decide +kernel
theorem dd_M_twin_21 : decode prog_7_method_39_code 21 = .ok (.iconst 0, 1) := by decide +kernel
theorem dd_M_twin_22 : decode prog_7_method_39_code 22 = .ok (.putfield 53, 3) := by decide +kernel
theorem dd_M_twin_25 : decode prog_7_method_39_code 25 = .ok (.aload_n 0, 1) := by decide +kernel
theorem dd_M_twin_26 : decode prog_7_method_39_code 26 = .ok (.getfield 53, 3) := by decide +kernel
theorem dd_M_twin_29 : decode prog_7_method_39_code 29 = .ok (.ifCond .le 5, 3) := by decide +kernel
theorem dd_M_twin_32 : decode prog_7_method_39_code 32 = .ok (.iconst 0, 1) := by decide +kernel
theorem dd_M_twin_33 : decode prog_7_method_39_code 33 = .ok (.ireturn, 1) := by decide +kernel
theorem dd_M_twin_34 : decode prog_7_method_39_code 34 = .ok (.aload_n 0, 1) := by decide +kernel
theorem dd_M_twin_35 : decode prog_7_method_39_code 35 = .ok (.iload_n 2, 1) := by decide +kernel
theorem dd_M_twin_36 : decode prog_7_method_39_code 36 = .ok (.invokevirtual 91, 3) := by decide +kernel
theorem dd_M_twin_39 : decode prog_7_method_39_code 39 = .ok (.aload_n 0, 1) := by decide +kernel
theorem dd_M_twin_40 : decode prog_7_method_39_code 40 = .ok (.getfield 77, 3) := by decide +kernel
theorem dd_M_twin_43 : decode prog_7_method_39_code 43 = .ok (.istore_n 3, 1) := by decide +kernel
theorem dd_M_twin_44 : decode prog_7_method_39_code 44 = .ok (.iconst 0, 1) := by decide +kernel
theorem dd_M_twin_45 : decode prog_7_method_39_code 45 = .ok (.istore 4, 2) := by decide +kernel
theorem dd_M_twin_47 : decode prog_7_method_39_code 47 = .ok (.iload 4, 2) := by decide +kernel
theorem dd_M_twin_49 : decode prog_7_method_39_code 49 = .ok (.iload_n 3, 1) := by decide +kernel
theorem dd_M_twin_50 : decode prog_7_method_39_code 50 = .ok (.if_icmp .ge 23, 3) := by decide +kernel
theorem dd_M_twin_53 : decode prog_7_method_39_code 53 = .ok (.aload_n 0, 1) := by decide +kernel
theorem dd_M_twin_54 : decode prog_7_method_39_code 54 = .ok (.getfield 35, 3) := by decide +kernel
theorem dd_M_twin_57 : decode prog_7_method_39_code 57 = .ok (.iload 4, 2) := by decide +kernel
theorem dd_M_twin_59 : decode prog_7_method_39_code 59 = .ok (.aload_n 0, 1) := by decide +kernel
theorem dd_M_twin_60 : decode prog_7_method_39_code 60 = .ok (.getfield 26, 3) := by decide +kernel
theorem dd_M_twin_63 : decode prog_7_method_39_code 63 = .ok (.iload 4, 2) := by decide +kernel
theorem dd_M_twin_65 : decode prog_7_method_39_code 65 = .ok (.iaload, 1) := by decide +kernel
theorem dd_M_twin_66 : decode prog_7_method_39_code 66 = .ok (.iastore, 1) := by decide +kernel
theorem dd_M_twin_67 : decode prog_7_method_39_code 67 = .ok (.iinc 4 1, 3) := by decide +kernel
theorem dd_M_twin_70 : decode prog_7_method_39_code 70 = .ok (.goto (-23), 3) := by decide +kernel
theorem dd_M_twin_73 : decode prog_7_method_39_code 73 = .ok (.aload_n 0, 1) := by decide +kernel
theorem dd_M_twin_74 : decode prog_7_method_39_code 74 = .ok (.iload_n 1, 1) := by decide +kernel
theorem dd_M_twin_75 : decode prog_7_method_39_code 75 = .ok (.invokevirtual 91, 3) := by decide +kernel
theorem dd_M_twin_78 : decode prog_7_method_39_code 78 = .ok (.aload_n 0, 1) := by decide +kernel
theorem dd_M_twin_79 : decode prog_7_method_39_code 79 = .ok (.getfield 77, 3) := by decide +kernel
theorem dd_M_twin_82 : decode prog_7_method_39_code 82 = .ok (.iload_n 3, 1) := by decide +kernel
theorem dd_M_twin_83 : decode prog_7_method_39_code 83 = .ok (.if_icmp .ne 7, 3) := by decide +kernel
theorem dd_M_twin_86 : decode prog_7_method_39_code 86 = .ok (.iconst 1, 1) := by decide +kernel
theorem dd_M_twin_87 : decode prog_7_method_39_code 87 = .ok (.goto 4, 3) := by decide +kernel
theorem dd_M_twin_90 : decode prog_7_method_39_code 90 = .ok (.iconst 0, 1) := by decide +kernel
theorem dd_M_twin_91 : decode prog_7_method_39_code 91 = .ok (.istore 4, 2) := by decide +kernel
theorem dd_M_twin_93 : decode prog_7_method_39_code 93 = .ok (.iconst 0, 1) := by decide +kernel
theorem dd_M_twin_94 : decode prog_7_method_39_code 94 = .ok (.istore 5, 2) := by decide +kernel
theorem dd_M_twin_96 : decode prog_7_method_39_code 96 = .ok (.iload 5, 2) := by decide +kernel
theorem dd_M_twin_98 : decode prog_7_method_39_code 98 = .ok (.aload_n 0, 1) := by decide +kernel
theorem dd_M_twin_99 : decode prog_7_method_39_code 99 = .ok (.getfield 77, 3) := by decide +kernel
theorem dd_M_twin_102 : decode prog_7_method_39_code 102 = .ok (.if_icmp .ge 38, 3) := by decide +kernel
theorem dd_M_twin_105 : decode prog_7_method_39_code 105 = .ok (.iload 4, 2) := by decide +kernel
theorem dd_M_twin_107 : decode prog_7_method_39_code 107 = .ok (.ifCond .eq 33, 3) := by decide +kernel
theorem dd_M_twin_110 : decode prog_7_method_39_code 110 = .ok (.aload_n 0, 1) := by decide +kernel
theorem dd_M_twin_111 : decode prog_7_method_39_code 111 = .ok (.getfield 26, 3) := by decide +kernel
theorem dd_M_twin_114 : decode prog_7_method_39_code 114 = .ok (.iload 5, 2) := by decide +kernel
theorem dd_M_twin_116 : decode prog_7_method_39_code 116 = .ok (.iaload, 1) := by decide +kernel
theorem dd_M_twin_117 : decode prog_7_method_39_code 117 = .ok (.aload_n 0, 1) := by decide +kernel
theorem dd_M_twin_118 : decode prog_7_method_39_code 118 = .ok (.getfield 35, 3) := by decide +kernel
theorem dd_M_twin_121 : decode prog_7_method_39_code 121 = .ok (.iload 5, 2) := by decide +kernel
theorem dd_M_twin_123 : decode prog_7_method_39_code 123 = .ok (.iaload, 1) := by decide +kernel
theorem dd_M_twin_124 : decode prog_7_method_39_code 124 = .ok (.if_icmp .ne 7, 3) := by decide +kernel
theorem dd_M_twin_127 : decode prog_7_method_39_code 127 = .ok (.iconst 1, 1) := by decide +kernel
theorem dd_M_twin_128 : decode prog_7_method_39_code 128 = .ok (.goto 4, 3) := by decide +kernel
theorem dd_M_twin_131 : decode prog_7_method_39_code 131 = .ok (.iconst 0, 1) := by decide +kernel
theorem dd_M_twin_132 : decode prog_7_method_39_code 132 = .ok (.istore 4, 2) := by decide +kernel
theorem dd_M_twin_134 : decode prog_7_method_39_code 134 = .ok (.iinc 5 1, 3) := by decide +kernel
theorem dd_M_twin_137 : decode prog_7_method_39_code 137 = .ok (.goto (-41), 3) := by decide +kernel
theorem dd_M_twin_140 : decode prog_7_method_39_code 140 = .ok (.iload 4, 2) := by decide +kernel
theorem dd_M_twin_142 : decode prog_7_method_39_code 142 = .ok (.ireturn, 1) := by decide +kernel
theorem dd_M_count_0 : decode prog_7_method_40_code 0 = .ok (.aload_n 0, 1) := by decide +kernel
theorem dd_M_count_1 : decode prog_7_method_40_code 1 = .ok (.iconst 0, 1) := by decide +kernel
theorem dd_M_count_2 : decode prog_7_method_40_code 2 = .ok (.putfield 53, 3) := by decide +kernel
theorem dd_M_count_5 : decode prog_7_method_40_code 5 = .ok (.iconst 0, 1) := by decide +kernel
theorem dd_M_count_6 : decode prog_7_method_40_code 6 = .ok (.istore_n 2, 1) := by decide +kernel
theorem dd_M_count_7 : decode prog_7_method_40_code 7 = .ok (.iconst 0, 1) := by decide +kernel
theorem dd_M_count_8 : decode prog_7_method_40_code 8 = .ok (.istore_n 3, 1) := by decide +kernel
theorem dd_M_count_9 : decode prog_7_method_40_code 9 = .ok (.iconst 0, 1) := by decide +kernel
theorem dd_M_count_10 : decode prog_7_method_40_code 10 = .ok (.istore 4, 2) := by decide +kernel
theorem dd_M_count_12 : decode prog_7_method_40_code 12 = .ok (.iload 4, 2) := by decide +kernel
theorem dd_M_count_14 : decode prog_7_method_40_code 14 = .ok (.bipush 20, 2) := by decide +kernel
theorem dd_M_count_16 : decode prog_7_method_40_code 16 = .ok (.if_icmp .ge 66, 3) := by decide +kernel
theorem dd_M_count_19 : decode prog_7_method_40_code 19 = .ok (.aload_n 0, 1) := by decide +kernel
theorem dd_M_count_20 : decode prog_7_method_40_code 20 = .ok (.iload 4, 2) := by decide +kernel
theorem dd_M_count_22 : decode prog_7_method_40_code 22 = .ok (.invokevirtual 131, 3) := by decide +kernel
theorem dd_M_count_25 : decode prog_7_method_40_code 25 = .ok (.iconst (-1), 1) := by decide +kernel
theorem dd_M_count_26 : decode prog_7_method_40_code 26 = .ok (.if_icmp .eq 9, 3) := by decide +kernel
theorem dd_M_count_29 : decode prog_7_method_40_code 29 = .ok (.iload_n 2, 1) := by decide +kernel
theorem dd_M_count_30 : decode prog_7_method_40_code 30 = .ok (.iconst 1, 1) := by decide +kernel
theorem dd_M_count_31 : decode prog_7_method_40_code 31 = .ok (.iadd, 1) := by decide +kernel
theorem dd_M_count_32 : decode prog_7_method_40_code 32 = .ok (.goto 4, 3) := by decide +kernel
theorem dd_M_count_35 : decode prog_7_method_40_code 35 = .ok (.iload_n 2, 1) := by decide +kernel
theorem dd_M_count_36 : decode prog_7_method_40_code 36 = .ok (.istore_n 2, 1) := by decide +kernel
theorem dd_M_count_37 : decode prog_7_method_40_code 37 = .ok (.iconst 0, 1) := by decide +kernel
theorem dd_M_count_38 : decode prog_7_method_40_code 38 = .ok (.istore 5, 2) := by decide +kernel
theorem dd_M_count_40 : decode prog_7_method_40_code 40 = .ok (.iload 5, 2) := by decide +kernel
theorem dd_M_count_42 : decode prog_7_method_40_code 42 = .ok (.iconst 4, 1) := by decide +kernel
theorem dd_M_count_43 : decode prog_7_method_40_code 43 = .ok (.if_icmp .ge 33, 3) := by decide +kernel
theorem dd_M_count_46 : decode prog_7_method_40_code 46 = .ok (.aload_n 0, 1) := by decide +kernel
theorem dd_M_count_47 : decode prog_7_method_40_code 47 = .ok (.getfield 44, 3) := by decide +kernel
theorem dd_M_count_50 : decode prog_7_method_40_code 50 = .ok (.bipush 20, 2) := by decide +kernel
theorem dd_M_count_52 : decode prog_7_method_40_code 52 = .ok (.iload 5, 2) := by decide +kernel
theorem dd_M_count_54 : decode prog_7_method_40_code 54 = .ok (.imul, 1) := by decide +kernel
theorem dd_M_count_55 : decode prog_7_method_40_code 55 = .ok (.iload 4, 2) := by decide +kernel
theorem dd_M_count_57 : decode prog_7_method_40_code 57 = .ok (.iadd, 1) := by decide +kernel
theorem dd_M_count_58 : decode prog_7_method_40_code 58 = .ok (.iaload, 1) := by decide +kernel
theorem dd_M_count_59 : decode prog_7_method_40_code 59 = .ok (.ifCond .le 9, 3) := by decide +kernel
theorem dd_M_count_62 : decode prog_7_method_40_code 62 = .ok (.iload_n 3, 1) := by decide +kernel
theorem dd_M_count_63 : decode prog_7_method_40_code 63 = .ok (.iconst 1, 1) := by decide +kernel
theorem dd_M_count_64 : decode prog_7_method_40_code 64 = .ok (.iadd, 1) := by decide +kernel
theorem dd_M_count_65 : decode prog_7_method_40_code 65 = .ok (.goto 4, 3) := by decide +kernel
theorem dd_M_count_68 : decode prog_7_method_40_code 68 = .ok (.iload_n 3, 1) := by decide +kernel
theorem dd_M_count_69 : decode prog_7_method_40_code 69 = .ok (.istore_n 3, 1) := by decide +kernel
theorem dd_M_count_70 : decode prog_7_method_40_code 70 = .ok (.iinc 5 1, 3) := by decide +kernel
theorem dd_M_count_73 : decode prog_7_method_40_code 73 = .ok (.goto (-33), 3) := by decide +kernel
theorem dd_M_count_76 : decode prog_7_method_40_code 76 = .ok (.iinc 4 1, 3) := by decide +kernel
theorem dd_M_count_79 : decode prog_7_method_40_code 79 = .ok (.goto (-67), 3) := by decide +kernel
theorem dd_M_count_82 : decode prog_7_method_40_code 82 = .ok (.iload_n 1, 1) := by decide +kernel
theorem dd_M_count_83 : decode prog_7_method_40_code 83 = .ok (.tableswitch 44 0 3 #[29, 34, 36, 38], 29) := by decide +kernel
theorem dd_M_count_112 : decode prog_7_method_40_code 112 = .ok (.aload_n 0, 1) := by decide +kernel
theorem dd_M_count_113 : decode prog_7_method_40_code 113 = .ok (.getfield 71, 3) := by decide +kernel
theorem dd_M_count_116 : decode prog_7_method_40_code 116 = .ok (.ireturn, 1) := by decide +kernel
theorem dd_M_count_117 : decode prog_7_method_40_code 117 = .ok (.iload_n 2, 1) := by decide +kernel
theorem dd_M_count_118 : decode prog_7_method_40_code 118 = .ok (.ireturn, 1) := by decide +kernel
theorem dd_M_count_119 : decode prog_7_method_40_code 119 = .ok (.iload_n 3, 1) := by decide +kernel
theorem dd_M_count_120 : decode prog_7_method_40_code 120 = .ok (.ireturn, 1) := by decide +kernel
theorem dd_M_count_121 : decode prog_7_method_40_code 121 = .ok (.aload_n 0, 1) := by decide +kernel
theorem dd_M_count_122 : decode prog_7_method_40_code 122 = .ok (.iconst 2, 1) := by decide +kernel
theorem dd_M_count_123 : decode prog_7_method_40_code 123 = .ok (.invokevirtual 64, 3) := by decide +kernel
theorem dd_M_count_126 : decode prog_7_method_40_code 126 = .ok (.ireturn, 1) := by decide +kernel
theorem dd_M_count_127 : decode prog_7_method_40_code 127 = .ok (.iconst (-1), 1) := by decide +kernel
theorem dd_M_count_128 : decode prog_7_method_40_code 128 = .ok (.ireturn, 1) := by decide +kernel
