section
theorem dd_D_of_0 : decode prog_4_method_2_code 0 = .ok (.aload_n 0, 1) := by decide +kernel
theorem dd_D_of_1 : decode prog_4_method_2_code 1 = .ok (.getfield 9, 3) := by decide +kernel
theorem dd_D_of_4 : decode prog_4_method_2_code 4 = .ok (.iload_n 1, 1) := by decide +kernel
theorem dd_D_of_5 : decode prog_4_method_2_code 5 = .ok (.bipush 20, 2) := by decide +kernel
theorem dd_D_of_7 : decode prog_4_method_2_code 7 = .ok (.imul, 1) := by decide +kernel
theorem dd_D_of_8 : decode prog_4_method_2_code 8 = .ok (.iload_n 2, 1) := by decide +kernel
theorem dd_D_of_9 : decode prog_4_method_2_code 9 = .ok (.iadd, 1) := by decide +kernel
theorem dd_D_of_10 : decode prog_4_method_2_code 10 = .ok (.iaload, 1) := by decide +kernel
theorem dd_D_of_11 : decode prog_4_method_2_code 11 = .ok (.ireturn, 1) := by decide +kernel
theorem dd_D_votesFor_0 : decode prog_4_method_10_code 0 = .ok (.iconst 0, 1) := by decide +kernel
theorem dd_D_votesFor_1 : decode prog_4_method_10_code 1 = .ok (.istore_n 3, 1) := by decide +kernel
theorem dd_D_votesFor_2 : decode prog_4_method_10_code 2 = .ok (.iconst 0, 1) := by decide +kernel
theorem dd_D_votesFor_3 : decode prog_4_method_10_code 3 = .ok (.istore 4, 2) := by decide +kernel
theorem dd_D_votesFor_5 : decode prog_4_method_10_code 5 = .ok (.iload 4, 2) := by decide +kernel
theorem dd_D_votesFor_7 : decode prog_4_method_10_code 7 = .ok (.iconst 4, 1) := by decide +kernel
theorem dd_D_votesFor_8 : decode prog_4_method_10_code 8 = .ok (.if_icmp .ge 23, 3) := by decide +kernel
theorem dd_D_votesFor_11 : decode prog_4_method_10_code 11 = .ok (.aload_n 0, 1) := by decide +kernel
theorem dd_D_votesFor_12 : decode prog_4_method_10_code 12 = .ok (.iload 4, 2) := by decide +kernel
theorem dd_D_votesFor_14 : decode prog_4_method_10_code 14 = .ok (.iload_n 1, 1) := by decide +kernel
theorem dd_D_votesFor_15 : decode prog_4_method_10_code 15 = .ok (.invokevirtual 28, 3) := by decide +kernel
theorem dd_D_votesFor_18 : decode prog_4_method_10_code 18 = .ok (.iload_n 2, 1) := by decide +kernel
theorem dd_D_votesFor_19 : decode prog_4_method_10_code 19 = .ok (.if_icmp .ne 6, 3) := by decide +kernel
theorem dd_D_votesFor_22 : decode prog_4_method_10_code 22 = .ok (.iinc 3 1, 3) := by decide +kernel
theorem dd_D_votesFor_25 : decode prog_4_method_10_code 25 = .ok (.iinc 4 1, 3) := by decide +kernel
theorem dd_D_votesFor_28 : decode prog_4_method_10_code 28 = .ok (.goto (-23), 3) := by decide +kernel
theorem dd_D_votesFor_31 : decode prog_4_method_10_code 31 = .ok (.iload_n 3, 1) := by decide +kernel
theorem dd_D_votesFor_32 : decode prog_4_method_10_code 32 = .ok (.ireturn, 1) := by decide +kernel
theorem dd_D_mostTold_0 : decode prog_4_method_9_code 0 = .ok (.iconst (-1), 1) := by decide +kernel
theorem dd_D_mostTold_1 : decode prog_4_method_9_code 1 = .ok (.istore_n 2, 1) := by decide +kernel
theorem dd_D_mostTold_2 : decode prog_4_method_9_code 2 = .ok (.iconst 0, 1) := by decide +kernel
theorem dd_D_mostTold_3 : decode prog_4_method_9_code 3 = .ok (.istore_n 3, 1) := by decide +kernel
theorem dd_D_mostTold_4 : decode prog_4_method_9_code 4 = .ok (.iconst 0, 1) := by decide +kernel
theorem dd_D_mostTold_5 : decode prog_4_method_9_code 5 = .ok (.istore 4, 2) := by decide +kernel
theorem dd_D_mostTold_7 : decode prog_4_method_9_code 7 = .ok (.iload 4, 2) := by decide +kernel
theorem dd_D_mostTold_9 : decode prog_4_method_9_code 9 = .ok (.iconst 4, 1) := by decide +kernel
theorem dd_D_mostTold_10 : decode prog_4_method_9_code 10 = .ok (.if_icmp .ge 66, 3) := by decide +kernel
theorem dd_D_mostTold_13 : decode prog_4_method_9_code 13 = .ok (.aload_n 0, 1) := by decide +kernel
theorem dd_D_mostTold_14 : decode prog_4_method_9_code 14 = .ok (.iload 4, 2) := by decide +kernel
theorem dd_D_mostTold_16 : decode prog_4_method_9_code 16 = .ok (.iload_n 1, 1) := by decide +kernel
theorem dd_D_mostTold_17 : decode prog_4_method_9_code 17 = .ok (.invokevirtual 28, 3) := by decide +kernel
theorem dd_D_mostTold_20 : decode prog_4_method_9_code 20 = .ok (.istore 5, 2) := by decide +kernel
theorem dd_D_mostTold_22 : decode prog_4_method_9_code 22 = .ok (.iload 5, 2) := by decide +kernel
theorem dd_D_mostTold_24 : decode prog_4_method_9_code 24 = .ok (.iconst (-1), 1) := by decide +kernel
theorem dd_D_mostTold_25 : decode prog_4_method_9_code 25 = .ok (.if_icmp .ne 7, 3) := by decide +kernel
theorem dd_D_mostTold_28 : decode prog_4_method_9_code 28 = .ok (.iconst 0, 1) := by decide +kernel
theorem dd_D_mostTold_29 : decode prog_4_method_9_code 29 = .ok (.goto 10, 3) := by decide +kernel
theorem dd_D_mostTold_32 : decode prog_4_method_9_code 32 = .ok (.aload_n 0, 1) := by decide +kernel
theorem dd_D_mostTold_33 : decode prog_4_method_9_code 33 = .ok (.iload_n 1, 1) := by decide +kernel
theorem dd_D_mostTold_34 : decode prog_4_method_9_code 34 = .ok (.iload 5, 2) := by decide +kernel
theorem dd_D_mostTold_36 : decode prog_4_method_9_code 36 = .ok (.invokevirtual 40, 3) := by decide +kernel
theorem dd_D_mostTold_39 : decode prog_4_method_9_code 39 = .ok (.istore 6, 2) := by decide +kernel
theorem dd_D_mostTold_41 : decode prog_4_method_9_code 41 = .ok (.iload 6, 2) := by decide +kernel
theorem dd_D_mostTold_43 : decode prog_4_method_9_code 43 = .ok (.iload_n 3, 1) := by decide +kernel
theorem dd_D_mostTold_44 : decode prog_4_method_9_code 44 = .ok (.if_icmp .gt 20, 3) := by decide +kernel
theorem dd_D_mostTold_47 : decode prog_4_method_9_code 47 = .ok (.iload 6, 2) := by decide +kernel
theorem dd_D_mostTold_49 : decode prog_4_method_9_code 49 = .ok (.ifCond .le 21, 3) := by decide +kernel
theorem dd_D_mostTold_52 : decode prog_4_method_9_code 52 = .ok (.iload 6, 2) := by decide +kernel
theorem dd_D_mostTold_54 : decode prog_4_method_9_code 54 = .ok (.iload_n 3, 1) := by decide +kernel
theorem dd_D_mostTold_55 : decode prog_4_method_9_code 55 = .ok (.if_icmp .ne 15, 3) := by decide +kernel
theorem dd_D_mostTold_58 : decode prog_4_method_9_code 58 = .ok (.iload 5, 2) := by decide +kernel
theorem dd_D_mostTold_60 : decode prog_4_method_9_code 60 = .ok (.iload_n 2, 1) := by decide +kernel
theorem dd_D_mostTold_61 : decode prog_4_method_9_code 61 = .ok (.if_icmp .ge 9, 3) := by decide +kernel
theorem dd_D_mostTold_64 : decode prog_4_method_9_code 64 = .ok (.iload 5, 2) := by decide +kernel
theorem dd_D_mostTold_66 : decode prog_4_method_9_code 66 = .ok (.istore_n 2, 1) := by decide +kernel
theorem dd_D_mostTold_67 : decode prog_4_method_9_code 67 = .ok (.iload 6, 2) := by decide +kernel
theorem dd_D_mostTold_69 : decode prog_4_method_9_code 69 = .ok (.istore_n 3, 1) := by decide +kernel
theorem dd_D_mostTold_70 : decode prog_4_method_9_code 70 = .ok (.iinc 4 1, 3) := by decide +kernel
theorem dd_D_mostTold_73 : decode prog_4_method_9_code 73 = .ok (.goto (-66), 3) := by decide +kernel
theorem dd_D_mostTold_76 : decode prog_4_method_9_code 76 = .ok (.iload_n 2, 1) := by decide +kernel
theorem dd_D_mostTold_77 : decode prog_4_method_9_code 77 = .ok (.ireturn, 1) := by decide +kernel
theorem dd_D_stonesWithCounts_0 : decode prog_4_method_14_code 0 = .ok (.iconst 0, 1) := by decide +kernel
theorem dd_D_stonesWithCounts_1 : decode prog_4_method_14_code 1 = .ok (.istore_n 1, 1) := by decide +kernel
theorem dd_D_stonesWithCounts_2 : decode prog_4_method_14_code 2 = .ok (.iconst 0, 1) := by decide +kernel
theorem dd_D_stonesWithCounts_3 : decode prog_4_method_14_code 3 = .ok (.istore_n 2, 1) := by decide +kernel
theorem dd_D_stonesWithCounts_4 : decode prog_4_method_14_code 4 = .ok (.iload_n 2, 1) := by decide +kernel
theorem dd_D_stonesWithCounts_5 : decode prog_4_method_14_code 5 = .ok (.bipush 20, 2) := by decide +kernel
theorem dd_D_stonesWithCounts_7 : decode prog_4_method_14_code 7 = .ok (.if_icmp .ge 21, 3) := by decide +kernel
theorem dd_D_stonesWithCounts_10 : decode prog_4_method_14_code 10 = .ok (.aload_n 0, 1) := by decide +kernel
theorem dd_D_stonesWithCounts_11 : decode prog_4_method_14_code 11 = .ok (.iload_n 2, 1) := by decide +kernel
theorem dd_D_stonesWithCounts_12 : decode prog_4_method_14_code 12 = .ok (.invokevirtual 43, 3) := by decide +kernel
theorem dd_D_stonesWithCounts_15 : decode prog_4_method_14_code 15 = .ok (.iconst (-1), 1) := by decide +kernel
theorem dd_D_stonesWithCounts_16 : decode prog_4_method_14_code 16 = .ok (.if_icmp .eq 6, 3) := by decide +kernel
theorem dd_D_stonesWithCounts_19 : decode prog_4_method_14_code 19 = .ok (.iinc 1 1, 3) := by decide +kernel
theorem dd_D_stonesWithCounts_22 : decode prog_4_method_14_code 22 = .ok (.iinc 2 1, 3) := by decide +kernel
theorem dd_D_stonesWithCounts_25 : decode prog_4_method_14_code 25 = .ok (.goto (-21), 3) := by decide +kernel
theorem dd_D_stonesWithCounts_28 : decode prog_4_method_14_code 28 = .ok (.iload_n 1, 1) := by decide +kernel
theorem dd_D_stonesWithCounts_29 : decode prog_4_method_14_code 29 = .ok (.ireturn, 1) := by decide +kernel
theorem dd_S_count_0 : decode prog_1_method_23_code 0 = .ok (.iload_n 1, 1) := by decide +kernel
theorem dd_S_count_1 : decode prog_1_method_23_code 1 = .ok (.tableswitch 60 0 3 #[31, 36, 44, 52], 31) := by decide +kernel
theorem dd_S_count_32 : decode prog_1_method_23_code 32 = .ok (.aload_n 0, 1) := by decide +kernel
theorem dd_S_count_33 : decode prog_1_method_23_code 33 = .ok (.getfield 40, 3) := by decide +kernel
theorem dd_S_count_36 : decode prog_1_method_23_code 36 = .ok (.ireturn, 1) := by decide +kernel
theorem dd_S_count_37 : decode prog_1_method_23_code 37 = .ok (.aload_n 0, 1) := by decide +kernel
theorem dd_S_count_38 : decode prog_1_method_23_code 38 = .ok (.getfield 36, 3) := by decide +kernel
theorem dd_S_count_41 : decode prog_1_method_23_code 41 = .ok (.invokevirtual 195, 3) := by decide +kernel
theorem dd_S_count_44 : decode prog_1_method_23_code 44 = .ok (.ireturn, 1) := by decide +kernel
theorem dd_S_count_45 : decode prog_1_method_23_code 45 = .ok (.aload_n 0, 1) := by decide +kernel
theorem dd_S_count_46 : decode prog_1_method_23_code 46 = .ok (.getfield 36, 3) := by decide +kernel
theorem dd_S_count_49 : decode prog_1_method_23_code 49 = .ok (.getfield 198, 3) := by decide +kernel
theorem dd_S_count_52 : decode prog_1_method_23_code 52 = .ok (.ireturn, 1) := by decide +kernel
theorem dd_S_count_53 : decode prog_1_method_23_code 53 = .ok (.aload_n 0, 1) := by decide +kernel
theorem dd_S_count_54 : decode prog_1_method_23_code 54 = .ok (.getfield 59, 3) := by decide +kernel
theorem dd_S_count_57 : decode prog_1_method_23_code 57 = .ok (.getfield 199, 3) := by decide +kernel
theorem dd_S_count_60 : decode prog_1_method_23_code 60 = .ok (.ireturn, 1) := by decide +kernel
theorem dd_S_count_61 : decode prog_1_method_23_code 61 = .ok (.iconst (-1), 1) := by decide +kernel
theorem dd_S_count_62 : decode prog_1_method_23_code 62 = .ok (.ireturn, 1) := by decide +kernel
theorem dd_P_holds_0 : decode prog_3_method_2_code 0 = .ok (.iload_n 1, 1) := by decide +kernel
theorem dd_P_holds_1 : decode prog_3_method_2_code 1 = .ok (.ifCond .lt 27, 3) := by decide +kernel
theorem dd_P_holds_4 : decode prog_3_method_2_code 4 = .ok (.iload_n 1, 1) := by decide +kernel
theorem dd_P_holds_5 : decode prog_3_method_2_code 5 = .ok (.aload_n 0, 1) := by decide +kernel
theorem dd_P_holds_6 : decode prog_3_method_2_code 6 = .ok (.getfield 21, 3) := by decide +kernel
theorem dd_P_holds_9 : decode prog_3_method_2_code 9 = .ok (.if_icmp .ge 19, 3) := by decide +kernel
theorem dd_P_holds_12 : decode prog_3_method_2_code 12 = .ok (.iload_n 2, 1) := by decide +kernel
theorem dd_P_holds_13 : decode prog_3_method_2_code 13 = .ok (.ifCond .lt 15, 3) := by decide +kernel
theorem dd_P_holds_16 : decode prog_3_method_2_code 16 = .ok (.iload_n 2, 1) := by decide +kernel
theorem dd_P_holds_17 : decode prog_3_method_2_code 17 = .ok (.aload_n 0, 1) := by decide +kernel
theorem dd_P_holds_18 : decode prog_3_method_2_code 18 = .ok (.getfield 24, 3) := by decide +kernel
theorem dd_P_holds_21 : decode prog_3_method_2_code 21 = .ok (.if_icmp .ge 7, 3) := by decide +kernel
theorem dd_P_holds_24 : decode prog_3_method_2_code 24 = .ok (.iconst 1, 1) := by decide +kernel
theorem dd_P_holds_25 : decode prog_3_method_2_code 25 = .ok (.goto 4, 3) := by decide +kernel
theorem dd_P_holds_28 : decode prog_3_method_2_code 28 = .ok (.iconst 0, 1) := by decide +kernel
theorem dd_P_holds_29 : decode prog_3_method_2_code 29 = .ok (.ireturn, 1) := by decide +kernel
theorem dd_S_needNumber_0 : decode prog_1_method_26_code 0 = .ok (.iload_n 0, 1) := by decide +kernel
theorem dd_S_needNumber_1 : decode prog_1_method_26_code 1 = .ok (.iload_n 1, 1) := by decide +kernel
theorem dd_S_needNumber_2 : decode prog_1_method_26_code 2 = .ok (.if_icmp .lt 8, 3) := by decide +kernel
theorem dd_S_needNumber_5 : decode prog_1_method_26_code 5 = .ok (.iload_n 0, 1) := by decide +kernel
theorem dd_S_needNumber_6 : decode prog_1_method_26_code 6 = .ok (.iload_n 2, 1) := by decide +kernel
theorem dd_S_needNumber_7 : decode prog_1_method_26_code 7 = .ok (.if_icmp .le 13, 3) := by decide +kernel
theorem dd_S_needNumber_10 : decode prog_1_method_26_code 10 = .ok (.new 92, 3) := by decide +kernel
theorem dd_S_needNumber_13 : decode prog_1_method_26_code 13 = .ok (.dup, 1) := by decide +kernel
theorem dd_S_needNumber_14 : decode prog_1_method_26_code 14 = .ok (.ldc 214, 2) := by decide +kernel
theorem dd_S_needNumber_16 : decode prog_1_method_26_code 16 = .ok (.invokespecial 96, 3) := by decide +kernel
theorem dd_S_needNumber_19 : decode prog_1_method_26_code 19 = .ok (.athrow, 1) := by decide +kernel
theorem dd_S_needNumber_20 : decode prog_1_method_26_code 20 = .ok (.return_, 1) := by decide +kernel
theorem dd_P_at_0 : decode prog_3_method_3_code 0 = .ok (.aload_n 0, 1) := by decide +kernel
theorem dd_P_at_1 : decode prog_3_method_3_code 1 = .ok (.iload_n 1, 1) := by decide +kernel
theorem dd_P_at_2 : decode prog_3_method_3_code 2 = .ok (.iload_n 2, 1) := by decide +kernel
theorem dd_P_at_3 : decode prog_3_method_3_code 3 = .ok (.invokevirtual 31, 3) := by decide +kernel
theorem dd_P_at_6 : decode prog_3_method_3_code 6 = .ok (.ifCond .eq 17, 3) := by decide +kernel
theorem dd_P_at_9 : decode prog_3_method_3_code 9 = .ok (.aload_n 0, 1) := by decide +kernel
theorem dd_P_at_10 : decode prog_3_method_3_code 10 = .ok (.getfield 27, 3) := by decide +kernel
theorem dd_P_at_13 : decode prog_3_method_3_code 13 = .ok (.iload_n 2, 1) := by decide +kernel
theorem dd_P_at_14 : decode prog_3_method_3_code 14 = .ok (.bipush 16, 2) := by decide +kernel
theorem dd_P_at_16 : decode prog_3_method_3_code 16 = .ok (.imul, 1) := by decide +kernel
theorem dd_P_at_17 : decode prog_3_method_3_code 17 = .ok (.iload_n 1, 1) := by decide +kernel
theorem dd_P_at_18 : decode prog_3_method_3_code 18 = .ok (.iadd, 1) := by decide +kernel
theorem dd_P_at_19 : decode prog_3_method_3_code 19 = .ok (.iaload, 1) := by decide +kernel
theorem dd_P_at_20 : decode prog_3_method_3_code 20 = .ok (.goto 4, 3) := by decide +kernel
theorem dd_P_at_23 : decode prog_3_method_3_code 23 = .ok (.iconst 0, 1) := by decide +kernel
theorem dd_P_at_24 : decode prog_3_method_3_code 24 = .ok (.ireturn, 1) := by decide +kernel
theorem dd_P_put_0 : decode prog_3_method_4_code 0 = .ok (.iload_n 3, 1) := by decide +kernel
theorem dd_P_put_1 : decode prog_3_method_4_code 1 = .ok (.aload_n 0, 1) := by decide +kernel
theorem dd_P_put_2 : decode prog_3_method_4_code 2 = .ok (.iload_n 1, 1) := by decide +kernel
theorem dd_P_put_3 : decode prog_3_method_4_code 3 = .ok (.iload_n 2, 1) := by decide +kernel
theorem dd_P_put_4 : decode prog_3_method_4_code 4 = .ok (.invokevirtual 35, 3) := by decide +kernel
theorem dd_P_put_7 : decode prog_3_method_4_code 7 = .ok (.isub, 1) := by decide +kernel
theorem dd_P_put_8 : decode prog_3_method_4_code 8 = .ok (.istore 4, 2) := by decide +kernel
theorem dd_P_put_10 : decode prog_3_method_4_code 10 = .ok (.iload 4, 2) := by decide +kernel
theorem dd_P_put_12 : decode prog_3_method_4_code 12 = .ok (.ifCond .eq 12, 3) := by decide +kernel
theorem dd_P_put_15 : decode prog_3_method_4_code 15 = .ok (.aload_n 0, 1) := by decide +kernel
theorem dd_P_put_16 : decode prog_3_method_4_code 16 = .ok (.iload_n 1, 1) := by decide +kernel
theorem dd_P_put_17 : decode prog_3_method_4_code 17 = .ok (.iload_n 2, 1) := by decide +kernel
theorem dd_P_put_18 : decode prog_3_method_4_code 18 = .ok (.invokevirtual 31, 3) := by decide +kernel
theorem dd_P_put_21 : decode prog_3_method_4_code 21 = .ok (.ifCond .ne 5, 3) := by decide +kernel
theorem dd_P_put_24 : decode prog_3_method_4_code 24 = .ok (.iconst 0, 1) := by decide +kernel
theorem dd_P_put_25 : decode prog_3_method_4_code 25 = .ok (.ireturn, 1) := by decide +kernel
theorem dd_P_put_26 : decode prog_3_method_4_code 26 = .ok (.aload_n 0, 1) := by decide +kernel
theorem dd_P_put_27 : decode prog_3_method_4_code 27 = .ok (.getfield 27, 3) := by decide +kernel
theorem dd_P_put_30 : decode prog_3_method_4_code 30 = .ok (.iload_n 2, 1) := by decide +kernel
theorem dd_P_put_31 : decode prog_3_method_4_code 31 = .ok (.bipush 16, 2) := by decide +kernel
theorem dd_P_put_33 : decode prog_3_method_4_code 33 = .ok (.imul, 1) := by decide +kernel
theorem dd_P_put_34 : decode prog_3_method_4_code 34 = .ok (.iload_n 1, 1) := by decide +kernel
theorem dd_P_put_35 : decode prog_3_method_4_code 35 = .ok (.iadd, 1) := by decide +kernel
theorem dd_P_put_36 : decode prog_3_method_4_code 36 = .ok (.iload_n 3, 1) := by decide +kernel
theorem dd_P_put_37 : decode prog_3_method_4_code 37 = .ok (.iastore, 1) := by decide +kernel
theorem dd_P_put_38 : decode prog_3_method_4_code 38 = .ok (.aload_n 0, 1) := by decide +kernel
theorem dd_P_put_39 : decode prog_3_method_4_code 39 = .ok (.dup, 1) := by decide +kernel
theorem dd_P_put_40 : decode prog_3_method_4_code 40 = .ok (.getfield 9, 3) := by decide +kernel
theorem dd_P_put_43 : decode prog_3_method_4_code 43 = .ok (.iload 4, 2) := by decide +kernel
theorem dd_P_put_45 : decode prog_3_method_4_code 45 = .ok (.iadd, 1) := by decide +kernel
theorem dd_P_put_46 : decode prog_3_method_4_code 46 = .ok (.putfield 9, 3) := by decide +kernel
theorem dd_P_put_49 : decode prog_3_method_4_code 49 = .ok (.aload_n 0, 1) := by decide +kernel
theorem dd_P_put_50 : decode prog_3_method_4_code 50 = .ok (.dup, 1) := by decide +kernel
theorem dd_P_put_51 : decode prog_3_method_4_code 51 = .ok (.getfield 15, 3) := by decide +kernel
theorem dd_P_put_54 : decode prog_3_method_4_code 54 = .ok (.iload_n 1, 1) := by decide +kernel
theorem dd_P_put_55 : decode prog_3_method_4_code 55 = .ok (.iload 4, 2) := by decide +kernel
theorem dd_P_put_57 : decode prog_3_method_4_code 57 = .ok (.imul, 1) := by decide +kernel
theorem dd_P_put_58 : decode prog_3_method_4_code 58 = .ok (.iadd, 1) := by decide +kernel
theorem dd_P_put_59 : decode prog_3_method_4_code 59 = .ok (.putfield 15, 3) := by decide +kernel
theorem dd_P_put_62 : decode prog_3_method_4_code 62 = .ok (.aload_n 0, 1) := by decide +kernel
theorem dd_P_put_63 : decode prog_3_method_4_code 63 = .ok (.dup, 1) := by decide +kernel
theorem dd_P_put_64 : decode prog_3_method_4_code 64 = .ok (.getfield 18, 3) := by decide +kernel
theorem dd_P_put_67 : decode prog_3_method_4_code 67 = .ok (.iload_n 2, 1) := by decide +kernel
theorem dd_P_put_68 : decode prog_3_method_4_code 68 = .ok (.iload 4, 2) := by decide +kernel
theorem dd_P_put_70 : decode prog_3_method_4_code 70 = .ok (.imul, 1) := by decide +kernel
theorem dd_P_put_71 : decode prog_3_method_4_code 71 = .ok (.iadd, 1) := by decide +kernel
theorem dd_P_put_72 : decode prog_3_method_4_code 72 = .ok (.putfield 18, 3) := by decide +kernel
theorem dd_P_put_75 : decode prog_3_method_4_code 75 = .ok (.iconst 1, 1) := by decide +kernel
theorem dd_P_put_76 : decode prog_3_method_4_code 76 = .ok (.ireturn, 1) := by decide +kernel
theorem dd_S_pixel_0 : decode prog_1_method_2_code 0 = .ok (.aload_n 0, 1) := by decide +kernel
theorem dd_S_pixel_1 : decode prog_1_method_2_code 1 = .ok (.getfield 59, 3) := by decide +kernel
theorem dd_S_pixel_4 : decode prog_1_method_2_code 4 = .ok (.iload_n 1, 1) := by decide +kernel
theorem dd_S_pixel_5 : decode prog_1_method_2_code 5 = .ok (.iload_n 2, 1) := by decide +kernel
theorem dd_S_pixel_6 : decode prog_1_method_2_code 6 = .ok (.invokevirtual 63, 3) := by decide +kernel
theorem dd_S_pixel_9 : decode prog_1_method_2_code 9 = .ok (.ifCond .ne 13, 3) := by decide +kernel
theorem dd_S_pixel_12 : decode prog_1_method_2_code 12 = .ok (.new 67, 3) := by decide +kernel
theorem dd_S_pixel_15 : decode prog_1_method_2_code 15 = .ok (.dup, 1) := by decide +kernel
theorem dd_S_pixel_16 : decode prog_1_method_2_code 16 = .ok (.ldc 69, 2) := by decide +kernel
theorem dd_S_pixel_18 : decode prog_1_method_2_code 18 = .ok (.invokespecial 71, 3) := by decide +kernel
theorem dd_S_pixel_21 : decode prog_1_method_2_code 21 = .ok (.athrow, 1) := by decide +kernel
theorem dd_S_pixel_22 : decode prog_1_method_2_code 22 = .ok (.iload_n 3, 1) := by decide +kernel
theorem dd_S_pixel_23 : decode prog_1_method_2_code 23 = .ok (.iconst 0, 1) := by decide +kernel
theorem dd_S_pixel_24 : decode prog_1_method_2_code 24 = .ok (.sipush 255, 3) := by decide +kernel
theorem dd_S_pixel_27 : decode prog_1_method_2_code 27 = .ok (.invokestatic 74, 3) := by decide +kernel
theorem dd_S_pixel_30 : decode prog_1_method_2_code 30 = .ok (.aload_n 0, 1) := by decide +kernel
theorem dd_S_pixel_31 : decode prog_1_method_2_code 31 = .ok (.getfield 59, 3) := by decide +kernel
theorem dd_S_pixel_34 : decode prog_1_method_2_code 34 = .ok (.iload_n 1, 1) := by decide +kernel
theorem dd_S_pixel_35 : decode prog_1_method_2_code 35 = .ok (.iload_n 2, 1) := by decide +kernel
theorem dd_S_pixel_36 : decode prog_1_method_2_code 36 = .ok (.iload_n 3, 1) := by decide +kernel
theorem dd_S_pixel_37 : decode prog_1_method_2_code 37 = .ok (.invokevirtual 78, 3) := by decide +kernel
theorem dd_S_pixel_40 : decode prog_1_method_2_code 40 = .ok (.ireturn, 1) := by decide +kernel
theorem dd_S_needPlace_0 : decode prog_1_method_25_code 0 = .ok (.iload_n 0, 1) := by decide +kernel
theorem dd_S_needPlace_1 : decode prog_1_method_25_code 1 = .ok (.ifCond .lt 8, 3) := by decide +kernel
theorem dd_S_needPlace_4 : decode prog_1_method_25_code 4 = .ok (.iload_n 0, 1) := by decide +kernel
theorem dd_S_needPlace_5 : decode prog_1_method_25_code 5 = .ok (.iload_n 1, 1) := by decide +kernel
theorem dd_S_needPlace_6 : decode prog_1_method_25_code 6 = .ok (.if_icmp .lt 13, 3) := by decide +kernel
theorem dd_S_needPlace_9 : decode prog_1_method_25_code 9 = .ok (.new 67, 3) := by decide +kernel
theorem dd_S_needPlace_12 : decode prog_1_method_25_code 12 = .ok (.dup, 1) := by decide +kernel
theorem dd_S_needPlace_13 : decode prog_1_method_25_code 13 = .ok (.ldc 212, 2) := by decide +kernel
theorem dd_S_needPlace_15 : decode prog_1_method_25_code 15 = .ok (.invokespecial 71, 3) := by decide +kernel
theorem dd_S_needPlace_18 : decode prog_1_method_25_code 18 = .ok (.athrow, 1) := by decide +kernel
theorem dd_S_needPlace_19 : decode prog_1_method_25_code 19 = .ok (.return_, 1) := by decide +kernel
theorem dd_H_floorDiv_0 : decode prog_12_method_47_code 0 = .ok (.iload_n 0, 1) := by decide +kernel
theorem dd_H_floorDiv_1 : decode prog_12_method_47_code 1 = .ok (.iload_n 1, 1) := by decide +kernel
theorem dd_H_floorDiv_2 : decode prog_12_method_47_code 2 = .ok (.idiv, 1) := by decide +kernel
theorem dd_H_floorDiv_3 : decode prog_12_method_47_code 3 = .ok (.istore_n 2, 1) := by decide +kernel
theorem dd_H_floorDiv_4 : decode prog_12_method_47_code 4 = .ok (.iload_n 0, 1) := by decide +kernel
theorem dd_H_floorDiv_5 : decode prog_12_method_47_code 5 = .ok (.iload_n 1, 1) := by decide +kernel
theorem dd_H_floorDiv_6 : decode prog_12_method_47_code 6 = .ok (.ixor, 1) := by decide +kernel
theorem dd_H_floorDiv_7 : decode prog_12_method_47_code 7 = .ok (.ifCond .ge 14, 3) := by decide +kernel
theorem dd_H_floorDiv_10 : decode prog_12_method_47_code 10 = .ok (.iload_n 2, 1) := by decide +kernel
theorem dd_H_floorDiv_11 : decode prog_12_method_47_code 11 = .ok (.iload_n 1, 1) := by decide +kernel
theorem dd_H_floorDiv_12 : decode prog_12_method_47_code 12 = .ok (.imul, 1) := by decide +kernel
theorem dd_H_floorDiv_13 : decode prog_12_method_47_code 13 = .ok (.iload_n 0, 1) := by decide +kernel
theorem dd_H_floorDiv_14 : decode prog_12_method_47_code 14 = .ok (.if_icmp .eq 7, 3) := by decide +kernel
theorem dd_H_floorDiv_17 : decode prog_12_method_47_code 17 = .ok (.iload_n 2, 1) := by decide +kernel
theorem dd_H_floorDiv_18 : decode prog_12_method_47_code 18 = .ok (.iconst 1, 1) := by decide +kernel
theorem dd_H_floorDiv_19 : decode prog_12_method_47_code 19 = .ok (.isub, 1) := by decide +kernel
theorem dd_H_floorDiv_20 : decode prog_12_method_47_code 20 = .ok (.ireturn, 1) := by decide +kernel
theorem dd_H_floorDiv_21 : decode prog_12_method_47_code 21 = .ok (.iload_n 2, 1) := by decide +kernel
theorem dd_H_floorDiv_22 : decode prog_12_method_47_code 22 = .ok (.ireturn, 1) := by decide +kernel
theorem dd_S_floorOf_0 : decode prog_1_method_29_code 0 = .ok (.iload_n 1, 1) := by decide +kernel
theorem dd_S_floorOf_1 : decode prog_1_method_29_code 1 = .ok (.iconst 1, 1) := by decide +kernel
theorem dd_S_floorOf_2 : decode prog_1_method_29_code 2 = .ok (.if_icmp .ge 7, 3) := by decide +kernel
theorem dd_S_floorOf_5 : decode prog_1_method_29_code 5 = .ok (.iconst 0, 1) := by decide +kernel
theorem dd_S_floorOf_6 : decode prog_1_method_29_code 6 = .ok (.goto 8, 3) := by decide +kernel
theorem dd_S_floorOf_9 : decode prog_1_method_29_code 9 = .ok (.iload_n 0, 1) := by decide +kernel
theorem dd_S_floorOf_10 : decode prog_1_method_29_code 10 = .ok (.iload_n 1, 1) := by decide +kernel
theorem dd_S_floorOf_11 : decode prog_1_method_29_code 11 = .ok (.invokestatic 219, 3) := by decide +kernel
theorem dd_S_floorOf_14 : decode prog_1_method_29_code 14 = .ok (.ireturn, 1) := by decide +kernel
theorem dd_P_centreX_0 : decode prog_3_method_5_code 0 = .ok (.aload_n 0, 1) := by decide +kernel
theorem dd_P_centreX_1 : decode prog_3_method_5_code 1 = .ok (.getfield 9, 3) := by decide +kernel
theorem dd_P_centreX_4 : decode prog_3_method_5_code 4 = .ok (.iconst 1, 1) := by decide +kernel
theorem dd_P_centreX_5 : decode prog_3_method_5_code 5 = .ok (.if_icmp .ge 7, 3) := by decide +kernel
theorem dd_P_centreX_8 : decode prog_3_method_5_code 8 = .ok (.iconst (-1), 1) := by decide +kernel
theorem dd_P_centreX_9 : decode prog_3_method_5_code 9 = .ok (.goto 14, 3) := by decide +kernel
theorem dd_P_centreX_12 : decode prog_3_method_5_code 12 = .ok (.aload_n 0, 1) := by decide +kernel
theorem dd_P_centreX_13 : decode prog_3_method_5_code 13 = .ok (.getfield 15, 3) := by decide +kernel
theorem dd_P_centreX_16 : decode prog_3_method_5_code 16 = .ok (.aload_n 0, 1) := by decide +kernel
theorem dd_P_centreX_17 : decode prog_3_method_5_code 17 = .ok (.getfield 9, 3) := by decide +kernel
theorem dd_P_centreX_20 : decode prog_3_method_5_code 20 = .ok (.invokestatic 39, 3) := by decide +kernel
theorem dd_P_centreX_23 : decode prog_3_method_5_code 23 = .ok (.ireturn, 1) := by decide +kernel
theorem dd_P_centreY_0 : decode prog_3_method_6_code 0 = .ok (.aload_n 0, 1) := by decide +kernel
theorem dd_P_centreY_1 : decode prog_3_method_6_code 1 = .ok (.getfield 9, 3) := by decide +kernel
theorem dd_P_centreY_4 : decode prog_3_method_6_code 4 = .ok (.iconst 1, 1) := by decide +kernel
theorem dd_P_centreY_5 : decode prog_3_method_6_code 5 = .ok (.if_icmp .ge 7, 3) := by decide +kernel
theorem dd_P_centreY_8 : decode prog_3_method_6_code 8 = .ok (.iconst (-1), 1) := by decide +kernel
theorem dd_P_centreY_9 : decode prog_3_method_6_code 9 = .ok (.goto 14, 3) := by decide +kernel
theorem dd_P_centreY_12 : decode prog_3_method_6_code 12 = .ok (.aload_n 0, 1) := by decide +kernel
theorem dd_P_centreY_13 : decode prog_3_method_6_code 13 = .ok (.getfield 18, 3) := by decide +kernel
theorem dd_P_centreY_16 : decode prog_3_method_6_code 16 = .ok (.aload_n 0, 1) := by decide +kernel
theorem dd_P_centreY_17 : decode prog_3_method_6_code 17 = .ok (.getfield 9, 3) := by decide +kernel
theorem dd_P_centreY_20 : decode prog_3_method_6_code 20 = .ok (.invokestatic 39, 3) := by decide +kernel
theorem dd_P_centreY_23 : decode prog_3_method_6_code 23 = .ok (.ireturn, 1) := by decide +kernel
theorem dd_S_middle_0 : decode prog_1_method_3_code 0 = .ok (.iload_n 1, 1) := by decide +kernel
theorem dd_S_middle_1 : decode prog_1_method_3_code 1 = .ok (.iconst 2, 1) := by decide +kernel
theorem dd_S_middle_2 : decode prog_1_method_3_code 2 = .ok (.invokestatic 82, 3) := by decide +kernel
theorem dd_S_middle_5 : decode prog_1_method_3_code 5 = .ok (.iload_n 1, 1) := by decide +kernel
theorem dd_S_middle_6 : decode prog_1_method_3_code 6 = .ok (.ifCond .ne 13, 3) := by decide +kernel
theorem dd_S_middle_9 : decode prog_1_method_3_code 9 = .ok (.aload_n 0, 1) := by decide +kernel
theorem dd_S_middle_10 : decode prog_1_method_3_code 10 = .ok (.getfield 59, 3) := by decide +kernel
theorem dd_S_middle_13 : decode prog_1_method_3_code 13 = .ok (.invokevirtual 85, 3) := by decide +kernel
theorem dd_S_middle_16 : decode prog_1_method_3_code 16 = .ok (.goto 10, 3) := by decide +kernel
theorem dd_S_middle_19 : decode prog_1_method_3_code 19 = .ok (.aload_n 0, 1) := by decide +kernel
theorem dd_S_middle_20 : decode prog_1_method_3_code 20 = .ok (.getfield 59, 3) := by decide +kernel
theorem dd_S_middle_23 : decode prog_1_method_3_code 23 = .ok (.invokevirtual 89, 3) := by decide +kernel
theorem dd_S_middle_26 : decode prog_1_method_3_code 26 = .ok (.ireturn, 1) := by decide +kernel
theorem dd_S_ray_0 : decode prog_1_method_4_code 0 = .ok (.iload_n 1, 1) := by decide +kernel
theorem dd_S_ray_1 : decode prog_1_method_4_code 1 = .ok (.bipush (-5), 2) := by decide +kernel
theorem dd_S_ray_3 : decode prog_1_method_4_code 3 = .ok (.iconst 5, 1) := by decide +kernel
theorem dd_S_ray_4 : decode prog_1_method_4_code 4 = .ok (.invokestatic 74, 3) := by decide +kernel
theorem dd_S_ray_7 : decode prog_1_method_4_code 7 = .ok (.iload_n 2, 1) := by decide +kernel
theorem dd_S_ray_8 : decode prog_1_method_4_code 8 = .ok (.bipush (-5), 2) := by decide +kernel
theorem dd_S_ray_10 : decode prog_1_method_4_code 10 = .ok (.iconst 5, 1) := by decide +kernel
theorem dd_S_ray_11 : decode prog_1_method_4_code 11 = .ok (.invokestatic 74, 3) := by decide +kernel
theorem dd_S_ray_14 : decode prog_1_method_4_code 14 = .ok (.iload_n 1, 1) := by decide +kernel
theorem dd_S_ray_15 : decode prog_1_method_4_code 15 = .ok (.ifCond .ne 17, 3) := by decide +kernel
theorem dd_S_ray_18 : decode prog_1_method_4_code 18 = .ok (.iload_n 2, 1) := by decide +kernel
theorem dd_S_ray_19 : decode prog_1_method_4_code 19 = .ok (.ifCond .ne 13, 3) := by decide +kernel
theorem dd_S_ray_22 : decode prog_1_method_4_code 22 = .ok (.new 92, 3) := by decide +kernel
theorem dd_S_ray_25 : decode prog_1_method_4_code 25 = .ok (.dup, 1) := by decide +kernel
theorem dd_S_ray_26 : decode prog_1_method_4_code 26 = .ok (.ldc 94, 2) := by decide +kernel
theorem dd_S_ray_28 : decode prog_1_method_4_code 28 = .ok (.invokespecial 96, 3) := by decide +kernel
theorem dd_S_ray_31 : decode prog_1_method_4_code 31 = .ok (.athrow, 1) := by decide +kernel
theorem dd_S_ray_32 : decode prog_1_method_4_code 32 = .ok (.aload_n 0, 1) := by decide +kernel
theorem dd_S_ray_33 : decode prog_1_method_4_code 33 = .ok (.getfield 40, 3) := by decide +kernel
theorem dd_S_ray_36 : decode prog_1_method_4_code 36 = .ok (.bipush 8, 2) := by decide +kernel
theorem dd_S_ray_38 : decode prog_1_method_4_code 38 = .ok (.if_icmp .lt 13, 3) := by decide +kernel
theorem dd_S_ray_41 : decode prog_1_method_4_code 41 = .ok (.new 97, 3) := by decide +kernel
theorem dd_S_ray_44 : decode prog_1_method_4_code 44 = .ok (.dup, 1) := by decide +kernel
theorem dd_S_ray_45 : decode prog_1_method_4_code 45 = .ok (.ldc 99, 2) := by decide +kernel
theorem dd_S_ray_47 : decode prog_1_method_4_code 47 = .ok (.invokespecial 101, 3) := by decide +kernel
theorem dd_S_ray_50 : decode prog_1_method_4_code 50 = .ok (.athrow, 1) := by decide +kernel
theorem dd_S_ray_51 : decode prog_1_method_4_code 51 = .ok (.aload_n 0, 1) := by decide +kernel
theorem dd_S_ray_52 : decode prog_1_method_4_code 52 = .ok (.getfield 9, 3) := by decide +kernel
theorem dd_S_ray_55 : decode prog_1_method_4_code 55 = .ok (.aload_n 0, 1) := by decide +kernel
theorem dd_S_ray_56 : decode prog_1_method_4_code 56 = .ok (.getfield 40, 3) := by decide +kernel
theorem dd_S_ray_59 : decode prog_1_method_4_code 59 = .ok (.iload_n 1, 1) := by decide +kernel
theorem dd_S_ray_60 : decode prog_1_method_4_code 60 = .ok (.iastore, 1) := by decide +kernel
theorem dd_S_ray_61 : decode prog_1_method_4_code 61 = .ok (.aload_n 0, 1) := by decide +kernel
theorem dd_S_ray_62 : decode prog_1_method_4_code 62 = .ok (.getfield 13, 3) := by decide +kernel
theorem dd_S_ray_65 : decode prog_1_method_4_code 65 = .ok (.aload_n 0, 1) := by decide +kernel
theorem dd_S_ray_66 : decode prog_1_method_4_code 66 = .ok (.getfield 40, 3) := by decide +kernel
theorem dd_S_ray_69 : decode prog_1_method_4_code 69 = .ok (.iload_n 2, 1) := by decide +kernel
theorem dd_S_ray_70 : decode prog_1_method_4_code 70 = .ok (.iastore, 1) := by decide +kernel
theorem dd_S_ray_71 : decode prog_1_method_4_code 71 = .ok (.aload_n 0, 1) := by decide +kernel
theorem dd_S_ray_72 : decode prog_1_method_4_code 72 = .ok (.dup, 1) := by decide +kernel
theorem dd_S_ray_73 : decode prog_1_method_4_code 73 = .ok (.getfield 40, 3) := by decide +kernel
theorem dd_S_ray_76 : decode prog_1_method_4_code 76 = .ok (.iconst 1, 1) := by decide +kernel
theorem dd_S_ray_77 : decode prog_1_method_4_code 77 = .ok (.iadd, 1) := by decide +kernel
theorem dd_S_ray_78 : decode prog_1_method_4_code 78 = .ok (.putfield 40, 3) := by decide +kernel
theorem dd_S_ray_81 : decode prog_1_method_4_code 81 = .ok (.aload_n 0, 1) := by decide +kernel
theorem dd_S_ray_82 : decode prog_1_method_4_code 82 = .ok (.getfield 40, 3) := by decide +kernel
theorem dd_S_ray_85 : decode prog_1_method_4_code 85 = .ok (.iconst 1, 1) := by decide +kernel
theorem dd_S_ray_86 : decode prog_1_method_4_code 86 = .ok (.isub, 1) := by decide +kernel
theorem dd_S_ray_87 : decode prog_1_method_4_code 87 = .ok (.ireturn, 1) := by decide +kernel
theorem dd_T_walk_0 : decode prog_5_method_2_code 0 = .ok (.aload_n 0, 1) := by decide +kernel
theorem dd_T_walk_1 : decode prog_5_method_2_code 1 = .ok (.iconst 0, 1) := by decide +kernel
theorem dd_T_walk_2 : decode prog_5_method_2_code 2 = .ok (.putfield 21, 3) := by decide +kernel
theorem dd_T_walk_5 : decode prog_5_method_2_code 5 = .ok (.iload_n 2, 1) := by decide +kernel
theorem dd_T_walk_6 : decode prog_5_method_2_code 6 = .ok (.invokestatic 28, 3) := by decide +kernel
theorem dd_T_walk_9 : decode prog_5_method_2_code 9 = .ok (.iload_n 3, 1) := by decide +kernel
theorem dd_T_walk_10 : decode prog_5_method_2_code 10 = .ok (.invokestatic 28, 3) := by decide +kernel
theorem dd_T_walk_13 : decode prog_5_method_2_code 13 = .ok (.invokestatic 34, 3) := by decide +kernel
theorem dd_T_walk_16 : decode prog_5_method_2_code 16 = .ok (.istore 4, 2) := by decide +kernel
theorem dd_T_walk_18 : decode prog_5_method_2_code 18 = .ok (.aload_n 1, 1) := by decide +kernel
theorem dd_T_walk_19 : decode prog_5_method_2_code 19 = .ok (.getfield 38, 3) := by decide +kernel
theorem dd_T_walk_22 : decode prog_5_method_2_code 22 = .ok (.iconst 1, 1) := by decide +kernel
theorem dd_T_walk_23 : decode prog_5_method_2_code 23 = .ok (.if_icmp .lt 9, 3) := by decide +kernel
theorem dd_T_walk_26 : decode prog_5_method_2_code 26 = .ok (.iload 4, 2) := by decide +kernel
theorem dd_T_walk_28 : decode prog_5_method_2_code 28 = .ok (.iconst 1, 1) := by decide +kernel
theorem dd_T_walk_29 : decode prog_5_method_2_code 29 = .ok (.if_icmp .ge 4, 3) := by decide +kernel
theorem dd_T_walk_32 : decode prog_5_method_2_code 32 = .ok (.return_, 1) := by decide +kernel
theorem dd_T_walk_33 : decode prog_5_method_2_code 33 = .ok (.aload_n 1, 1) := by decide +kernel
theorem dd_T_walk_34 : decode prog_5_method_2_code 34 = .ok (.invokevirtual 43, 3) := by decide +kernel
theorem dd_T_walk_37 : decode prog_5_method_2_code 37 = .ok (.istore 5, 2) := by decide +kernel
theorem dd_T_walk_39 : decode prog_5_method_2_code 39 = .ok (.aload_n 1, 1) := by decide +kernel
theorem dd_T_walk_40 : decode prog_5_method_2_code 40 = .ok (.invokevirtual 47, 3) := by decide +kernel
theorem dd_T_walk_43 : decode prog_5_method_2_code 43 = .ok (.istore 6, 2) := by decide +kernel
theorem dd_T_walk_45 : decode prog_5_method_2_code 45 = .ok (.iconst 0, 1) := by decide +kernel
theorem dd_T_walk_46 : decode prog_5_method_2_code 46 = .ok (.istore 7, 2) := by decide +kernel
theorem dd_T_walk_48 : decode prog_5_method_2_code 48 = .ok (.iload 7, 2) := by decide +kernel
theorem dd_T_walk_50 : decode prog_5_method_2_code 50 = .ok (.bipush 16, 2) := by decide +kernel
theorem dd_T_walk_52 : decode prog_5_method_2_code 52 = .ok (.if_icmp .ge 86, 3) := by decide +kernel
theorem dd_T_walk_55 : decode prog_5_method_2_code 55 = .ok (.iload 5, 2) := by decide +kernel
theorem dd_T_walk_57 : decode prog_5_method_2_code 57 = .ok (.iconst 2, 1) := by decide +kernel
theorem dd_T_walk_58 : decode prog_5_method_2_code 58 = .ok (.iload_n 2, 1) := by decide +kernel
theorem dd_T_walk_59 : decode prog_5_method_2_code 59 = .ok (.imul, 1) := by decide +kernel
theorem dd_T_walk_60 : decode prog_5_method_2_code 60 = .ok (.iload 7, 2) := by decide +kernel
theorem dd_T_walk_62 : decode prog_5_method_2_code 62 = .ok (.imul, 1) := by decide +kernel
theorem dd_T_walk_63 : decode prog_5_method_2_code 63 = .ok (.iload 4, 2) := by decide +kernel
theorem dd_T_walk_65 : decode prog_5_method_2_code 65 = .ok (.iadd, 1) := by decide +kernel
theorem dd_T_walk_66 : decode prog_5_method_2_code 66 = .ok (.iconst 2, 1) := by decide +kernel
theorem dd_T_walk_67 : decode prog_5_method_2_code 67 = .ok (.iload 4, 2) := by decide +kernel
theorem dd_T_walk_69 : decode prog_5_method_2_code 69 = .ok (.imul, 1) := by decide +kernel
theorem dd_T_walk_70 : decode prog_5_method_2_code 70 = .ok (.invokestatic 50, 3) := by decide +kernel
theorem dd_T_walk_73 : decode prog_5_method_2_code 73 = .ok (.iadd, 1) := by decide +kernel
theorem dd_T_walk_74 : decode prog_5_method_2_code 74 = .ok (.istore 8, 2) := by decide +kernel
theorem dd_T_walk_76 : decode prog_5_method_2_code 76 = .ok (.iload 6, 2) := by decide +kernel
theorem dd_T_walk_78 : decode prog_5_method_2_code 78 = .ok (.iconst 2, 1) := by decide +kernel
theorem dd_T_walk_79 : decode prog_5_method_2_code 79 = .ok (.iload_n 3, 1) := by decide +kernel
theorem dd_T_walk_80 : decode prog_5_method_2_code 80 = .ok (.imul, 1) := by decide +kernel
theorem dd_T_walk_81 : decode prog_5_method_2_code 81 = .ok (.iload 7, 2) := by decide +kernel
theorem dd_T_walk_83 : decode prog_5_method_2_code 83 = .ok (.imul, 1) := by decide +kernel
theorem dd_T_walk_84 : decode prog_5_method_2_code 84 = .ok (.iload 4, 2) := by decide +kernel
theorem dd_T_walk_86 : decode prog_5_method_2_code 86 = .ok (.iadd, 1) := by decide +kernel
theorem dd_T_walk_87 : decode prog_5_method_2_code 87 = .ok (.iconst 2, 1) := by decide +kernel
theorem dd_T_walk_88 : decode prog_5_method_2_code 88 = .ok (.iload 4, 2) := by decide +kernel
theorem dd_T_walk_90 : decode prog_5_method_2_code 90 = .ok (.imul, 1) := by decide +kernel
theorem dd_T_walk_91 : decode prog_5_method_2_code 91 = .ok (.invokestatic 50, 3) := by decide +kernel
theorem dd_T_walk_94 : decode prog_5_method_2_code 94 = .ok (.iadd, 1) := by decide +kernel
theorem dd_T_walk_95 : decode prog_5_method_2_code 95 = .ok (.istore 9, 2) := by decide +kernel
theorem dd_T_walk_97 : decode prog_5_method_2_code 97 = .ok (.aload_n 1, 1) := by decide +kernel
theorem dd_T_walk_98 : decode prog_5_method_2_code 98 = .ok (.iload 8, 2) := by decide +kernel
theorem dd_T_walk_100 : decode prog_5_method_2_code 100 = .ok (.iload 9, 2) := by decide +kernel
theorem dd_T_walk_102 : decode prog_5_method_2_code 102 = .ok (.invokevirtual 53, 3) := by decide +kernel
theorem dd_T_walk_105 : decode prog_5_method_2_code 105 = .ok (.ifCond .ne 4, 3) := by decide +kernel
theorem dd_T_walk_108 : decode prog_5_method_2_code 108 = .ok (.return_, 1) := by decide +kernel
theorem dd_T_walk_109 : decode prog_5_method_2_code 109 = .ok (.aload_n 0, 1) := by decide +kernel
theorem dd_T_walk_110 : decode prog_5_method_2_code 110 = .ok (.getfield 9, 3) := by decide +kernel
theorem dd_T_walk_113 : decode prog_5_method_2_code 113 = .ok (.iload 7, 2) := by decide +kernel
theorem dd_T_walk_115 : decode prog_5_method_2_code 115 = .ok (.aload_n 1, 1) := by decide +kernel
theorem dd_T_walk_116 : decode prog_5_method_2_code 116 = .ok (.iload 8, 2) := by decide +kernel
theorem dd_T_walk_118 : decode prog_5_method_2_code 118 = .ok (.iload 9, 2) := by decide +kernel
theorem dd_T_walk_120 : decode prog_5_method_2_code 120 = .ok (.invokevirtual 57, 3) := by decide +kernel
theorem dd_T_walk_123 : decode prog_5_method_2_code 123 = .ok (.iastore, 1) := by decide +kernel
theorem dd_T_walk_124 : decode prog_5_method_2_code 124 = .ok (.aload_n 0, 1) := by decide +kernel
theorem dd_T_walk_125 : decode prog_5_method_2_code 125 = .ok (.iload 7, 2) := by decide +kernel
theorem dd_T_walk_127 : decode prog_5_method_2_code 127 = .ok (.iconst 1, 1) := by decide +kernel
theorem dd_T_walk_128 : decode prog_5_method_2_code 128 = .ok (.iadd, 1) := by decide +kernel
theorem dd_T_walk_129 : decode prog_5_method_2_code 129 = .ok (.putfield 21, 3) := by decide +kernel
theorem dd_T_walk_132 : decode prog_5_method_2_code 132 = .ok (.iinc 7 1, 3) := by decide +kernel
theorem dd_T_walk_135 : decode prog_5_method_2_code 135 = .ok (.goto (-87), 3) := by decide +kernel
theorem dd_T_walk_138 : decode prog_5_method_2_code 138 = .ok (.return_, 1) := by decide +kernel
theorem dd_T_evenOut_0 : decode prog_5_method_3_code 0 = .ok (.iconst 0, 1) := by decide +kernel
theorem dd_T_evenOut_1 : decode prog_5_method_3_code 1 = .ok (.istore_n 1, 1) := by decide +kernel
theorem dd_T_evenOut_2 : decode prog_5_method_3_code 2 = .ok (.iload_n 1, 1) := by decide +kernel
theorem dd_T_evenOut_3 : decode prog_5_method_3_code 3 = .ok (.aload_n 0, 1) := by decide +kernel
theorem dd_T_evenOut_4 : decode prog_5_method_3_code 4 = .ok (.getfield 21, 3) := by decide +kernel
theorem dd_T_evenOut_7 : decode prog_5_method_3_code 7 = .ok (.if_icmp .ge 83, 3) := by decide +kernel
theorem dd_T_evenOut_10 : decode prog_5_method_3_code 10 = .ok (.iload_n 1, 1) := by decide +kernel
theorem dd_T_evenOut_11 : decode prog_5_method_3_code 11 = .ok (.ifCond .le 14, 3) := by decide +kernel
theorem dd_T_evenOut_14 : decode prog_5_method_3_code 14 = .ok (.aload_n 0, 1) := by decide +kernel
theorem dd_T_evenOut_15 : decode prog_5_method_3_code 15 = .ok (.getfield 9, 3) := by decide +kernel
theorem dd_T_evenOut_18 : decode prog_5_method_3_code 18 = .ok (.iload_n 1, 1) := by decide +kernel
theorem dd_T_evenOut_19 : decode prog_5_method_3_code 19 = .ok (.iconst 1, 1) := by decide +kernel
theorem dd_T_evenOut_20 : decode prog_5_method_3_code 20 = .ok (.isub, 1) := by decide +kernel
theorem dd_T_evenOut_21 : decode prog_5_method_3_code 21 = .ok (.iaload, 1) := by decide +kernel
theorem dd_T_evenOut_22 : decode prog_5_method_3_code 22 = .ok (.goto 9, 3) := by decide +kernel
theorem dd_T_evenOut_25 : decode prog_5_method_3_code 25 = .ok (.aload_n 0, 1) := by decide +kernel
theorem dd_T_evenOut_26 : decode prog_5_method_3_code 26 = .ok (.getfield 9, 3) := by decide +kernel
theorem dd_T_evenOut_29 : decode prog_5_method_3_code 29 = .ok (.iload_n 1, 1) := by decide +kernel
theorem dd_T_evenOut_30 : decode prog_5_method_3_code 30 = .ok (.iaload, 1) := by decide +kernel
theorem dd_T_evenOut_31 : decode prog_5_method_3_code 31 = .ok (.istore_n 2, 1) := by decide +kernel
theorem dd_T_evenOut_32 : decode prog_5_method_3_code 32 = .ok (.iload_n 1, 1) := by decide +kernel
theorem dd_T_evenOut_33 : decode prog_5_method_3_code 33 = .ok (.aload_n 0, 1) := by decide +kernel
theorem dd_T_evenOut_34 : decode prog_5_method_3_code 34 = .ok (.getfield 21, 3) := by decide +kernel
theorem dd_T_evenOut_37 : decode prog_5_method_3_code 37 = .ok (.iconst 1, 1) := by decide +kernel
theorem dd_T_evenOut_38 : decode prog_5_method_3_code 38 = .ok (.isub, 1) := by decide +kernel
theorem dd_T_evenOut_39 : decode prog_5_method_3_code 39 = .ok (.if_icmp .ge 14, 3) := by decide +kernel
theorem dd_T_evenOut_42 : decode prog_5_method_3_code 42 = .ok (.aload_n 0, 1) := by decide +kernel
theorem dd_T_evenOut_43 : decode prog_5_method_3_code 43 = .ok (.getfield 9, 3) := by decide +kernel
theorem dd_T_evenOut_46 : decode prog_5_method_3_code 46 = .ok (.iload_n 1, 1) := by decide +kernel
theorem dd_T_evenOut_47 : decode prog_5_method_3_code 47 = .ok (.iconst 1, 1) := by decide +kernel
theorem dd_T_evenOut_48 : decode prog_5_method_3_code 48 = .ok (.iadd, 1) := by decide +kernel
theorem dd_T_evenOut_49 : decode prog_5_method_3_code 49 = .ok (.iaload, 1) := by decide +kernel
theorem dd_T_evenOut_50 : decode prog_5_method_3_code 50 = .ok (.goto 9, 3) := by decide +kernel
theorem dd_T_evenOut_53 : decode prog_5_method_3_code 53 = .ok (.aload_n 0, 1) := by decide +kernel
theorem dd_T_evenOut_54 : decode prog_5_method_3_code 54 = .ok (.getfield 9, 3) := by decide +kernel
theorem dd_T_evenOut_57 : decode prog_5_method_3_code 57 = .ok (.iload_n 1, 1) := by decide +kernel
theorem dd_T_evenOut_58 : decode prog_5_method_3_code 58 = .ok (.iaload, 1) := by decide +kernel
theorem dd_T_evenOut_59 : decode prog_5_method_3_code 59 = .ok (.istore_n 3, 1) := by decide +kernel
theorem dd_T_evenOut_60 : decode prog_5_method_3_code 60 = .ok (.aload_n 0, 1) := by decide +kernel
theorem dd_T_evenOut_61 : decode prog_5_method_3_code 61 = .ok (.getfield 15, 3) := by decide +kernel
theorem dd_T_evenOut_64 : decode prog_5_method_3_code 64 = .ok (.iload_n 1, 1) := by decide +kernel
theorem dd_T_evenOut_65 : decode prog_5_method_3_code 65 = .ok (.iload_n 2, 1) := by decide +kernel
theorem dd_T_evenOut_66 : decode prog_5_method_3_code 66 = .ok (.iconst 2, 1) := by decide +kernel
theorem dd_T_evenOut_67 : decode prog_5_method_3_code 67 = .ok (.aload_n 0, 1) := by decide +kernel
theorem dd_T_evenOut_68 : decode prog_5_method_3_code 68 = .ok (.getfield 9, 3) := by decide +kernel
theorem dd_T_evenOut_71 : decode prog_5_method_3_code 71 = .ok (.iload_n 1, 1) := by decide +kernel
theorem dd_T_evenOut_72 : decode prog_5_method_3_code 72 = .ok (.iaload, 1) := by decide +kernel
theorem dd_T_evenOut_73 : decode prog_5_method_3_code 73 = .ok (.imul, 1) := by decide +kernel
theorem dd_T_evenOut_74 : decode prog_5_method_3_code 74 = .ok (.iadd, 1) := by decide +kernel
theorem dd_T_evenOut_75 : decode prog_5_method_3_code 75 = .ok (.iload_n 3, 1) := by decide +kernel
theorem dd_T_evenOut_76 : decode prog_5_method_3_code 76 = .ok (.iadd, 1) := by decide +kernel
theorem dd_T_evenOut_77 : decode prog_5_method_3_code 77 = .ok (.iconst 2, 1) := by decide +kernel
theorem dd_T_evenOut_78 : decode prog_5_method_3_code 78 = .ok (.iadd, 1) := by decide +kernel
theorem dd_T_evenOut_79 : decode prog_5_method_3_code 79 = .ok (.iconst 4, 1) := by decide +kernel
theorem dd_T_evenOut_80 : decode prog_5_method_3_code 80 = .ok (.invokestatic 50, 3) := by decide +kernel
theorem dd_T_evenOut_83 : decode prog_5_method_3_code 83 = .ok (.iastore, 1) := by decide +kernel
theorem dd_T_evenOut_84 : decode prog_5_method_3_code 84 = .ok (.iinc 1 1, 3) := by decide +kernel
theorem dd_T_evenOut_87 : decode prog_5_method_3_code 87 = .ok (.goto (-85), 3) := by decide +kernel
theorem dd_T_evenOut_90 : decode prog_5_method_3_code 90 = .ok (.return_, 1) := by decide +kernel
theorem dd_T_findRings_0 : decode prog_5_method_4_code 0 = .ok (.aload_n 0, 1) := by decide +kernel
theorem dd_T_findRings_1 : decode prog_5_method_4_code 1 = .ok (.iconst 0, 1) := by decide +kernel
theorem dd_T_findRings_2 : decode prog_5_method_4_code 2 = .ok (.putfield 25, 3) := by decide +kernel
theorem dd_T_findRings_5 : decode prog_5_method_4_code 5 = .ok (.iconst 0, 1) := by decide +kernel
theorem dd_T_findRings_6 : decode prog_5_method_4_code 6 = .ok (.istore_n 3, 1) := by decide +kernel
theorem dd_T_findRings_7 : decode prog_5_method_4_code 7 = .ok (.aload_n 0, 1) := by decide +kernel
theorem dd_T_findRings_8 : decode prog_5_method_4_code 8 = .ok (.getfield 21, 3) := by decide +kernel
theorem dd_T_findRings_11 : decode prog_5_method_4_code 11 = .ok (.ifCond .le 12, 3) := by decide +kernel
theorem dd_T_findRings_14 : decode prog_5_method_4_code 14 = .ok (.aload_n 0, 1) := by decide +kernel
theorem dd_T_findRings_15 : decode prog_5_method_4_code 15 = .ok (.getfield 15, 3) := by decide +kernel
theorem dd_T_findRings_18 : decode prog_5_method_4_code 18 = .ok (.iconst 0, 1) := by decide +kernel
theorem dd_T_findRings_19 : decode prog_5_method_4_code 19 = .ok (.iaload, 1) := by decide +kernel
theorem dd_T_findRings_20 : decode prog_5_method_4_code 20 = .ok (.goto 4, 3) := by decide +kernel
theorem dd_T_findRings_23 : decode prog_5_method_4_code 23 = .ok (.iconst 0, 1) := by decide +kernel
theorem dd_T_findRings_24 : decode prog_5_method_4_code 24 = .ok (.istore 4, 2) := by decide +kernel
theorem dd_T_findRings_26 : decode prog_5_method_4_code 26 = .ok (.iconst 1, 1) := by decide +kernel
theorem dd_T_findRings_27 : decode prog_5_method_4_code 27 = .ok (.istore 5, 2) := by decide +kernel
theorem dd_T_findRings_29 : decode prog_5_method_4_code 29 = .ok (.iload 5, 2) := by decide +kernel
theorem dd_T_findRings_31 : decode prog_5_method_4_code 31 = .ok (.aload_n 0, 1) := by decide +kernel
theorem dd_T_findRings_32 : decode prog_5_method_4_code 32 = .ok (.getfield 21, 3) := by decide +kernel
theorem dd_T_findRings_35 : decode prog_5_method_4_code 35 = .ok (.iconst 1, 1) := by decide +kernel
theorem dd_T_findRings_36 : decode prog_5_method_4_code 36 = .ok (.isub, 1) := by decide +kernel
theorem dd_T_findRings_37 : decode prog_5_method_4_code 37 = .ok (.if_icmp .ge 137, 3) := by decide +kernel
theorem dd_T_findRings_40 : decode prog_5_method_4_code 40 = .ok (.aload_n 0, 1) := by decide +kernel
theorem dd_T_findRings_41 : decode prog_5_method_4_code 41 = .ok (.getfield 25, 3) := by decide +kernel
theorem dd_T_findRings_44 : decode prog_5_method_4_code 44 = .ok (.bipush 8, 2) := by decide +kernel
theorem dd_T_findRings_46 : decode prog_5_method_4_code 46 = .ok (.if_icmp .ge 128, 3) := by decide +kernel
theorem dd_T_findRings_49 : decode prog_5_method_4_code 49 = .ok (.iload 4, 2) := by decide +kernel
theorem dd_T_findRings_51 : decode prog_5_method_4_code 51 = .ok (.aload_n 0, 1) := by decide +kernel
theorem dd_T_findRings_52 : decode prog_5_method_4_code 52 = .ok (.getfield 15, 3) := by decide +kernel
theorem dd_T_findRings_55 : decode prog_5_method_4_code 55 = .ok (.iload 5, 2) := by decide +kernel
theorem dd_T_findRings_57 : decode prog_5_method_4_code 57 = .ok (.iaload, 1) := by decide +kernel
theorem dd_T_findRings_58 : decode prog_5_method_4_code 58 = .ok (.invokestatic 60, 3) := by decide +kernel
theorem dd_T_findRings_61 : decode prog_5_method_4_code 61 = .ok (.istore 4, 2) := by decide +kernel
theorem dd_T_findRings_63 : decode prog_5_method_4_code 63 = .ok (.aload_n 0, 1) := by decide +kernel
theorem dd_T_findRings_64 : decode prog_5_method_4_code 64 = .ok (.getfield 15, 3) := by decide +kernel
theorem dd_T_findRings_67 : decode prog_5_method_4_code 67 = .ok (.iload 5, 2) := by decide +kernel
theorem dd_T_findRings_69 : decode prog_5_method_4_code 69 = .ok (.iaload, 1) := by decide +kernel
theorem dd_T_findRings_70 : decode prog_5_method_4_code 70 = .ok (.aload_n 0, 1) := by decide +kernel
theorem dd_T_findRings_71 : decode prog_5_method_4_code 71 = .ok (.getfield 15, 3) := by decide +kernel
theorem dd_T_findRings_74 : decode prog_5_method_4_code 74 = .ok (.iload 5, 2) := by decide +kernel
theorem dd_T_findRings_76 : decode prog_5_method_4_code 76 = .ok (.iconst 1, 1) := by decide +kernel
theorem dd_T_findRings_77 : decode prog_5_method_4_code 77 = .ok (.isub, 1) := by decide +kernel
theorem dd_T_findRings_78 : decode prog_5_method_4_code 78 = .ok (.iaload, 1) := by decide +kernel
theorem dd_T_findRings_79 : decode prog_5_method_4_code 79 = .ok (.if_icmp .le 26, 3) := by decide +kernel
theorem dd_T_findRings_82 : decode prog_5_method_4_code 82 = .ok (.aload_n 0, 1) := by decide +kernel
theorem dd_T_findRings_83 : decode prog_5_method_4_code 83 = .ok (.getfield 15, 3) := by decide +kernel
theorem dd_T_findRings_86 : decode prog_5_method_4_code 86 = .ok (.iload 5, 2) := by decide +kernel
theorem dd_T_findRings_88 : decode prog_5_method_4_code 88 = .ok (.iaload, 1) := by decide +kernel
theorem dd_T_findRings_89 : decode prog_5_method_4_code 89 = .ok (.aload_n 0, 1) := by decide +kernel
theorem dd_T_findRings_90 : decode prog_5_method_4_code 90 = .ok (.getfield 15, 3) := by decide +kernel
theorem dd_T_findRings_93 : decode prog_5_method_4_code 93 = .ok (.iload 5, 2) := by decide +kernel
theorem dd_T_findRings_95 : decode prog_5_method_4_code 95 = .ok (.iconst 1, 1) := by decide +kernel
theorem dd_T_findRings_96 : decode prog_5_method_4_code 96 = .ok (.iadd, 1) := by decide +kernel
theorem dd_T_findRings_97 : decode prog_5_method_4_code 97 = .ok (.iaload, 1) := by decide +kernel
theorem dd_T_findRings_98 : decode prog_5_method_4_code 98 = .ok (.if_icmp .lt 7, 3) := by decide +kernel
theorem dd_T_findRings_101 : decode prog_5_method_4_code 101 = .ok (.iconst 1, 1) := by decide +kernel
theorem dd_T_findRings_102 : decode prog_5_method_4_code 102 = .ok (.goto 4, 3) := by decide +kernel
theorem dd_T_findRings_105 : decode prog_5_method_4_code 105 = .ok (.iconst 0, 1) := by decide +kernel
theorem dd_T_findRings_106 : decode prog_5_method_4_code 106 = .ok (.istore 6, 2) := by decide +kernel
theorem dd_T_findRings_108 : decode prog_5_method_4_code 108 = .ok (.iload 6, 2) := by decide +kernel
theorem dd_T_findRings_110 : decode prog_5_method_4_code 110 = .ok (.ifCond .eq 58, 3) := by decide +kernel
theorem dd_T_findRings_113 : decode prog_5_method_4_code 113 = .ok (.iload 5, 2) := by decide +kernel
theorem dd_T_findRings_115 : decode prog_5_method_4_code 115 = .ok (.iload_n 3, 1) := by decide +kernel
theorem dd_T_findRings_116 : decode prog_5_method_4_code 116 = .ok (.isub, 1) := by decide +kernel
theorem dd_T_findRings_117 : decode prog_5_method_4_code 117 = .ok (.iload_n 1, 1) := by decide +kernel
theorem dd_T_findRings_118 : decode prog_5_method_4_code 118 = .ok (.if_icmp .lt 50, 3) := by decide +kernel
theorem dd_T_findRings_121 : decode prog_5_method_4_code 121 = .ok (.aload_n 0, 1) := by decide +kernel
theorem dd_T_findRings_122 : decode prog_5_method_4_code 122 = .ok (.getfield 15, 3) := by decide +kernel
theorem dd_T_findRings_125 : decode prog_5_method_4_code 125 = .ok (.iload 5, 2) := by decide +kernel
theorem dd_T_findRings_127 : decode prog_5_method_4_code 127 = .ok (.iaload, 1) := by decide +kernel
theorem dd_T_findRings_128 : decode prog_5_method_4_code 128 = .ok (.iload 4, 2) := by decide +kernel
theorem dd_T_findRings_130 : decode prog_5_method_4_code 130 = .ok (.isub, 1) := by decide +kernel
theorem dd_T_findRings_131 : decode prog_5_method_4_code 131 = .ok (.iload_n 2, 1) := by decide +kernel
theorem dd_T_findRings_132 : decode prog_5_method_4_code 132 = .ok (.if_icmp .lt 36, 3) := by decide +kernel
theorem dd_T_findRings_135 : decode prog_5_method_4_code 135 = .ok (.aload_n 0, 1) := by decide +kernel
theorem dd_T_findRings_136 : decode prog_5_method_4_code 136 = .ok (.getfield 18, 3) := by decide +kernel
theorem dd_T_findRings_139 : decode prog_5_method_4_code 139 = .ok (.aload_n 0, 1) := by decide +kernel
theorem dd_T_findRings_140 : decode prog_5_method_4_code 140 = .ok (.getfield 25, 3) := by decide +kernel
theorem dd_T_findRings_143 : decode prog_5_method_4_code 143 = .ok (.iload 5, 2) := by decide +kernel
theorem dd_T_findRings_145 : decode prog_5_method_4_code 145 = .ok (.iastore, 1) := by decide +kernel
theorem dd_T_findRings_146 : decode prog_5_method_4_code 146 = .ok (.aload_n 0, 1) := by decide +kernel
theorem dd_T_findRings_147 : decode prog_5_method_4_code 147 = .ok (.dup, 1) := by decide +kernel
theorem dd_T_findRings_148 : decode prog_5_method_4_code 148 = .ok (.getfield 25, 3) := by decide +kernel
theorem dd_T_findRings_151 : decode prog_5_method_4_code 151 = .ok (.iconst 1, 1) := by decide +kernel
theorem dd_T_findRings_152 : decode prog_5_method_4_code 152 = .ok (.iadd, 1) := by decide +kernel
theorem dd_T_findRings_153 : decode prog_5_method_4_code 153 = .ok (.putfield 25, 3) := by decide +kernel
theorem dd_T_findRings_156 : decode prog_5_method_4_code 156 = .ok (.iload 5, 2) := by decide +kernel
theorem dd_T_findRings_158 : decode prog_5_method_4_code 158 = .ok (.istore_n 3, 1) := by decide +kernel
theorem dd_T_findRings_159 : decode prog_5_method_4_code 159 = .ok (.aload_n 0, 1) := by decide +kernel
theorem dd_T_findRings_160 : decode prog_5_method_4_code 160 = .ok (.getfield 15, 3) := by decide +kernel
theorem dd_T_findRings_163 : decode prog_5_method_4_code 163 = .ok (.iload 5, 2) := by decide +kernel
theorem dd_T_findRings_165 : decode prog_5_method_4_code 165 = .ok (.iaload, 1) := by decide +kernel
theorem dd_T_findRings_166 : decode prog_5_method_4_code 166 = .ok (.istore 4, 2) := by decide +kernel
theorem dd_T_findRings_168 : decode prog_5_method_4_code 168 = .ok (.iinc 5 1, 3) := by decide +kernel
theorem dd_T_findRings_171 : decode prog_5_method_4_code 171 = .ok (.goto (-142), 3) := by decide +kernel
theorem dd_T_findRings_174 : decode prog_5_method_4_code 174 = .ok (.return_, 1) := by decide +kernel
theorem dd_S_follow_0 : decode prog_1_method_24_code 0 = .ok (.iload_n 1, 1) := by decide +kernel
theorem dd_S_follow_1 : decode prog_1_method_24_code 1 = .ok (.aload_n 0, 1) := by decide +kernel
theorem dd_S_follow_2 : decode prog_1_method_24_code 2 = .ok (.getfield 40, 3) := by decide +kernel
theorem dd_S_follow_5 : decode prog_1_method_24_code 5 = .ok (.invokestatic 82, 3) := by decide +kernel
theorem dd_S_follow_8 : decode prog_1_method_24_code 8 = .ok (.aload_n 2, 1) := by decide +kernel
theorem dd_S_follow_9 : decode prog_1_method_24_code 9 = .ok (.aload_n 0, 1) := by decide +kernel
theorem dd_S_follow_10 : decode prog_1_method_24_code 10 = .ok (.getfield 59, 3) := by decide +kernel
theorem dd_S_follow_13 : decode prog_1_method_24_code 13 = .ok (.aload_n 0, 1) := by decide +kernel
theorem dd_S_follow_14 : decode prog_1_method_24_code 14 = .ok (.getfield 9, 3) := by decide +kernel
theorem dd_S_follow_17 : decode prog_1_method_24_code 17 = .ok (.iload_n 1, 1) := by decide +kernel
theorem dd_S_follow_18 : decode prog_1_method_24_code 18 = .ok (.iaload, 1) := by decide +kernel
theorem dd_S_follow_19 : decode prog_1_method_24_code 19 = .ok (.aload_n 0, 1) := by decide +kernel
theorem dd_S_follow_20 : decode prog_1_method_24_code 20 = .ok (.getfield 13, 3) := by decide +kernel
theorem dd_S_follow_23 : decode prog_1_method_24_code 23 = .ok (.iload_n 1, 1) := by decide +kernel
theorem dd_S_follow_24 : decode prog_1_method_24_code 24 = .ok (.iaload, 1) := by decide +kernel
theorem dd_S_follow_25 : decode prog_1_method_24_code 25 = .ok (.invokevirtual 202, 3) := by decide +kernel
theorem dd_S_follow_28 : decode prog_1_method_24_code 28 = .ok (.aload_n 2, 1) := by decide +kernel
theorem dd_S_follow_29 : decode prog_1_method_24_code 29 = .ok (.invokevirtual 206, 3) := by decide +kernel
theorem dd_S_follow_32 : decode prog_1_method_24_code 32 = .ok (.aload_n 2, 1) := by decide +kernel
theorem dd_S_follow_33 : decode prog_1_method_24_code 33 = .ok (.aload_n 0, 1) := by decide +kernel
theorem dd_S_follow_34 : decode prog_1_method_24_code 34 = .ok (.getfield 44, 3) := by decide +kernel
theorem dd_S_follow_37 : decode prog_1_method_24_code 37 = .ok (.aload_n 0, 1) := by decide +kernel
theorem dd_S_follow_38 : decode prog_1_method_24_code 38 = .ok (.getfield 47, 3) := by decide +kernel
theorem dd_S_follow_41 : decode prog_1_method_24_code 41 = .ok (.invokevirtual 209, 3) := by decide +kernel
theorem dd_S_follow_44 : decode prog_1_method_24_code 44 = .ok (.return_, 1) := by decide +kernel
theorem dd_S_samples_0 : decode prog_1_method_5_code 0 = .ok (.aload_n 0, 1) := by decide +kernel
theorem dd_S_samples_1 : decode prog_1_method_5_code 1 = .ok (.iload_n 1, 1) := by decide +kernel
theorem dd_S_samples_2 : decode prog_1_method_5_code 2 = .ok (.aload_n 0, 1) := by decide +kernel
theorem dd_S_samples_3 : decode prog_1_method_5_code 3 = .ok (.getfield 19, 3) := by decide +kernel
theorem dd_S_samples_6 : decode prog_1_method_5_code 6 = .ok (.invokevirtual 102, 3) := by decide +kernel
theorem dd_S_samples_9 : decode prog_1_method_5_code 9 = .ok (.aload_n 0, 1) := by decide +kernel
theorem dd_S_samples_10 : decode prog_1_method_5_code 10 = .ok (.getfield 19, 3) := by decide +kernel
theorem dd_S_samples_13 : decode prog_1_method_5_code 13 = .ok (.getfield 106, 3) := by decide +kernel
theorem dd_S_samples_16 : decode prog_1_method_5_code 16 = .ok (.ireturn, 1) := by decide +kernel
theorem dd_S_sample_0 : decode prog_1_method_6_code 0 = .ok (.aload_n 0, 1) := by decide +kernel
theorem dd_S_sample_1 : decode prog_1_method_6_code 1 = .ok (.iload_n 1, 1) := by decide +kernel
theorem dd_S_sample_2 : decode prog_1_method_6_code 2 = .ok (.aload_n 0, 1) := by decide +kernel
theorem dd_S_sample_3 : decode prog_1_method_6_code 3 = .ok (.getfield 19, 3) := by decide +kernel
theorem dd_S_sample_6 : decode prog_1_method_6_code 6 = .ok (.invokevirtual 102, 3) := by decide +kernel
theorem dd_S_sample_9 : decode prog_1_method_6_code 9 = .ok (.iload_n 2, 1) := by decide +kernel
theorem dd_S_sample_10 : decode prog_1_method_6_code 10 = .ok (.aload_n 0, 1) := by decide +kernel
theorem dd_S_sample_11 : decode prog_1_method_6_code 11 = .ok (.getfield 19, 3) := by decide +kernel
theorem dd_S_sample_14 : decode prog_1_method_6_code 14 = .ok (.getfield 106, 3) := by decide +kernel
theorem dd_S_sample_17 : decode prog_1_method_6_code 17 = .ok (.invokestatic 82, 3) := by decide +kernel
theorem dd_S_sample_20 : decode prog_1_method_6_code 20 = .ok (.iload_n 3, 1) := by decide +kernel
theorem dd_S_sample_21 : decode prog_1_method_6_code 21 = .ok (.ifCond .eq 15, 3) := by decide +kernel
theorem dd_S_sample_24 : decode prog_1_method_6_code 24 = .ok (.aload_n 0, 1) := by decide +kernel
theorem dd_S_sample_25 : decode prog_1_method_6_code 25 = .ok (.getfield 19, 3) := by decide +kernel
theorem dd_S_sample_28 : decode prog_1_method_6_code 28 = .ok (.getfield 109, 3) := by decide +kernel
theorem dd_S_sample_31 : decode prog_1_method_6_code 31 = .ok (.iload_n 2, 1) := by decide +kernel
theorem dd_S_sample_32 : decode prog_1_method_6_code 32 = .ok (.iaload, 1) := by decide +kernel
theorem dd_S_sample_33 : decode prog_1_method_6_code 33 = .ok (.goto 12, 3) := by decide +kernel
theorem dd_S_sample_36 : decode prog_1_method_6_code 36 = .ok (.aload_n 0, 1) := by decide +kernel
theorem dd_S_sample_37 : decode prog_1_method_6_code 37 = .ok (.getfield 19, 3) := by decide +kernel
theorem dd_S_sample_40 : decode prog_1_method_6_code 40 = .ok (.getfield 112, 3) := by decide +kernel
theorem dd_S_sample_43 : decode prog_1_method_6_code 43 = .ok (.iload_n 2, 1) := by decide +kernel
theorem dd_S_sample_44 : decode prog_1_method_6_code 44 = .ok (.iaload, 1) := by decide +kernel
theorem dd_S_sample_45 : decode prog_1_method_6_code 45 = .ok (.ireturn, 1) := by decide +kernel
theorem dd_S_rule_0 : decode prog_1_method_7_code 0 = .ok (.iload_n 1, 1) := by decide +kernel
theorem dd_S_rule_1 : decode prog_1_method_7_code 1 = .ok (.iconst 1, 1) := by decide +kernel
theorem dd_S_rule_2 : decode prog_1_method_7_code 2 = .ok (.bipush 10, 2) := by decide +kernel
theorem dd_S_rule_4 : decode prog_1_method_7_code 4 = .ok (.invokestatic 74, 3) := by decide +kernel
theorem dd_S_rule_7 : decode prog_1_method_7_code 7 = .ok (.iload_n 2, 1) := by decide +kernel
theorem dd_S_rule_8 : decode prog_1_method_7_code 8 = .ok (.iconst 0, 1) := by decide +kernel
theorem dd_S_rule_9 : decode prog_1_method_7_code 9 = .ok (.sipush 255, 3) := by decide +kernel
theorem dd_S_rule_12 : decode prog_1_method_7_code 12 = .ok (.invokestatic 74, 3) := by decide +kernel
theorem dd_S_rule_15 : decode prog_1_method_7_code 15 = .ok (.aload_n 0, 1) := by decide +kernel
theorem dd_S_rule_16 : decode prog_1_method_7_code 16 = .ok (.iload_n 1, 1) := by decide +kernel
theorem dd_S_rule_17 : decode prog_1_method_7_code 17 = .ok (.putfield 44, 3) := by decide +kernel
theorem dd_S_rule_20 : decode prog_1_method_7_code 20 = .ok (.aload_n 0, 1) := by decide +kernel
theorem dd_S_rule_21 : decode prog_1_method_7_code 21 = .ok (.iload_n 2, 1) := by decide +kernel
theorem dd_S_rule_22 : decode prog_1_method_7_code 22 = .ok (.putfield 47, 3) := by decide +kernel
theorem dd_S_rule_25 : decode prog_1_method_7_code 25 = .ok (.return_, 1) := by decide +kernel
theorem dd_S_rings_0 : decode prog_1_method_8_code 0 = .ok (.aload_n 0, 1) := by decide +kernel
theorem dd_S_rings_1 : decode prog_1_method_8_code 1 = .ok (.iload_n 1, 1) := by decide +kernel
theorem dd_S_rings_2 : decode prog_1_method_8_code 2 = .ok (.aload_n 0, 1) := by decide +kernel
theorem dd_S_rings_3 : decode prog_1_method_8_code 3 = .ok (.getfield 19, 3) := by decide +kernel
theorem dd_S_rings_6 : decode prog_1_method_8_code 6 = .ok (.invokevirtual 102, 3) := by decide +kernel
theorem dd_S_rings_9 : decode prog_1_method_8_code 9 = .ok (.aload_n 0, 1) := by decide +kernel
theorem dd_S_rings_10 : decode prog_1_method_8_code 10 = .ok (.getfield 19, 3) := by decide +kernel
theorem dd_S_rings_13 : decode prog_1_method_8_code 13 = .ok (.getfield 115, 3) := by decide +kernel
theorem dd_S_rings_16 : decode prog_1_method_8_code 16 = .ok (.ireturn, 1) := by decide +kernel
theorem dd_T_widthOf_0 : decode prog_5_method_5_code 0 = .ok (.iload_n 1, 1) := by decide +kernel
theorem dd_T_widthOf_1 : decode prog_5_method_5_code 1 = .ok (.ifCond .le 21, 3) := by decide +kernel
theorem dd_T_widthOf_4 : decode prog_5_method_5_code 4 = .ok (.aload_n 0, 1) := by decide +kernel
theorem dd_T_widthOf_5 : decode prog_5_method_5_code 5 = .ok (.getfield 18, 3) := by decide +kernel
theorem dd_T_widthOf_8 : decode prog_5_method_5_code 8 = .ok (.iload_n 1, 1) := by decide +kernel
theorem dd_T_widthOf_9 : decode prog_5_method_5_code 9 = .ok (.iaload, 1) := by decide +kernel
theorem dd_T_widthOf_10 : decode prog_5_method_5_code 10 = .ok (.aload_n 0, 1) := by decide +kernel
theorem dd_T_widthOf_11 : decode prog_5_method_5_code 11 = .ok (.getfield 18, 3) := by decide +kernel
theorem dd_T_widthOf_14 : decode prog_5_method_5_code 14 = .ok (.iload_n 1, 1) := by decide +kernel
theorem dd_T_widthOf_15 : decode prog_5_method_5_code 15 = .ok (.iconst 1, 1) := by decide +kernel
theorem dd_T_widthOf_16 : decode prog_5_method_5_code 16 = .ok (.isub, 1) := by decide +kernel
theorem dd_T_widthOf_17 : decode prog_5_method_5_code 17 = .ok (.iaload, 1) := by decide +kernel
theorem dd_T_widthOf_18 : decode prog_5_method_5_code 18 = .ok (.isub, 1) := by decide +kernel
theorem dd_T_widthOf_19 : decode prog_5_method_5_code 19 = .ok (.goto 9, 3) := by decide +kernel
theorem dd_T_widthOf_22 : decode prog_5_method_5_code 22 = .ok (.aload_n 0, 1) := by decide +kernel
theorem dd_T_widthOf_23 : decode prog_5_method_5_code 23 = .ok (.getfield 18, 3) := by decide +kernel
theorem dd_T_widthOf_26 : decode prog_5_method_5_code 26 = .ok (.iload_n 1, 1) := by decide +kernel
theorem dd_T_widthOf_27 : decode prog_5_method_5_code 27 = .ok (.iaload, 1) := by decide +kernel
theorem dd_T_widthOf_28 : decode prog_5_method_5_code 28 = .ok (.ireturn, 1) := by decide +kernel
theorem dd_T_isFalse_0 : decode prog_5_method_6_code 0 = .ok (.iload_n 1, 1) := by decide +kernel
theorem dd_T_isFalse_1 : decode prog_5_method_6_code 1 = .ok (.iconst 1, 1) := by decide +kernel
theorem dd_T_isFalse_2 : decode prog_5_method_6_code 2 = .ok (.if_icmp .lt 13, 3) := by decide +kernel
theorem dd_T_isFalse_5 : decode prog_5_method_6_code 5 = .ok (.iload_n 1, 1) := by decide +kernel
theorem dd_T_isFalse_6 : decode prog_5_method_6_code 6 = .ok (.aload_n 0, 1) := by decide +kernel
theorem dd_T_isFalse_7 : decode prog_5_method_6_code 7 = .ok (.getfield 25, 3) := by decide +kernel
theorem dd_T_isFalse_10 : decode prog_5_method_6_code 10 = .ok (.iconst 1, 1) := by decide +kernel
theorem dd_T_isFalse_11 : decode prog_5_method_6_code 11 = .ok (.isub, 1) := by decide +kernel
theorem dd_T_isFalse_12 : decode prog_5_method_6_code 12 = .ok (.if_icmp .lt 5, 3) := by decide +kernel
theorem dd_T_isFalse_15 : decode prog_5_method_6_code 15 = .ok (.iconst 0, 1) := by decide +kernel
theorem dd_T_isFalse_16 : decode prog_5_method_6_code 16 = .ok (.ireturn, 1) := by decide +kernel
theorem dd_T_isFalse_17 : decode prog_5_method_6_code 17 = .ok (.iconst 2, 1) := by decide +kernel
theorem dd_T_isFalse_18 : decode prog_5_method_6_code 18 = .ok (.aload_n 0, 1) := by decide +kernel
theorem dd_T_isFalse_19 : decode prog_5_method_6_code 19 = .ok (.iload_n 1, 1) := by decide +kernel
theorem dd_T_isFalse_20 : decode prog_5_method_6_code 20 = .ok (.invokevirtual 63, 3) := by decide +kernel
theorem dd_T_isFalse_23 : decode prog_5_method_6_code 23 = .ok (.imul, 1) := by decide +kernel
theorem dd_T_isFalse_24 : decode prog_5_method_6_code 24 = .ok (.istore_n 2, 1) := by decide +kernel
theorem dd_T_isFalse_25 : decode prog_5_method_6_code 25 = .ok (.iload_n 2, 1) := by decide +kernel
theorem dd_T_isFalse_26 : decode prog_5_method_6_code 26 = .ok (.aload_n 0, 1) := by decide +kernel
theorem dd_T_isFalse_27 : decode prog_5_method_6_code 27 = .ok (.iload_n 1, 1) := by decide +kernel
theorem dd_T_isFalse_28 : decode prog_5_method_6_code 28 = .ok (.iconst 1, 1) := by decide +kernel
theorem dd_T_isFalse_29 : decode prog_5_method_6_code 29 = .ok (.isub, 1) := by decide +kernel
theorem dd_T_isFalse_30 : decode prog_5_method_6_code 30 = .ok (.invokevirtual 63, 3) := by decide +kernel
theorem dd_T_isFalse_33 : decode prog_5_method_6_code 33 = .ok (.if_icmp .ge 18, 3) := by decide +kernel
theorem dd_T_isFalse_36 : decode prog_5_method_6_code 36 = .ok (.iload_n 2, 1) := by decide +kernel
theorem dd_T_isFalse_37 : decode prog_5_method_6_code 37 = .ok (.aload_n 0, 1) := by decide +kernel
theorem dd_T_isFalse_38 : decode prog_5_method_6_code 38 = .ok (.iload_n 1, 1) := by decide +kernel
theorem dd_T_isFalse_39 : decode prog_5_method_6_code 39 = .ok (.iconst 1, 1) := by decide +kernel
theorem dd_T_isFalse_40 : decode prog_5_method_6_code 40 = .ok (.iadd, 1) := by decide +kernel
theorem dd_T_isFalse_41 : decode prog_5_method_6_code 41 = .ok (.invokevirtual 63, 3) := by decide +kernel
theorem dd_T_isFalse_44 : decode prog_5_method_6_code 44 = .ok (.if_icmp .ge 7, 3) := by decide +kernel
theorem dd_T_isFalse_47 : decode prog_5_method_6_code 47 = .ok (.iconst 1, 1) := by decide +kernel
theorem dd_T_isFalse_48 : decode prog_5_method_6_code 48 = .ok (.goto 4, 3) := by decide +kernel
theorem dd_T_isFalse_51 : decode prog_5_method_6_code 51 = .ok (.iconst 0, 1) := by decide +kernel
theorem dd_T_isFalse_52 : decode prog_5_method_6_code 52 = .ok (.ireturn, 1) := by decide +kernel
theorem dd_S_ring_0 : decode prog_1_method_9_code 0 = .ok (.aload_n 0, 1) := by decide +kernel
theorem dd_S_ring_1 : decode prog_1_method_9_code 1 = .ok (.iload_n 1, 1) := by decide +kernel
theorem dd_S_ring_2 : decode prog_1_method_9_code 2 = .ok (.aload_n 0, 1) := by decide +kernel
theorem dd_S_ring_3 : decode prog_1_method_9_code 3 = .ok (.getfield 19, 3) := by decide +kernel
theorem dd_S_ring_6 : decode prog_1_method_9_code 6 = .ok (.invokevirtual 102, 3) := by decide +kernel
theorem dd_S_ring_9 : decode prog_1_method_9_code 9 = .ok (.iload_n 2, 1) := by decide +kernel
theorem dd_S_ring_10 : decode prog_1_method_9_code 10 = .ok (.aload_n 0, 1) := by decide +kernel
theorem dd_S_ring_11 : decode prog_1_method_9_code 11 = .ok (.getfield 19, 3) := by decide +kernel
theorem dd_S_ring_14 : decode prog_1_method_9_code 14 = .ok (.getfield 115, 3) := by decide +kernel
theorem dd_S_ring_17 : decode prog_1_method_9_code 17 = .ok (.invokestatic 82, 3) := by decide +kernel
theorem dd_S_ring_20 : decode prog_1_method_9_code 20 = .ok (.iload_n 3, 1) := by decide +kernel
theorem dd_S_ring_21 : decode prog_1_method_9_code 21 = .ok (.iconst 4, 1) := by decide +kernel
theorem dd_S_ring_22 : decode prog_1_method_9_code 22 = .ok (.invokestatic 82, 3) := by decide +kernel
theorem dd_S_ring_25 : decode prog_1_method_9_code 25 = .ok (.iload_n 3, 1) := by decide +kernel
theorem dd_S_ring_26 : decode prog_1_method_9_code 26 = .ok (.tableswitch 63 0 2 #[26, 36, 54], 26) := by decide +kernel
theorem dd_S_ring_52 : decode prog_1_method_9_code 52 = .ok (.aload_n 0, 1) := by decide +kernel
theorem dd_S_ring_53 : decode prog_1_method_9_code 53 = .ok (.getfield 19, 3) := by decide +kernel
theorem dd_S_ring_56 : decode prog_1_method_9_code 56 = .ok (.getfield 118, 3) := by decide +kernel
theorem dd_S_ring_59 : decode prog_1_method_9_code 59 = .ok (.iload_n 2, 1) := by decide +kernel
theorem dd_S_ring_60 : decode prog_1_method_9_code 60 = .ok (.iaload, 1) := by decide +kernel
theorem dd_S_ring_61 : decode prog_1_method_9_code 61 = .ok (.ireturn, 1) := by decide +kernel
theorem dd_S_ring_62 : decode prog_1_method_9_code 62 = .ok (.aload_n 0, 1) := by decide +kernel
theorem dd_S_ring_63 : decode prog_1_method_9_code 63 = .ok (.getfield 19, 3) := by decide +kernel
theorem dd_S_ring_66 : decode prog_1_method_9_code 66 = .ok (.getfield 109, 3) := by decide +kernel
theorem dd_S_ring_69 : decode prog_1_method_9_code 69 = .ok (.aload_n 0, 1) := by decide +kernel
theorem dd_S_ring_70 : decode prog_1_method_9_code 70 = .ok (.getfield 19, 3) := by decide +kernel
theorem dd_S_ring_73 : decode prog_1_method_9_code 73 = .ok (.getfield 118, 3) := by decide +kernel
theorem dd_S_ring_76 : decode prog_1_method_9_code 76 = .ok (.iload_n 2, 1) := by decide +kernel
theorem dd_S_ring_77 : decode prog_1_method_9_code 77 = .ok (.iaload, 1) := by decide +kernel
theorem dd_S_ring_78 : decode prog_1_method_9_code 78 = .ok (.iaload, 1) := by decide +kernel
theorem dd_S_ring_79 : decode prog_1_method_9_code 79 = .ok (.ireturn, 1) := by decide +kernel
theorem dd_S_ring_80 : decode prog_1_method_9_code 80 = .ok (.aload_n 0, 1) := by decide +kernel
theorem dd_S_ring_81 : decode prog_1_method_9_code 81 = .ok (.getfield 19, 3) := by decide +kernel
theorem dd_S_ring_84 : decode prog_1_method_9_code 84 = .ok (.iload_n 2, 1) := by decide +kernel
theorem dd_S_ring_85 : decode prog_1_method_9_code 85 = .ok (.invokevirtual 121, 3) := by decide +kernel
theorem dd_S_ring_88 : decode prog_1_method_9_code 88 = .ok (.ireturn, 1) := by decide +kernel
theorem dd_S_ring_89 : decode prog_1_method_9_code 89 = .ok (.aload_n 0, 1) := by decide +kernel
theorem dd_S_ring_90 : decode prog_1_method_9_code 90 = .ok (.getfield 19, 3) := by decide +kernel
theorem dd_S_ring_93 : decode prog_1_method_9_code 93 = .ok (.iload_n 2, 1) := by decide +kernel
theorem dd_S_ring_94 : decode prog_1_method_9_code 94 = .ok (.invokevirtual 124, 3) := by decide +kernel
theorem dd_S_ring_97 : decode prog_1_method_9_code 97 = .ok (.ifCond .eq 7, 3) := by decide +kernel
theorem dd_S_ring_100 : decode prog_1_method_9_code 100 = .ok (.iconst 1, 1) := by decide +kernel
theorem dd_S_ring_101 : decode prog_1_method_9_code 101 = .ok (.goto 4, 3) := by decide +kernel
theorem dd_S_ring_104 : decode prog_1_method_9_code 104 = .ok (.iconst 0, 1) := by decide +kernel
theorem dd_S_ring_105 : decode prog_1_method_9_code 105 = .ok (.ireturn, 1) := by decide +kernel
theorem dd_G_together_0 : decode prog_2_method_5_code 0 = .ok (.aload_n 1, 1) := by decide +kernel
theorem dd_G_together_1 : decode prog_2_method_5_code 1 = .ok (.getfield 52, 3) := by decide +kernel
theorem dd_G_together_4 : decode prog_2_method_5_code 4 = .ok (.iload_n 3, 1) := by decide +kernel
theorem dd_G_together_5 : decode prog_2_method_5_code 5 = .ok (.iaload, 1) := by decide +kernel
theorem dd_G_together_6 : decode prog_2_method_5_code 6 = .ok (.aload_n 2, 1) := by decide +kernel
theorem dd_G_together_7 : decode prog_2_method_5_code 7 = .ok (.getfield 52, 3) := by decide +kernel
theorem dd_G_together_10 : decode prog_2_method_5_code 10 = .ok (.iload 4, 2) := by decide +kernel
theorem dd_G_together_12 : decode prog_2_method_5_code 12 = .ok (.iaload, 1) := by decide +kernel
theorem dd_G_together_13 : decode prog_2_method_5_code 13 = .ok (.isub, 1) := by decide +kernel
theorem dd_G_together_14 : decode prog_2_method_5_code 14 = .ok (.invokestatic 55, 3) := by decide +kernel
theorem dd_G_together_17 : decode prog_2_method_5_code 17 = .ok (.aload_n 0, 1) := by decide +kernel
theorem dd_G_together_18 : decode prog_2_method_5_code 18 = .ok (.getfield 11, 3) := by decide +kernel
theorem dd_G_together_21 : decode prog_2_method_5_code 21 = .ok (.iload_n 3, 1) := by decide +kernel
theorem dd_G_together_22 : decode prog_2_method_5_code 22 = .ok (.iconst 1, 1) := by decide +kernel
theorem dd_G_together_23 : decode prog_2_method_5_code 23 = .ok (.iadd, 1) := by decide +kernel
theorem dd_G_together_24 : decode prog_2_method_5_code 24 = .ok (.bipush 9, 2) := by decide +kernel
theorem dd_G_together_26 : decode prog_2_method_5_code 26 = .ok (.imul, 1) := by decide +kernel
theorem dd_G_together_27 : decode prog_2_method_5_code 27 = .ok (.iload 4, 2) := by decide +kernel
theorem dd_G_together_29 : decode prog_2_method_5_code 29 = .ok (.iadd, 1) := by decide +kernel
theorem dd_G_together_30 : decode prog_2_method_5_code 30 = .ok (.iconst 1, 1) := by decide +kernel
theorem dd_G_together_31 : decode prog_2_method_5_code 31 = .ok (.iadd, 1) := by decide +kernel
theorem dd_G_together_32 : decode prog_2_method_5_code 32 = .ok (.iaload, 1) := by decide +kernel
theorem dd_G_together_33 : decode prog_2_method_5_code 33 = .ok (.iadd, 1) := by decide +kernel
theorem dd_G_together_34 : decode prog_2_method_5_code 34 = .ok (.ireturn, 1) := by decide +kernel
theorem dd_G_leastFrom_0 : decode prog_2_method_4_code 0 = .ok (.iload_n 3, 1) := by decide +kernel
theorem dd_G_leastFrom_1 : decode prog_2_method_4_code 1 = .ok (.aload_n 1, 1) := by decide +kernel
theorem dd_G_leastFrom_2 : decode prog_2_method_4_code 2 = .ok (.getfield 26, 3) := by decide +kernel
theorem dd_G_leastFrom_5 : decode prog_2_method_4_code 5 = .ok (.if_icmp .lt 14, 3) := by decide +kernel
theorem dd_G_leastFrom_8 : decode prog_2_method_4_code 8 = .ok (.aload_n 2, 1) := by decide +kernel
theorem dd_G_leastFrom_9 : decode prog_2_method_4_code 9 = .ok (.getfield 26, 3) := by decide +kernel
theorem dd_G_leastFrom_12 : decode prog_2_method_4_code 12 = .ok (.iload 4, 2) := by decide +kernel
theorem dd_G_leastFrom_14 : decode prog_2_method_4_code 14 = .ok (.isub, 1) := by decide +kernel
theorem dd_G_leastFrom_15 : decode prog_2_method_4_code 15 = .ok (.iload 5, 2) := by decide +kernel
theorem dd_G_leastFrom_17 : decode prog_2_method_4_code 17 = .ok (.imul, 1) := by decide +kernel
theorem dd_G_leastFrom_18 : decode prog_2_method_4_code 18 = .ok (.ireturn, 1) := by decide +kernel
theorem dd_G_leastFrom_19 : decode prog_2_method_4_code 19 = .ok (.iload 4, 2) := by decide +kernel
theorem dd_G_leastFrom_21 : decode prog_2_method_4_code 21 = .ok (.aload_n 2, 1) := by decide +kernel
theorem dd_G_leastFrom_22 : decode prog_2_method_4_code 22 = .ok (.getfield 26, 3) := by decide +kernel
theorem dd_G_leastFrom_25 : decode prog_2_method_4_code 25 = .ok (.if_icmp .lt 13, 3) := by decide +kernel
theorem dd_G_leastFrom_28 : decode prog_2_method_4_code 28 = .ok (.aload_n 1, 1) := by decide +kernel
theorem dd_G_leastFrom_29 : decode prog_2_method_4_code 29 = .ok (.getfield 26, 3) := by decide +kernel
theorem dd_G_leastFrom_32 : decode prog_2_method_4_code 32 = .ok (.iload_n 3, 1) := by decide +kernel
theorem dd_G_leastFrom_33 : decode prog_2_method_4_code 33 = .ok (.isub, 1) := by decide +kernel
theorem dd_G_leastFrom_34 : decode prog_2_method_4_code 34 = .ok (.iload 5, 2) := by decide +kernel
theorem dd_G_leastFrom_36 : decode prog_2_method_4_code 36 = .ok (.imul, 1) := by decide +kernel
theorem dd_G_leastFrom_37 : decode prog_2_method_4_code 37 = .ok (.ireturn, 1) := by decide +kernel
theorem dd_G_leastFrom_38 : decode prog_2_method_4_code 38 = .ok (.iload 5, 2) := by decide +kernel
theorem dd_G_leastFrom_40 : decode prog_2_method_4_code 40 = .ok (.aload_n 0, 1) := by decide +kernel
theorem dd_G_leastFrom_41 : decode prog_2_method_4_code 41 = .ok (.getfield 11, 3) := by decide +kernel
theorem dd_G_leastFrom_44 : decode prog_2_method_4_code 44 = .ok (.iload_n 3, 1) := by decide +kernel
theorem dd_G_leastFrom_45 : decode prog_2_method_4_code 45 = .ok (.iconst 1, 1) := by decide +kernel
theorem dd_G_leastFrom_46 : decode prog_2_method_4_code 46 = .ok (.iadd, 1) := by decide +kernel
theorem dd_G_leastFrom_47 : decode prog_2_method_4_code 47 = .ok (.bipush 9, 2) := by decide +kernel
theorem dd_G_leastFrom_49 : decode prog_2_method_4_code 49 = .ok (.imul, 1) := by decide +kernel
theorem dd_G_leastFrom_50 : decode prog_2_method_4_code 50 = .ok (.iload 4, 2) := by decide +kernel
theorem dd_G_leastFrom_52 : decode prog_2_method_4_code 52 = .ok (.iadd, 1) := by decide +kernel
theorem dd_G_leastFrom_53 : decode prog_2_method_4_code 53 = .ok (.iaload, 1) := by decide +kernel
theorem dd_G_leastFrom_54 : decode prog_2_method_4_code 54 = .ok (.aload_n 0, 1) := by decide +kernel
theorem dd_G_leastFrom_55 : decode prog_2_method_4_code 55 = .ok (.getfield 11, 3) := by decide +kernel
theorem dd_G_leastFrom_58 : decode prog_2_method_4_code 58 = .ok (.iload_n 3, 1) := by decide +kernel
theorem dd_G_leastFrom_59 : decode prog_2_method_4_code 59 = .ok (.bipush 9, 2) := by decide +kernel
theorem dd_G_leastFrom_61 : decode prog_2_method_4_code 61 = .ok (.imul, 1) := by decide +kernel
theorem dd_G_leastFrom_62 : decode prog_2_method_4_code 62 = .ok (.iload 4, 2) := by decide +kernel
theorem dd_G_leastFrom_64 : decode prog_2_method_4_code 64 = .ok (.iadd, 1) := by decide +kernel
theorem dd_G_leastFrom_65 : decode prog_2_method_4_code 65 = .ok (.iconst 1, 1) := by decide +kernel
theorem dd_G_leastFrom_66 : decode prog_2_method_4_code 66 = .ok (.iadd, 1) := by decide +kernel
theorem dd_G_leastFrom_67 : decode prog_2_method_4_code 67 = .ok (.iaload, 1) := by decide +kernel
theorem dd_G_leastFrom_68 : decode prog_2_method_4_code 68 = .ok (.invokestatic 42, 3) := by decide +kernel
theorem dd_G_leastFrom_71 : decode prog_2_method_4_code 71 = .ok (.iadd, 1) := by decide +kernel
theorem dd_G_leastFrom_72 : decode prog_2_method_4_code 72 = .ok (.istore 6, 2) := by decide +kernel
theorem dd_G_leastFrom_74 : decode prog_2_method_4_code 74 = .ok (.aload_n 0, 1) := by decide +kernel
theorem dd_G_leastFrom_75 : decode prog_2_method_4_code 75 = .ok (.aload_n 1, 1) := by decide +kernel
theorem dd_G_leastFrom_76 : decode prog_2_method_4_code 76 = .ok (.aload_n 2, 1) := by decide +kernel
theorem dd_G_leastFrom_77 : decode prog_2_method_4_code 77 = .ok (.iload_n 3, 1) := by decide +kernel
theorem dd_G_leastFrom_78 : decode prog_2_method_4_code 78 = .ok (.iload 4, 2) := by decide +kernel
theorem dd_G_leastFrom_80 : decode prog_2_method_4_code 80 = .ok (.invokevirtual 48, 3) := by decide +kernel
theorem dd_G_leastFrom_83 : decode prog_2_method_4_code 83 = .ok (.iload 6, 2) := by decide +kernel
theorem dd_G_leastFrom_85 : decode prog_2_method_4_code 85 = .ok (.invokestatic 42, 3) := by decide +kernel
theorem dd_G_leastFrom_88 : decode prog_2_method_4_code 88 = .ok (.ireturn, 1) := by decide +kernel
theorem dd_G_fillCosts_0 : decode prog_2_method_3_code 0 = .ok (.aload_n 1, 1) := by decide +kernel
theorem dd_G_fillCosts_1 : decode prog_2_method_3_code 1 = .ok (.getfield 26, 3) := by decide +kernel
theorem dd_G_fillCosts_4 : decode prog_2_method_3_code 4 = .ok (.istore 4, 2) := by decide +kernel
theorem dd_G_fillCosts_6 : decode prog_2_method_3_code 6 = .ok (.iload 4, 2) := by decide +kernel
theorem dd_G_fillCosts_8 : decode prog_2_method_3_code 8 = .ok (.ifCond .lt 50, 3) := by decide +kernel
theorem dd_G_fillCosts_11 : decode prog_2_method_3_code 11 = .ok (.aload_n 2, 1) := by decide +kernel
theorem dd_G_fillCosts_12 : decode prog_2_method_3_code 12 = .ok (.getfield 26, 3) := by decide +kernel
theorem dd_G_fillCosts_15 : decode prog_2_method_3_code 15 = .ok (.istore 5, 2) := by decide +kernel
theorem dd_G_fillCosts_17 : decode prog_2_method_3_code 17 = .ok (.iload 5, 2) := by decide +kernel
theorem dd_G_fillCosts_19 : decode prog_2_method_3_code 19 = .ok (.ifCond .lt 33, 3) := by decide +kernel
theorem dd_G_fillCosts_22 : decode prog_2_method_3_code 22 = .ok (.aload_n 0, 1) := by decide +kernel
theorem dd_G_fillCosts_23 : decode prog_2_method_3_code 23 = .ok (.getfield 11, 3) := by decide +kernel
theorem dd_G_fillCosts_26 : decode prog_2_method_3_code 26 = .ok (.iload 4, 2) := by decide +kernel
theorem dd_G_fillCosts_28 : decode prog_2_method_3_code 28 = .ok (.bipush 9, 2) := by decide +kernel
theorem dd_G_fillCosts_30 : decode prog_2_method_3_code 30 = .ok (.imul, 1) := by decide +kernel
theorem dd_G_fillCosts_31 : decode prog_2_method_3_code 31 = .ok (.iload 5, 2) := by decide +kernel
theorem dd_G_fillCosts_33 : decode prog_2_method_3_code 33 = .ok (.iadd, 1) := by decide +kernel
theorem dd_G_fillCosts_34 : decode prog_2_method_3_code 34 = .ok (.aload_n 0, 1) := by decide +kernel
theorem dd_G_fillCosts_35 : decode prog_2_method_3_code 35 = .ok (.aload_n 1, 1) := by decide +kernel
theorem dd_G_fillCosts_36 : decode prog_2_method_3_code 36 = .ok (.aload_n 2, 1) := by decide +kernel
theorem dd_G_fillCosts_37 : decode prog_2_method_3_code 37 = .ok (.iload 4, 2) := by decide +kernel
theorem dd_G_fillCosts_39 : decode prog_2_method_3_code 39 = .ok (.iload 5, 2) := by decide +kernel
theorem dd_G_fillCosts_41 : decode prog_2_method_3_code 41 = .ok (.iload_n 3, 1) := by decide +kernel
theorem dd_G_fillCosts_42 : decode prog_2_method_3_code 42 = .ok (.invokevirtual 38, 3) := by decide +kernel
theorem dd_G_fillCosts_45 : decode prog_2_method_3_code 45 = .ok (.iastore, 1) := by decide +kernel
theorem dd_G_fillCosts_46 : decode prog_2_method_3_code 46 = .ok (.iinc 5 (-1), 3) := by decide +kernel
theorem dd_G_fillCosts_49 : decode prog_2_method_3_code 49 = .ok (.goto (-32), 3) := by decide +kernel
theorem dd_G_fillCosts_52 : decode prog_2_method_3_code 52 = .ok (.iinc 4 (-1), 3) := by decide +kernel
theorem dd_G_fillCosts_55 : decode prog_2_method_3_code 55 = .ok (.goto (-49), 3) := by decide +kernel
theorem dd_G_fillCosts_58 : decode prog_2_method_3_code 58 = .ok (.return_, 1) := by decide +kernel
theorem dd_G_choosePartners_0 : decode prog_2_method_6_code 0 = .ok (.iconst 0, 1) := by decide +kernel
theorem dd_G_choosePartners_1 : decode prog_2_method_6_code 1 = .ok (.istore 4, 2) := by decide +kernel
theorem dd_G_choosePartners_3 : decode prog_2_method_6_code 3 = .ok (.iconst 0, 1) := by decide +kernel
theorem dd_G_choosePartners_4 : decode prog_2_method_6_code 4 = .ok (.istore 5, 2) := by decide +kernel
theorem dd_G_choosePartners_6 : decode prog_2_method_6_code 6 = .ok (.iconst 0, 1) := by decide +kernel
theorem dd_G_choosePartners_7 : decode prog_2_method_6_code 7 = .ok (.istore 6, 2) := by decide +kernel
theorem dd_G_choosePartners_9 : decode prog_2_method_6_code 9 = .ok (.iload 6, 2) := by decide +kernel
theorem dd_G_choosePartners_11 : decode prog_2_method_6_code 11 = .ok (.aload_n 1, 1) := by decide +kernel
theorem dd_G_choosePartners_12 : decode prog_2_method_6_code 12 = .ok (.getfield 26, 3) := by decide +kernel
theorem dd_G_choosePartners_15 : decode prog_2_method_6_code 15 = .ok (.aload_n 2, 1) := by decide +kernel
theorem dd_G_choosePartners_16 : decode prog_2_method_6_code 16 = .ok (.getfield 26, 3) := by decide +kernel
theorem dd_G_choosePartners_19 : decode prog_2_method_6_code 19 = .ok (.iadd, 1) := by decide +kernel
theorem dd_G_choosePartners_20 : decode prog_2_method_6_code 20 = .ok (.if_icmp .ge 123, 3) := by decide +kernel
theorem dd_G_choosePartners_23 : decode prog_2_method_6_code 23 = .ok (.iload 4, 2) := by decide +kernel
theorem dd_G_choosePartners_25 : decode prog_2_method_6_code 25 = .ok (.aload_n 1, 1) := by decide +kernel
theorem dd_G_choosePartners_26 : decode prog_2_method_6_code 26 = .ok (.getfield 26, 3) := by decide +kernel
theorem dd_G_choosePartners_29 : decode prog_2_method_6_code 29 = .ok (.if_icmp .ge 114, 3) := by decide +kernel
theorem dd_G_choosePartners_32 : decode prog_2_method_6_code 32 = .ok (.aload_n 0, 1) := by decide +kernel
theorem dd_G_choosePartners_33 : decode prog_2_method_6_code 33 = .ok (.getfield 11, 3) := by decide +kernel
theorem dd_G_choosePartners_36 : decode prog_2_method_6_code 36 = .ok (.iload 4, 2) := by decide +kernel
theorem dd_G_choosePartners_38 : decode prog_2_method_6_code 38 = .ok (.bipush 9, 2) := by decide +kernel
theorem dd_G_choosePartners_40 : decode prog_2_method_6_code 40 = .ok (.imul, 1) := by decide +kernel
theorem dd_G_choosePartners_41 : decode prog_2_method_6_code 41 = .ok (.iload 5, 2) := by decide +kernel
theorem dd_G_choosePartners_43 : decode prog_2_method_6_code 43 = .ok (.iadd, 1) := by decide +kernel
theorem dd_G_choosePartners_44 : decode prog_2_method_6_code 44 = .ok (.iaload, 1) := by decide +kernel
theorem dd_G_choosePartners_45 : decode prog_2_method_6_code 45 = .ok (.istore 7, 2) := by decide +kernel
theorem dd_G_choosePartners_47 : decode prog_2_method_6_code 47 = .ok (.iload 5, 2) := by decide +kernel
theorem dd_G_choosePartners_49 : decode prog_2_method_6_code 49 = .ok (.aload_n 2, 1) := by decide +kernel
theorem dd_G_choosePartners_50 : decode prog_2_method_6_code 50 = .ok (.getfield 26, 3) := by decide +kernel
theorem dd_G_choosePartners_53 : decode prog_2_method_6_code 53 = .ok (.if_icmp .ge 36, 3) := by decide +kernel
theorem dd_G_choosePartners_56 : decode prog_2_method_6_code 56 = .ok (.aload_n 0, 1) := by decide +kernel
theorem dd_G_choosePartners_57 : decode prog_2_method_6_code 57 = .ok (.aload_n 1, 1) := by decide +kernel
theorem dd_G_choosePartners_58 : decode prog_2_method_6_code 58 = .ok (.aload_n 2, 1) := by decide +kernel
theorem dd_G_choosePartners_59 : decode prog_2_method_6_code 59 = .ok (.iload 4, 2) := by decide +kernel
theorem dd_G_choosePartners_61 : decode prog_2_method_6_code 61 = .ok (.iload 5, 2) := by decide +kernel
theorem dd_G_choosePartners_63 : decode prog_2_method_6_code 63 = .ok (.invokevirtual 48, 3) := by decide +kernel
theorem dd_G_choosePartners_66 : decode prog_2_method_6_code 66 = .ok (.iload 7, 2) := by decide +kernel
theorem dd_G_choosePartners_68 : decode prog_2_method_6_code 68 = .ok (.if_icmp .ne 21, 3) := by decide +kernel
theorem dd_G_choosePartners_71 : decode prog_2_method_6_code 71 = .ok (.aload_n 0, 1) := by decide +kernel
theorem dd_G_choosePartners_72 : decode prog_2_method_6_code 72 = .ok (.getfield 15, 3) := by decide +kernel
theorem dd_G_choosePartners_75 : decode prog_2_method_6_code 75 = .ok (.iload 4, 2) := by decide +kernel
theorem dd_G_choosePartners_77 : decode prog_2_method_6_code 77 = .ok (.iload 5, 2) := by decide +kernel
theorem dd_G_choosePartners_79 : decode prog_2_method_6_code 79 = .ok (.iastore, 1) := by decide +kernel
theorem dd_G_choosePartners_80 : decode prog_2_method_6_code 80 = .ok (.iinc 4 1, 3) := by decide +kernel
theorem dd_G_choosePartners_83 : decode prog_2_method_6_code 83 = .ok (.iinc 5 1, 3) := by decide +kernel
theorem dd_G_choosePartners_86 : decode prog_2_method_6_code 86 = .ok (.goto 51, 3) := by decide +kernel
theorem dd_G_choosePartners_89 : decode prog_2_method_6_code 89 = .ok (.iload 5, 2) := by decide +kernel
theorem dd_G_choosePartners_91 : decode prog_2_method_6_code 91 = .ok (.aload_n 2, 1) := by decide +kernel
theorem dd_G_choosePartners_92 : decode prog_2_method_6_code 92 = .ok (.getfield 26, 3) := by decide +kernel
theorem dd_G_choosePartners_95 : decode prog_2_method_6_code 95 = .ok (.if_icmp .ge 25, 3) := by decide +kernel
theorem dd_G_choosePartners_98 : decode prog_2_method_6_code 98 = .ok (.iload_n 3, 1) := by decide +kernel
theorem dd_G_choosePartners_99 : decode prog_2_method_6_code 99 = .ok (.aload_n 0, 1) := by decide +kernel
theorem dd_G_choosePartners_100 : decode prog_2_method_6_code 100 = .ok (.getfield 11, 3) := by decide +kernel
theorem dd_G_choosePartners_103 : decode prog_2_method_6_code 103 = .ok (.iload 4, 2) := by decide +kernel
theorem dd_G_choosePartners_105 : decode prog_2_method_6_code 105 = .ok (.iconst 1, 1) := by decide +kernel
theorem dd_G_choosePartners_106 : decode prog_2_method_6_code 106 = .ok (.iadd, 1) := by decide +kernel
theorem dd_G_choosePartners_107 : decode prog_2_method_6_code 107 = .ok (.bipush 9, 2) := by decide +kernel
theorem dd_G_choosePartners_109 : decode prog_2_method_6_code 109 = .ok (.imul, 1) := by decide +kernel
theorem dd_G_choosePartners_110 : decode prog_2_method_6_code 110 = .ok (.iload 5, 2) := by decide +kernel
theorem dd_G_choosePartners_112 : decode prog_2_method_6_code 112 = .ok (.iadd, 1) := by decide +kernel
theorem dd_G_choosePartners_113 : decode prog_2_method_6_code 113 = .ok (.iaload, 1) := by decide +kernel
theorem dd_G_choosePartners_114 : decode prog_2_method_6_code 114 = .ok (.iadd, 1) := by decide +kernel
theorem dd_G_choosePartners_115 : decode prog_2_method_6_code 115 = .ok (.iload 7, 2) := by decide +kernel
theorem dd_G_choosePartners_117 : decode prog_2_method_6_code 117 = .ok (.if_icmp .ne 17, 3) := by decide +kernel
theorem dd_G_choosePartners_120 : decode prog_2_method_6_code 120 = .ok (.aload_n 0, 1) := by decide +kernel
theorem dd_G_choosePartners_121 : decode prog_2_method_6_code 121 = .ok (.getfield 15, 3) := by decide +kernel
theorem dd_G_choosePartners_124 : decode prog_2_method_6_code 124 = .ok (.iload 4, 2) := by decide +kernel
theorem dd_G_choosePartners_126 : decode prog_2_method_6_code 126 = .ok (.iconst (-1), 1) := by decide +kernel
theorem dd_G_choosePartners_127 : decode prog_2_method_6_code 127 = .ok (.iastore, 1) := by decide +kernel
theorem dd_G_choosePartners_128 : decode prog_2_method_6_code 128 = .ok (.iinc 4 1, 3) := by decide +kernel
theorem dd_G_choosePartners_131 : decode prog_2_method_6_code 131 = .ok (.goto 6, 3) := by decide +kernel
theorem dd_G_choosePartners_134 : decode prog_2_method_6_code 134 = .ok (.iinc 5 1, 3) := by decide +kernel
theorem dd_G_choosePartners_137 : decode prog_2_method_6_code 137 = .ok (.iinc 6 1, 3) := by decide +kernel
theorem dd_G_choosePartners_140 : decode prog_2_method_6_code 140 = .ok (.goto (-131), 3) := by decide +kernel
theorem dd_G_choosePartners_143 : decode prog_2_method_6_code 143 = .ok (.return_, 1) := by decide +kernel
theorem dd_G_pair_0 : decode prog_2_method_2_code 0 = .ok (.aload_n 0, 1) := by decide +kernel
theorem dd_G_pair_1 : decode prog_2_method_2_code 1 = .ok (.iconst 1, 1) := by decide +kernel
theorem dd_G_pair_2 : decode prog_2_method_2_code 2 = .ok (.putfield 22, 3) := by decide +kernel
theorem dd_G_pair_5 : decode prog_2_method_2_code 5 = .ok (.aload_n 0, 1) := by decide +kernel
theorem dd_G_pair_6 : decode prog_2_method_2_code 6 = .ok (.aload_n 1, 1) := by decide +kernel
theorem dd_G_pair_7 : decode prog_2_method_2_code 7 = .ok (.getfield 26, 3) := by decide +kernel
theorem dd_G_pair_10 : decode prog_2_method_2_code 10 = .ok (.putfield 18, 3) := by decide +kernel
theorem dd_G_pair_13 : decode prog_2_method_2_code 13 = .ok (.aload_n 0, 1) := by decide +kernel
theorem dd_G_pair_14 : decode prog_2_method_2_code 14 = .ok (.aload_n 1, 1) := by decide +kernel
theorem dd_G_pair_15 : decode prog_2_method_2_code 15 = .ok (.aload_n 2, 1) := by decide +kernel
theorem dd_G_pair_16 : decode prog_2_method_2_code 16 = .ok (.iload_n 3, 1) := by decide +kernel
theorem dd_G_pair_17 : decode prog_2_method_2_code 17 = .ok (.invokevirtual 31, 3) := by decide +kernel
theorem dd_G_pair_20 : decode prog_2_method_2_code 20 = .ok (.aload_n 0, 1) := by decide +kernel
theorem dd_G_pair_21 : decode prog_2_method_2_code 21 = .ok (.aload_n 1, 1) := by decide +kernel
theorem dd_G_pair_22 : decode prog_2_method_2_code 22 = .ok (.aload_n 2, 1) := by decide +kernel
theorem dd_G_pair_23 : decode prog_2_method_2_code 23 = .ok (.iload_n 3, 1) := by decide +kernel
theorem dd_G_pair_24 : decode prog_2_method_2_code 24 = .ok (.invokevirtual 35, 3) := by decide +kernel
theorem dd_G_pair_27 : decode prog_2_method_2_code 27 = .ok (.aload_n 0, 1) := by decide +kernel
theorem dd_G_pair_28 : decode prog_2_method_2_code 28 = .ok (.getfield 11, 3) := by decide +kernel
theorem dd_G_pair_31 : decode prog_2_method_2_code 31 = .ok (.iconst 0, 1) := by decide +kernel
theorem dd_G_pair_32 : decode prog_2_method_2_code 32 = .ok (.iaload, 1) := by decide +kernel
theorem dd_G_pair_33 : decode prog_2_method_2_code 33 = .ok (.ireturn, 1) := by decide +kernel
theorem dd_S_join_0 : decode prog_1_method_10_code 0 = .ok (.aload_n 0, 1) := by decide +kernel
theorem dd_S_join_1 : decode prog_1_method_10_code 1 = .ok (.iload_n 1, 1) := by decide +kernel
theorem dd_S_join_2 : decode prog_1_method_10_code 2 = .ok (.aload_n 0, 1) := by decide +kernel
theorem dd_S_join_3 : decode prog_1_method_10_code 3 = .ok (.getfield 19, 3) := by decide +kernel
theorem dd_S_join_6 : decode prog_1_method_10_code 6 = .ok (.invokevirtual 102, 3) := by decide +kernel
theorem dd_S_join_9 : decode prog_1_method_10_code 9 = .ok (.aload_n 0, 1) := by decide +kernel
theorem dd_S_join_10 : decode prog_1_method_10_code 10 = .ok (.iload_n 2, 1) := by decide +kernel
theorem dd_S_join_11 : decode prog_1_method_10_code 11 = .ok (.aload_n 0, 1) := by decide +kernel
theorem dd_S_join_12 : decode prog_1_method_10_code 12 = .ok (.getfield 23, 3) := by decide +kernel
theorem dd_S_join_15 : decode prog_1_method_10_code 15 = .ok (.invokevirtual 102, 3) := by decide +kernel
theorem dd_S_join_18 : decode prog_1_method_10_code 18 = .ok (.iload_n 3, 1) := by decide +kernel
theorem dd_S_join_19 : decode prog_1_method_10_code 19 = .ok (.iconst 0, 1) := by decide +kernel
theorem dd_S_join_20 : decode prog_1_method_10_code 20 = .ok (.bipush 50, 2) := by decide +kernel
theorem dd_S_join_22 : decode prog_1_method_10_code 22 = .ok (.invokestatic 74, 3) := by decide +kernel
theorem dd_S_join_25 : decode prog_1_method_10_code 25 = .ok (.aload_n 0, 1) := by decide +kernel
theorem dd_S_join_26 : decode prog_1_method_10_code 26 = .ok (.getfield 29, 3) := by decide +kernel
theorem dd_S_join_29 : decode prog_1_method_10_code 29 = .ok (.aload_n 0, 1) := by decide +kernel
theorem dd_S_join_30 : decode prog_1_method_10_code 30 = .ok (.getfield 19, 3) := by decide +kernel
theorem dd_S_join_33 : decode prog_1_method_10_code 33 = .ok (.aload_n 0, 1) := by decide +kernel
theorem dd_S_join_34 : decode prog_1_method_10_code 34 = .ok (.getfield 23, 3) := by decide +kernel
theorem dd_S_join_37 : decode prog_1_method_10_code 37 = .ok (.iload_n 3, 1) := by decide +kernel
theorem dd_S_join_38 : decode prog_1_method_10_code 38 = .ok (.invokevirtual 128, 3) := by decide +kernel
theorem dd_S_join_41 : decode prog_1_method_10_code 41 = .ok (.ireturn, 1) := by decide +kernel
theorem dd_S_joined_0 : decode prog_1_method_11_code 0 = .ok (.aload_n 0, 1) := by decide +kernel
theorem dd_S_joined_1 : decode prog_1_method_11_code 1 = .ok (.getfield 29, 3) := by decide +kernel
theorem dd_S_joined_4 : decode prog_1_method_11_code 4 = .ok (.getfield 132, 3) := by decide +kernel
theorem dd_S_joined_7 : decode prog_1_method_11_code 7 = .ok (.ifCond .ne 13, 3) := by decide +kernel
theorem dd_S_joined_10 : decode prog_1_method_11_code 10 = .ok (.new 97, 3) := by decide +kernel
theorem dd_S_joined_13 : decode prog_1_method_11_code 13 = .ok (.dup, 1) := by decide +kernel
theorem dd_S_joined_14 : decode prog_1_method_11_code 14 = .ok (.ldc 136, 2) := by decide +kernel
theorem dd_S_joined_16 : decode prog_1_method_11_code 16 = .ok (.invokespecial 101, 3) := by decide +kernel
theorem dd_S_joined_19 : decode prog_1_method_11_code 19 = .ok (.athrow, 1) := by decide +kernel
theorem dd_S_joined_20 : decode prog_1_method_11_code 20 = .ok (.iload_n 1, 1) := by decide +kernel
theorem dd_S_joined_21 : decode prog_1_method_11_code 21 = .ok (.aload_n 0, 1) := by decide +kernel
theorem dd_S_joined_22 : decode prog_1_method_11_code 22 = .ok (.getfield 29, 3) := by decide +kernel
theorem dd_S_joined_25 : decode prog_1_method_11_code 25 = .ok (.getfield 138, 3) := by decide +kernel
theorem dd_S_joined_28 : decode prog_1_method_11_code 28 = .ok (.invokestatic 82, 3) := by decide +kernel
theorem dd_S_joined_31 : decode prog_1_method_11_code 31 = .ok (.aload_n 0, 1) := by decide +kernel
theorem dd_S_joined_32 : decode prog_1_method_11_code 32 = .ok (.getfield 29, 3) := by decide +kernel
theorem dd_S_joined_35 : decode prog_1_method_11_code 35 = .ok (.getfield 141, 3) := by decide +kernel
theorem dd_S_joined_38 : decode prog_1_method_11_code 38 = .ok (.iload_n 1, 1) := by decide +kernel
theorem dd_S_joined_39 : decode prog_1_method_11_code 39 = .ok (.iaload, 1) := by decide +kernel
theorem dd_S_joined_40 : decode prog_1_method_11_code 40 = .ok (.ireturn, 1) := by decide +kernel
theorem dd_S_back_0 : decode prog_1_method_12_code 0 = .ok (.aload_n 0, 1) := by decide +kernel
theorem dd_S_back_1 : decode prog_1_method_12_code 1 = .ok (.iload_n 1, 1) := by decide +kernel
theorem dd_S_back_2 : decode prog_1_method_12_code 2 = .ok (.aload_n 0, 1) := by decide +kernel
theorem dd_S_back_3 : decode prog_1_method_12_code 3 = .ok (.getfield 19, 3) := by decide +kernel
theorem dd_S_back_6 : decode prog_1_method_12_code 6 = .ok (.invokevirtual 102, 3) := by decide +kernel
theorem dd_S_back_9 : decode prog_1_method_12_code 9 = .ok (.iload_n 2, 1) := by decide +kernel
theorem dd_S_back_10 : decode prog_1_method_12_code 10 = .ok (.aload_n 0, 1) := by decide +kernel
theorem dd_S_back_11 : decode prog_1_method_12_code 11 = .ok (.getfield 19, 3) := by decide +kernel
theorem dd_S_back_14 : decode prog_1_method_12_code 14 = .ok (.getfield 115, 3) := by decide +kernel
theorem dd_S_back_17 : decode prog_1_method_12_code 17 = .ok (.invokestatic 82, 3) := by decide +kernel
theorem dd_S_back_20 : decode prog_1_method_12_code 20 = .ok (.iload_n 3, 1) := by decide +kernel
theorem dd_S_back_21 : decode prog_1_method_12_code 21 = .ok (.iconst 0, 1) := by decide +kernel
theorem dd_S_back_22 : decode prog_1_method_12_code 22 = .ok (.ldc 144, 2) := by decide +kernel
theorem dd_S_back_24 : decode prog_1_method_12_code 24 = .ok (.invokestatic 74, 3) := by decide +kernel
theorem dd_S_back_27 : decode prog_1_method_12_code 27 = .ok (.iload_n 3, 1) := by decide +kernel
theorem dd_S_back_28 : decode prog_1_method_12_code 28 = .ok (.aload_n 0, 1) := by decide +kernel
theorem dd_S_back_29 : decode prog_1_method_12_code 29 = .ok (.getfield 19, 3) := by decide +kernel
theorem dd_S_back_32 : decode prog_1_method_12_code 32 = .ok (.getfield 118, 3) := by decide +kernel
theorem dd_S_back_35 : decode prog_1_method_12_code 35 = .ok (.iload_n 2, 1) := by decide +kernel
theorem dd_S_back_36 : decode prog_1_method_12_code 36 = .ok (.iaload, 1) := by decide +kernel
theorem dd_S_back_37 : decode prog_1_method_12_code 37 = .ok (.imul, 1) := by decide +kernel
theorem dd_S_back_38 : decode prog_1_method_12_code 38 = .ok (.aload_n 0, 1) := by decide +kernel
theorem dd_S_back_39 : decode prog_1_method_12_code 39 = .ok (.getfield 19, 3) := by decide +kernel
theorem dd_S_back_42 : decode prog_1_method_12_code 42 = .ok (.getfield 106, 3) := by decide +kernel
theorem dd_S_back_45 : decode prog_1_method_12_code 45 = .ok (.iconst 1, 1) := by decide +kernel
theorem dd_S_back_46 : decode prog_1_method_12_code 46 = .ok (.isub, 1) := by decide +kernel
theorem dd_S_back_47 : decode prog_1_method_12_code 47 = .ok (.invokestatic 145, 3) := by decide +kernel
theorem dd_S_back_50 : decode prog_1_method_12_code 50 = .ok (.ireturn, 1) := by decide +kernel
theorem dd_D_has_0 : decode prog_4_method_3_code 0 = .ok (.aload_n 0, 1) := by decide +kernel
theorem dd_D_has_1 : decode prog_4_method_3_code 1 = .ok (.iload_n 1, 1) := by decide +kernel
theorem dd_D_has_2 : decode prog_4_method_3_code 2 = .ok (.iload_n 2, 1) := by decide +kernel
theorem dd_D_has_3 : decode prog_4_method_3_code 3 = .ok (.invokevirtual 28, 3) := by decide +kernel
theorem dd_D_has_6 : decode prog_4_method_3_code 6 = .ok (.iconst (-1), 1) := by decide +kernel
theorem dd_D_has_7 : decode prog_4_method_3_code 7 = .ok (.if_icmp .eq 7, 3) := by decide +kernel
theorem dd_D_has_10 : decode prog_4_method_3_code 10 = .ok (.iconst 1, 1) := by decide +kernel
theorem dd_D_has_11 : decode prog_4_method_3_code 11 = .ok (.goto 4, 3) := by decide +kernel
theorem dd_D_has_14 : decode prog_4_method_3_code 14 = .ok (.iconst 0, 1) := by decide +kernel
theorem dd_D_has_15 : decode prog_4_method_3_code 15 = .ok (.ireturn, 1) := by decide +kernel
theorem dd_D_put_0 : decode prog_4_method_4_code 0 = .ok (.aload_n 0, 1) := by decide +kernel
theorem dd_D_put_1 : decode prog_4_method_4_code 1 = .ok (.getfield 9, 3) := by decide +kernel
theorem dd_D_put_4 : decode prog_4_method_4_code 4 = .ok (.iload_n 1, 1) := by decide +kernel
theorem dd_D_put_5 : decode prog_4_method_4_code 5 = .ok (.bipush 20, 2) := by decide +kernel
theorem dd_D_put_7 : decode prog_4_method_4_code 7 = .ok (.imul, 1) := by decide +kernel
theorem dd_D_put_8 : decode prog_4_method_4_code 8 = .ok (.iload_n 2, 1) := by decide +kernel
theorem dd_D_put_9 : decode prog_4_method_4_code 9 = .ok (.iadd, 1) := by decide +kernel
theorem dd_D_put_10 : decode prog_4_method_4_code 10 = .ok (.iload_n 3, 1) := by decide +kernel
theorem dd_D_put_11 : decode prog_4_method_4_code 11 = .ok (.iastore, 1) := by decide +kernel
theorem dd_D_put_12 : decode prog_4_method_4_code 12 = .ok (.aload_n 0, 1) := by decide +kernel
theorem dd_D_put_13 : decode prog_4_method_4_code 13 = .ok (.dup, 1) := by decide +kernel
theorem dd_D_put_14 : decode prog_4_method_4_code 14 = .ok (.getfield 18, 3) := by decide +kernel
theorem dd_D_put_17 : decode prog_4_method_4_code 17 = .ok (.iconst 1, 1) := by decide +kernel
theorem dd_D_put_18 : decode prog_4_method_4_code 18 = .ok (.iadd, 1) := by decide +kernel
theorem dd_D_put_19 : decode prog_4_method_4_code 19 = .ok (.putfield 18, 3) := by decide +kernel
theorem dd_D_put_22 : decode prog_4_method_4_code 22 = .ok (.return_, 1) := by decide +kernel
theorem dd_S_tell_0 : decode prog_1_method_13_code 0 = .ok (.iload_n 1, 1) := by decide +kernel
theorem dd_S_tell_1 : decode prog_1_method_13_code 1 = .ok (.iconst 4, 1) := by decide +kernel
theorem dd_S_tell_2 : decode prog_1_method_13_code 2 = .ok (.invokestatic 82, 3) := by decide +kernel
theorem dd_S_tell_5 : decode prog_1_method_13_code 5 = .ok (.iload_n 2, 1) := by decide +kernel
theorem dd_S_tell_6 : decode prog_1_method_13_code 6 = .ok (.bipush 20, 2) := by decide +kernel
theorem dd_S_tell_8 : decode prog_1_method_13_code 8 = .ok (.invokestatic 82, 3) := by decide +kernel
theorem dd_S_tell_11 : decode prog_1_method_13_code 11 = .ok (.iload_n 3, 1) := by decide +kernel
theorem dd_S_tell_12 : decode prog_1_method_13_code 12 = .ok (.iconst 0, 1) := by decide +kernel
theorem dd_S_tell_13 : decode prog_1_method_13_code 13 = .ok (.bipush 60, 2) := by decide +kernel
theorem dd_S_tell_15 : decode prog_1_method_13_code 15 = .ok (.invokestatic 74, 3) := by decide +kernel
theorem dd_S_tell_18 : decode prog_1_method_13_code 18 = .ok (.aload_n 0, 1) := by decide +kernel
theorem dd_S_tell_19 : decode prog_1_method_13_code 19 = .ok (.getfield 36, 3) := by decide +kernel
theorem dd_S_tell_22 : decode prog_1_method_13_code 22 = .ok (.iload_n 1, 1) := by decide +kernel
theorem dd_S_tell_23 : decode prog_1_method_13_code 23 = .ok (.iload_n 2, 1) := by decide +kernel
theorem dd_S_tell_24 : decode prog_1_method_13_code 24 = .ok (.invokevirtual 149, 3) := by decide +kernel
theorem dd_S_tell_27 : decode prog_1_method_13_code 27 = .ok (.ifCond .eq 13, 3) := by decide +kernel
theorem dd_S_tell_30 : decode prog_1_method_13_code 30 = .ok (.new 97, 3) := by decide +kernel
theorem dd_S_tell_33 : decode prog_1_method_13_code 33 = .ok (.dup, 1) := by decide +kernel
theorem dd_S_tell_34 : decode prog_1_method_13_code 34 = .ok (.ldc 152, 2) := by decide +kernel
theorem dd_S_tell_36 : decode prog_1_method_13_code 36 = .ok (.invokespecial 101, 3) := by decide +kernel
theorem dd_S_tell_39 : decode prog_1_method_13_code 39 = .ok (.athrow, 1) := by decide +kernel
theorem dd_S_tell_40 : decode prog_1_method_13_code 40 = .ok (.aload_n 0, 1) := by decide +kernel
theorem dd_S_tell_41 : decode prog_1_method_13_code 41 = .ok (.getfield 36, 3) := by decide +kernel
theorem dd_S_tell_44 : decode prog_1_method_13_code 44 = .ok (.iload_n 1, 1) := by decide +kernel
theorem dd_S_tell_45 : decode prog_1_method_13_code 45 = .ok (.iload_n 2, 1) := by decide +kernel
theorem dd_S_tell_46 : decode prog_1_method_13_code 46 = .ok (.iload_n 3, 1) := by decide +kernel
theorem dd_S_tell_47 : decode prog_1_method_13_code 47 = .ok (.invokevirtual 154, 3) := by decide +kernel
theorem dd_S_tell_50 : decode prog_1_method_13_code 50 = .ok (.return_, 1) := by decide +kernel
theorem dd_S_may_0 : decode prog_1_method_14_code 0 = .ok (.iload_n 1, 1) := by decide +kernel
theorem dd_S_may_1 : decode prog_1_method_14_code 1 = .ok (.iconst 4, 1) := by decide +kernel
theorem dd_S_may_2 : decode prog_1_method_14_code 2 = .ok (.invokestatic 82, 3) := by decide +kernel
theorem dd_S_may_5 : decode prog_1_method_14_code 5 = .ok (.iload_n 2, 1) := by decide +kernel
theorem dd_S_may_6 : decode prog_1_method_14_code 6 = .ok (.bipush 20, 2) := by decide +kernel
theorem dd_S_may_8 : decode prog_1_method_14_code 8 = .ok (.invokestatic 82, 3) := by decide +kernel
theorem dd_S_may_11 : decode prog_1_method_14_code 11 = .ok (.aload_n 0, 1) := by decide +kernel
theorem dd_S_may_12 : decode prog_1_method_14_code 12 = .ok (.getfield 36, 3) := by decide +kernel
theorem dd_S_may_15 : decode prog_1_method_14_code 15 = .ok (.iload_n 1, 1) := by decide +kernel
theorem dd_S_may_16 : decode prog_1_method_14_code 16 = .ok (.iload_n 2, 1) := by decide +kernel
theorem dd_S_may_17 : decode prog_1_method_14_code 17 = .ok (.invokevirtual 149, 3) := by decide +kernel
theorem dd_S_may_20 : decode prog_1_method_14_code 20 = .ok (.ireturn, 1) := by decide +kernel
theorem dd_S_seen_0 : decode prog_1_method_15_code 0 = .ok (.iload_n 1, 1) := by decide +kernel
theorem dd_S_seen_1 : decode prog_1_method_15_code 1 = .ok (.iconst 4, 1) := by decide +kernel
theorem dd_S_seen_2 : decode prog_1_method_15_code 2 = .ok (.invokestatic 82, 3) := by decide +kernel
theorem dd_S_seen_5 : decode prog_1_method_15_code 5 = .ok (.iload_n 2, 1) := by decide +kernel
theorem dd_S_seen_6 : decode prog_1_method_15_code 6 = .ok (.iconst 4, 1) := by decide +kernel
theorem dd_S_seen_7 : decode prog_1_method_15_code 7 = .ok (.invokestatic 82, 3) := by decide +kernel
theorem dd_S_seen_10 : decode prog_1_method_15_code 10 = .ok (.iload_n 3, 1) := by decide +kernel
theorem dd_S_seen_11 : decode prog_1_method_15_code 11 = .ok (.bipush 20, 2) := by decide +kernel
theorem dd_S_seen_13 : decode prog_1_method_15_code 13 = .ok (.invokestatic 82, 3) := by decide +kernel
theorem dd_S_seen_16 : decode prog_1_method_15_code 16 = .ok (.aload_n 0, 1) := by decide +kernel
theorem dd_S_seen_17 : decode prog_1_method_15_code 17 = .ok (.getfield 36, 3) := by decide +kernel
theorem dd_S_seen_20 : decode prog_1_method_15_code 20 = .ok (.iload_n 1, 1) := by decide +kernel
theorem dd_S_seen_21 : decode prog_1_method_15_code 21 = .ok (.iload_n 3, 1) := by decide +kernel
theorem dd_S_seen_22 : decode prog_1_method_15_code 22 = .ok (.invokevirtual 149, 3) := by decide +kernel
theorem dd_S_seen_25 : decode prog_1_method_15_code 25 = .ok (.ifCond .ne 13, 3) := by decide +kernel
theorem dd_S_seen_28 : decode prog_1_method_15_code 28 = .ok (.new 97, 3) := by decide +kernel
theorem dd_S_seen_31 : decode prog_1_method_15_code 31 = .ok (.dup, 1) := by decide +kernel
theorem dd_S_seen_32 : decode prog_1_method_15_code 32 = .ok (.ldc 156, 2) := by decide +kernel
theorem dd_S_seen_34 : decode prog_1_method_15_code 34 = .ok (.invokespecial 101, 3) := by decide +kernel
theorem dd_S_seen_37 : decode prog_1_method_15_code 37 = .ok (.athrow, 1) := by decide +kernel
theorem dd_S_seen_38 : decode prog_1_method_15_code 38 = .ok (.aload_n 0, 1) := by decide +kernel
theorem dd_S_seen_39 : decode prog_1_method_15_code 39 = .ok (.getfield 36, 3) := by decide +kernel
theorem dd_S_seen_42 : decode prog_1_method_15_code 42 = .ok (.iload_n 2, 1) := by decide +kernel
theorem dd_S_seen_43 : decode prog_1_method_15_code 43 = .ok (.iload_n 3, 1) := by decide +kernel
theorem dd_S_seen_44 : decode prog_1_method_15_code 44 = .ok (.invokevirtual 158, 3) := by decide +kernel
theorem dd_S_seen_47 : decode prog_1_method_15_code 47 = .ok (.ireturn, 1) := by decide +kernel
theorem dd_S_needPair_0 : decode prog_1_method_27_code 0 = .ok (.iload_n 0, 1) := by decide +kernel
theorem dd_S_needPair_1 : decode prog_1_method_27_code 1 = .ok (.iconst 4, 1) := by decide +kernel
theorem dd_S_needPair_2 : decode prog_1_method_27_code 2 = .ok (.invokestatic 82, 3) := by decide +kernel
theorem dd_S_needPair_5 : decode prog_1_method_27_code 5 = .ok (.iload_n 1, 1) := by decide +kernel
theorem dd_S_needPair_6 : decode prog_1_method_27_code 6 = .ok (.iconst 4, 1) := by decide +kernel
theorem dd_S_needPair_7 : decode prog_1_method_27_code 7 = .ok (.invokestatic 82, 3) := by decide +kernel
theorem dd_S_needPair_10 : decode prog_1_method_27_code 10 = .ok (.iload_n 2, 1) := by decide +kernel
theorem dd_S_needPair_11 : decode prog_1_method_27_code 11 = .ok (.iconst 2, 1) := by decide +kernel
theorem dd_S_needPair_12 : decode prog_1_method_27_code 12 = .ok (.invokestatic 82, 3) := by decide +kernel
theorem dd_S_needPair_15 : decode prog_1_method_27_code 15 = .ok (.return_, 1) := by decide +kernel
theorem dd_D_bothTold_0 : decode prog_4_method_5_code 0 = .ok (.aload_n 0, 1) := by decide +kernel
theorem dd_D_bothTold_1 : decode prog_4_method_5_code 1 = .ok (.iload_n 1, 1) := by decide +kernel
theorem dd_D_bothTold_2 : decode prog_4_method_5_code 2 = .ok (.iload_n 3, 1) := by decide +kernel
theorem dd_D_bothTold_3 : decode prog_4_method_5_code 3 = .ok (.invokevirtual 32, 3) := by decide +kernel
theorem dd_D_bothTold_6 : decode prog_4_method_5_code 6 = .ok (.ifCond .eq 16, 3) := by decide +kernel
theorem dd_D_bothTold_9 : decode prog_4_method_5_code 9 = .ok (.aload_n 0, 1) := by decide +kernel
theorem dd_D_bothTold_10 : decode prog_4_method_5_code 10 = .ok (.iload_n 2, 1) := by decide +kernel
theorem dd_D_bothTold_11 : decode prog_4_method_5_code 11 = .ok (.iload_n 3, 1) := by decide +kernel
theorem dd_D_bothTold_12 : decode prog_4_method_5_code 12 = .ok (.invokevirtual 32, 3) := by decide +kernel
theorem dd_D_bothTold_15 : decode prog_4_method_5_code 15 = .ok (.ifCond .eq 7, 3) := by decide +kernel
theorem dd_D_bothTold_18 : decode prog_4_method_5_code 18 = .ok (.iconst 1, 1) := by decide +kernel
theorem dd_D_bothTold_19 : decode prog_4_method_5_code 19 = .ok (.goto 4, 3) := by decide +kernel
theorem dd_D_bothTold_22 : decode prog_4_method_5_code 22 = .ok (.iconst 0, 1) := by decide +kernel
theorem dd_D_bothTold_23 : decode prog_4_method_5_code 23 = .ok (.ireturn, 1) := by decide +kernel
theorem dd_D_alike_0 : decode prog_4_method_7_code 0 = .ok (.iconst 0, 1) := by decide +kernel
theorem dd_D_alike_1 : decode prog_4_method_7_code 1 = .ok (.istore_n 3, 1) := by decide +kernel
theorem dd_D_alike_2 : decode prog_4_method_7_code 2 = .ok (.iconst 0, 1) := by decide +kernel
theorem dd_D_alike_3 : decode prog_4_method_7_code 3 = .ok (.istore 4, 2) := by decide +kernel
theorem dd_D_alike_5 : decode prog_4_method_7_code 5 = .ok (.iload 4, 2) := by decide +kernel
theorem dd_D_alike_7 : decode prog_4_method_7_code 7 = .ok (.bipush 20, 2) := by decide +kernel
theorem dd_D_alike_9 : decode prog_4_method_7_code 9 = .ok (.if_icmp .ge 40, 3) := by decide +kernel
theorem dd_D_alike_12 : decode prog_4_method_7_code 12 = .ok (.aload_n 0, 1) := by decide +kernel
theorem dd_D_alike_13 : decode prog_4_method_7_code 13 = .ok (.iload_n 1, 1) := by decide +kernel
theorem dd_D_alike_14 : decode prog_4_method_7_code 14 = .ok (.iload_n 2, 1) := by decide +kernel
theorem dd_D_alike_15 : decode prog_4_method_7_code 15 = .ok (.iload 4, 2) := by decide +kernel
theorem dd_D_alike_17 : decode prog_4_method_7_code 17 = .ok (.invokevirtual 36, 3) := by decide +kernel
theorem dd_D_alike_20 : decode prog_4_method_7_code 20 = .ok (.ifCond .eq 23, 3) := by decide +kernel
theorem dd_D_alike_23 : decode prog_4_method_7_code 23 = .ok (.aload_n 0, 1) := by decide +kernel
theorem dd_D_alike_24 : decode prog_4_method_7_code 24 = .ok (.iload_n 1, 1) := by decide +kernel
theorem dd_D_alike_25 : decode prog_4_method_7_code 25 = .ok (.iload 4, 2) := by decide +kernel
theorem dd_D_alike_27 : decode prog_4_method_7_code 27 = .ok (.invokevirtual 28, 3) := by decide +kernel
theorem dd_D_alike_30 : decode prog_4_method_7_code 30 = .ok (.aload_n 0, 1) := by decide +kernel
theorem dd_D_alike_31 : decode prog_4_method_7_code 31 = .ok (.iload_n 2, 1) := by decide +kernel
theorem dd_D_alike_32 : decode prog_4_method_7_code 32 = .ok (.iload 4, 2) := by decide +kernel
theorem dd_D_alike_34 : decode prog_4_method_7_code 34 = .ok (.invokevirtual 28, 3) := by decide +kernel
theorem dd_D_alike_37 : decode prog_4_method_7_code 37 = .ok (.if_icmp .ne 6, 3) := by decide +kernel
theorem dd_D_alike_40 : decode prog_4_method_7_code 40 = .ok (.iinc 3 1, 3) := by decide +kernel
theorem dd_D_alike_43 : decode prog_4_method_7_code 43 = .ok (.iinc 4 1, 3) := by decide +kernel
theorem dd_D_alike_46 : decode prog_4_method_7_code 46 = .ok (.goto (-41), 3) := by decide +kernel
theorem dd_D_alike_49 : decode prog_4_method_7_code 49 = .ok (.iload_n 3, 1) := by decide +kernel
theorem dd_D_alike_50 : decode prog_4_method_7_code 50 = .ok (.ireturn, 1) := by decide +kernel
theorem dd_D_shared_0 : decode prog_4_method_6_code 0 = .ok (.iconst 0, 1) := by decide +kernel
theorem dd_D_shared_1 : decode prog_4_method_6_code 1 = .ok (.istore_n 3, 1) := by decide +kernel
theorem dd_D_shared_2 : decode prog_4_method_6_code 2 = .ok (.iconst 0, 1) := by decide +kernel
theorem dd_D_shared_3 : decode prog_4_method_6_code 3 = .ok (.istore 4, 2) := by decide +kernel
theorem dd_D_shared_5 : decode prog_4_method_6_code 5 = .ok (.iload 4, 2) := by decide +kernel
theorem dd_D_shared_7 : decode prog_4_method_6_code 7 = .ok (.bipush 20, 2) := by decide +kernel
theorem dd_D_shared_9 : decode prog_4_method_6_code 9 = .ok (.if_icmp .ge 23, 3) := by decide +kernel
theorem dd_D_shared_12 : decode prog_4_method_6_code 12 = .ok (.aload_n 0, 1) := by decide +kernel
theorem dd_D_shared_13 : decode prog_4_method_6_code 13 = .ok (.iload_n 1, 1) := by decide +kernel
theorem dd_D_shared_14 : decode prog_4_method_6_code 14 = .ok (.iload_n 2, 1) := by decide +kernel
theorem dd_D_shared_15 : decode prog_4_method_6_code 15 = .ok (.iload 4, 2) := by decide +kernel
theorem dd_D_shared_17 : decode prog_4_method_6_code 17 = .ok (.invokevirtual 36, 3) := by decide +kernel
theorem dd_D_shared_20 : decode prog_4_method_6_code 20 = .ok (.ifCond .eq 6, 3) := by decide +kernel
theorem dd_D_shared_23 : decode prog_4_method_6_code 23 = .ok (.iinc 3 1, 3) := by decide +kernel
theorem dd_D_shared_26 : decode prog_4_method_6_code 26 = .ok (.iinc 4 1, 3) := by decide +kernel
theorem dd_D_shared_29 : decode prog_4_method_6_code 29 = .ok (.goto (-24), 3) := by decide +kernel
theorem dd_D_shared_32 : decode prog_4_method_6_code 32 = .ok (.iload_n 3, 1) := by decide +kernel
theorem dd_D_shared_33 : decode prog_4_method_6_code 33 = .ok (.ireturn, 1) := by decide +kernel
theorem dd_S_commonDivisor_0 : decode prog_1_method_31_code 0 = .ok (.iload_n 0, 1) := by decide +kernel
theorem dd_S_commonDivisor_1 : decode prog_1_method_31_code 1 = .ok (.istore_n 2, 1) := by decide +kernel
theorem dd_S_commonDivisor_2 : decode prog_1_method_31_code 2 = .ok (.iload_n 1, 1) := by decide +kernel
theorem dd_S_commonDivisor_3 : decode prog_1_method_31_code 3 = .ok (.istore_n 3, 1) := by decide +kernel
theorem dd_S_commonDivisor_4 : decode prog_1_method_31_code 4 = .ok (.iconst 0, 1) := by decide +kernel
theorem dd_S_commonDivisor_5 : decode prog_1_method_31_code 5 = .ok (.istore 4, 2) := by decide +kernel
theorem dd_S_commonDivisor_7 : decode prog_1_method_31_code 7 = .ok (.iload 4, 2) := by decide +kernel
theorem dd_S_commonDivisor_9 : decode prog_1_method_31_code 9 = .ok (.bipush 64, 2) := by decide +kernel
theorem dd_S_commonDivisor_11 : decode prog_1_method_31_code 11 = .ok (.if_icmp .ge 23, 3) := by decide +kernel
theorem dd_S_commonDivisor_14 : decode prog_1_method_31_code 14 = .ok (.iload_n 3, 1) := by decide +kernel
theorem dd_S_commonDivisor_15 : decode prog_1_method_31_code 15 = .ok (.ifCond .eq 19, 3) := by decide +kernel
theorem dd_S_commonDivisor_18 : decode prog_1_method_31_code 18 = .ok (.iload_n 2, 1) := by decide +kernel
theorem dd_S_commonDivisor_19 : decode prog_1_method_31_code 19 = .ok (.iload_n 3, 1) := by decide +kernel
theorem dd_S_commonDivisor_20 : decode prog_1_method_31_code 20 = .ok (.irem, 1) := by decide +kernel
theorem dd_S_commonDivisor_21 : decode prog_1_method_31_code 21 = .ok (.istore 5, 2) := by decide +kernel
theorem dd_S_commonDivisor_23 : decode prog_1_method_31_code 23 = .ok (.iload_n 3, 1) := by decide +kernel
theorem dd_S_commonDivisor_24 : decode prog_1_method_31_code 24 = .ok (.istore_n 2, 1) := by decide +kernel
theorem dd_S_commonDivisor_25 : decode prog_1_method_31_code 25 = .ok (.iload 5, 2) := by decide +kernel
theorem dd_S_commonDivisor_27 : decode prog_1_method_31_code 27 = .ok (.istore_n 3, 1) := by decide +kernel
theorem dd_S_commonDivisor_28 : decode prog_1_method_31_code 28 = .ok (.iinc 4 1, 3) := by decide +kernel
theorem dd_S_commonDivisor_31 : decode prog_1_method_31_code 31 = .ok (.goto (-24), 3) := by decide +kernel
theorem dd_S_commonDivisor_34 : decode prog_1_method_31_code 34 = .ok (.iload_n 2, 1) := by decide +kernel
theorem dd_S_commonDivisor_35 : decode prog_1_method_31_code 35 = .ok (.ireturn, 1) := by decide +kernel
theorem dd_S_fractionPart_0 : decode prog_1_method_30_code 0 = .ok (.iload_n 1, 1) := by decide +kernel
theorem dd_S_fractionPart_1 : decode prog_1_method_30_code 1 = .ok (.iconst 1, 1) := by decide +kernel
theorem dd_S_fractionPart_2 : decode prog_1_method_30_code 2 = .ok (.if_icmp .ge 13, 3) := by decide +kernel
theorem dd_S_fractionPart_5 : decode prog_1_method_30_code 5 = .ok (.iload_n 2, 1) := by decide +kernel
theorem dd_S_fractionPart_6 : decode prog_1_method_30_code 6 = .ok (.ifCond .ne 7, 3) := by decide +kernel
theorem dd_S_fractionPart_9 : decode prog_1_method_30_code 9 = .ok (.iconst 0, 1) := by decide +kernel
theorem dd_S_fractionPart_10 : decode prog_1_method_30_code 10 = .ok (.goto 4, 3) := by decide +kernel
theorem dd_S_fractionPart_13 : decode prog_1_method_30_code 13 = .ok (.iconst 1, 1) := by decide +kernel
theorem dd_S_fractionPart_14 : decode prog_1_method_30_code 14 = .ok (.ireturn, 1) := by decide +kernel
theorem dd_S_fractionPart_15 : decode prog_1_method_30_code 15 = .ok (.iload_n 0, 1) := by decide +kernel
theorem dd_S_fractionPart_16 : decode prog_1_method_30_code 16 = .ok (.invokestatic 222, 3) := by decide +kernel
theorem dd_S_fractionPart_19 : decode prog_1_method_30_code 19 = .ok (.iload_n 1, 1) := by decide +kernel
theorem dd_S_fractionPart_20 : decode prog_1_method_30_code 20 = .ok (.invokestatic 225, 3) := by decide +kernel
theorem dd_S_fractionPart_23 : decode prog_1_method_30_code 23 = .ok (.istore_n 3, 1) := by decide +kernel
theorem dd_S_fractionPart_24 : decode prog_1_method_30_code 24 = .ok (.iload_n 2, 1) := by decide +kernel
theorem dd_S_fractionPart_25 : decode prog_1_method_30_code 25 = .ok (.ifCond .ne 7, 3) := by decide +kernel
theorem dd_S_fractionPart_28 : decode prog_1_method_30_code 28 = .ok (.iload_n 0, 1) := by decide +kernel
theorem dd_S_fractionPart_29 : decode prog_1_method_30_code 29 = .ok (.goto 4, 3) := by decide +kernel
theorem dd_S_fractionPart_32 : decode prog_1_method_30_code 32 = .ok (.iload_n 1, 1) := by decide +kernel
theorem dd_S_fractionPart_33 : decode prog_1_method_30_code 33 = .ok (.istore 4, 2) := by decide +kernel
theorem dd_S_fractionPart_35 : decode prog_1_method_30_code 35 = .ok (.iload_n 3, 1) := by decide +kernel
theorem dd_S_fractionPart_36 : decode prog_1_method_30_code 36 = .ok (.iconst 1, 1) := by decide +kernel
theorem dd_S_fractionPart_37 : decode prog_1_method_30_code 37 = .ok (.if_icmp .ge 8, 3) := by decide +kernel
theorem dd_S_fractionPart_40 : decode prog_1_method_30_code 40 = .ok (.iload 4, 2) := by decide +kernel
theorem dd_S_fractionPart_42 : decode prog_1_method_30_code 42 = .ok (.goto 7, 3) := by decide +kernel
theorem dd_S_fractionPart_45 : decode prog_1_method_30_code 45 = .ok (.iload 4, 2) := by decide +kernel
theorem dd_S_fractionPart_47 : decode prog_1_method_30_code 47 = .ok (.iload_n 3, 1) := by decide +kernel
theorem dd_S_fractionPart_48 : decode prog_1_method_30_code 48 = .ok (.idiv, 1) := by decide +kernel
theorem dd_S_fractionPart_49 : decode prog_1_method_30_code 49 = .ok (.ireturn, 1) := by decide +kernel
theorem dd_S_agree_0 : decode prog_1_method_16_code 0 = .ok (.iload_n 1, 1) := by decide +kernel
theorem dd_S_agree_1 : decode prog_1_method_16_code 1 = .ok (.iload_n 2, 1) := by decide +kernel
theorem dd_S_agree_2 : decode prog_1_method_16_code 2 = .ok (.iload_n 3, 1) := by decide +kernel
theorem dd_S_agree_3 : decode prog_1_method_16_code 3 = .ok (.invokestatic 161, 3) := by decide +kernel
theorem dd_S_agree_6 : decode prog_1_method_16_code 6 = .ok (.aload_n 0, 1) := by decide +kernel
theorem dd_S_agree_7 : decode prog_1_method_16_code 7 = .ok (.getfield 36, 3) := by decide +kernel
theorem dd_S_agree_10 : decode prog_1_method_16_code 10 = .ok (.iload_n 1, 1) := by decide +kernel
theorem dd_S_agree_11 : decode prog_1_method_16_code 11 = .ok (.iload_n 2, 1) := by decide +kernel
theorem dd_S_agree_12 : decode prog_1_method_16_code 12 = .ok (.invokevirtual 164, 3) := by decide +kernel
theorem dd_S_agree_15 : decode prog_1_method_16_code 15 = .ok (.aload_n 0, 1) := by decide +kernel
theorem dd_S_agree_16 : decode prog_1_method_16_code 16 = .ok (.getfield 36, 3) := by decide +kernel
theorem dd_S_agree_19 : decode prog_1_method_16_code 19 = .ok (.iload_n 1, 1) := by decide +kernel
theorem dd_S_agree_20 : decode prog_1_method_16_code 20 = .ok (.iload_n 2, 1) := by decide +kernel
theorem dd_S_agree_21 : decode prog_1_method_16_code 21 = .ok (.invokevirtual 167, 3) := by decide +kernel
theorem dd_S_agree_24 : decode prog_1_method_16_code 24 = .ok (.iload_n 3, 1) := by decide +kernel
theorem dd_S_agree_25 : decode prog_1_method_16_code 25 = .ok (.invokestatic 170, 3) := by decide +kernel
theorem dd_S_agree_28 : decode prog_1_method_16_code 28 = .ok (.ireturn, 1) := by decide +kernel
theorem dd_D_excess_0 : decode prog_4_method_8_code 0 = .ok (.iconst 0, 1) := by decide +kernel
theorem dd_D_excess_1 : decode prog_4_method_8_code 1 = .ok (.istore_n 3, 1) := by decide +kernel
theorem dd_D_excess_2 : decode prog_4_method_8_code 2 = .ok (.iconst 0, 1) := by decide +kernel
theorem dd_D_excess_3 : decode prog_4_method_8_code 3 = .ok (.istore 4, 2) := by decide +kernel
theorem dd_D_excess_5 : decode prog_4_method_8_code 5 = .ok (.iload 4, 2) := by decide +kernel
theorem dd_D_excess_7 : decode prog_4_method_8_code 7 = .ok (.bipush 20, 2) := by decide +kernel
theorem dd_D_excess_9 : decode prog_4_method_8_code 9 = .ok (.if_icmp .ge 38, 3) := by decide +kernel
theorem dd_D_excess_12 : decode prog_4_method_8_code 12 = .ok (.aload_n 0, 1) := by decide +kernel
theorem dd_D_excess_13 : decode prog_4_method_8_code 13 = .ok (.iload_n 1, 1) := by decide +kernel
theorem dd_D_excess_14 : decode prog_4_method_8_code 14 = .ok (.iload_n 2, 1) := by decide +kernel
theorem dd_D_excess_15 : decode prog_4_method_8_code 15 = .ok (.iload 4, 2) := by decide +kernel
theorem dd_D_excess_17 : decode prog_4_method_8_code 17 = .ok (.invokevirtual 36, 3) := by decide +kernel
theorem dd_D_excess_20 : decode prog_4_method_8_code 20 = .ok (.ifCond .eq 21, 3) := by decide +kernel
theorem dd_D_excess_23 : decode prog_4_method_8_code 23 = .ok (.iload_n 3, 1) := by decide +kernel
theorem dd_D_excess_24 : decode prog_4_method_8_code 24 = .ok (.aload_n 0, 1) := by decide +kernel
theorem dd_D_excess_25 : decode prog_4_method_8_code 25 = .ok (.iload_n 1, 1) := by decide +kernel
theorem dd_D_excess_26 : decode prog_4_method_8_code 26 = .ok (.iload 4, 2) := by decide +kernel
theorem dd_D_excess_28 : decode prog_4_method_8_code 28 = .ok (.invokevirtual 28, 3) := by decide +kernel
theorem dd_D_excess_31 : decode prog_4_method_8_code 31 = .ok (.aload_n 0, 1) := by decide +kernel
theorem dd_D_excess_32 : decode prog_4_method_8_code 32 = .ok (.iload_n 2, 1) := by decide +kernel
theorem dd_D_excess_33 : decode prog_4_method_8_code 33 = .ok (.iload 4, 2) := by decide +kernel
theorem dd_D_excess_35 : decode prog_4_method_8_code 35 = .ok (.invokevirtual 28, 3) := by decide +kernel
theorem dd_D_excess_38 : decode prog_4_method_8_code 38 = .ok (.isub, 1) := by decide +kernel
theorem dd_D_excess_39 : decode prog_4_method_8_code 39 = .ok (.iadd, 1) := by decide +kernel
theorem dd_D_excess_40 : decode prog_4_method_8_code 40 = .ok (.istore_n 3, 1) := by decide +kernel
theorem dd_D_excess_41 : decode prog_4_method_8_code 41 = .ok (.iinc 4 1, 3) := by decide +kernel
theorem dd_D_excess_44 : decode prog_4_method_8_code 44 = .ok (.goto (-39), 3) := by decide +kernel
theorem dd_D_excess_47 : decode prog_4_method_8_code 47 = .ok (.iload_n 3, 1) := by decide +kernel
theorem dd_D_excess_48 : decode prog_4_method_8_code 48 = .ok (.ireturn, 1) := by decide +kernel
theorem dd_S_bias_0 : decode prog_1_method_17_code 0 = .ok (.iload_n 1, 1) := by decide +kernel
theorem dd_S_bias_1 : decode prog_1_method_17_code 1 = .ok (.iload_n 2, 1) := by decide +kernel
theorem dd_S_bias_2 : decode prog_1_method_17_code 2 = .ok (.iload_n 3, 1) := by decide +kernel
theorem dd_S_bias_3 : decode prog_1_method_17_code 3 = .ok (.invokestatic 161, 3) := by decide +kernel
theorem dd_S_bias_6 : decode prog_1_method_17_code 6 = .ok (.aload_n 0, 1) := by decide +kernel
theorem dd_S_bias_7 : decode prog_1_method_17_code 7 = .ok (.getfield 36, 3) := by decide +kernel
theorem dd_S_bias_10 : decode prog_1_method_17_code 10 = .ok (.iload_n 1, 1) := by decide +kernel
theorem dd_S_bias_11 : decode prog_1_method_17_code 11 = .ok (.iload_n 2, 1) := by decide +kernel
theorem dd_S_bias_12 : decode prog_1_method_17_code 12 = .ok (.invokevirtual 174, 3) := by decide +kernel
theorem dd_S_bias_15 : decode prog_1_method_17_code 15 = .ok (.aload_n 0, 1) := by decide +kernel
theorem dd_S_bias_16 : decode prog_1_method_17_code 16 = .ok (.getfield 36, 3) := by decide +kernel
theorem dd_S_bias_19 : decode prog_1_method_17_code 19 = .ok (.iload_n 1, 1) := by decide +kernel
theorem dd_S_bias_20 : decode prog_1_method_17_code 20 = .ok (.iload_n 2, 1) := by decide +kernel
theorem dd_S_bias_21 : decode prog_1_method_17_code 21 = .ok (.invokevirtual 167, 3) := by decide +kernel
theorem dd_S_bias_24 : decode prog_1_method_17_code 24 = .ok (.iload_n 3, 1) := by decide +kernel
theorem dd_S_bias_25 : decode prog_1_method_17_code 25 = .ok (.invokestatic 170, 3) := by decide +kernel
theorem dd_S_bias_28 : decode prog_1_method_17_code 28 = .ok (.ireturn, 1) := by decide +kernel
theorem dd_S_told_0 : decode prog_1_method_18_code 0 = .ok (.iload_n 1, 1) := by decide +kernel
theorem dd_S_told_1 : decode prog_1_method_18_code 1 = .ok (.bipush 20, 2) := by decide +kernel
theorem dd_S_told_3 : decode prog_1_method_18_code 3 = .ok (.invokestatic 82, 3) := by decide +kernel
theorem dd_S_told_6 : decode prog_1_method_18_code 6 = .ok (.aload_n 0, 1) := by decide +kernel
theorem dd_S_told_7 : decode prog_1_method_18_code 7 = .ok (.getfield 36, 3) := by decide +kernel
theorem dd_S_told_10 : decode prog_1_method_18_code 10 = .ok (.iload_n 1, 1) := by decide +kernel
theorem dd_S_told_11 : decode prog_1_method_18_code 11 = .ok (.invokevirtual 177, 3) := by decide +kernel
theorem dd_S_told_14 : decode prog_1_method_18_code 14 = .ok (.ireturn, 1) := by decide +kernel
theorem dd_D_hits_0 : decode prog_4_method_11_code 0 = .ok (.iconst 0, 1) := by decide +kernel
theorem dd_D_hits_1 : decode prog_4_method_11_code 1 = .ok (.istore_n 2, 1) := by decide +kernel
theorem dd_D_hits_2 : decode prog_4_method_11_code 2 = .ok (.iconst 0, 1) := by decide +kernel
theorem dd_D_hits_3 : decode prog_4_method_11_code 3 = .ok (.istore_n 3, 1) := by decide +kernel
theorem dd_D_hits_4 : decode prog_4_method_11_code 4 = .ok (.iload_n 3, 1) := by decide +kernel
theorem dd_D_hits_5 : decode prog_4_method_11_code 5 = .ok (.bipush 20, 2) := by decide +kernel
theorem dd_D_hits_7 : decode prog_4_method_11_code 7 = .ok (.if_icmp .ge 35, 3) := by decide +kernel
theorem dd_D_hits_10 : decode prog_4_method_11_code 10 = .ok (.aload_n 0, 1) := by decide +kernel
theorem dd_D_hits_11 : decode prog_4_method_11_code 11 = .ok (.iload_n 1, 1) := by decide +kernel
theorem dd_D_hits_12 : decode prog_4_method_11_code 12 = .ok (.iload_n 3, 1) := by decide +kernel
theorem dd_D_hits_13 : decode prog_4_method_11_code 13 = .ok (.invokevirtual 32, 3) := by decide +kernel
theorem dd_D_hits_16 : decode prog_4_method_11_code 16 = .ok (.ifCond .eq 20, 3) := by decide +kernel
theorem dd_D_hits_19 : decode prog_4_method_11_code 19 = .ok (.aload_n 0, 1) := by decide +kernel
theorem dd_D_hits_20 : decode prog_4_method_11_code 20 = .ok (.iload_n 1, 1) := by decide +kernel
theorem dd_D_hits_21 : decode prog_4_method_11_code 21 = .ok (.iload_n 3, 1) := by decide +kernel
theorem dd_D_hits_22 : decode prog_4_method_11_code 22 = .ok (.invokevirtual 28, 3) := by decide +kernel
theorem dd_D_hits_25 : decode prog_4_method_11_code 25 = .ok (.aload_n 0, 1) := by decide +kernel
theorem dd_D_hits_26 : decode prog_4_method_11_code 26 = .ok (.iload_n 3, 1) := by decide +kernel
theorem dd_D_hits_27 : decode prog_4_method_11_code 27 = .ok (.invokevirtual 43, 3) := by decide +kernel
theorem dd_D_hits_30 : decode prog_4_method_11_code 30 = .ok (.if_icmp .ne 6, 3) := by decide +kernel
theorem dd_D_hits_33 : decode prog_4_method_11_code 33 = .ok (.iinc 2 1, 3) := by decide +kernel
theorem dd_D_hits_36 : decode prog_4_method_11_code 36 = .ok (.iinc 3 1, 3) := by decide +kernel
theorem dd_D_hits_39 : decode prog_4_method_11_code 39 = .ok (.goto (-35), 3) := by decide +kernel
theorem dd_D_hits_42 : decode prog_4_method_11_code 42 = .ok (.iload_n 2, 1) := by decide +kernel
theorem dd_D_hits_43 : decode prog_4_method_11_code 43 = .ok (.ireturn, 1) := by decide +kernel
theorem dd_S_right_0 : decode prog_1_method_19_code 0 = .ok (.iload_n 1, 1) := by decide +kernel
theorem dd_S_right_1 : decode prog_1_method_19_code 1 = .ok (.iconst 4, 1) := by decide +kernel
theorem dd_S_right_2 : decode prog_1_method_19_code 2 = .ok (.invokestatic 82, 3) := by decide +kernel
theorem dd_S_right_5 : decode prog_1_method_19_code 5 = .ok (.aload_n 0, 1) := by decide +kernel
theorem dd_S_right_6 : decode prog_1_method_19_code 6 = .ok (.getfield 36, 3) := by decide +kernel
theorem dd_S_right_9 : decode prog_1_method_19_code 9 = .ok (.iload_n 1, 1) := by decide +kernel
theorem dd_S_right_10 : decode prog_1_method_19_code 10 = .ok (.invokevirtual 180, 3) := by decide +kernel
theorem dd_S_right_13 : decode prog_1_method_19_code 13 = .ok (.ireturn, 1) := by decide +kernel
theorem dd_D_readersBefore_0 : decode prog_4_method_13_code 0 = .ok (.iconst 0, 1) := by decide +kernel
theorem dd_D_readersBefore_1 : decode prog_4_method_13_code 1 = .ok (.istore_n 2, 1) := by decide +kernel
theorem dd_D_readersBefore_2 : decode prog_4_method_13_code 2 = .ok (.iconst 0, 1) := by decide +kernel
theorem dd_D_readersBefore_3 : decode prog_4_method_13_code 3 = .ok (.istore_n 3, 1) := by decide +kernel
theorem dd_D_readersBefore_4 : decode prog_4_method_13_code 4 = .ok (.iload_n 3, 1) := by decide +kernel
theorem dd_D_readersBefore_5 : decode prog_4_method_13_code 5 = .ok (.iconst 4, 1) := by decide +kernel
theorem dd_D_readersBefore_6 : decode prog_4_method_13_code 6 = .ok (.if_icmp .ge 47, 3) := by decide +kernel
theorem dd_D_readersBefore_9 : decode prog_4_method_13_code 9 = .ok (.aload_n 0, 1) := by decide +kernel
theorem dd_D_readersBefore_10 : decode prog_4_method_13_code 10 = .ok (.getfield 15, 3) := by decide +kernel
theorem dd_D_readersBefore_13 : decode prog_4_method_13_code 13 = .ok (.iload_n 3, 1) := by decide +kernel
theorem dd_D_readersBefore_14 : decode prog_4_method_13_code 14 = .ok (.iaload, 1) := by decide +kernel
theorem dd_D_readersBefore_15 : decode prog_4_method_13_code 15 = .ok (.aload_n 0, 1) := by decide +kernel
theorem dd_D_readersBefore_16 : decode prog_4_method_13_code 16 = .ok (.getfield 15, 3) := by decide +kernel
theorem dd_D_readersBefore_19 : decode prog_4_method_13_code 19 = .ok (.iload_n 1, 1) := by decide +kernel
theorem dd_D_readersBefore_20 : decode prog_4_method_13_code 20 = .ok (.iaload, 1) := by decide +kernel
theorem dd_D_readersBefore_21 : decode prog_4_method_13_code 21 = .ok (.if_icmp .gt 23, 3) := by decide +kernel
theorem dd_D_readersBefore_24 : decode prog_4_method_13_code 24 = .ok (.aload_n 0, 1) := by decide +kernel
theorem dd_D_readersBefore_25 : decode prog_4_method_13_code 25 = .ok (.getfield 15, 3) := by decide +kernel
theorem dd_D_readersBefore_28 : decode prog_4_method_13_code 28 = .ok (.iload_n 3, 1) := by decide +kernel
theorem dd_D_readersBefore_29 : decode prog_4_method_13_code 29 = .ok (.iaload, 1) := by decide +kernel
theorem dd_D_readersBefore_30 : decode prog_4_method_13_code 30 = .ok (.aload_n 0, 1) := by decide +kernel
theorem dd_D_readersBefore_31 : decode prog_4_method_13_code 31 = .ok (.getfield 15, 3) := by decide +kernel
theorem dd_D_readersBefore_34 : decode prog_4_method_13_code 34 = .ok (.iload_n 1, 1) := by decide +kernel
theorem dd_D_readersBefore_35 : decode prog_4_method_13_code 35 = .ok (.iaload, 1) := by decide +kernel
theorem dd_D_readersBefore_36 : decode prog_4_method_13_code 36 = .ok (.if_icmp .ne 11, 3) := by decide +kernel
theorem dd_D_readersBefore_39 : decode prog_4_method_13_code 39 = .ok (.iload_n 3, 1) := by decide +kernel
theorem dd_D_readersBefore_40 : decode prog_4_method_13_code 40 = .ok (.iload_n 1, 1) := by decide +kernel
theorem dd_D_readersBefore_41 : decode prog_4_method_13_code 41 = .ok (.if_icmp .ge 6, 3) := by decide +kernel
theorem dd_D_readersBefore_44 : decode prog_4_method_13_code 44 = .ok (.iinc 2 1, 3) := by decide +kernel
theorem dd_D_readersBefore_47 : decode prog_4_method_13_code 47 = .ok (.iinc 3 1, 3) := by decide +kernel
theorem dd_D_readersBefore_50 : decode prog_4_method_13_code 50 = .ok (.goto (-46), 3) := by decide +kernel
theorem dd_D_readersBefore_53 : decode prog_4_method_13_code 53 = .ok (.iload_n 2, 1) := by decide +kernel
theorem dd_D_readersBefore_54 : decode prog_4_method_13_code 54 = .ok (.ireturn, 1) := by decide +kernel
theorem dd_D_readerAt_0 : decode prog_4_method_12_code 0 = .ok (.iconst 0, 1) := by decide +kernel
theorem dd_D_readerAt_1 : decode prog_4_method_12_code 1 = .ok (.istore_n 2, 1) := by decide +kernel
theorem dd_D_readerAt_2 : decode prog_4_method_12_code 2 = .ok (.iload_n 2, 1) := by decide +kernel
theorem dd_D_readerAt_3 : decode prog_4_method_12_code 3 = .ok (.iconst 4, 1) := by decide +kernel
theorem dd_D_readerAt_4 : decode prog_4_method_12_code 4 = .ok (.if_icmp .ge 20, 3) := by decide +kernel
theorem dd_D_readerAt_7 : decode prog_4_method_12_code 7 = .ok (.aload_n 0, 1) := by decide +kernel
theorem dd_D_readerAt_8 : decode prog_4_method_12_code 8 = .ok (.getfield 15, 3) := by decide +kernel
theorem dd_D_readerAt_11 : decode prog_4_method_12_code 11 = .ok (.iload_n 2, 1) := by decide +kernel
theorem dd_D_readerAt_12 : decode prog_4_method_12_code 12 = .ok (.aload_n 0, 1) := by decide +kernel
theorem dd_D_readerAt_13 : decode prog_4_method_12_code 13 = .ok (.iload_n 2, 1) := by decide +kernel
theorem dd_D_readerAt_14 : decode prog_4_method_12_code 14 = .ok (.invokevirtual 47, 3) := by decide +kernel
theorem dd_D_readerAt_17 : decode prog_4_method_12_code 17 = .ok (.iastore, 1) := by decide +kernel
theorem dd_D_readerAt_18 : decode prog_4_method_12_code 18 = .ok (.iinc 2 1, 3) := by decide +kernel
theorem dd_D_readerAt_21 : decode prog_4_method_12_code 21 = .ok (.goto (-19), 3) := by decide +kernel
theorem dd_D_readerAt_24 : decode prog_4_method_12_code 24 = .ok (.iconst 0, 1) := by decide +kernel
theorem dd_D_readerAt_25 : decode prog_4_method_12_code 25 = .ok (.istore_n 2, 1) := by decide +kernel
theorem dd_D_readerAt_26 : decode prog_4_method_12_code 26 = .ok (.iload_n 2, 1) := by decide +kernel
theorem dd_D_readerAt_27 : decode prog_4_method_12_code 27 = .ok (.iconst 4, 1) := by decide +kernel
theorem dd_D_readerAt_28 : decode prog_4_method_12_code 28 = .ok (.if_icmp .ge 20, 3) := by decide +kernel
theorem dd_D_readerAt_31 : decode prog_4_method_12_code 31 = .ok (.aload_n 0, 1) := by decide +kernel
theorem dd_D_readerAt_32 : decode prog_4_method_12_code 32 = .ok (.iload_n 2, 1) := by decide +kernel
theorem dd_D_readerAt_33 : decode prog_4_method_12_code 33 = .ok (.invokevirtual 50, 3) := by decide +kernel
theorem dd_D_readerAt_36 : decode prog_4_method_12_code 36 = .ok (.iload_n 1, 1) := by decide +kernel
theorem dd_D_readerAt_37 : decode prog_4_method_12_code 37 = .ok (.if_icmp .ne 5, 3) := by decide +kernel
theorem dd_D_readerAt_40 : decode prog_4_method_12_code 40 = .ok (.iload_n 2, 1) := by decide +kernel
theorem dd_D_readerAt_41 : decode prog_4_method_12_code 41 = .ok (.ireturn, 1) := by decide +kernel
theorem dd_D_readerAt_42 : decode prog_4_method_12_code 42 = .ok (.iinc 2 1, 3) := by decide +kernel
theorem dd_D_readerAt_45 : decode prog_4_method_12_code 45 = .ok (.goto (-19), 3) := by decide +kernel
theorem dd_D_readerAt_48 : decode prog_4_method_12_code 48 = .ok (.iconst (-1), 1) := by decide +kernel
theorem dd_D_readerAt_49 : decode prog_4_method_12_code 49 = .ok (.ireturn, 1) := by decide +kernel
theorem dd_S_best_0 : decode prog_1_method_20_code 0 = .ok (.iload_n 1, 1) := by decide +kernel
theorem dd_S_best_1 : decode prog_1_method_20_code 1 = .ok (.iconst 4, 1) := by decide +kernel
theorem dd_S_best_2 : decode prog_1_method_20_code 2 = .ok (.invokestatic 82, 3) := by decide +kernel
theorem dd_S_best_5 : decode prog_1_method_20_code 5 = .ok (.aload_n 0, 1) := by decide +kernel
theorem dd_S_best_6 : decode prog_1_method_20_code 6 = .ok (.getfield 36, 3) := by decide +kernel
theorem dd_S_best_9 : decode prog_1_method_20_code 9 = .ok (.iload_n 1, 1) := by decide +kernel
theorem dd_S_best_10 : decode prog_1_method_20_code 10 = .ok (.invokevirtual 183, 3) := by decide +kernel
theorem dd_S_best_13 : decode prog_1_method_20_code 13 = .ok (.ireturn, 1) := by decide +kernel
theorem dd_S_age_0 : decode prog_1_method_21_code 0 = .ok (.iload_n 1, 1) := by decide +kernel
theorem dd_S_age_1 : decode prog_1_method_21_code 1 = .ok (.bipush 20, 2) := by decide +kernel
theorem dd_S_age_3 : decode prog_1_method_21_code 3 = .ok (.invokestatic 82, 3) := by decide +kernel
theorem dd_S_age_6 : decode prog_1_method_21_code 6 = .ok (.iload_n 2, 1) := by decide +kernel
theorem dd_S_age_7 : decode prog_1_method_21_code 7 = .ok (.iconst 0, 1) := by decide +kernel
theorem dd_S_age_8 : decode prog_1_method_21_code 8 = .ok (.sipush 364, 3) := by decide +kernel
theorem dd_S_age_11 : decode prog_1_method_21_code 11 = .ok (.invokestatic 74, 3) := by decide +kernel
theorem dd_S_age_14 : decode prog_1_method_21_code 14 = .ok (.iload_n 3, 1) := by decide +kernel
theorem dd_S_age_15 : decode prog_1_method_21_code 15 = .ok (.iconst 0, 1) := by decide +kernel
theorem dd_S_age_16 : decode prog_1_method_21_code 16 = .ok (.sipush 364, 3) := by decide +kernel
theorem dd_S_age_19 : decode prog_1_method_21_code 19 = .ok (.invokestatic 74, 3) := by decide +kernel
theorem dd_S_age_22 : decode prog_1_method_21_code 22 = .ok (.aload_n 0, 1) := by decide +kernel
theorem dd_S_age_23 : decode prog_1_method_21_code 23 = .ok (.getfield 36, 3) := by decide +kernel
theorem dd_S_age_26 : decode prog_1_method_21_code 26 = .ok (.iload_n 1, 1) := by decide +kernel
theorem dd_S_age_27 : decode prog_1_method_21_code 27 = .ok (.invokevirtual 177, 3) := by decide +kernel
theorem dd_S_age_30 : decode prog_1_method_21_code 30 = .ok (.istore 4, 2) := by decide +kernel
theorem dd_S_age_32 : decode prog_1_method_21_code 32 = .ok (.iload 4, 2) := by decide +kernel
theorem dd_S_age_34 : decode prog_1_method_21_code 34 = .ok (.iconst (-1), 1) := by decide +kernel
theorem dd_S_age_35 : decode prog_1_method_21_code 35 = .ok (.if_icmp .ne 5, 3) := by decide +kernel
theorem dd_S_age_38 : decode prog_1_method_21_code 38 = .ok (.iconst (-1), 1) := by decide +kernel
theorem dd_S_age_39 : decode prog_1_method_21_code 39 = .ok (.ireturn, 1) := by decide +kernel
theorem dd_S_age_40 : decode prog_1_method_21_code 40 = .ok (.iload_n 2, 1) := by decide +kernel
theorem dd_S_age_41 : decode prog_1_method_21_code 41 = .ok (.iload_n 3, 1) := by decide +kernel
theorem dd_S_age_42 : decode prog_1_method_21_code 42 = .ok (.if_icmp .ge 14, 3) := by decide +kernel
theorem dd_S_age_45 : decode prog_1_method_21_code 45 = .ok (.iload 4, 2) := by decide +kernel
theorem dd_S_age_47 : decode prog_1_method_21_code 47 = .ok (.iconst 1, 1) := by decide +kernel
theorem dd_S_age_48 : decode prog_1_method_21_code 48 = .ok (.isub, 1) := by decide +kernel
theorem dd_S_age_49 : decode prog_1_method_21_code 49 = .ok (.iconst 0, 1) := by decide +kernel
theorem dd_S_age_50 : decode prog_1_method_21_code 50 = .ok (.invokestatic 186, 3) := by decide +kernel
theorem dd_S_age_53 : decode prog_1_method_21_code 53 = .ok (.goto 5, 3) := by decide +kernel
theorem dd_S_age_56 : decode prog_1_method_21_code 56 = .ok (.iload 4, 2) := by decide +kernel
theorem dd_S_age_58 : decode prog_1_method_21_code 58 = .ok (.ireturn, 1) := by decide +kernel
theorem dd_T_sameValues_0 : decode prog_5_method_7_code 0 = .ok (.aload_n 0, 1) := by decide +kernel
theorem dd_T_sameValues_1 : decode prog_5_method_7_code 1 = .ok (.getfield 21, 3) := by decide +kernel
theorem dd_T_sameValues_4 : decode prog_5_method_7_code 4 = .ok (.aload_n 1, 1) := by decide +kernel
theorem dd_T_sameValues_5 : decode prog_5_method_7_code 5 = .ok (.getfield 21, 3) := by decide +kernel
theorem dd_T_sameValues_8 : decode prog_5_method_7_code 8 = .ok (.if_icmp .eq 5, 3) := by decide +kernel
theorem dd_T_sameValues_11 : decode prog_5_method_7_code 11 = .ok (.iconst 0, 1) := by decide +kernel
theorem dd_T_sameValues_12 : decode prog_5_method_7_code 12 = .ok (.ireturn, 1) := by decide +kernel
theorem dd_T_sameValues_13 : decode prog_5_method_7_code 13 = .ok (.iconst 0, 1) := by decide +kernel
theorem dd_T_sameValues_14 : decode prog_5_method_7_code 14 = .ok (.istore_n 2, 1) := by decide +kernel
theorem dd_T_sameValues_15 : decode prog_5_method_7_code 15 = .ok (.iload_n 2, 1) := by decide +kernel
theorem dd_T_sameValues_16 : decode prog_5_method_7_code 16 = .ok (.aload_n 0, 1) := by decide +kernel
theorem dd_T_sameValues_17 : decode prog_5_method_7_code 17 = .ok (.getfield 21, 3) := by decide +kernel
theorem dd_T_sameValues_20 : decode prog_5_method_7_code 20 = .ok (.if_icmp .ge 26, 3) := by decide +kernel
theorem dd_T_sameValues_23 : decode prog_5_method_7_code 23 = .ok (.aload_n 0, 1) := by decide +kernel
theorem dd_T_sameValues_24 : decode prog_5_method_7_code 24 = .ok (.getfield 9, 3) := by decide +kernel
theorem dd_T_sameValues_27 : decode prog_5_method_7_code 27 = .ok (.iload_n 2, 1) := by decide +kernel
theorem dd_T_sameValues_28 : decode prog_5_method_7_code 28 = .ok (.iaload, 1) := by decide +kernel
theorem dd_T_sameValues_29 : decode prog_5_method_7_code 29 = .ok (.aload_n 1, 1) := by decide +kernel
theorem dd_T_sameValues_30 : decode prog_5_method_7_code 30 = .ok (.getfield 9, 3) := by decide +kernel
theorem dd_T_sameValues_33 : decode prog_5_method_7_code 33 = .ok (.iload_n 2, 1) := by decide +kernel
theorem dd_T_sameValues_34 : decode prog_5_method_7_code 34 = .ok (.iaload, 1) := by decide +kernel
theorem dd_T_sameValues_35 : decode prog_5_method_7_code 35 = .ok (.if_icmp .eq 5, 3) := by decide +kernel
theorem dd_T_sameValues_38 : decode prog_5_method_7_code 38 = .ok (.iconst 0, 1) := by decide +kernel
theorem dd_T_sameValues_39 : decode prog_5_method_7_code 39 = .ok (.ireturn, 1) := by decide +kernel
theorem dd_T_sameValues_40 : decode prog_5_method_7_code 40 = .ok (.iinc 2 1, 3) := by decide +kernel
theorem dd_T_sameValues_43 : decode prog_5_method_7_code 43 = .ok (.goto (-28), 3) := by decide +kernel
theorem dd_T_sameValues_46 : decode prog_5_method_7_code 46 = .ok (.iconst 1, 1) := by decide +kernel
theorem dd_T_sameValues_47 : decode prog_5_method_7_code 47 = .ok (.ireturn, 1) := by decide +kernel
theorem dd_S_twin_0 : decode prog_1_method_22_code 0 = .ok (.aload_n 0, 1) := by decide +kernel
theorem dd_S_twin_1 : decode prog_1_method_22_code 1 = .ok (.iload_n 1, 1) := by decide +kernel
theorem dd_S_twin_2 : decode prog_1_method_22_code 2 = .ok (.aload_n 0, 1) := by decide +kernel
theorem dd_S_twin_3 : decode prog_1_method_22_code 3 = .ok (.getfield 19, 3) := by decide +kernel
theorem dd_S_twin_6 : decode prog_1_method_22_code 6 = .ok (.invokevirtual 102, 3) := by decide +kernel
theorem dd_S_twin_9 : decode prog_1_method_22_code 9 = .ok (.aload_n 0, 1) := by decide +kernel
theorem dd_S_twin_10 : decode prog_1_method_22_code 10 = .ok (.iload_n 2, 1) := by decide +kernel
theorem dd_S_twin_11 : decode prog_1_method_22_code 11 = .ok (.aload_n 0, 1) := by decide +kernel
theorem dd_S_twin_12 : decode prog_1_method_22_code 12 = .ok (.getfield 23, 3) := by decide +kernel
theorem dd_S_twin_15 : decode prog_1_method_22_code 15 = .ok (.invokevirtual 102, 3) := by decide +kernel
theorem dd_S_twin_18 : decode prog_1_method_22_code 18 = .ok (.aload_n 0, 1) := by decide +kernel
theorem dd_S_twin_19 : decode prog_1_method_22_code 19 = .ok (.getfield 19, 3) := by decide +kernel
theorem dd_S_twin_22 : decode prog_1_method_22_code 22 = .ok (.aload_n 0, 1) := by decide +kernel
theorem dd_S_twin_23 : decode prog_1_method_22_code 23 = .ok (.getfield 23, 3) := by decide +kernel
theorem dd_S_twin_26 : decode prog_1_method_22_code 26 = .ok (.invokevirtual 191, 3) := by decide +kernel
theorem dd_S_twin_29 : decode prog_1_method_22_code 29 = .ok (.ireturn, 1) := by decide +kernel
end
section
theorem dd_M_thrown_0 : decode prog_7_method_2_code 0 = .ok (.aload_n 0, 1) := by decide +kernel
theorem dd_M_thrown_1 : decode prog_7_method_2_code 1 = .ok (.getfield 53, 3) := by decide +kernel
theorem dd_M_thrown_4 : decode prog_7_method_2_code 4 = .ok (.ireturn, 1) := by decide +kernel
theorem dd_M_isIn_0 : decode prog_7_method_3_code 0 = .ok (.iload_n 0, 1) := by decide +kernel
theorem dd_M_isIn_1 : decode prog_7_method_3_code 1 = .ok (.iload_n 1, 1) := by decide +kernel
theorem dd_M_isIn_2 : decode prog_7_method_3_code 2 = .ok (.if_icmp .lt 12, 3) := by decide +kernel
theorem dd_M_isIn_5 : decode prog_7_method_3_code 5 = .ok (.iload_n 0, 1) := by decide +kernel
theorem dd_M_isIn_6 : decode prog_7_method_3_code 6 = .ok (.iload_n 2, 1) := by decide +kernel
theorem dd_M_isIn_7 : decode prog_7_method_3_code 7 = .ok (.if_icmp .gt 7, 3) := by decide +kernel
theorem dd_M_isIn_10 : decode prog_7_method_3_code 10 = .ok (.iconst 1, 1) := by decide +kernel
theorem dd_M_isIn_11 : decode prog_7_method_3_code 11 = .ok (.goto 4, 3) := by decide +kernel
theorem dd_M_isIn_14 : decode prog_7_method_3_code 14 = .ok (.iconst 0, 1) := by decide +kernel
theorem dd_M_isIn_15 : decode prog_7_method_3_code 15 = .ok (.ireturn, 1) := by decide +kernel
theorem dd_M_isThere_0 : decode prog_7_method_4_code 0 = .ok (.iload_n 1, 1) := by decide +kernel
theorem dd_M_isThere_1 : decode prog_7_method_4_code 1 = .ok (.iconst 0, 1) := by decide +kernel
theorem dd_M_isThere_2 : decode prog_7_method_4_code 2 = .ok (.aload_n 0, 1) := by decide +kernel
theorem dd_M_isThere_3 : decode prog_7_method_4_code 3 = .ok (.getfield 47, 3) := by decide +kernel
theorem dd_M_isThere_6 : decode prog_7_method_4_code 6 = .ok (.iconst 1, 1) := by decide +kernel
theorem dd_M_isThere_7 : decode prog_7_method_4_code 7 = .ok (.isub, 1) := by decide +kernel
theorem dd_M_isThere_8 : decode prog_7_method_4_code 8 = .ok (.invokestatic 56, 3) := by decide +kernel
theorem dd_M_isThere_11 : decode prog_7_method_4_code 11 = .ok (.ifCond .eq 21, 3) := by decide +kernel
theorem dd_M_isThere_14 : decode prog_7_method_4_code 14 = .ok (.iload_n 2, 1) := by decide +kernel
theorem dd_M_isThere_15 : decode prog_7_method_4_code 15 = .ok (.iconst 0, 1) := by decide +kernel
theorem dd_M_isThere_16 : decode prog_7_method_4_code 16 = .ok (.aload_n 0, 1) := by decide +kernel
theorem dd_M_isThere_17 : decode prog_7_method_4_code 17 = .ok (.getfield 50, 3) := by decide +kernel
theorem dd_M_isThere_20 : decode prog_7_method_4_code 20 = .ok (.iconst 1, 1) := by decide +kernel
theorem dd_M_isThere_21 : decode prog_7_method_4_code 21 = .ok (.isub, 1) := by decide +kernel
theorem dd_M_isThere_22 : decode prog_7_method_4_code 22 = .ok (.invokestatic 56, 3) := by decide +kernel
theorem dd_M_isThere_25 : decode prog_7_method_4_code 25 = .ok (.ifCond .eq 7, 3) := by decide +kernel
theorem dd_M_isThere_28 : decode prog_7_method_4_code 28 = .ok (.iconst 1, 1) := by decide +kernel
theorem dd_M_isThere_29 : decode prog_7_method_4_code 29 = .ok (.goto 4, 3) := by decide +kernel
theorem dd_M_isThere_32 : decode prog_7_method_4_code 32 = .ok (.iconst 0, 1) := by decide +kernel
theorem dd_M_isThere_33 : decode prog_7_method_4_code 33 = .ok (.ireturn, 1) := by decide +kernel
theorem dd_M_pixel_0 : decode prog_7_method_5_code 0 = .ok (.aload_n 0, 1) := by decide +kernel
theorem dd_M_pixel_1 : decode prog_7_method_5_code 1 = .ok (.aload_n 0, 1) := by decide +kernel
theorem dd_M_pixel_2 : decode prog_7_method_5_code 2 = .ok (.iload_n 1, 1) := by decide +kernel
theorem dd_M_pixel_3 : decode prog_7_method_5_code 3 = .ok (.iload_n 2, 1) := by decide +kernel
theorem dd_M_pixel_4 : decode prog_7_method_5_code 4 = .ok (.invokevirtual 60, 3) := by decide +kernel
theorem dd_M_pixel_7 : decode prog_7_method_5_code 7 = .ok (.ifCond .ne 7, 3) := by decide +kernel
theorem dd_M_pixel_10 : decode prog_7_method_5_code 10 = .ok (.iconst 1, 1) := by decide +kernel
theorem dd_M_pixel_11 : decode prog_7_method_5_code 11 = .ok (.goto 19, 3) := by decide +kernel
theorem dd_M_pixel_14 : decode prog_7_method_5_code 14 = .ok (.iload_n 3, 1) := by decide +kernel
theorem dd_M_pixel_15 : decode prog_7_method_5_code 15 = .ok (.iconst 0, 1) := by decide +kernel
theorem dd_M_pixel_16 : decode prog_7_method_5_code 16 = .ok (.sipush 255, 3) := by decide +kernel
theorem dd_M_pixel_19 : decode prog_7_method_5_code 19 = .ok (.invokestatic 56, 3) := by decide +kernel
theorem dd_M_pixel_22 : decode prog_7_method_5_code 22 = .ok (.ifCond .ne 7, 3) := by decide +kernel
theorem dd_M_pixel_25 : decode prog_7_method_5_code 25 = .ok (.iconst 2, 1) := by decide +kernel
theorem dd_M_pixel_26 : decode prog_7_method_5_code 26 = .ok (.goto 4, 3) := by decide +kernel
theorem dd_M_pixel_29 : decode prog_7_method_5_code 29 = .ok (.iconst 0, 1) := by decide +kernel
theorem dd_M_pixel_30 : decode prog_7_method_5_code 30 = .ok (.putfield 53, 3) := by decide +kernel
theorem dd_M_pixel_33 : decode prog_7_method_5_code 33 = .ok (.aload_n 0, 1) := by decide +kernel
theorem dd_M_pixel_34 : decode prog_7_method_5_code 34 = .ok (.getfield 53, 3) := by decide +kernel
theorem dd_M_pixel_37 : decode prog_7_method_5_code 37 = .ok (.ifCond .le 5, 3) := by decide +kernel
theorem dd_M_pixel_40 : decode prog_7_method_5_code 40 = .ok (.iconst 0, 1) := by decide +kernel
theorem dd_M_pixel_41 : decode prog_7_method_5_code 41 = .ok (.ireturn, 1) := by decide +kernel
theorem dd_M_pixel_42 : decode prog_7_method_5_code 42 = .ok (.aload_n 0, 1) := by decide +kernel
theorem dd_M_pixel_43 : decode prog_7_method_5_code 43 = .ok (.getfield 7, 3) := by decide +kernel
theorem dd_M_pixel_46 : decode prog_7_method_5_code 46 = .ok (.bipush 16, 2) := by decide +kernel
theorem dd_M_pixel_48 : decode prog_7_method_5_code 48 = .ok (.iload_n 2, 1) := by decide +kernel
theorem dd_M_pixel_49 : decode prog_7_method_5_code 49 = .ok (.imul, 1) := by decide +kernel
theorem dd_M_pixel_50 : decode prog_7_method_5_code 50 = .ok (.iload_n 1, 1) := by decide +kernel
theorem dd_M_pixel_51 : decode prog_7_method_5_code 51 = .ok (.iadd, 1) := by decide +kernel
theorem dd_M_pixel_52 : decode prog_7_method_5_code 52 = .ok (.iaload, 1) := by decide +kernel
theorem dd_M_pixel_53 : decode prog_7_method_5_code 53 = .ok (.iload_n 3, 1) := by decide +kernel
theorem dd_M_pixel_54 : decode prog_7_method_5_code 54 = .ok (.if_icmp .eq 7, 3) := by decide +kernel
theorem dd_M_pixel_57 : decode prog_7_method_5_code 57 = .ok (.iconst 1, 1) := by decide +kernel
theorem dd_M_pixel_58 : decode prog_7_method_5_code 58 = .ok (.goto 4, 3) := by decide +kernel
theorem dd_M_pixel_61 : decode prog_7_method_5_code 61 = .ok (.iconst 0, 1) := by decide +kernel
theorem dd_M_pixel_62 : decode prog_7_method_5_code 62 = .ok (.istore 4, 2) := by decide +kernel
theorem dd_M_pixel_64 : decode prog_7_method_5_code 64 = .ok (.aload_n 0, 1) := by decide +kernel
theorem dd_M_pixel_65 : decode prog_7_method_5_code 65 = .ok (.getfield 7, 3) := by decide +kernel
theorem dd_M_pixel_68 : decode prog_7_method_5_code 68 = .ok (.bipush 16, 2) := by decide +kernel
theorem dd_M_pixel_70 : decode prog_7_method_5_code 70 = .ok (.iload_n 2, 1) := by decide +kernel
theorem dd_M_pixel_71 : decode prog_7_method_5_code 71 = .ok (.imul, 1) := by decide +kernel
theorem dd_M_pixel_72 : decode prog_7_method_5_code 72 = .ok (.iload_n 1, 1) := by decide +kernel
theorem dd_M_pixel_73 : decode prog_7_method_5_code 73 = .ok (.iadd, 1) := by decide +kernel
theorem dd_M_pixel_74 : decode prog_7_method_5_code 74 = .ok (.iload_n 3, 1) := by decide +kernel
theorem dd_M_pixel_75 : decode prog_7_method_5_code 75 = .ok (.iastore, 1) := by decide +kernel
theorem dd_M_pixel_76 : decode prog_7_method_5_code 76 = .ok (.iload 4, 2) := by decide +kernel
theorem dd_M_pixel_78 : decode prog_7_method_5_code 78 = .ok (.ireturn, 1) := by decide +kernel
theorem dd_M_sumOf_0 : decode prog_7_method_6_code 0 = .ok (.iconst 0, 1) := by decide +kernel
theorem dd_M_sumOf_1 : decode prog_7_method_6_code 1 = .ok (.istore_n 2, 1) := by decide +kernel
theorem dd_M_sumOf_2 : decode prog_7_method_6_code 2 = .ok (.iconst 0, 1) := by decide +kernel
theorem dd_M_sumOf_3 : decode prog_7_method_6_code 3 = .ok (.istore_n 3, 1) := by decide +kernel
theorem dd_M_sumOf_4 : decode prog_7_method_6_code 4 = .ok (.iload_n 3, 1) := by decide +kernel
theorem dd_M_sumOf_5 : decode prog_7_method_6_code 5 = .ok (.sipush 256, 3) := by decide +kernel
theorem dd_M_sumOf_8 : decode prog_7_method_6_code 8 = .ok (.if_icmp .ge 43, 3) := by decide +kernel
theorem dd_M_sumOf_11 : decode prog_7_method_6_code 11 = .ok (.iload_n 2, 1) := by decide +kernel
theorem dd_M_sumOf_12 : decode prog_7_method_6_code 12 = .ok (.iload_n 1, 1) := by decide +kernel
theorem dd_M_sumOf_13 : decode prog_7_method_6_code 13 = .ok (.ifCond .ne 10, 3) := by decide +kernel
theorem dd_M_sumOf_16 : decode prog_7_method_6_code 16 = .ok (.iload_n 3, 1) := by decide +kernel
theorem dd_M_sumOf_17 : decode prog_7_method_6_code 17 = .ok (.bipush 16, 2) := by decide +kernel
theorem dd_M_sumOf_19 : decode prog_7_method_6_code 19 = .ok (.irem, 1) := by decide +kernel
theorem dd_M_sumOf_20 : decode prog_7_method_6_code 20 = .ok (.goto 16, 3) := by decide +kernel
theorem dd_M_sumOf_23 : decode prog_7_method_6_code 23 = .ok (.iload_n 1, 1) := by decide +kernel
theorem dd_M_sumOf_24 : decode prog_7_method_6_code 24 = .ok (.iconst 1, 1) := by decide +kernel
theorem dd_M_sumOf_25 : decode prog_7_method_6_code 25 = .ok (.if_icmp .ne 10, 3) := by decide +kernel
theorem dd_M_sumOf_28 : decode prog_7_method_6_code 28 = .ok (.iload_n 3, 1) := by decide +kernel
theorem dd_M_sumOf_29 : decode prog_7_method_6_code 29 = .ok (.bipush 16, 2) := by decide +kernel
theorem dd_M_sumOf_31 : decode prog_7_method_6_code 31 = .ok (.idiv, 1) := by decide +kernel
theorem dd_M_sumOf_32 : decode prog_7_method_6_code 32 = .ok (.goto 4, 3) := by decide +kernel
theorem dd_M_sumOf_35 : decode prog_7_method_6_code 35 = .ok (.iconst 1, 1) := by decide +kernel
theorem dd_M_sumOf_36 : decode prog_7_method_6_code 36 = .ok (.aload_n 0, 1) := by decide +kernel
theorem dd_M_sumOf_37 : decode prog_7_method_6_code 37 = .ok (.getfield 7, 3) := by decide +kernel
theorem dd_M_sumOf_40 : decode prog_7_method_6_code 40 = .ok (.iload_n 3, 1) := by decide +kernel
theorem dd_M_sumOf_41 : decode prog_7_method_6_code 41 = .ok (.iaload, 1) := by decide +kernel
theorem dd_M_sumOf_42 : decode prog_7_method_6_code 42 = .ok (.imul, 1) := by decide +kernel
theorem dd_M_sumOf_43 : decode prog_7_method_6_code 43 = .ok (.iadd, 1) := by decide +kernel
theorem dd_M_sumOf_44 : decode prog_7_method_6_code 44 = .ok (.istore_n 2, 1) := by decide +kernel
theorem dd_M_sumOf_45 : decode prog_7_method_6_code 45 = .ok (.iinc 3 1, 3) := by decide +kernel
theorem dd_M_sumOf_48 : decode prog_7_method_6_code 48 = .ok (.goto (-44), 3) := by decide +kernel
theorem dd_M_sumOf_51 : decode prog_7_method_6_code 51 = .ok (.iload_n 2, 1) := by decide +kernel
theorem dd_M_sumOf_52 : decode prog_7_method_6_code 52 = .ok (.ireturn, 1) := by decide +kernel
theorem dd_M_middleOf_0 : decode prog_7_method_7_code 0 = .ok (.aload_n 0, 1) := by decide +kernel
theorem dd_M_middleOf_1 : decode prog_7_method_7_code 1 = .ok (.iconst 2, 1) := by decide +kernel
theorem dd_M_middleOf_2 : decode prog_7_method_7_code 2 = .ok (.invokevirtual 64, 3) := by decide +kernel
theorem dd_M_middleOf_5 : decode prog_7_method_7_code 5 = .ok (.istore_n 2, 1) := by decide +kernel
theorem dd_M_middleOf_6 : decode prog_7_method_7_code 6 = .ok (.iload_n 2, 1) := by decide +kernel
theorem dd_M_middleOf_7 : decode prog_7_method_7_code 7 = .ok (.ifCond .ne 7, 3) := by decide +kernel
theorem dd_M_middleOf_10 : decode prog_7_method_7_code 10 = .ok (.iconst (-1), 1) := by decide +kernel
theorem dd_M_middleOf_11 : decode prog_7_method_7_code 11 = .ok (.goto 10, 3) := by decide +kernel
theorem dd_M_middleOf_14 : decode prog_7_method_7_code 14 = .ok (.aload_n 0, 1) := by decide +kernel
theorem dd_M_middleOf_15 : decode prog_7_method_7_code 15 = .ok (.iload_n 1, 1) := by decide +kernel
theorem dd_M_middleOf_16 : decode prog_7_method_7_code 16 = .ok (.invokevirtual 64, 3) := by decide +kernel
theorem dd_M_middleOf_19 : decode prog_7_method_7_code 19 = .ok (.iload_n 2, 1) := by decide +kernel
theorem dd_M_middleOf_20 : decode prog_7_method_7_code 20 = .ok (.idiv, 1) := by decide +kernel
theorem dd_M_middleOf_21 : decode prog_7_method_7_code 21 = .ok (.ireturn, 1) := by decide +kernel
theorem dd_M_middle_0 : decode prog_7_method_8_code 0 = .ok (.aload_n 0, 1) := by decide +kernel
theorem dd_M_middle_1 : decode prog_7_method_8_code 1 = .ok (.iload_n 1, 1) := by decide +kernel
theorem dd_M_middle_2 : decode prog_7_method_8_code 2 = .ok (.iconst 0, 1) := by decide +kernel
theorem dd_M_middle_3 : decode prog_7_method_8_code 3 = .ok (.iconst 1, 1) := by decide +kernel
theorem dd_M_middle_4 : decode prog_7_method_8_code 4 = .ok (.invokestatic 56, 3) := by decide +kernel
theorem dd_M_middle_7 : decode prog_7_method_8_code 7 = .ok (.ifCond .ne 7, 3) := by decide +kernel
theorem dd_M_middle_10 : decode prog_7_method_8_code 10 = .ok (.iconst 1, 1) := by decide +kernel
theorem dd_M_middle_11 : decode prog_7_method_8_code 11 = .ok (.goto 4, 3) := by decide +kernel
theorem dd_M_middle_14 : decode prog_7_method_8_code 14 = .ok (.iconst 0, 1) := by decide +kernel
theorem dd_M_middle_15 : decode prog_7_method_8_code 15 = .ok (.putfield 53, 3) := by decide +kernel
theorem dd_M_middle_18 : decode prog_7_method_8_code 18 = .ok (.aload_n 0, 1) := by decide +kernel
theorem dd_M_middle_19 : decode prog_7_method_8_code 19 = .ok (.getfield 53, 3) := by decide +kernel
theorem dd_M_middle_22 : decode prog_7_method_8_code 22 = .ok (.ifCond .le 7, 3) := by decide +kernel
theorem dd_M_middle_25 : decode prog_7_method_8_code 25 = .ok (.iconst 0, 1) := by decide +kernel
theorem dd_M_middle_26 : decode prog_7_method_8_code 26 = .ok (.goto 8, 3) := by decide +kernel
theorem dd_M_middle_29 : decode prog_7_method_8_code 29 = .ok (.aload_n 0, 1) := by decide +kernel
theorem dd_M_middle_30 : decode prog_7_method_8_code 30 = .ok (.iload_n 1, 1) := by decide +kernel
theorem dd_M_middle_31 : decode prog_7_method_8_code 31 = .ok (.invokevirtual 68, 3) := by decide +kernel
theorem dd_M_middle_34 : decode prog_7_method_8_code 34 = .ok (.ireturn, 1) := by decide +kernel
theorem dd_M_ray_0 : decode prog_7_method_9_code 0 = .ok (.aload_n 0, 1) := by decide +kernel
theorem dd_M_ray_1 : decode prog_7_method_9_code 1 = .ok (.iload_n 1, 1) := by decide +kernel
theorem dd_M_ray_2 : decode prog_7_method_9_code 2 = .ok (.bipush (-5), 2) := by decide +kernel
theorem dd_M_ray_4 : decode prog_7_method_9_code 4 = .ok (.iconst 5, 1) := by decide +kernel
theorem dd_M_ray_5 : decode prog_7_method_9_code 5 = .ok (.invokestatic 56, 3) := by decide +kernel
theorem dd_M_ray_8 : decode prog_7_method_9_code 8 = .ok (.ifCond .eq 21, 3) := by decide +kernel
theorem dd_M_ray_11 : decode prog_7_method_9_code 11 = .ok (.iload_n 2, 1) := by decide +kernel
theorem dd_M_ray_12 : decode prog_7_method_9_code 12 = .ok (.bipush (-5), 2) := by decide +kernel
theorem dd_M_ray_14 : decode prog_7_method_9_code 14 = .ok (.iconst 5, 1) := by decide +kernel
theorem dd_M_ray_15 : decode prog_7_method_9_code 15 = .ok (.invokestatic 56, 3) := by decide +kernel
theorem dd_M_ray_18 : decode prog_7_method_9_code 18 = .ok (.ifCond .eq 11, 3) := by decide +kernel
theorem dd_M_ray_21 : decode prog_7_method_9_code 21 = .ok (.iload_n 1, 1) := by decide +kernel
theorem dd_M_ray_22 : decode prog_7_method_9_code 22 = .ok (.ifCond .ne 11, 3) := by decide +kernel
theorem dd_M_ray_25 : decode prog_7_method_9_code 25 = .ok (.iload_n 2, 1) := by decide +kernel
theorem dd_M_ray_26 : decode prog_7_method_9_code 26 = .ok (.ifCond .ne 7, 3) := by decide +kernel
theorem dd_M_ray_29 : decode prog_7_method_9_code 29 = .ok (.iconst 1, 1) := by decide +kernel
theorem dd_M_ray_30 : decode prog_7_method_9_code 30 = .ok (.goto 17, 3) := by decide +kernel
theorem dd_M_ray_33 : decode prog_7_method_9_code 33 = .ok (.aload_n 0, 1) := by decide +kernel
theorem dd_M_ray_34 : decode prog_7_method_9_code 34 = .ok (.getfield 71, 3) := by decide +kernel
theorem dd_M_ray_37 : decode prog_7_method_9_code 37 = .ok (.bipush 8, 2) := by decide +kernel
theorem dd_M_ray_39 : decode prog_7_method_9_code 39 = .ok (.if_icmp .ne 7, 3) := by decide +kernel
theorem dd_M_ray_42 : decode prog_7_method_9_code 42 = .ok (.iconst 2, 1) := by decide +kernel
theorem dd_M_ray_43 : decode prog_7_method_9_code 43 = .ok (.goto 4, 3) := by decide +kernel
theorem dd_M_ray_46 : decode prog_7_method_9_code 46 = .ok (.iconst 0, 1) := by decide +kernel
theorem dd_M_ray_47 : decode prog_7_method_9_code 47 = .ok (.putfield 53, 3) := by decide +kernel
theorem dd_M_ray_50 : decode prog_7_method_9_code 50 = .ok (.aload_n 0, 1) := by decide +kernel
theorem dd_M_ray_51 : decode prog_7_method_9_code 51 = .ok (.getfield 53, 3) := by decide +kernel
theorem dd_M_ray_54 : decode prog_7_method_9_code 54 = .ok (.ifCond .le 5, 3) := by decide +kernel
theorem dd_M_ray_57 : decode prog_7_method_9_code 57 = .ok (.iconst 0, 1) := by decide +kernel
theorem dd_M_ray_58 : decode prog_7_method_9_code 58 = .ok (.ireturn, 1) := by decide +kernel
theorem dd_M_ray_59 : decode prog_7_method_9_code 59 = .ok (.aload_n 0, 1) := by decide +kernel
theorem dd_M_ray_60 : decode prog_7_method_9_code 60 = .ok (.getfield 13, 3) := by decide +kernel
theorem dd_M_ray_63 : decode prog_7_method_9_code 63 = .ok (.aload_n 0, 1) := by decide +kernel
theorem dd_M_ray_64 : decode prog_7_method_9_code 64 = .ok (.getfield 71, 3) := by decide +kernel
theorem dd_M_ray_67 : decode prog_7_method_9_code 67 = .ok (.iload_n 1, 1) := by decide +kernel
theorem dd_M_ray_68 : decode prog_7_method_9_code 68 = .ok (.iastore, 1) := by decide +kernel
theorem dd_M_ray_69 : decode prog_7_method_9_code 69 = .ok (.aload_n 0, 1) := by decide +kernel
theorem dd_M_ray_70 : decode prog_7_method_9_code 70 = .ok (.getfield 16, 3) := by decide +kernel
theorem dd_M_ray_73 : decode prog_7_method_9_code 73 = .ok (.aload_n 0, 1) := by decide +kernel
theorem dd_M_ray_74 : decode prog_7_method_9_code 74 = .ok (.getfield 71, 3) := by decide +kernel
theorem dd_M_ray_77 : decode prog_7_method_9_code 77 = .ok (.iload_n 2, 1) := by decide +kernel
theorem dd_M_ray_78 : decode prog_7_method_9_code 78 = .ok (.iastore, 1) := by decide +kernel
theorem dd_M_ray_79 : decode prog_7_method_9_code 79 = .ok (.aload_n 0, 1) := by decide +kernel
theorem dd_M_ray_80 : decode prog_7_method_9_code 80 = .ok (.dup, 1) := by decide +kernel
theorem dd_M_ray_81 : decode prog_7_method_9_code 81 = .ok (.getfield 71, 3) := by decide +kernel
theorem dd_M_ray_84 : decode prog_7_method_9_code 84 = .ok (.iconst 1, 1) := by decide +kernel
theorem dd_M_ray_85 : decode prog_7_method_9_code 85 = .ok (.iadd, 1) := by decide +kernel
theorem dd_M_ray_86 : decode prog_7_method_9_code 86 = .ok (.putfield 71, 3) := by decide +kernel
theorem dd_M_ray_89 : decode prog_7_method_9_code 89 = .ok (.aload_n 0, 1) := by decide +kernel
theorem dd_M_ray_90 : decode prog_7_method_9_code 90 = .ok (.getfield 71, 3) := by decide +kernel
theorem dd_M_ray_93 : decode prog_7_method_9_code 93 = .ok (.iconst 1, 1) := by decide +kernel
theorem dd_M_ray_94 : decode prog_7_method_9_code 94 = .ok (.isub, 1) := by decide +kernel
theorem dd_M_ray_95 : decode prog_7_method_9_code 95 = .ok (.ireturn, 1) := by decide +kernel
theorem dd_M_noRay_0 : decode prog_7_method_13_code 0 = .ok (.iload_n 1, 1) := by decide +kernel
theorem dd_M_noRay_1 : decode prog_7_method_13_code 1 = .ok (.iconst 0, 1) := by decide +kernel
theorem dd_M_noRay_2 : decode prog_7_method_13_code 2 = .ok (.aload_n 0, 1) := by decide +kernel
theorem dd_M_noRay_3 : decode prog_7_method_13_code 3 = .ok (.getfield 71, 3) := by decide +kernel
theorem dd_M_noRay_6 : decode prog_7_method_13_code 6 = .ok (.iconst 1, 1) := by decide +kernel
theorem dd_M_noRay_7 : decode prog_7_method_13_code 7 = .ok (.isub, 1) := by decide +kernel
theorem dd_M_noRay_8 : decode prog_7_method_13_code 8 = .ok (.invokestatic 56, 3) := by decide +kernel
theorem dd_M_noRay_11 : decode prog_7_method_13_code 11 = .ok (.ifCond .ne 7, 3) := by decide +kernel
theorem dd_M_noRay_14 : decode prog_7_method_13_code 14 = .ok (.iconst 1, 1) := by decide +kernel
theorem dd_M_noRay_15 : decode prog_7_method_13_code 15 = .ok (.goto 4, 3) := by decide +kernel
theorem dd_M_noRay_18 : decode prog_7_method_13_code 18 = .ok (.iconst 0, 1) := by decide +kernel
theorem dd_M_noRay_19 : decode prog_7_method_13_code 19 = .ok (.ireturn, 1) := by decide +kernel
theorem dd_M_size_0 : decode prog_7_method_10_code 0 = .ok (.iload_n 0, 1) := by decide +kernel
theorem dd_M_size_1 : decode prog_7_method_10_code 1 = .ok (.ifCond .ge 8, 3) := by decide +kernel
theorem dd_M_size_4 : decode prog_7_method_10_code 4 = .ok (.iload_n 0, 1) := by decide +kernel
theorem dd_M_size_5 : decode prog_7_method_10_code 5 = .ok (.ineg, 1) := by decide +kernel
theorem dd_M_size_6 : decode prog_7_method_10_code 6 = .ok (.goto 4, 3) := by decide +kernel
theorem dd_M_size_9 : decode prog_7_method_10_code 9 = .ok (.iload_n 0, 1) := by decide +kernel
theorem dd_M_size_10 : decode prog_7_method_10_code 10 = .ok (.ireturn, 1) := by decide +kernel
theorem dd_M_down_0 : decode prog_7_method_11_code 0 = .ok (.iload_n 0, 1) := by decide +kernel
theorem dd_M_down_1 : decode prog_7_method_11_code 1 = .ok (.iload_n 1, 1) := by decide +kernel
theorem dd_M_down_2 : decode prog_7_method_11_code 2 = .ok (.idiv, 1) := by decide +kernel
theorem dd_M_down_3 : decode prog_7_method_11_code 3 = .ok (.istore_n 2, 1) := by decide +kernel
theorem dd_M_down_4 : decode prog_7_method_11_code 4 = .ok (.iload_n 2, 1) := by decide +kernel
theorem dd_M_down_5 : decode prog_7_method_11_code 5 = .ok (.iload_n 1, 1) := by decide +kernel
theorem dd_M_down_6 : decode prog_7_method_11_code 6 = .ok (.imul, 1) := by decide +kernel
theorem dd_M_down_7 : decode prog_7_method_11_code 7 = .ok (.iload_n 0, 1) := by decide +kernel
theorem dd_M_down_8 : decode prog_7_method_11_code 8 = .ok (.if_icmp .le 9, 3) := by decide +kernel
theorem dd_M_down_11 : decode prog_7_method_11_code 11 = .ok (.iload_n 2, 1) := by decide +kernel
theorem dd_M_down_12 : decode prog_7_method_11_code 12 = .ok (.iconst 1, 1) := by decide +kernel
theorem dd_M_down_13 : decode prog_7_method_11_code 13 = .ok (.isub, 1) := by decide +kernel
theorem dd_M_down_14 : decode prog_7_method_11_code 14 = .ok (.goto 4, 3) := by decide +kernel
theorem dd_M_down_17 : decode prog_7_method_11_code 17 = .ok (.iload_n 2, 1) := by decide +kernel
theorem dd_M_down_18 : decode prog_7_method_11_code 18 = .ok (.ireturn, 1) := by decide +kernel
theorem dd_M_lay_0 : decode prog_7_method_12_code 0 = .ok (.aload_n 0, 1) := by decide +kernel
theorem dd_M_lay_1 : decode prog_7_method_12_code 1 = .ok (.getfield 13, 3) := by decide +kernel
theorem dd_M_lay_4 : decode prog_7_method_12_code 4 = .ok (.iload_n 1, 1) := by decide +kernel
theorem dd_M_lay_5 : decode prog_7_method_12_code 5 = .ok (.iaload, 1) := by decide +kernel
theorem dd_M_lay_6 : decode prog_7_method_12_code 6 = .ok (.invokestatic 74, 3) := by decide +kernel
theorem dd_M_lay_9 : decode prog_7_method_12_code 9 = .ok (.aload_n 0, 1) := by decide +kernel
theorem dd_M_lay_10 : decode prog_7_method_12_code 10 = .ok (.getfield 16, 3) := by decide +kernel
theorem dd_M_lay_13 : decode prog_7_method_12_code 13 = .ok (.iload_n 1, 1) := by decide +kernel
theorem dd_M_lay_14 : decode prog_7_method_12_code 14 = .ok (.iaload, 1) := by decide +kernel
theorem dd_M_lay_15 : decode prog_7_method_12_code 15 = .ok (.invokestatic 74, 3) := by decide +kernel
theorem dd_M_lay_18 : decode prog_7_method_12_code 18 = .ok (.if_icmp .le 15, 3) := by decide +kernel
theorem dd_M_lay_21 : decode prog_7_method_12_code 21 = .ok (.aload_n 0, 1) := by decide +kernel
theorem dd_M_lay_22 : decode prog_7_method_12_code 22 = .ok (.getfield 13, 3) := by decide +kernel
theorem dd_M_lay_25 : decode prog_7_method_12_code 25 = .ok (.iload_n 1, 1) := by decide +kernel
theorem dd_M_lay_26 : decode prog_7_method_12_code 26 = .ok (.iaload, 1) := by decide +kernel
theorem dd_M_lay_27 : decode prog_7_method_12_code 27 = .ok (.invokestatic 74, 3) := by decide +kernel
theorem dd_M_lay_30 : decode prog_7_method_12_code 30 = .ok (.goto 12, 3) := by decide +kernel
theorem dd_M_lay_33 : decode prog_7_method_12_code 33 = .ok (.aload_n 0, 1) := by decide +kernel
theorem dd_M_lay_34 : decode prog_7_method_12_code 34 = .ok (.getfield 16, 3) := by decide +kernel
theorem dd_M_lay_37 : decode prog_7_method_12_code 37 = .ok (.iload_n 1, 1) := by decide +kernel
theorem dd_M_lay_38 : decode prog_7_method_12_code 38 = .ok (.iaload, 1) := by decide +kernel
theorem dd_M_lay_39 : decode prog_7_method_12_code 39 = .ok (.invokestatic 74, 3) := by decide +kernel
theorem dd_M_lay_42 : decode prog_7_method_12_code 42 = .ok (.istore_n 2, 1) := by decide +kernel
theorem dd_M_lay_43 : decode prog_7_method_12_code 43 = .ok (.aload_n 0, 1) := by decide +kernel
theorem dd_M_lay_44 : decode prog_7_method_12_code 44 = .ok (.iconst 0, 1) := by decide +kernel
theorem dd_M_lay_45 : decode prog_7_method_12_code 45 = .ok (.invokevirtual 68, 3) := by decide +kernel
theorem dd_M_lay_48 : decode prog_7_method_12_code 48 = .ok (.istore_n 3, 1) := by decide +kernel
theorem dd_M_lay_49 : decode prog_7_method_12_code 49 = .ok (.aload_n 0, 1) := by decide +kernel
theorem dd_M_lay_50 : decode prog_7_method_12_code 50 = .ok (.iconst 1, 1) := by decide +kernel
theorem dd_M_lay_51 : decode prog_7_method_12_code 51 = .ok (.invokevirtual 68, 3) := by decide +kernel
theorem dd_M_lay_54 : decode prog_7_method_12_code 54 = .ok (.istore 4, 2) := by decide +kernel
theorem dd_M_lay_56 : decode prog_7_method_12_code 56 = .ok (.aload_n 0, 1) := by decide +kernel
theorem dd_M_lay_57 : decode prog_7_method_12_code 57 = .ok (.iconst 0, 1) := by decide +kernel
theorem dd_M_lay_58 : decode prog_7_method_12_code 58 = .ok (.putfield 77, 3) := by decide +kernel
theorem dd_M_lay_61 : decode prog_7_method_12_code 61 = .ok (.iload_n 3, 1) := by decide +kernel
theorem dd_M_lay_62 : decode prog_7_method_12_code 62 = .ok (.iconst (-1), 1) := by decide +kernel
theorem dd_M_lay_63 : decode prog_7_method_12_code 63 = .ok (.if_icmp .eq 7, 3) := by decide +kernel
theorem dd_M_lay_66 : decode prog_7_method_12_code 66 = .ok (.iconst 1, 1) := by decide +kernel
theorem dd_M_lay_67 : decode prog_7_method_12_code 67 = .ok (.goto 4, 3) := by decide +kernel
theorem dd_M_lay_70 : decode prog_7_method_12_code 70 = .ok (.iconst 0, 1) := by decide +kernel
theorem dd_M_lay_71 : decode prog_7_method_12_code 71 = .ok (.istore 5, 2) := by decide +kernel
theorem dd_M_lay_73 : decode prog_7_method_12_code 73 = .ok (.iload 5, 2) := by decide +kernel
theorem dd_M_lay_75 : decode prog_7_method_12_code 75 = .ok (.ifCond .eq 104, 3) := by decide +kernel
theorem dd_M_lay_78 : decode prog_7_method_12_code 78 = .ok (.iload_n 3, 1) := by decide +kernel
theorem dd_M_lay_79 : decode prog_7_method_12_code 79 = .ok (.iconst 2, 1) := by decide +kernel
theorem dd_M_lay_80 : decode prog_7_method_12_code 80 = .ok (.aload_n 0, 1) := by decide +kernel
theorem dd_M_lay_81 : decode prog_7_method_12_code 81 = .ok (.getfield 13, 3) := by decide +kernel
theorem dd_M_lay_84 : decode prog_7_method_12_code 84 = .ok (.iload_n 1, 1) := by decide +kernel
theorem dd_M_lay_85 : decode prog_7_method_12_code 85 = .ok (.iaload, 1) := by decide +kernel
theorem dd_M_lay_86 : decode prog_7_method_12_code 86 = .ok (.imul, 1) := by decide +kernel
theorem dd_M_lay_87 : decode prog_7_method_12_code 87 = .ok (.aload_n 0, 1) := by decide +kernel
theorem dd_M_lay_88 : decode prog_7_method_12_code 88 = .ok (.getfield 77, 3) := by decide +kernel
theorem dd_M_lay_91 : decode prog_7_method_12_code 91 = .ok (.imul, 1) := by decide +kernel
theorem dd_M_lay_92 : decode prog_7_method_12_code 92 = .ok (.iload_n 2, 1) := by decide +kernel
theorem dd_M_lay_93 : decode prog_7_method_12_code 93 = .ok (.iadd, 1) := by decide +kernel
theorem dd_M_lay_94 : decode prog_7_method_12_code 94 = .ok (.iconst 2, 1) := by decide +kernel
theorem dd_M_lay_95 : decode prog_7_method_12_code 95 = .ok (.iload_n 2, 1) := by decide +kernel
theorem dd_M_lay_96 : decode prog_7_method_12_code 96 = .ok (.imul, 1) := by decide +kernel
theorem dd_M_lay_97 : decode prog_7_method_12_code 97 = .ok (.invokestatic 80, 3) := by decide +kernel
theorem dd_M_lay_100 : decode prog_7_method_12_code 100 = .ok (.iadd, 1) := by decide +kernel
theorem dd_M_lay_101 : decode prog_7_method_12_code 101 = .ok (.istore 6, 2) := by decide +kernel
theorem dd_M_lay_103 : decode prog_7_method_12_code 103 = .ok (.iload 4, 2) := by decide +kernel
theorem dd_M_lay_105 : decode prog_7_method_12_code 105 = .ok (.iconst 2, 1) := by decide +kernel
theorem dd_M_lay_106 : decode prog_7_method_12_code 106 = .ok (.aload_n 0, 1) := by decide +kernel
theorem dd_M_lay_107 : decode prog_7_method_12_code 107 = .ok (.getfield 16, 3) := by decide +kernel
theorem dd_M_lay_110 : decode prog_7_method_12_code 110 = .ok (.iload_n 1, 1) := by decide +kernel
theorem dd_M_lay_111 : decode prog_7_method_12_code 111 = .ok (.iaload, 1) := by decide +kernel
theorem dd_M_lay_112 : decode prog_7_method_12_code 112 = .ok (.imul, 1) := by decide +kernel
theorem dd_M_lay_113 : decode prog_7_method_12_code 113 = .ok (.aload_n 0, 1) := by decide +kernel
theorem dd_M_lay_114 : decode prog_7_method_12_code 114 = .ok (.getfield 77, 3) := by decide +kernel
theorem dd_M_lay_117 : decode prog_7_method_12_code 117 = .ok (.imul, 1) := by decide +kernel
theorem dd_M_lay_118 : decode prog_7_method_12_code 118 = .ok (.iload_n 2, 1) := by decide +kernel
theorem dd_M_lay_119 : decode prog_7_method_12_code 119 = .ok (.iadd, 1) := by decide +kernel
theorem dd_M_lay_120 : decode prog_7_method_12_code 120 = .ok (.iconst 2, 1) := by decide +kernel
theorem dd_M_lay_121 : decode prog_7_method_12_code 121 = .ok (.iload_n 2, 1) := by decide +kernel
theorem dd_M_lay_122 : decode prog_7_method_12_code 122 = .ok (.imul, 1) := by decide +kernel
theorem dd_M_lay_123 : decode prog_7_method_12_code 123 = .ok (.invokestatic 80, 3) := by decide +kernel
theorem dd_M_lay_126 : decode prog_7_method_12_code 126 = .ok (.iadd, 1) := by decide +kernel
theorem dd_M_lay_127 : decode prog_7_method_12_code 127 = .ok (.istore 7, 2) := by decide +kernel
theorem dd_M_lay_129 : decode prog_7_method_12_code 129 = .ok (.aload_n 0, 1) := by decide +kernel
theorem dd_M_lay_130 : decode prog_7_method_12_code 130 = .ok (.iload 6, 2) := by decide +kernel
theorem dd_M_lay_132 : decode prog_7_method_12_code 132 = .ok (.iload 7, 2) := by decide +kernel
theorem dd_M_lay_134 : decode prog_7_method_12_code 134 = .ok (.invokevirtual 60, 3) := by decide +kernel
theorem dd_M_lay_137 : decode prog_7_method_12_code 137 = .ok (.istore 5, 2) := by decide +kernel
theorem dd_M_lay_139 : decode prog_7_method_12_code 139 = .ok (.iload 5, 2) := by decide +kernel
theorem dd_M_lay_141 : decode prog_7_method_12_code 141 = .ok (.ifCond .eq 35, 3) := by decide +kernel
theorem dd_M_lay_144 : decode prog_7_method_12_code 144 = .ok (.aload_n 0, 1) := by decide +kernel
theorem dd_M_lay_145 : decode prog_7_method_12_code 145 = .ok (.getfield 26, 3) := by decide +kernel
theorem dd_M_lay_148 : decode prog_7_method_12_code 148 = .ok (.aload_n 0, 1) := by decide +kernel
theorem dd_M_lay_149 : decode prog_7_method_12_code 149 = .ok (.getfield 77, 3) := by decide +kernel
theorem dd_M_lay_152 : decode prog_7_method_12_code 152 = .ok (.aload_n 0, 1) := by decide +kernel
theorem dd_M_lay_153 : decode prog_7_method_12_code 153 = .ok (.getfield 7, 3) := by decide +kernel
theorem dd_M_lay_156 : decode prog_7_method_12_code 156 = .ok (.bipush 16, 2) := by decide +kernel
theorem dd_M_lay_158 : decode prog_7_method_12_code 158 = .ok (.iload 7, 2) := by decide +kernel
theorem dd_M_lay_160 : decode prog_7_method_12_code 160 = .ok (.imul, 1) := by decide +kernel
theorem dd_M_lay_161 : decode prog_7_method_12_code 161 = .ok (.iload 6, 2) := by decide +kernel
theorem dd_M_lay_163 : decode prog_7_method_12_code 163 = .ok (.iadd, 1) := by decide +kernel
theorem dd_M_lay_164 : decode prog_7_method_12_code 164 = .ok (.iaload, 1) := by decide +kernel
theorem dd_M_lay_165 : decode prog_7_method_12_code 165 = .ok (.iastore, 1) := by decide +kernel
theorem dd_M_lay_166 : decode prog_7_method_12_code 166 = .ok (.aload_n 0, 1) := by decide +kernel
theorem dd_M_lay_167 : decode prog_7_method_12_code 167 = .ok (.dup, 1) := by decide +kernel
theorem dd_M_lay_168 : decode prog_7_method_12_code 168 = .ok (.getfield 77, 3) := by decide +kernel
theorem dd_M_lay_171 : decode prog_7_method_12_code 171 = .ok (.iconst 1, 1) := by decide +kernel
theorem dd_M_lay_172 : decode prog_7_method_12_code 172 = .ok (.iadd, 1) := by decide +kernel
theorem dd_M_lay_173 : decode prog_7_method_12_code 173 = .ok (.putfield 77, 3) := by decide +kernel
theorem dd_M_lay_176 : decode prog_7_method_12_code 176 = .ok (.goto (-103), 3) := by decide +kernel
theorem dd_M_lay_179 : decode prog_7_method_12_code 179 = .ok (.iconst 0, 1) := by decide +kernel
theorem dd_M_lay_180 : decode prog_7_method_12_code 180 = .ok (.istore 6, 2) := by decide +kernel
theorem dd_M_lay_182 : decode prog_7_method_12_code 182 = .ok (.iload 6, 2) := by decide +kernel
theorem dd_M_lay_184 : decode prog_7_method_12_code 184 = .ok (.aload_n 0, 1) := by decide +kernel
theorem dd_M_lay_185 : decode prog_7_method_12_code 185 = .ok (.getfield 77, 3) := by decide +kernel
theorem dd_M_lay_188 : decode prog_7_method_12_code 188 = .ok (.if_icmp .ge 93, 3) := by decide +kernel
theorem dd_M_lay_191 : decode prog_7_method_12_code 191 = .ok (.iload 6, 2) := by decide +kernel
theorem dd_M_lay_193 : decode prog_7_method_12_code 193 = .ok (.ifCond .ne 13, 3) := by decide +kernel
theorem dd_M_lay_196 : decode prog_7_method_12_code 196 = .ok (.aload_n 0, 1) := by decide +kernel
theorem dd_M_lay_197 : decode prog_7_method_12_code 197 = .ok (.getfield 26, 3) := by decide +kernel
theorem dd_M_lay_200 : decode prog_7_method_12_code 200 = .ok (.iload 6, 2) := by decide +kernel
theorem dd_M_lay_202 : decode prog_7_method_12_code 202 = .ok (.iaload, 1) := by decide +kernel
theorem dd_M_lay_203 : decode prog_7_method_12_code 203 = .ok (.goto 12, 3) := by decide +kernel
theorem dd_M_lay_206 : decode prog_7_method_12_code 206 = .ok (.aload_n 0, 1) := by decide +kernel
theorem dd_M_lay_207 : decode prog_7_method_12_code 207 = .ok (.getfield 26, 3) := by decide +kernel
theorem dd_M_lay_210 : decode prog_7_method_12_code 210 = .ok (.iload 6, 2) := by decide +kernel
theorem dd_M_lay_212 : decode prog_7_method_12_code 212 = .ok (.iconst 1, 1) := by decide +kernel
theorem dd_M_lay_213 : decode prog_7_method_12_code 213 = .ok (.isub, 1) := by decide +kernel
theorem dd_M_lay_214 : decode prog_7_method_12_code 214 = .ok (.iaload, 1) := by decide +kernel
theorem dd_M_lay_215 : decode prog_7_method_12_code 215 = .ok (.istore 7, 2) := by decide +kernel
theorem dd_M_lay_217 : decode prog_7_method_12_code 217 = .ok (.iload 6, 2) := by decide +kernel
theorem dd_M_lay_219 : decode prog_7_method_12_code 219 = .ok (.aload_n 0, 1) := by decide +kernel
theorem dd_M_lay_220 : decode prog_7_method_12_code 220 = .ok (.getfield 77, 3) := by decide +kernel
theorem dd_M_lay_223 : decode prog_7_method_12_code 223 = .ok (.iconst 1, 1) := by decide +kernel
theorem dd_M_lay_224 : decode prog_7_method_12_code 224 = .ok (.isub, 1) := by decide +kernel
theorem dd_M_lay_225 : decode prog_7_method_12_code 225 = .ok (.if_icmp .ne 13, 3) := by decide +kernel
theorem dd_M_lay_228 : decode prog_7_method_12_code 228 = .ok (.aload_n 0, 1) := by decide +kernel
theorem dd_M_lay_229 : decode prog_7_method_12_code 229 = .ok (.getfield 26, 3) := by decide +kernel
theorem dd_M_lay_232 : decode prog_7_method_12_code 232 = .ok (.iload 6, 2) := by decide +kernel
theorem dd_M_lay_234 : decode prog_7_method_12_code 234 = .ok (.iaload, 1) := by decide +kernel
theorem dd_M_lay_235 : decode prog_7_method_12_code 235 = .ok (.goto 12, 3) := by decide +kernel
theorem dd_M_lay_238 : decode prog_7_method_12_code 238 = .ok (.aload_n 0, 1) := by decide +kernel
theorem dd_M_lay_239 : decode prog_7_method_12_code 239 = .ok (.getfield 26, 3) := by decide +kernel
theorem dd_M_lay_242 : decode prog_7_method_12_code 242 = .ok (.iload 6, 2) := by decide +kernel
theorem dd_M_lay_244 : decode prog_7_method_12_code 244 = .ok (.iconst 1, 1) := by decide +kernel
theorem dd_M_lay_245 : decode prog_7_method_12_code 245 = .ok (.iadd, 1) := by decide +kernel
theorem dd_M_lay_246 : decode prog_7_method_12_code 246 = .ok (.iaload, 1) := by decide +kernel
theorem dd_M_lay_247 : decode prog_7_method_12_code 247 = .ok (.istore 8, 2) := by decide +kernel
theorem dd_M_lay_249 : decode prog_7_method_12_code 249 = .ok (.aload_n 0, 1) := by decide +kernel
theorem dd_M_lay_250 : decode prog_7_method_12_code 250 = .ok (.getfield 29, 3) := by decide +kernel
theorem dd_M_lay_253 : decode prog_7_method_12_code 253 = .ok (.iload 6, 2) := by decide +kernel
theorem dd_M_lay_255 : decode prog_7_method_12_code 255 = .ok (.iload 7, 2) := by decide +kernel
theorem dd_M_lay_257 : decode prog_7_method_12_code 257 = .ok (.iconst 2, 1) := by decide +kernel
theorem dd_M_lay_258 : decode prog_7_method_12_code 258 = .ok (.aload_n 0, 1) := by decide +kernel
theorem dd_M_lay_259 : decode prog_7_method_12_code 259 = .ok (.getfield 26, 3) := by decide +kernel
theorem dd_M_lay_262 : decode prog_7_method_12_code 262 = .ok (.iload 6, 2) := by decide +kernel
theorem dd_M_lay_264 : decode prog_7_method_12_code 264 = .ok (.iaload, 1) := by decide +kernel
theorem dd_M_lay_265 : decode prog_7_method_12_code 265 = .ok (.imul, 1) := by decide +kernel
theorem dd_M_lay_266 : decode prog_7_method_12_code 266 = .ok (.iadd, 1) := by decide +kernel
theorem dd_M_lay_267 : decode prog_7_method_12_code 267 = .ok (.iload 8, 2) := by decide +kernel
theorem dd_M_lay_269 : decode prog_7_method_12_code 269 = .ok (.iadd, 1) := by decide +kernel
theorem dd_M_lay_270 : decode prog_7_method_12_code 270 = .ok (.iconst 2, 1) := by decide +kernel
theorem dd_M_lay_271 : decode prog_7_method_12_code 271 = .ok (.iadd, 1) := by decide +kernel
theorem dd_M_lay_272 : decode prog_7_method_12_code 272 = .ok (.iconst 4, 1) := by decide +kernel
theorem dd_M_lay_273 : decode prog_7_method_12_code 273 = .ok (.idiv, 1) := by decide +kernel
theorem dd_M_lay_274 : decode prog_7_method_12_code 274 = .ok (.iastore, 1) := by decide +kernel
theorem dd_M_lay_275 : decode prog_7_method_12_code 275 = .ok (.iinc 6 1, 3) := by decide +kernel
theorem dd_M_lay_278 : decode prog_7_method_12_code 278 = .ok (.goto (-96), 3) := by decide +kernel
theorem dd_M_lay_281 : decode prog_7_method_12_code 281 = .ok (.aload_n 0, 1) := by decide +kernel
theorem dd_M_lay_282 : decode prog_7_method_12_code 282 = .ok (.iconst 0, 1) := by decide +kernel
theorem dd_M_lay_283 : decode prog_7_method_12_code 283 = .ok (.putfield 84, 3) := by decide +kernel
theorem dd_M_lay_286 : decode prog_7_method_12_code 286 = .ok (.iconst 0, 1) := by decide +kernel
theorem dd_M_lay_287 : decode prog_7_method_12_code 287 = .ok (.istore 6, 2) := by decide +kernel
theorem dd_M_lay_289 : decode prog_7_method_12_code 289 = .ok (.aload_n 0, 1) := by decide +kernel
theorem dd_M_lay_290 : decode prog_7_method_12_code 290 = .ok (.getfield 77, 3) := by decide +kernel
theorem dd_M_lay_293 : decode prog_7_method_12_code 293 = .ok (.ifCond .le 12, 3) := by decide +kernel
theorem dd_M_lay_296 : decode prog_7_method_12_code 296 = .ok (.aload_n 0, 1) := by decide +kernel
theorem dd_M_lay_297 : decode prog_7_method_12_code 297 = .ok (.getfield 29, 3) := by decide +kernel
theorem dd_M_lay_300 : decode prog_7_method_12_code 300 = .ok (.iconst 0, 1) := by decide +kernel
theorem dd_M_lay_301 : decode prog_7_method_12_code 301 = .ok (.iaload, 1) := by decide +kernel
theorem dd_M_lay_302 : decode prog_7_method_12_code 302 = .ok (.goto 4, 3) := by decide +kernel
theorem dd_M_lay_305 : decode prog_7_method_12_code 305 = .ok (.iconst 0, 1) := by decide +kernel
theorem dd_M_lay_306 : decode prog_7_method_12_code 306 = .ok (.istore 7, 2) := by decide +kernel
theorem dd_M_lay_308 : decode prog_7_method_12_code 308 = .ok (.iconst 1, 1) := by decide +kernel
theorem dd_M_lay_309 : decode prog_7_method_12_code 309 = .ok (.istore 8, 2) := by decide +kernel
theorem dd_M_lay_311 : decode prog_7_method_12_code 311 = .ok (.iload 8, 2) := by decide +kernel
theorem dd_M_lay_313 : decode prog_7_method_12_code 313 = .ok (.aload_n 0, 1) := by decide +kernel
theorem dd_M_lay_314 : decode prog_7_method_12_code 314 = .ok (.getfield 77, 3) := by decide +kernel
theorem dd_M_lay_317 : decode prog_7_method_12_code 317 = .ok (.iconst 1, 1) := by decide +kernel
theorem dd_M_lay_318 : decode prog_7_method_12_code 318 = .ok (.isub, 1) := by decide +kernel
theorem dd_M_lay_319 : decode prog_7_method_12_code 319 = .ok (.if_icmp .ge 136, 3) := by decide +kernel
theorem dd_M_lay_322 : decode prog_7_method_12_code 322 = .ok (.aload_n 0, 1) := by decide +kernel
theorem dd_M_lay_323 : decode prog_7_method_12_code 323 = .ok (.getfield 29, 3) := by decide +kernel
theorem dd_M_lay_326 : decode prog_7_method_12_code 326 = .ok (.iload 8, 2) := by decide +kernel
theorem dd_M_lay_328 : decode prog_7_method_12_code 328 = .ok (.iaload, 1) := by decide +kernel
theorem dd_M_lay_329 : decode prog_7_method_12_code 329 = .ok (.iload 7, 2) := by decide +kernel
theorem dd_M_lay_331 : decode prog_7_method_12_code 331 = .ok (.if_icmp .ge 13, 3) := by decide +kernel
theorem dd_M_lay_334 : decode prog_7_method_12_code 334 = .ok (.aload_n 0, 1) := by decide +kernel
theorem dd_M_lay_335 : decode prog_7_method_12_code 335 = .ok (.getfield 29, 3) := by decide +kernel
theorem dd_M_lay_338 : decode prog_7_method_12_code 338 = .ok (.iload 8, 2) := by decide +kernel
theorem dd_M_lay_340 : decode prog_7_method_12_code 340 = .ok (.iaload, 1) := by decide +kernel
theorem dd_M_lay_341 : decode prog_7_method_12_code 341 = .ok (.goto 5, 3) := by decide +kernel
theorem dd_M_lay_344 : decode prog_7_method_12_code 344 = .ok (.iload 7, 2) := by decide +kernel
theorem dd_M_lay_346 : decode prog_7_method_12_code 346 = .ok (.istore 7, 2) := by decide +kernel
theorem dd_M_lay_348 : decode prog_7_method_12_code 348 = .ok (.aload_n 0, 1) := by decide +kernel
theorem dd_M_lay_349 : decode prog_7_method_12_code 349 = .ok (.getfield 29, 3) := by decide +kernel
theorem dd_M_lay_352 : decode prog_7_method_12_code 352 = .ok (.iload 8, 2) := by decide +kernel
theorem dd_M_lay_354 : decode prog_7_method_12_code 354 = .ok (.iaload, 1) := by decide +kernel
theorem dd_M_lay_355 : decode prog_7_method_12_code 355 = .ok (.aload_n 0, 1) := by decide +kernel
theorem dd_M_lay_356 : decode prog_7_method_12_code 356 = .ok (.getfield 29, 3) := by decide +kernel
theorem dd_M_lay_359 : decode prog_7_method_12_code 359 = .ok (.iload 8, 2) := by decide +kernel
theorem dd_M_lay_361 : decode prog_7_method_12_code 361 = .ok (.iconst 1, 1) := by decide +kernel
theorem dd_M_lay_362 : decode prog_7_method_12_code 362 = .ok (.isub, 1) := by decide +kernel
theorem dd_M_lay_363 : decode prog_7_method_12_code 363 = .ok (.iaload, 1) := by decide +kernel
theorem dd_M_lay_364 : decode prog_7_method_12_code 364 = .ok (.if_icmp .le 85, 3) := by decide +kernel
theorem dd_M_lay_367 : decode prog_7_method_12_code 367 = .ok (.aload_n 0, 1) := by decide +kernel
theorem dd_M_lay_368 : decode prog_7_method_12_code 368 = .ok (.getfield 29, 3) := by decide +kernel
theorem dd_M_lay_371 : decode prog_7_method_12_code 371 = .ok (.iload 8, 2) := by decide +kernel
theorem dd_M_lay_373 : decode prog_7_method_12_code 373 = .ok (.iaload, 1) := by decide +kernel
theorem dd_M_lay_374 : decode prog_7_method_12_code 374 = .ok (.aload_n 0, 1) := by decide +kernel
theorem dd_M_lay_375 : decode prog_7_method_12_code 375 = .ok (.getfield 29, 3) := by decide +kernel
theorem dd_M_lay_378 : decode prog_7_method_12_code 378 = .ok (.iload 8, 2) := by decide +kernel
theorem dd_M_lay_380 : decode prog_7_method_12_code 380 = .ok (.iconst 1, 1) := by decide +kernel
theorem dd_M_lay_381 : decode prog_7_method_12_code 381 = .ok (.iadd, 1) := by decide +kernel
theorem dd_M_lay_382 : decode prog_7_method_12_code 382 = .ok (.iaload, 1) := by decide +kernel
theorem dd_M_lay_383 : decode prog_7_method_12_code 383 = .ok (.if_icmp .lt 66, 3) := by decide +kernel
theorem dd_M_lay_386 : decode prog_7_method_12_code 386 = .ok (.iload 8, 2) := by decide +kernel
theorem dd_M_lay_388 : decode prog_7_method_12_code 388 = .ok (.iload 6, 2) := by decide +kernel
theorem dd_M_lay_390 : decode prog_7_method_12_code 390 = .ok (.isub, 1) := by decide +kernel
theorem dd_M_lay_391 : decode prog_7_method_12_code 391 = .ok (.aload_n 0, 1) := by decide +kernel
theorem dd_M_lay_392 : decode prog_7_method_12_code 392 = .ok (.getfield 19, 3) := by decide +kernel
theorem dd_M_lay_395 : decode prog_7_method_12_code 395 = .ok (.if_icmp .lt 54, 3) := by decide +kernel
theorem dd_M_lay_398 : decode prog_7_method_12_code 398 = .ok (.aload_n 0, 1) := by decide +kernel
theorem dd_M_lay_399 : decode prog_7_method_12_code 399 = .ok (.getfield 29, 3) := by decide +kernel
theorem dd_M_lay_402 : decode prog_7_method_12_code 402 = .ok (.iload 8, 2) := by decide +kernel
theorem dd_M_lay_404 : decode prog_7_method_12_code 404 = .ok (.iaload, 1) := by decide +kernel
theorem dd_M_lay_405 : decode prog_7_method_12_code 405 = .ok (.iload 7, 2) := by decide +kernel
theorem dd_M_lay_407 : decode prog_7_method_12_code 407 = .ok (.aload_n 0, 1) := by decide +kernel
theorem dd_M_lay_408 : decode prog_7_method_12_code 408 = .ok (.getfield 23, 3) := by decide +kernel
theorem dd_M_lay_411 : decode prog_7_method_12_code 411 = .ok (.iadd, 1) := by decide +kernel
theorem dd_M_lay_412 : decode prog_7_method_12_code 412 = .ok (.if_icmp .lt 37, 3) := by decide +kernel
theorem dd_M_lay_415 : decode prog_7_method_12_code 415 = .ok (.aload_n 0, 1) := by decide +kernel
theorem dd_M_lay_416 : decode prog_7_method_12_code 416 = .ok (.getfield 32, 3) := by decide +kernel
theorem dd_M_lay_419 : decode prog_7_method_12_code 419 = .ok (.aload_n 0, 1) := by decide +kernel
theorem dd_M_lay_420 : decode prog_7_method_12_code 420 = .ok (.getfield 84, 3) := by decide +kernel
theorem dd_M_lay_423 : decode prog_7_method_12_code 423 = .ok (.iload 8, 2) := by decide +kernel
theorem dd_M_lay_425 : decode prog_7_method_12_code 425 = .ok (.iastore, 1) := by decide +kernel
theorem dd_M_lay_426 : decode prog_7_method_12_code 426 = .ok (.aload_n 0, 1) := by decide +kernel
theorem dd_M_lay_427 : decode prog_7_method_12_code 427 = .ok (.dup, 1) := by decide +kernel
theorem dd_M_lay_428 : decode prog_7_method_12_code 428 = .ok (.getfield 84, 3) := by decide +kernel
theorem dd_M_lay_431 : decode prog_7_method_12_code 431 = .ok (.iconst 1, 1) := by decide +kernel
theorem dd_M_lay_432 : decode prog_7_method_12_code 432 = .ok (.iadd, 1) := by decide +kernel
theorem dd_M_lay_433 : decode prog_7_method_12_code 433 = .ok (.putfield 84, 3) := by decide +kernel
theorem dd_M_lay_436 : decode prog_7_method_12_code 436 = .ok (.iload 8, 2) := by decide +kernel
theorem dd_M_lay_438 : decode prog_7_method_12_code 438 = .ok (.istore 6, 2) := by decide +kernel
theorem dd_M_lay_440 : decode prog_7_method_12_code 440 = .ok (.aload_n 0, 1) := by decide +kernel
theorem dd_M_lay_441 : decode prog_7_method_12_code 441 = .ok (.getfield 29, 3) := by decide +kernel
theorem dd_M_lay_444 : decode prog_7_method_12_code 444 = .ok (.iload 8, 2) := by decide +kernel
theorem dd_M_lay_446 : decode prog_7_method_12_code 446 = .ok (.iaload, 1) := by decide +kernel
theorem dd_M_lay_447 : decode prog_7_method_12_code 447 = .ok (.istore 7, 2) := by decide +kernel
theorem dd_M_lay_449 : decode prog_7_method_12_code 449 = .ok (.iinc 8 1, 3) := by decide +kernel
theorem dd_M_lay_452 : decode prog_7_method_12_code 452 = .ok (.goto (-141), 3) := by decide +kernel
theorem dd_M_lay_455 : decode prog_7_method_12_code 455 = .ok (.return_, 1) := by decide +kernel
theorem dd_M_samples_0 : decode prog_7_method_14_code 0 = .ok (.aload_n 0, 1) := by decide +kernel
theorem dd_M_samples_1 : decode prog_7_method_14_code 1 = .ok (.aload_n 0, 1) := by decide +kernel
theorem dd_M_samples_2 : decode prog_7_method_14_code 2 = .ok (.iload_n 1, 1) := by decide +kernel
theorem dd_M_samples_3 : decode prog_7_method_14_code 3 = .ok (.invokevirtual 87, 3) := by decide +kernel
theorem dd_M_samples_6 : decode prog_7_method_14_code 6 = .ok (.ifCond .eq 7, 3) := by decide +kernel
theorem dd_M_samples_9 : decode prog_7_method_14_code 9 = .ok (.iconst 1, 1) := by decide +kernel
theorem dd_M_samples_10 : decode prog_7_method_14_code 10 = .ok (.goto 4, 3) := by decide +kernel
theorem dd_M_samples_13 : decode prog_7_method_14_code 13 = .ok (.iconst 0, 1) := by decide +kernel
theorem dd_M_samples_14 : decode prog_7_method_14_code 14 = .ok (.putfield 53, 3) := by decide +kernel
theorem dd_M_samples_17 : decode prog_7_method_14_code 17 = .ok (.aload_n 0, 1) := by decide +kernel
theorem dd_M_samples_18 : decode prog_7_method_14_code 18 = .ok (.getfield 53, 3) := by decide +kernel
theorem dd_M_samples_21 : decode prog_7_method_14_code 21 = .ok (.ifCond .le 5, 3) := by decide +kernel
theorem dd_M_samples_24 : decode prog_7_method_14_code 24 = .ok (.iconst 0, 1) := by decide +kernel
theorem dd_M_samples_25 : decode prog_7_method_14_code 25 = .ok (.ireturn, 1) := by decide +kernel
theorem dd_M_samples_26 : decode prog_7_method_14_code 26 = .ok (.aload_n 0, 1) := by decide +kernel
theorem dd_M_samples_27 : decode prog_7_method_14_code 27 = .ok (.iload_n 1, 1) := by decide +kernel
theorem dd_M_samples_28 : decode prog_7_method_14_code 28 = .ok (.invokevirtual 91, 3) := by decide +kernel
theorem dd_M_samples_31 : decode prog_7_method_14_code 31 = .ok (.aload_n 0, 1) := by decide +kernel
theorem dd_M_samples_32 : decode prog_7_method_14_code 32 = .ok (.getfield 77, 3) := by decide +kernel
theorem dd_M_samples_35 : decode prog_7_method_14_code 35 = .ok (.ireturn, 1) := by decide +kernel
theorem dd_M_sample_0 : decode prog_7_method_15_code 0 = .ok (.aload_n 0, 1) := by decide +kernel
theorem dd_M_sample_1 : decode prog_7_method_15_code 1 = .ok (.iload_n 1, 1) := by decide +kernel
theorem dd_M_sample_2 : decode prog_7_method_15_code 2 = .ok (.invokevirtual 95, 3) := by decide +kernel
theorem dd_M_sample_5 : decode prog_7_method_15_code 5 = .ok (.istore 4, 2) := by decide +kernel
theorem dd_M_sample_7 : decode prog_7_method_15_code 7 = .ok (.aload_n 0, 1) := by decide +kernel
theorem dd_M_sample_8 : decode prog_7_method_15_code 8 = .ok (.aload_n 0, 1) := by decide +kernel
theorem dd_M_sample_9 : decode prog_7_method_15_code 9 = .ok (.getfield 53, 3) := by decide +kernel
theorem dd_M_sample_12 : decode prog_7_method_15_code 12 = .ok (.ifCond .gt 15, 3) := by decide +kernel
theorem dd_M_sample_15 : decode prog_7_method_15_code 15 = .ok (.iload_n 2, 1) := by decide +kernel
theorem dd_M_sample_16 : decode prog_7_method_15_code 16 = .ok (.iconst 0, 1) := by decide +kernel
theorem dd_M_sample_17 : decode prog_7_method_15_code 17 = .ok (.iload 4, 2) := by decide +kernel
theorem dd_M_sample_19 : decode prog_7_method_15_code 19 = .ok (.iconst 1, 1) := by decide +kernel
theorem dd_M_sample_20 : decode prog_7_method_15_code 20 = .ok (.isub, 1) := by decide +kernel
theorem dd_M_sample_21 : decode prog_7_method_15_code 21 = .ok (.invokestatic 56, 3) := by decide +kernel
theorem dd_M_sample_24 : decode prog_7_method_15_code 24 = .ok (.ifCond .ne 7, 3) := by decide +kernel
theorem dd_M_sample_27 : decode prog_7_method_15_code 27 = .ok (.iconst 1, 1) := by decide +kernel
theorem dd_M_sample_28 : decode prog_7_method_15_code 28 = .ok (.goto 4, 3) := by decide +kernel
theorem dd_M_sample_31 : decode prog_7_method_15_code 31 = .ok (.iconst 0, 1) := by decide +kernel
theorem dd_M_sample_32 : decode prog_7_method_15_code 32 = .ok (.putfield 53, 3) := by decide +kernel
theorem dd_M_sample_35 : decode prog_7_method_15_code 35 = .ok (.aload_n 0, 1) := by decide +kernel
theorem dd_M_sample_36 : decode prog_7_method_15_code 36 = .ok (.getfield 53, 3) := by decide +kernel
theorem dd_M_sample_39 : decode prog_7_method_15_code 39 = .ok (.ifCond .le 7, 3) := by decide +kernel
theorem dd_M_sample_42 : decode prog_7_method_15_code 42 = .ok (.iconst 0, 1) := by decide +kernel
theorem dd_M_sample_43 : decode prog_7_method_15_code 43 = .ok (.goto 22, 3) := by decide +kernel
theorem dd_M_sample_46 : decode prog_7_method_15_code 46 = .ok (.iload_n 3, 1) := by decide +kernel
theorem dd_M_sample_47 : decode prog_7_method_15_code 47 = .ok (.ifCond .eq 12, 3) := by decide +kernel
theorem dd_M_sample_50 : decode prog_7_method_15_code 50 = .ok (.aload_n 0, 1) := by decide +kernel
theorem dd_M_sample_51 : decode prog_7_method_15_code 51 = .ok (.getfield 29, 3) := by decide +kernel
theorem dd_M_sample_54 : decode prog_7_method_15_code 54 = .ok (.iload_n 2, 1) := by decide +kernel
theorem dd_M_sample_55 : decode prog_7_method_15_code 55 = .ok (.iaload, 1) := by decide +kernel
theorem dd_M_sample_56 : decode prog_7_method_15_code 56 = .ok (.goto 9, 3) := by decide +kernel
theorem dd_M_sample_59 : decode prog_7_method_15_code 59 = .ok (.aload_n 0, 1) := by decide +kernel
theorem dd_M_sample_60 : decode prog_7_method_15_code 60 = .ok (.getfield 26, 3) := by decide +kernel
theorem dd_M_sample_63 : decode prog_7_method_15_code 63 = .ok (.iload_n 2, 1) := by decide +kernel
theorem dd_M_sample_64 : decode prog_7_method_15_code 64 = .ok (.iaload, 1) := by decide +kernel
theorem dd_M_sample_65 : decode prog_7_method_15_code 65 = .ok (.ireturn, 1) := by decide +kernel
theorem dd_M_rule_0 : decode prog_7_method_16_code 0 = .ok (.aload_n 0, 1) := by decide +kernel
theorem dd_M_rule_1 : decode prog_7_method_16_code 1 = .ok (.iload_n 1, 1) := by decide +kernel
theorem dd_M_rule_2 : decode prog_7_method_16_code 2 = .ok (.iconst 1, 1) := by decide +kernel
theorem dd_M_rule_3 : decode prog_7_method_16_code 3 = .ok (.bipush 10, 2) := by decide +kernel
theorem dd_M_rule_5 : decode prog_7_method_16_code 5 = .ok (.invokestatic 56, 3) := by decide +kernel
theorem dd_M_rule_8 : decode prog_7_method_16_code 8 = .ok (.ifCond .eq 14, 3) := by decide +kernel
theorem dd_M_rule_11 : decode prog_7_method_16_code 11 = .ok (.iload_n 2, 1) := by decide +kernel
theorem dd_M_rule_12 : decode prog_7_method_16_code 12 = .ok (.iconst 0, 1) := by decide +kernel
theorem dd_M_rule_13 : decode prog_7_method_16_code 13 = .ok (.sipush 255, 3) := by decide +kernel
theorem dd_M_rule_16 : decode prog_7_method_16_code 16 = .ok (.invokestatic 56, 3) := by decide +kernel
theorem dd_M_rule_19 : decode prog_7_method_16_code 19 = .ok (.ifCond .ne 7, 3) := by decide +kernel
theorem dd_M_rule_22 : decode prog_7_method_16_code 22 = .ok (.iconst 1, 1) := by decide +kernel
theorem dd_M_rule_23 : decode prog_7_method_16_code 23 = .ok (.goto 4, 3) := by decide +kernel
theorem dd_M_rule_26 : decode prog_7_method_16_code 26 = .ok (.iconst 0, 1) := by decide +kernel
theorem dd_M_rule_27 : decode prog_7_method_16_code 27 = .ok (.putfield 53, 3) := by decide +kernel
theorem dd_M_rule_30 : decode prog_7_method_16_code 30 = .ok (.aload_n 0, 1) := by decide +kernel
theorem dd_M_rule_31 : decode prog_7_method_16_code 31 = .ok (.getfield 53, 3) := by decide +kernel
theorem dd_M_rule_34 : decode prog_7_method_16_code 34 = .ok (.ifCond .ne 13, 3) := by decide +kernel
theorem dd_M_rule_37 : decode prog_7_method_16_code 37 = .ok (.aload_n 0, 1) := by decide +kernel
theorem dd_M_rule_38 : decode prog_7_method_16_code 38 = .ok (.iload_n 1, 1) := by decide +kernel
theorem dd_M_rule_39 : decode prog_7_method_16_code 39 = .ok (.putfield 19, 3) := by decide +kernel
theorem dd_M_rule_42 : decode prog_7_method_16_code 42 = .ok (.aload_n 0, 1) := by decide +kernel
theorem dd_M_rule_43 : decode prog_7_method_16_code 43 = .ok (.iload_n 2, 1) := by decide +kernel
theorem dd_M_rule_44 : decode prog_7_method_16_code 44 = .ok (.putfield 23, 3) := by decide +kernel
theorem dd_M_rule_47 : decode prog_7_method_16_code 47 = .ok (.return_, 1) := by decide +kernel
theorem dd_M_rings_0 : decode prog_7_method_17_code 0 = .ok (.aload_n 0, 1) := by decide +kernel
theorem dd_M_rings_1 : decode prog_7_method_17_code 1 = .ok (.iload_n 1, 1) := by decide +kernel
theorem dd_M_rings_2 : decode prog_7_method_17_code 2 = .ok (.invokevirtual 95, 3) := by decide +kernel
theorem dd_M_rings_5 : decode prog_7_method_17_code 5 = .ok (.istore_n 2, 1) := by decide +kernel
theorem dd_M_rings_6 : decode prog_7_method_17_code 6 = .ok (.aload_n 0, 1) := by decide +kernel
theorem dd_M_rings_7 : decode prog_7_method_17_code 7 = .ok (.getfield 53, 3) := by decide +kernel
theorem dd_M_rings_10 : decode prog_7_method_17_code 10 = .ok (.ifCond .le 7, 3) := by decide +kernel
theorem dd_M_rings_13 : decode prog_7_method_17_code 13 = .ok (.iconst 0, 1) := by decide +kernel
theorem dd_M_rings_14 : decode prog_7_method_17_code 14 = .ok (.goto 7, 3) := by decide +kernel
theorem dd_M_rings_17 : decode prog_7_method_17_code 17 = .ok (.aload_n 0, 1) := by decide +kernel
theorem dd_M_rings_18 : decode prog_7_method_17_code 18 = .ok (.getfield 84, 3) := by decide +kernel
theorem dd_M_rings_21 : decode prog_7_method_17_code 21 = .ok (.ireturn, 1) := by decide +kernel
theorem dd_M_widthOf_0 : decode prog_7_method_18_code 0 = .ok (.iload_n 1, 1) := by decide +kernel
theorem dd_M_widthOf_1 : decode prog_7_method_18_code 1 = .ok (.ifCond .ne 12, 3) := by decide +kernel
theorem dd_M_widthOf_4 : decode prog_7_method_18_code 4 = .ok (.aload_n 0, 1) := by decide +kernel
theorem dd_M_widthOf_5 : decode prog_7_method_18_code 5 = .ok (.getfield 32, 3) := by decide +kernel
theorem dd_M_widthOf_8 : decode prog_7_method_18_code 8 = .ok (.iconst 0, 1) := by decide +kernel
theorem dd_M_widthOf_9 : decode prog_7_method_18_code 9 = .ok (.iaload, 1) := by decide +kernel
theorem dd_M_widthOf_10 : decode prog_7_method_18_code 10 = .ok (.goto 18, 3) := by decide +kernel
theorem dd_M_widthOf_13 : decode prog_7_method_18_code 13 = .ok (.aload_n 0, 1) := by decide +kernel
theorem dd_M_widthOf_14 : decode prog_7_method_18_code 14 = .ok (.getfield 32, 3) := by decide +kernel
theorem dd_M_widthOf_17 : decode prog_7_method_18_code 17 = .ok (.iload_n 1, 1) := by decide +kernel
theorem dd_M_widthOf_18 : decode prog_7_method_18_code 18 = .ok (.iaload, 1) := by decide +kernel
theorem dd_M_widthOf_19 : decode prog_7_method_18_code 19 = .ok (.aload_n 0, 1) := by decide +kernel
theorem dd_M_widthOf_20 : decode prog_7_method_18_code 20 = .ok (.getfield 32, 3) := by decide +kernel
theorem dd_M_widthOf_23 : decode prog_7_method_18_code 23 = .ok (.iload_n 1, 1) := by decide +kernel
theorem dd_M_widthOf_24 : decode prog_7_method_18_code 24 = .ok (.iconst 1, 1) := by decide +kernel
theorem dd_M_widthOf_25 : decode prog_7_method_18_code 25 = .ok (.isub, 1) := by decide +kernel
theorem dd_M_widthOf_26 : decode prog_7_method_18_code 26 = .ok (.iaload, 1) := by decide +kernel
theorem dd_M_widthOf_27 : decode prog_7_method_18_code 27 = .ok (.isub, 1) := by decide +kernel
theorem dd_M_widthOf_28 : decode prog_7_method_18_code 28 = .ok (.ireturn, 1) := by decide +kernel
theorem dd_M_ring_0 : decode prog_7_method_19_code 0 = .ok (.aload_n 0, 1) := by decide +kernel
theorem dd_M_ring_1 : decode prog_7_method_19_code 1 = .ok (.iload_n 1, 1) := by decide +kernel
theorem dd_M_ring_2 : decode prog_7_method_19_code 2 = .ok (.invokevirtual 98, 3) := by decide +kernel
theorem dd_M_ring_5 : decode prog_7_method_19_code 5 = .ok (.istore 4, 2) := by decide +kernel
theorem dd_M_ring_7 : decode prog_7_method_19_code 7 = .ok (.aload_n 0, 1) := by decide +kernel
theorem dd_M_ring_8 : decode prog_7_method_19_code 8 = .ok (.aload_n 0, 1) := by decide +kernel
theorem dd_M_ring_9 : decode prog_7_method_19_code 9 = .ok (.getfield 53, 3) := by decide +kernel
theorem dd_M_ring_12 : decode prog_7_method_19_code 12 = .ok (.ifCond .gt 24, 3) := by decide +kernel
theorem dd_M_ring_15 : decode prog_7_method_19_code 15 = .ok (.iload_n 2, 1) := by decide +kernel
theorem dd_M_ring_16 : decode prog_7_method_19_code 16 = .ok (.iconst 0, 1) := by decide +kernel
theorem dd_M_ring_17 : decode prog_7_method_19_code 17 = .ok (.iload 4, 2) := by decide +kernel
theorem dd_M_ring_19 : decode prog_7_method_19_code 19 = .ok (.iconst 1, 1) := by decide +kernel
theorem dd_M_ring_20 : decode prog_7_method_19_code 20 = .ok (.isub, 1) := by decide +kernel
theorem dd_M_ring_21 : decode prog_7_method_19_code 21 = .ok (.invokestatic 56, 3) := by decide +kernel
theorem dd_M_ring_24 : decode prog_7_method_19_code 24 = .ok (.ifCond .eq 12, 3) := by decide +kernel
theorem dd_M_ring_27 : decode prog_7_method_19_code 27 = .ok (.iload_n 3, 1) := by decide +kernel
theorem dd_M_ring_28 : decode prog_7_method_19_code 28 = .ok (.iconst 0, 1) := by decide +kernel
theorem dd_M_ring_29 : decode prog_7_method_19_code 29 = .ok (.iconst 3, 1) := by decide +kernel
theorem dd_M_ring_30 : decode prog_7_method_19_code 30 = .ok (.invokestatic 56, 3) := by decide +kernel
theorem dd_M_ring_33 : decode prog_7_method_19_code 33 = .ok (.ifCond .ne 7, 3) := by decide +kernel
theorem dd_M_ring_36 : decode prog_7_method_19_code 36 = .ok (.iconst 1, 1) := by decide +kernel
theorem dd_M_ring_37 : decode prog_7_method_19_code 37 = .ok (.goto 4, 3) := by decide +kernel
theorem dd_M_ring_40 : decode prog_7_method_19_code 40 = .ok (.iconst 0, 1) := by decide +kernel
theorem dd_M_ring_41 : decode prog_7_method_19_code 41 = .ok (.putfield 53, 3) := by decide +kernel
theorem dd_M_ring_44 : decode prog_7_method_19_code 44 = .ok (.aload_n 0, 1) := by decide +kernel
theorem dd_M_ring_45 : decode prog_7_method_19_code 45 = .ok (.getfield 53, 3) := by decide +kernel
theorem dd_M_ring_48 : decode prog_7_method_19_code 48 = .ok (.ifCond .le 5, 3) := by decide +kernel
theorem dd_M_ring_51 : decode prog_7_method_19_code 51 = .ok (.iconst 0, 1) := by decide +kernel
theorem dd_M_ring_52 : decode prog_7_method_19_code 52 = .ok (.ireturn, 1) := by decide +kernel
theorem dd_M_ring_53 : decode prog_7_method_19_code 53 = .ok (.iload_n 3, 1) := by decide +kernel
theorem dd_M_ring_54 : decode prog_7_method_19_code 54 = .ok (.tableswitch 51 0 2 #[26, 33, 45], 26) := by decide +kernel
theorem dd_M_ring_80 : decode prog_7_method_19_code 80 = .ok (.aload_n 0, 1) := by decide +kernel
theorem dd_M_ring_81 : decode prog_7_method_19_code 81 = .ok (.getfield 32, 3) := by decide +kernel
theorem dd_M_ring_84 : decode prog_7_method_19_code 84 = .ok (.iload_n 2, 1) := by decide +kernel
theorem dd_M_ring_85 : decode prog_7_method_19_code 85 = .ok (.iaload, 1) := by decide +kernel
theorem dd_M_ring_86 : decode prog_7_method_19_code 86 = .ok (.ireturn, 1) := by decide +kernel
theorem dd_M_ring_87 : decode prog_7_method_19_code 87 = .ok (.aload_n 0, 1) := by decide +kernel
theorem dd_M_ring_88 : decode prog_7_method_19_code 88 = .ok (.getfield 29, 3) := by decide +kernel
theorem dd_M_ring_91 : decode prog_7_method_19_code 91 = .ok (.aload_n 0, 1) := by decide +kernel
theorem dd_M_ring_92 : decode prog_7_method_19_code 92 = .ok (.getfield 32, 3) := by decide +kernel
theorem dd_M_ring_95 : decode prog_7_method_19_code 95 = .ok (.iload_n 2, 1) := by decide +kernel
theorem dd_M_ring_96 : decode prog_7_method_19_code 96 = .ok (.iaload, 1) := by decide +kernel
theorem dd_M_ring_97 : decode prog_7_method_19_code 97 = .ok (.iaload, 1) := by decide +kernel
theorem dd_M_ring_98 : decode prog_7_method_19_code 98 = .ok (.ireturn, 1) := by decide +kernel
theorem dd_M_ring_99 : decode prog_7_method_19_code 99 = .ok (.aload_n 0, 1) := by decide +kernel
theorem dd_M_ring_100 : decode prog_7_method_19_code 100 = .ok (.iload_n 2, 1) := by decide +kernel
theorem dd_M_ring_101 : decode prog_7_method_19_code 101 = .ok (.invokevirtual 100, 3) := by decide +kernel
theorem dd_M_ring_104 : decode prog_7_method_19_code 104 = .ok (.ireturn, 1) := by decide +kernel
theorem dd_M_ring_105 : decode prog_7_method_19_code 105 = .ok (.iload_n 2, 1) := by decide +kernel
theorem dd_M_ring_106 : decode prog_7_method_19_code 106 = .ok (.ifCond .le 15, 3) := by decide +kernel
theorem dd_M_ring_109 : decode prog_7_method_19_code 109 = .ok (.iload_n 2, 1) := by decide +kernel
theorem dd_M_ring_110 : decode prog_7_method_19_code 110 = .ok (.iload 4, 2) := by decide +kernel
theorem dd_M_ring_112 : decode prog_7_method_19_code 112 = .ok (.iconst 1, 1) := by decide +kernel
theorem dd_M_ring_113 : decode prog_7_method_19_code 113 = .ok (.isub, 1) := by decide +kernel
theorem dd_M_ring_114 : decode prog_7_method_19_code 114 = .ok (.if_icmp .ge 7, 3) := by decide +kernel
theorem dd_M_ring_117 : decode prog_7_method_19_code 117 = .ok (.iconst 1, 1) := by decide +kernel
theorem dd_M_ring_118 : decode prog_7_method_19_code 118 = .ok (.goto 4, 3) := by decide +kernel
theorem dd_M_ring_121 : decode prog_7_method_19_code 121 = .ok (.iconst 0, 1) := by decide +kernel
theorem dd_M_ring_122 : decode prog_7_method_19_code 122 = .ok (.istore 5, 2) := by decide +kernel
theorem dd_M_ring_124 : decode prog_7_method_19_code 124 = .ok (.iload 5, 2) := by decide +kernel
theorem dd_M_ring_126 : decode prog_7_method_19_code 126 = .ok (.ifCond .eq 41, 3) := by decide +kernel
theorem dd_M_ring_129 : decode prog_7_method_19_code 129 = .ok (.iconst 2, 1) := by decide +kernel
theorem dd_M_ring_130 : decode prog_7_method_19_code 130 = .ok (.aload_n 0, 1) := by decide +kernel
theorem dd_M_ring_131 : decode prog_7_method_19_code 131 = .ok (.iload_n 2, 1) := by decide +kernel
theorem dd_M_ring_132 : decode prog_7_method_19_code 132 = .ok (.invokevirtual 100, 3) := by decide +kernel
theorem dd_M_ring_135 : decode prog_7_method_19_code 135 = .ok (.imul, 1) := by decide +kernel
theorem dd_M_ring_136 : decode prog_7_method_19_code 136 = .ok (.aload_n 0, 1) := by decide +kernel
theorem dd_M_ring_137 : decode prog_7_method_19_code 137 = .ok (.iload_n 2, 1) := by decide +kernel
theorem dd_M_ring_138 : decode prog_7_method_19_code 138 = .ok (.iconst 1, 1) := by decide +kernel
theorem dd_M_ring_139 : decode prog_7_method_19_code 139 = .ok (.isub, 1) := by decide +kernel
theorem dd_M_ring_140 : decode prog_7_method_19_code 140 = .ok (.invokevirtual 100, 3) := by decide +kernel
theorem dd_M_ring_143 : decode prog_7_method_19_code 143 = .ok (.if_icmp .ge 24, 3) := by decide +kernel
theorem dd_M_ring_146 : decode prog_7_method_19_code 146 = .ok (.iconst 2, 1) := by decide +kernel
theorem dd_M_ring_147 : decode prog_7_method_19_code 147 = .ok (.aload_n 0, 1) := by decide +kernel
theorem dd_M_ring_148 : decode prog_7_method_19_code 148 = .ok (.iload_n 2, 1) := by decide +kernel
theorem dd_M_ring_149 : decode prog_7_method_19_code 149 = .ok (.invokevirtual 100, 3) := by decide +kernel
theorem dd_M_ring_152 : decode prog_7_method_19_code 152 = .ok (.imul, 1) := by decide +kernel
theorem dd_M_ring_153 : decode prog_7_method_19_code 153 = .ok (.aload_n 0, 1) := by decide +kernel
theorem dd_M_ring_154 : decode prog_7_method_19_code 154 = .ok (.iload_n 2, 1) := by decide +kernel
theorem dd_M_ring_155 : decode prog_7_method_19_code 155 = .ok (.iconst 1, 1) := by decide +kernel
theorem dd_M_ring_156 : decode prog_7_method_19_code 156 = .ok (.iadd, 1) := by decide +kernel
theorem dd_M_ring_157 : decode prog_7_method_19_code 157 = .ok (.invokevirtual 100, 3) := by decide +kernel
theorem dd_M_ring_160 : decode prog_7_method_19_code 160 = .ok (.if_icmp .ge 7, 3) := by decide +kernel
theorem dd_M_ring_163 : decode prog_7_method_19_code 163 = .ok (.iconst 1, 1) := by decide +kernel
theorem dd_M_ring_164 : decode prog_7_method_19_code 164 = .ok (.goto 4, 3) := by decide +kernel
theorem dd_M_ring_167 : decode prog_7_method_19_code 167 = .ok (.iconst 0, 1) := by decide +kernel
theorem dd_M_ring_168 : decode prog_7_method_19_code 168 = .ok (.ireturn, 1) := by decide +kernel
theorem dd_M_together_0 : decode prog_7_method_20_code 0 = .ok (.aload_n 0, 1) := by decide +kernel
theorem dd_M_together_1 : decode prog_7_method_20_code 1 = .ok (.getfield 32, 3) := by decide +kernel
theorem dd_M_together_4 : decode prog_7_method_20_code 4 = .ok (.iload_n 1, 1) := by decide +kernel
theorem dd_M_together_5 : decode prog_7_method_20_code 5 = .ok (.iaload, 1) := by decide +kernel
theorem dd_M_together_6 : decode prog_7_method_20_code 6 = .ok (.aload_n 0, 1) := by decide +kernel
theorem dd_M_together_7 : decode prog_7_method_20_code 7 = .ok (.getfield 35, 3) := by decide +kernel
theorem dd_M_together_10 : decode prog_7_method_20_code 10 = .ok (.iload_n 2, 1) := by decide +kernel
theorem dd_M_together_11 : decode prog_7_method_20_code 11 = .ok (.iaload, 1) := by decide +kernel
theorem dd_M_together_12 : decode prog_7_method_20_code 12 = .ok (.isub, 1) := by decide +kernel
theorem dd_M_together_13 : decode prog_7_method_20_code 13 = .ok (.invokestatic 74, 3) := by decide +kernel
theorem dd_M_together_16 : decode prog_7_method_20_code 16 = .ok (.aload_n 0, 1) := by decide +kernel
theorem dd_M_together_17 : decode prog_7_method_20_code 17 = .ok (.getfield 38, 3) := by decide +kernel
theorem dd_M_together_20 : decode prog_7_method_20_code 20 = .ok (.bipush 17, 2) := by decide +kernel
theorem dd_M_together_22 : decode prog_7_method_20_code 22 = .ok (.iload_n 1, 1) := by decide +kernel
theorem dd_M_together_23 : decode prog_7_method_20_code 23 = .ok (.iconst 1, 1) := by decide +kernel
theorem dd_M_together_24 : decode prog_7_method_20_code 24 = .ok (.iadd, 1) := by decide +kernel
theorem dd_M_together_25 : decode prog_7_method_20_code 25 = .ok (.imul, 1) := by decide +kernel
theorem dd_M_together_26 : decode prog_7_method_20_code 26 = .ok (.iload_n 2, 1) := by decide +kernel
theorem dd_M_together_27 : decode prog_7_method_20_code 27 = .ok (.iadd, 1) := by decide +kernel
theorem dd_M_together_28 : decode prog_7_method_20_code 28 = .ok (.iconst 1, 1) := by decide +kernel
theorem dd_M_together_29 : decode prog_7_method_20_code 29 = .ok (.iadd, 1) := by decide +kernel
theorem dd_M_together_30 : decode prog_7_method_20_code 30 = .ok (.iaload, 1) := by decide +kernel
theorem dd_M_together_31 : decode prog_7_method_20_code 31 = .ok (.iadd, 1) := by decide +kernel
theorem dd_M_together_32 : decode prog_7_method_20_code 32 = .ok (.ireturn, 1) := by decide +kernel
theorem dd_M_join_0 : decode prog_7_method_21_code 0 = .ok (.aload_n 0, 1) := by decide +kernel
theorem dd_M_join_1 : decode prog_7_method_21_code 1 = .ok (.aload_n 0, 1) := by decide +kernel
theorem dd_M_join_2 : decode prog_7_method_21_code 2 = .ok (.iload_n 1, 1) := by decide +kernel
theorem dd_M_join_3 : decode prog_7_method_21_code 3 = .ok (.invokevirtual 87, 3) := by decide +kernel
theorem dd_M_join_6 : decode prog_7_method_21_code 6 = .ok (.ifCond .ne 11, 3) := by decide +kernel
theorem dd_M_join_9 : decode prog_7_method_21_code 9 = .ok (.aload_n 0, 1) := by decide +kernel
theorem dd_M_join_10 : decode prog_7_method_21_code 10 = .ok (.iload_n 2, 1) := by decide +kernel
theorem dd_M_join_11 : decode prog_7_method_21_code 11 = .ok (.invokevirtual 87, 3) := by decide +kernel
theorem dd_M_join_14 : decode prog_7_method_21_code 14 = .ok (.ifCond .eq 7, 3) := by decide +kernel
theorem dd_M_join_17 : decode prog_7_method_21_code 17 = .ok (.iconst 1, 1) := by decide +kernel
theorem dd_M_join_18 : decode prog_7_method_21_code 18 = .ok (.goto 18, 3) := by decide +kernel
theorem dd_M_join_21 : decode prog_7_method_21_code 21 = .ok (.iload_n 3, 1) := by decide +kernel
theorem dd_M_join_22 : decode prog_7_method_21_code 22 = .ok (.iconst 0, 1) := by decide +kernel
theorem dd_M_join_23 : decode prog_7_method_21_code 23 = .ok (.bipush 50, 2) := by decide +kernel
theorem dd_M_join_25 : decode prog_7_method_21_code 25 = .ok (.invokestatic 56, 3) := by decide +kernel
theorem dd_M_join_28 : decode prog_7_method_21_code 28 = .ok (.ifCond .ne 7, 3) := by decide +kernel
theorem dd_M_join_31 : decode prog_7_method_21_code 31 = .ok (.iconst 2, 1) := by decide +kernel
theorem dd_M_join_32 : decode prog_7_method_21_code 32 = .ok (.goto 4, 3) := by decide +kernel
theorem dd_M_join_35 : decode prog_7_method_21_code 35 = .ok (.iconst 0, 1) := by decide +kernel
theorem dd_M_join_36 : decode prog_7_method_21_code 36 = .ok (.putfield 53, 3) := by decide +kernel
theorem dd_M_join_39 : decode prog_7_method_21_code 39 = .ok (.aload_n 0, 1) := by decide +kernel
theorem dd_M_join_40 : decode prog_7_method_21_code 40 = .ok (.getfield 53, 3) := by decide +kernel
theorem dd_M_join_43 : decode prog_7_method_21_code 43 = .ok (.ifCond .le 5, 3) := by decide +kernel
theorem dd_M_join_46 : decode prog_7_method_21_code 46 = .ok (.iconst 0, 1) := by decide +kernel
theorem dd_M_join_47 : decode prog_7_method_21_code 47 = .ok (.ireturn, 1) := by decide +kernel
theorem dd_M_join_48 : decode prog_7_method_21_code 48 = .ok (.aload_n 0, 1) := by decide +kernel
theorem dd_M_join_49 : decode prog_7_method_21_code 49 = .ok (.iload_n 2, 1) := by decide +kernel
theorem dd_M_join_50 : decode prog_7_method_21_code 50 = .ok (.invokevirtual 91, 3) := by decide +kernel
theorem dd_M_join_53 : decode prog_7_method_21_code 53 = .ok (.aload_n 0, 1) := by decide +kernel
theorem dd_M_join_54 : decode prog_7_method_21_code 54 = .ok (.aload_n 0, 1) := by decide +kernel
theorem dd_M_join_55 : decode prog_7_method_21_code 55 = .ok (.getfield 84, 3) := by decide +kernel
theorem dd_M_join_58 : decode prog_7_method_21_code 58 = .ok (.putfield 103, 3) := by decide +kernel
theorem dd_M_join_61 : decode prog_7_method_21_code 61 = .ok (.iconst 0, 1) := by decide +kernel
theorem dd_M_join_62 : decode prog_7_method_21_code 62 = .ok (.istore 4, 2) := by decide +kernel
theorem dd_M_join_64 : decode prog_7_method_21_code 64 = .ok (.iload 4, 2) := by decide +kernel
theorem dd_M_join_66 : decode prog_7_method_21_code 66 = .ok (.aload_n 0, 1) := by decide +kernel
theorem dd_M_join_67 : decode prog_7_method_21_code 67 = .ok (.getfield 103, 3) := by decide +kernel
theorem dd_M_join_70 : decode prog_7_method_21_code 70 = .ok (.if_icmp .ge 23, 3) := by decide +kernel
theorem dd_M_join_73 : decode prog_7_method_21_code 73 = .ok (.aload_n 0, 1) := by decide +kernel
theorem dd_M_join_74 : decode prog_7_method_21_code 74 = .ok (.getfield 35, 3) := by decide +kernel
theorem dd_M_join_77 : decode prog_7_method_21_code 77 = .ok (.iload 4, 2) := by decide +kernel
theorem dd_M_join_79 : decode prog_7_method_21_code 79 = .ok (.aload_n 0, 1) := by decide +kernel
theorem dd_M_join_80 : decode prog_7_method_21_code 80 = .ok (.getfield 32, 3) := by decide +kernel
theorem dd_M_join_83 : decode prog_7_method_21_code 83 = .ok (.iload 4, 2) := by decide +kernel
theorem dd_M_join_85 : decode prog_7_method_21_code 85 = .ok (.iaload, 1) := by decide +kernel
theorem dd_M_join_86 : decode prog_7_method_21_code 86 = .ok (.iastore, 1) := by decide +kernel
theorem dd_M_join_87 : decode prog_7_method_21_code 87 = .ok (.iinc 4 1, 3) := by decide +kernel
theorem dd_M_join_90 : decode prog_7_method_21_code 90 = .ok (.goto (-26), 3) := by decide +kernel
theorem dd_M_join_93 : decode prog_7_method_21_code 93 = .ok (.aload_n 0, 1) := by decide +kernel
theorem dd_M_join_94 : decode prog_7_method_21_code 94 = .ok (.iload_n 1, 1) := by decide +kernel
theorem dd_M_join_95 : decode prog_7_method_21_code 95 = .ok (.invokevirtual 91, 3) := by decide +kernel
theorem dd_M_join_98 : decode prog_7_method_21_code 98 = .ok (.aload_n 0, 1) := by decide +kernel
theorem dd_M_join_99 : decode prog_7_method_21_code 99 = .ok (.getfield 84, 3) := by decide +kernel
theorem dd_M_join_102 : decode prog_7_method_21_code 102 = .ok (.istore 4, 2) := by decide +kernel
theorem dd_M_join_104 : decode prog_7_method_21_code 104 = .ok (.iload 4, 2) := by decide +kernel
theorem dd_M_join_106 : decode prog_7_method_21_code 106 = .ok (.ifCond .lt 223, 3) := by decide +kernel
theorem dd_M_join_109 : decode prog_7_method_21_code 109 = .ok (.aload_n 0, 1) := by decide +kernel
theorem dd_M_join_110 : decode prog_7_method_21_code 110 = .ok (.getfield 103, 3) := by decide +kernel
theorem dd_M_join_113 : decode prog_7_method_21_code 113 = .ok (.istore 5, 2) := by decide +kernel
theorem dd_M_join_115 : decode prog_7_method_21_code 115 = .ok (.iload 5, 2) := by decide +kernel
theorem dd_M_join_117 : decode prog_7_method_21_code 117 = .ok (.ifCond .lt 206, 3) := by decide +kernel
theorem dd_M_join_120 : decode prog_7_method_21_code 120 = .ok (.iload 4, 2) := by decide +kernel
theorem dd_M_join_122 : decode prog_7_method_21_code 122 = .ok (.aload_n 0, 1) := by decide +kernel
theorem dd_M_join_123 : decode prog_7_method_21_code 123 = .ok (.getfield 84, 3) := by decide +kernel
theorem dd_M_join_126 : decode prog_7_method_21_code 126 = .ok (.if_icmp .ne 16, 3) := by decide +kernel
theorem dd_M_join_129 : decode prog_7_method_21_code 129 = .ok (.iload 5, 2) := by decide +kernel
theorem dd_M_join_131 : decode prog_7_method_21_code 131 = .ok (.aload_n 0, 1) := by decide +kernel
theorem dd_M_join_132 : decode prog_7_method_21_code 132 = .ok (.getfield 103, 3) := by decide +kernel
theorem dd_M_join_135 : decode prog_7_method_21_code 135 = .ok (.if_icmp .ne 7, 3) := by decide +kernel
theorem dd_M_join_138 : decode prog_7_method_21_code 138 = .ok (.iconst 0, 1) := by decide +kernel
theorem dd_M_join_139 : decode prog_7_method_21_code 139 = .ok (.goto 5, 3) := by decide +kernel
theorem dd_M_join_142 : decode prog_7_method_21_code 142 = .ok (.ldc 106, 2) := by decide +kernel
theorem dd_M_join_144 : decode prog_7_method_21_code 144 = .ok (.istore 6, 2) := by decide +kernel
theorem dd_M_join_146 : decode prog_7_method_21_code 146 = .ok (.iload 4, 2) := by decide +kernel
theorem dd_M_join_148 : decode prog_7_method_21_code 148 = .ok (.aload_n 0, 1) := by decide +kernel
theorem dd_M_join_149 : decode prog_7_method_21_code 149 = .ok (.getfield 84, 3) := by decide +kernel
theorem dd_M_join_152 : decode prog_7_method_21_code 152 = .ok (.if_icmp .ge 36, 3) := by decide +kernel
theorem dd_M_join_155 : decode prog_7_method_21_code 155 = .ok (.iload 5, 2) := by decide +kernel
theorem dd_M_join_157 : decode prog_7_method_21_code 157 = .ok (.aload_n 0, 1) := by decide +kernel
theorem dd_M_join_158 : decode prog_7_method_21_code 158 = .ok (.getfield 103, 3) := by decide +kernel
theorem dd_M_join_161 : decode prog_7_method_21_code 161 = .ok (.if_icmp .ge 27, 3) := by decide +kernel
theorem dd_M_join_164 : decode prog_7_method_21_code 164 = .ok (.aload_n 0, 1) := by decide +kernel
theorem dd_M_join_165 : decode prog_7_method_21_code 165 = .ok (.iload 4, 2) := by decide +kernel
theorem dd_M_join_167 : decode prog_7_method_21_code 167 = .ok (.iload 5, 2) := by decide +kernel
theorem dd_M_join_169 : decode prog_7_method_21_code 169 = .ok (.invokevirtual 107, 3) := by decide +kernel
theorem dd_M_join_172 : decode prog_7_method_21_code 172 = .ok (.iload 6, 2) := by decide +kernel
theorem dd_M_join_174 : decode prog_7_method_21_code 174 = .ok (.if_icmp .ge 14, 3) := by decide +kernel
theorem dd_M_join_177 : decode prog_7_method_21_code 177 = .ok (.aload_n 0, 1) := by decide +kernel
theorem dd_M_join_178 : decode prog_7_method_21_code 178 = .ok (.iload 4, 2) := by decide +kernel
theorem dd_M_join_180 : decode prog_7_method_21_code 180 = .ok (.iload 5, 2) := by decide +kernel
theorem dd_M_join_182 : decode prog_7_method_21_code 182 = .ok (.invokevirtual 107, 3) := by decide +kernel
theorem dd_M_join_185 : decode prog_7_method_21_code 185 = .ok (.goto 5, 3) := by decide +kernel
theorem dd_M_join_188 : decode prog_7_method_21_code 188 = .ok (.iload 6, 2) := by decide +kernel
theorem dd_M_join_190 : decode prog_7_method_21_code 190 = .ok (.istore 6, 2) := by decide +kernel
theorem dd_M_join_192 : decode prog_7_method_21_code 192 = .ok (.iload 4, 2) := by decide +kernel
theorem dd_M_join_194 : decode prog_7_method_21_code 194 = .ok (.aload_n 0, 1) := by decide +kernel
theorem dd_M_join_195 : decode prog_7_method_21_code 195 = .ok (.getfield 84, 3) := by decide +kernel
theorem dd_M_join_198 : decode prog_7_method_21_code 198 = .ok (.if_icmp .ge 45, 3) := by decide +kernel
theorem dd_M_join_201 : decode prog_7_method_21_code 201 = .ok (.iload_n 3, 1) := by decide +kernel
theorem dd_M_join_202 : decode prog_7_method_21_code 202 = .ok (.aload_n 0, 1) := by decide +kernel
theorem dd_M_join_203 : decode prog_7_method_21_code 203 = .ok (.getfield 38, 3) := by decide +kernel
theorem dd_M_join_206 : decode prog_7_method_21_code 206 = .ok (.bipush 17, 2) := by decide +kernel
theorem dd_M_join_208 : decode prog_7_method_21_code 208 = .ok (.iload 4, 2) := by decide +kernel
theorem dd_M_join_210 : decode prog_7_method_21_code 210 = .ok (.iconst 1, 1) := by decide +kernel
theorem dd_M_join_211 : decode prog_7_method_21_code 211 = .ok (.iadd, 1) := by decide +kernel
theorem dd_M_join_212 : decode prog_7_method_21_code 212 = .ok (.imul, 1) := by decide +kernel
theorem dd_M_join_213 : decode prog_7_method_21_code 213 = .ok (.iload 5, 2) := by decide +kernel
theorem dd_M_join_215 : decode prog_7_method_21_code 215 = .ok (.iadd, 1) := by decide +kernel
theorem dd_M_join_216 : decode prog_7_method_21_code 216 = .ok (.iaload, 1) := by decide +kernel
theorem dd_M_join_217 : decode prog_7_method_21_code 217 = .ok (.iadd, 1) := by decide +kernel
theorem dd_M_join_218 : decode prog_7_method_21_code 218 = .ok (.iload 6, 2) := by decide +kernel
theorem dd_M_join_220 : decode prog_7_method_21_code 220 = .ok (.if_icmp .ge 23, 3) := by decide +kernel
theorem dd_M_join_223 : decode prog_7_method_21_code 223 = .ok (.iload_n 3, 1) := by decide +kernel
theorem dd_M_join_224 : decode prog_7_method_21_code 224 = .ok (.aload_n 0, 1) := by decide +kernel
theorem dd_M_join_225 : decode prog_7_method_21_code 225 = .ok (.getfield 38, 3) := by decide +kernel
theorem dd_M_join_228 : decode prog_7_method_21_code 228 = .ok (.bipush 17, 2) := by decide +kernel
theorem dd_M_join_230 : decode prog_7_method_21_code 230 = .ok (.iload 4, 2) := by decide +kernel
theorem dd_M_join_232 : decode prog_7_method_21_code 232 = .ok (.iconst 1, 1) := by decide +kernel
theorem dd_M_join_233 : decode prog_7_method_21_code 233 = .ok (.iadd, 1) := by decide +kernel
theorem dd_M_join_234 : decode prog_7_method_21_code 234 = .ok (.imul, 1) := by decide +kernel
theorem dd_M_join_235 : decode prog_7_method_21_code 235 = .ok (.iload 5, 2) := by decide +kernel
theorem dd_M_join_237 : decode prog_7_method_21_code 237 = .ok (.iadd, 1) := by decide +kernel
theorem dd_M_join_238 : decode prog_7_method_21_code 238 = .ok (.iaload, 1) := by decide +kernel
theorem dd_M_join_239 : decode prog_7_method_21_code 239 = .ok (.iadd, 1) := by decide +kernel
theorem dd_M_join_240 : decode prog_7_method_21_code 240 = .ok (.goto 5, 3) := by decide +kernel
theorem dd_M_join_243 : decode prog_7_method_21_code 243 = .ok (.iload 6, 2) := by decide +kernel
theorem dd_M_join_245 : decode prog_7_method_21_code 245 = .ok (.istore 6, 2) := by decide +kernel
theorem dd_M_join_247 : decode prog_7_method_21_code 247 = .ok (.iload 5, 2) := by decide +kernel
theorem dd_M_join_249 : decode prog_7_method_21_code 249 = .ok (.aload_n 0, 1) := by decide +kernel
theorem dd_M_join_250 : decode prog_7_method_21_code 250 = .ok (.getfield 103, 3) := by decide +kernel
theorem dd_M_join_253 : decode prog_7_method_21_code 253 = .ok (.if_icmp .ge 45, 3) := by decide +kernel
theorem dd_M_join_256 : decode prog_7_method_21_code 256 = .ok (.iload_n 3, 1) := by decide +kernel
theorem dd_M_join_257 : decode prog_7_method_21_code 257 = .ok (.aload_n 0, 1) := by decide +kernel
theorem dd_M_join_258 : decode prog_7_method_21_code 258 = .ok (.getfield 38, 3) := by decide +kernel
theorem dd_M_join_261 : decode prog_7_method_21_code 261 = .ok (.bipush 17, 2) := by decide +kernel
theorem dd_M_join_263 : decode prog_7_method_21_code 263 = .ok (.iload 4, 2) := by decide +kernel
theorem dd_M_join_265 : decode prog_7_method_21_code 265 = .ok (.imul, 1) := by decide +kernel
theorem dd_M_join_266 : decode prog_7_method_21_code 266 = .ok (.iload 5, 2) := by decide +kernel
theorem dd_M_join_268 : decode prog_7_method_21_code 268 = .ok (.iadd, 1) := by decide +kernel
theorem dd_M_join_269 : decode prog_7_method_21_code 269 = .ok (.iconst 1, 1) := by decide +kernel
theorem dd_M_join_270 : decode prog_7_method_21_code 270 = .ok (.iadd, 1) := by decide +kernel
theorem dd_M_join_271 : decode prog_7_method_21_code 271 = .ok (.iaload, 1) := by decide +kernel
theorem dd_M_join_272 : decode prog_7_method_21_code 272 = .ok (.iadd, 1) := by decide +kernel
theorem dd_M_join_273 : decode prog_7_method_21_code 273 = .ok (.iload 6, 2) := by decide +kernel
theorem dd_M_join_275 : decode prog_7_method_21_code 275 = .ok (.if_icmp .ge 23, 3) := by decide +kernel
theorem dd_M_join_278 : decode prog_7_method_21_code 278 = .ok (.iload_n 3, 1) := by decide +kernel
theorem dd_M_join_279 : decode prog_7_method_21_code 279 = .ok (.aload_n 0, 1) := by decide +kernel
theorem dd_M_join_280 : decode prog_7_method_21_code 280 = .ok (.getfield 38, 3) := by decide +kernel
theorem dd_M_join_283 : decode prog_7_method_21_code 283 = .ok (.bipush 17, 2) := by decide +kernel
theorem dd_M_join_285 : decode prog_7_method_21_code 285 = .ok (.iload 4, 2) := by decide +kernel
theorem dd_M_join_287 : decode prog_7_method_21_code 287 = .ok (.imul, 1) := by decide +kernel
theorem dd_M_join_288 : decode prog_7_method_21_code 288 = .ok (.iload 5, 2) := by decide +kernel
theorem dd_M_join_290 : decode prog_7_method_21_code 290 = .ok (.iadd, 1) := by decide +kernel
theorem dd_M_join_291 : decode prog_7_method_21_code 291 = .ok (.iconst 1, 1) := by decide +kernel
theorem dd_M_join_292 : decode prog_7_method_21_code 292 = .ok (.iadd, 1) := by decide +kernel
theorem dd_M_join_293 : decode prog_7_method_21_code 293 = .ok (.iaload, 1) := by decide +kernel
theorem dd_M_join_294 : decode prog_7_method_21_code 294 = .ok (.iadd, 1) := by decide +kernel
theorem dd_M_join_295 : decode prog_7_method_21_code 295 = .ok (.goto 5, 3) := by decide +kernel
theorem dd_M_join_298 : decode prog_7_method_21_code 298 = .ok (.iload 6, 2) := by decide +kernel
theorem dd_M_join_300 : decode prog_7_method_21_code 300 = .ok (.istore 6, 2) := by decide +kernel
theorem dd_M_join_302 : decode prog_7_method_21_code 302 = .ok (.aload_n 0, 1) := by decide +kernel
theorem dd_M_join_303 : decode prog_7_method_21_code 303 = .ok (.getfield 38, 3) := by decide +kernel
theorem dd_M_join_306 : decode prog_7_method_21_code 306 = .ok (.bipush 17, 2) := by decide +kernel
theorem dd_M_join_308 : decode prog_7_method_21_code 308 = .ok (.iload 4, 2) := by decide +kernel
theorem dd_M_join_310 : decode prog_7_method_21_code 310 = .ok (.imul, 1) := by decide +kernel
theorem dd_M_join_311 : decode prog_7_method_21_code 311 = .ok (.iload 5, 2) := by decide +kernel
theorem dd_M_join_313 : decode prog_7_method_21_code 313 = .ok (.iadd, 1) := by decide +kernel
theorem dd_M_join_314 : decode prog_7_method_21_code 314 = .ok (.iload 6, 2) := by decide +kernel
theorem dd_M_join_316 : decode prog_7_method_21_code 316 = .ok (.iastore, 1) := by decide +kernel
theorem dd_M_join_317 : decode prog_7_method_21_code 317 = .ok (.iinc 5 (-1), 3) := by decide +kernel
theorem dd_M_join_320 : decode prog_7_method_21_code 320 = .ok (.goto (-205), 3) := by decide +kernel
theorem dd_M_join_323 : decode prog_7_method_21_code 323 = .ok (.iinc 4 (-1), 3) := by decide +kernel
theorem dd_M_join_326 : decode prog_7_method_21_code 326 = .ok (.goto (-222), 3) := by decide +kernel
theorem dd_M_join_329 : decode prog_7_method_21_code 329 = .ok (.iconst 0, 1) := by decide +kernel
theorem dd_M_join_330 : decode prog_7_method_21_code 330 = .ok (.istore 4, 2) := by decide +kernel
theorem dd_M_join_332 : decode prog_7_method_21_code 332 = .ok (.iconst 0, 1) := by decide +kernel
theorem dd_M_join_333 : decode prog_7_method_21_code 333 = .ok (.istore 5, 2) := by decide +kernel
theorem dd_M_join_335 : decode prog_7_method_21_code 335 = .ok (.iload 4, 2) := by decide +kernel
theorem dd_M_join_337 : decode prog_7_method_21_code 337 = .ok (.aload_n 0, 1) := by decide +kernel
theorem dd_M_join_338 : decode prog_7_method_21_code 338 = .ok (.getfield 84, 3) := by decide +kernel
theorem dd_M_join_341 : decode prog_7_method_21_code 341 = .ok (.if_icmp .lt 12, 3) := by decide +kernel
theorem dd_M_join_344 : decode prog_7_method_21_code 344 = .ok (.iload 5, 2) := by decide +kernel
theorem dd_M_join_346 : decode prog_7_method_21_code 346 = .ok (.aload_n 0, 1) := by decide +kernel
theorem dd_M_join_347 : decode prog_7_method_21_code 347 = .ok (.getfield 103, 3) := by decide +kernel
theorem dd_M_join_350 : decode prog_7_method_21_code 350 = .ok (.if_icmp .ge 118, 3) := by decide +kernel
theorem dd_M_join_353 : decode prog_7_method_21_code 353 = .ok (.aload_n 0, 1) := by decide +kernel
theorem dd_M_join_354 : decode prog_7_method_21_code 354 = .ok (.getfield 38, 3) := by decide +kernel
theorem dd_M_join_357 : decode prog_7_method_21_code 357 = .ok (.bipush 17, 2) := by decide +kernel
theorem dd_M_join_359 : decode prog_7_method_21_code 359 = .ok (.iload 4, 2) := by decide +kernel
theorem dd_M_join_361 : decode prog_7_method_21_code 361 = .ok (.imul, 1) := by decide +kernel
theorem dd_M_join_362 : decode prog_7_method_21_code 362 = .ok (.iload 5, 2) := by decide +kernel
theorem dd_M_join_364 : decode prog_7_method_21_code 364 = .ok (.iadd, 1) := by decide +kernel
theorem dd_M_join_365 : decode prog_7_method_21_code 365 = .ok (.iaload, 1) := by decide +kernel
theorem dd_M_join_366 : decode prog_7_method_21_code 366 = .ok (.istore 6, 2) := by decide +kernel
theorem dd_M_join_368 : decode prog_7_method_21_code 368 = .ok (.iload 4, 2) := by decide +kernel
theorem dd_M_join_370 : decode prog_7_method_21_code 370 = .ok (.aload_n 0, 1) := by decide +kernel
theorem dd_M_join_371 : decode prog_7_method_21_code 371 = .ok (.getfield 84, 3) := by decide +kernel
theorem dd_M_join_374 : decode prog_7_method_21_code 374 = .ok (.if_icmp .ge 43, 3) := by decide +kernel
theorem dd_M_join_377 : decode prog_7_method_21_code 377 = .ok (.iload 5, 2) := by decide +kernel
theorem dd_M_join_379 : decode prog_7_method_21_code 379 = .ok (.aload_n 0, 1) := by decide +kernel
theorem dd_M_join_380 : decode prog_7_method_21_code 380 = .ok (.getfield 103, 3) := by decide +kernel
theorem dd_M_join_383 : decode prog_7_method_21_code 383 = .ok (.if_icmp .ge 34, 3) := by decide +kernel
theorem dd_M_join_386 : decode prog_7_method_21_code 386 = .ok (.aload_n 0, 1) := by decide +kernel
theorem dd_M_join_387 : decode prog_7_method_21_code 387 = .ok (.iload 4, 2) := by decide +kernel
theorem dd_M_join_389 : decode prog_7_method_21_code 389 = .ok (.iload 5, 2) := by decide +kernel
theorem dd_M_join_391 : decode prog_7_method_21_code 391 = .ok (.invokevirtual 107, 3) := by decide +kernel
theorem dd_M_join_394 : decode prog_7_method_21_code 394 = .ok (.iload 6, 2) := by decide +kernel
theorem dd_M_join_396 : decode prog_7_method_21_code 396 = .ok (.if_icmp .ne 21, 3) := by decide +kernel
theorem dd_M_join_399 : decode prog_7_method_21_code 399 = .ok (.aload_n 0, 1) := by decide +kernel
theorem dd_M_join_400 : decode prog_7_method_21_code 400 = .ok (.getfield 41, 3) := by decide +kernel
theorem dd_M_join_403 : decode prog_7_method_21_code 403 = .ok (.iload 4, 2) := by decide +kernel
theorem dd_M_join_405 : decode prog_7_method_21_code 405 = .ok (.iload 5, 2) := by decide +kernel
theorem dd_M_join_407 : decode prog_7_method_21_code 407 = .ok (.iastore, 1) := by decide +kernel
theorem dd_M_join_408 : decode prog_7_method_21_code 408 = .ok (.iinc 4 1, 3) := by decide +kernel
theorem dd_M_join_411 : decode prog_7_method_21_code 411 = .ok (.iinc 5 1, 3) := by decide +kernel
theorem dd_M_join_414 : decode prog_7_method_21_code 414 = .ok (.goto 51, 3) := by decide +kernel
theorem dd_M_join_417 : decode prog_7_method_21_code 417 = .ok (.iload 4, 2) := by decide +kernel
theorem dd_M_join_419 : decode prog_7_method_21_code 419 = .ok (.aload_n 0, 1) := by decide +kernel
theorem dd_M_join_420 : decode prog_7_method_21_code 420 = .ok (.getfield 84, 3) := by decide +kernel
theorem dd_M_join_423 : decode prog_7_method_21_code 423 = .ok (.if_icmp .ge 39, 3) := by decide +kernel
theorem dd_M_join_426 : decode prog_7_method_21_code 426 = .ok (.iload_n 3, 1) := by decide +kernel
theorem dd_M_join_427 : decode prog_7_method_21_code 427 = .ok (.aload_n 0, 1) := by decide +kernel
theorem dd_M_join_428 : decode prog_7_method_21_code 428 = .ok (.getfield 38, 3) := by decide +kernel
theorem dd_M_join_431 : decode prog_7_method_21_code 431 = .ok (.bipush 17, 2) := by decide +kernel
theorem dd_M_join_433 : decode prog_7_method_21_code 433 = .ok (.iload 4, 2) := by decide +kernel
theorem dd_M_join_435 : decode prog_7_method_21_code 435 = .ok (.iconst 1, 1) := by decide +kernel
theorem dd_M_join_436 : decode prog_7_method_21_code 436 = .ok (.iadd, 1) := by decide +kernel
theorem dd_M_join_437 : decode prog_7_method_21_code 437 = .ok (.imul, 1) := by decide +kernel
theorem dd_M_join_438 : decode prog_7_method_21_code 438 = .ok (.iload 5, 2) := by decide +kernel
theorem dd_M_join_440 : decode prog_7_method_21_code 440 = .ok (.iadd, 1) := by decide +kernel
theorem dd_M_join_441 : decode prog_7_method_21_code 441 = .ok (.iaload, 1) := by decide +kernel
theorem dd_M_join_442 : decode prog_7_method_21_code 442 = .ok (.iadd, 1) := by decide +kernel
theorem dd_M_join_443 : decode prog_7_method_21_code 443 = .ok (.iload 6, 2) := by decide +kernel
theorem dd_M_join_445 : decode prog_7_method_21_code 445 = .ok (.if_icmp .ne 17, 3) := by decide +kernel
theorem dd_M_join_448 : decode prog_7_method_21_code 448 = .ok (.aload_n 0, 1) := by decide +kernel
theorem dd_M_join_449 : decode prog_7_method_21_code 449 = .ok (.getfield 41, 3) := by decide +kernel
theorem dd_M_join_452 : decode prog_7_method_21_code 452 = .ok (.iload 4, 2) := by decide +kernel
theorem dd_M_join_454 : decode prog_7_method_21_code 454 = .ok (.iconst (-1), 1) := by decide +kernel
theorem dd_M_join_455 : decode prog_7_method_21_code 455 = .ok (.iastore, 1) := by decide +kernel
theorem dd_M_join_456 : decode prog_7_method_21_code 456 = .ok (.iinc 4 1, 3) := by decide +kernel
theorem dd_M_join_459 : decode prog_7_method_21_code 459 = .ok (.goto 6, 3) := by decide +kernel
theorem dd_M_join_462 : decode prog_7_method_21_code 462 = .ok (.iinc 5 1, 3) := by decide +kernel
theorem dd_M_join_465 : decode prog_7_method_21_code 465 = .ok (.goto (-130), 3) := by decide +kernel
theorem dd_M_join_468 : decode prog_7_method_21_code 468 = .ok (.aload_n 0, 1) := by decide +kernel
theorem dd_M_join_469 : decode prog_7_method_21_code 469 = .ok (.iconst 1, 1) := by decide +kernel
theorem dd_M_join_470 : decode prog_7_method_21_code 470 = .ok (.putfield 110, 3) := by decide +kernel
theorem dd_M_join_473 : decode prog_7_method_21_code 473 = .ok (.aload_n 0, 1) := by decide +kernel
theorem dd_M_join_474 : decode prog_7_method_21_code 474 = .ok (.aload_n 0, 1) := by decide +kernel
theorem dd_M_join_475 : decode prog_7_method_21_code 475 = .ok (.getfield 84, 3) := by decide +kernel
theorem dd_M_join_478 : decode prog_7_method_21_code 478 = .ok (.putfield 114, 3) := by decide +kernel
theorem dd_M_join_481 : decode prog_7_method_21_code 481 = .ok (.aload_n 0, 1) := by decide +kernel
theorem dd_M_join_482 : decode prog_7_method_21_code 482 = .ok (.getfield 38, 3) := by decide +kernel
theorem dd_M_join_485 : decode prog_7_method_21_code 485 = .ok (.iconst 0, 1) := by decide +kernel
theorem dd_M_join_486 : decode prog_7_method_21_code 486 = .ok (.iaload, 1) := by decide +kernel
theorem dd_M_join_487 : decode prog_7_method_21_code 487 = .ok (.ireturn, 1) := by decide +kernel
theorem dd_M_joined_0 : decode prog_7_method_22_code 0 = .ok (.aload_n 0, 1) := by decide +kernel
theorem dd_M_joined_1 : decode prog_7_method_22_code 1 = .ok (.aload_n 0, 1) := by decide +kernel
theorem dd_M_joined_2 : decode prog_7_method_22_code 2 = .ok (.getfield 110, 3) := by decide +kernel
theorem dd_M_joined_5 : decode prog_7_method_22_code 5 = .ok (.ifCond .ne 7, 3) := by decide +kernel
theorem dd_M_joined_8 : decode prog_7_method_22_code 8 = .ok (.iconst 1, 1) := by decide +kernel
theorem dd_M_joined_9 : decode prog_7_method_22_code 9 = .ok (.goto 22, 3) := by decide +kernel
theorem dd_M_joined_12 : decode prog_7_method_22_code 12 = .ok (.iload_n 1, 1) := by decide +kernel
theorem dd_M_joined_13 : decode prog_7_method_22_code 13 = .ok (.iconst 0, 1) := by decide +kernel
theorem dd_M_joined_14 : decode prog_7_method_22_code 14 = .ok (.aload_n 0, 1) := by decide +kernel
theorem dd_M_joined_15 : decode prog_7_method_22_code 15 = .ok (.getfield 114, 3) := by decide +kernel
theorem dd_M_joined_18 : decode prog_7_method_22_code 18 = .ok (.iconst 1, 1) := by decide +kernel
theorem dd_M_joined_19 : decode prog_7_method_22_code 19 = .ok (.isub, 1) := by decide +kernel
theorem dd_M_joined_20 : decode prog_7_method_22_code 20 = .ok (.invokestatic 56, 3) := by decide +kernel
theorem dd_M_joined_23 : decode prog_7_method_22_code 23 = .ok (.ifCond .ne 7, 3) := by decide +kernel
theorem dd_M_joined_26 : decode prog_7_method_22_code 26 = .ok (.iconst 2, 1) := by decide +kernel
theorem dd_M_joined_27 : decode prog_7_method_22_code 27 = .ok (.goto 4, 3) := by decide +kernel
theorem dd_M_joined_30 : decode prog_7_method_22_code 30 = .ok (.iconst 0, 1) := by decide +kernel
theorem dd_M_joined_31 : decode prog_7_method_22_code 31 = .ok (.putfield 53, 3) := by decide +kernel
theorem dd_M_joined_34 : decode prog_7_method_22_code 34 = .ok (.aload_n 0, 1) := by decide +kernel
theorem dd_M_joined_35 : decode prog_7_method_22_code 35 = .ok (.getfield 53, 3) := by decide +kernel
theorem dd_M_joined_38 : decode prog_7_method_22_code 38 = .ok (.ifCond .le 7, 3) := by decide +kernel
theorem dd_M_joined_41 : decode prog_7_method_22_code 41 = .ok (.iconst 0, 1) := by decide +kernel
theorem dd_M_joined_42 : decode prog_7_method_22_code 42 = .ok (.goto 9, 3) := by decide +kernel
theorem dd_M_joined_45 : decode prog_7_method_22_code 45 = .ok (.aload_n 0, 1) := by decide +kernel
theorem dd_M_joined_46 : decode prog_7_method_22_code 46 = .ok (.getfield 41, 3) := by decide +kernel
theorem dd_M_joined_49 : decode prog_7_method_22_code 49 = .ok (.iload_n 1, 1) := by decide +kernel
theorem dd_M_joined_50 : decode prog_7_method_22_code 50 = .ok (.iaload, 1) := by decide +kernel
theorem dd_M_joined_51 : decode prog_7_method_22_code 51 = .ok (.ireturn, 1) := by decide +kernel
theorem dd_M_back_0 : decode prog_7_method_23_code 0 = .ok (.aload_n 0, 1) := by decide +kernel
theorem dd_M_back_1 : decode prog_7_method_23_code 1 = .ok (.iload_n 1, 1) := by decide +kernel
theorem dd_M_back_2 : decode prog_7_method_23_code 2 = .ok (.invokevirtual 98, 3) := by decide +kernel
theorem dd_M_back_5 : decode prog_7_method_23_code 5 = .ok (.istore 4, 2) := by decide +kernel
theorem dd_M_back_7 : decode prog_7_method_23_code 7 = .ok (.aload_n 0, 1) := by decide +kernel
theorem dd_M_back_8 : decode prog_7_method_23_code 8 = .ok (.aload_n 0, 1) := by decide +kernel
theorem dd_M_back_9 : decode prog_7_method_23_code 9 = .ok (.getfield 53, 3) := by decide +kernel
theorem dd_M_back_12 : decode prog_7_method_23_code 12 = .ok (.ifCond .gt 15, 3) := by decide +kernel
theorem dd_M_back_15 : decode prog_7_method_23_code 15 = .ok (.iload_n 2, 1) := by decide +kernel
theorem dd_M_back_16 : decode prog_7_method_23_code 16 = .ok (.iconst 0, 1) := by decide +kernel
theorem dd_M_back_17 : decode prog_7_method_23_code 17 = .ok (.iload 4, 2) := by decide +kernel
theorem dd_M_back_19 : decode prog_7_method_23_code 19 = .ok (.iconst 1, 1) := by decide +kernel
theorem dd_M_back_20 : decode prog_7_method_23_code 20 = .ok (.isub, 1) := by decide +kernel
theorem dd_M_back_21 : decode prog_7_method_23_code 21 = .ok (.invokestatic 56, 3) := by decide +kernel
theorem dd_M_back_24 : decode prog_7_method_23_code 24 = .ok (.ifCond .ne 7, 3) := by decide +kernel
theorem dd_M_back_27 : decode prog_7_method_23_code 27 = .ok (.iconst 1, 1) := by decide +kernel
theorem dd_M_back_28 : decode prog_7_method_23_code 28 = .ok (.goto 18, 3) := by decide +kernel
theorem dd_M_back_31 : decode prog_7_method_23_code 31 = .ok (.iload_n 3, 1) := by decide +kernel
theorem dd_M_back_32 : decode prog_7_method_23_code 32 = .ok (.iconst 0, 1) := by decide +kernel
theorem dd_M_back_33 : decode prog_7_method_23_code 33 = .ok (.ldc 117, 2) := by decide +kernel
theorem dd_M_back_35 : decode prog_7_method_23_code 35 = .ok (.invokestatic 56, 3) := by decide +kernel
theorem dd_M_back_38 : decode prog_7_method_23_code 38 = .ok (.ifCond .ne 7, 3) := by decide +kernel
theorem dd_M_back_41 : decode prog_7_method_23_code 41 = .ok (.iconst 2, 1) := by decide +kernel
theorem dd_M_back_42 : decode prog_7_method_23_code 42 = .ok (.goto 4, 3) := by decide +kernel
theorem dd_M_back_45 : decode prog_7_method_23_code 45 = .ok (.iconst 0, 1) := by decide +kernel
theorem dd_M_back_46 : decode prog_7_method_23_code 46 = .ok (.putfield 53, 3) := by decide +kernel
theorem dd_M_back_49 : decode prog_7_method_23_code 49 = .ok (.aload_n 0, 1) := by decide +kernel
theorem dd_M_back_50 : decode prog_7_method_23_code 50 = .ok (.getfield 53, 3) := by decide +kernel
theorem dd_M_back_53 : decode prog_7_method_23_code 53 = .ok (.ifCond .le 7, 3) := by decide +kernel
theorem dd_M_back_56 : decode prog_7_method_23_code 56 = .ok (.iconst 0, 1) := by decide +kernel
theorem dd_M_back_57 : decode prog_7_method_23_code 57 = .ok (.goto 18, 3) := by decide +kernel
theorem dd_M_back_60 : decode prog_7_method_23_code 60 = .ok (.iload_n 3, 1) := by decide +kernel
theorem dd_M_back_61 : decode prog_7_method_23_code 61 = .ok (.aload_n 0, 1) := by decide +kernel
theorem dd_M_back_62 : decode prog_7_method_23_code 62 = .ok (.getfield 32, 3) := by decide +kernel
theorem dd_M_back_65 : decode prog_7_method_23_code 65 = .ok (.iload_n 2, 1) := by decide +kernel
theorem dd_M_back_66 : decode prog_7_method_23_code 66 = .ok (.iaload, 1) := by decide +kernel
theorem dd_M_back_67 : decode prog_7_method_23_code 67 = .ok (.imul, 1) := by decide +kernel
theorem dd_M_back_68 : decode prog_7_method_23_code 68 = .ok (.aload_n 0, 1) := by decide +kernel
theorem dd_M_back_69 : decode prog_7_method_23_code 69 = .ok (.getfield 77, 3) := by decide +kernel
theorem dd_M_back_72 : decode prog_7_method_23_code 72 = .ok (.iconst 1, 1) := by decide +kernel
theorem dd_M_back_73 : decode prog_7_method_23_code 73 = .ok (.isub, 1) := by decide +kernel
theorem dd_M_back_74 : decode prog_7_method_23_code 74 = .ok (.idiv, 1) := by decide +kernel
theorem dd_M_back_75 : decode prog_7_method_23_code 75 = .ok (.ireturn, 1) := by decide +kernel
theorem dd_M_noOne_0 : decode prog_7_method_24_code 0 = .ok (.iload_n 0, 1) := by decide +kernel
theorem dd_M_noOne_1 : decode prog_7_method_24_code 1 = .ok (.iconst 0, 1) := by decide +kernel
theorem dd_M_noOne_2 : decode prog_7_method_24_code 2 = .ok (.iconst 3, 1) := by decide +kernel
theorem dd_M_noOne_3 : decode prog_7_method_24_code 3 = .ok (.invokestatic 56, 3) := by decide +kernel
theorem dd_M_noOne_6 : decode prog_7_method_24_code 6 = .ok (.ifCond .eq 13, 3) := by decide +kernel
theorem dd_M_noOne_9 : decode prog_7_method_24_code 9 = .ok (.iload_n 1, 1) := by decide +kernel
theorem dd_M_noOne_10 : decode prog_7_method_24_code 10 = .ok (.iconst 0, 1) := by decide +kernel
theorem dd_M_noOne_11 : decode prog_7_method_24_code 11 = .ok (.bipush 19, 2) := by decide +kernel
theorem dd_M_noOne_13 : decode prog_7_method_24_code 13 = .ok (.invokestatic 56, 3) := by decide +kernel
theorem dd_M_noOne_16 : decode prog_7_method_24_code 16 = .ok (.ifCond .ne 7, 3) := by decide +kernel
theorem dd_M_noOne_19 : decode prog_7_method_24_code 19 = .ok (.iconst 1, 1) := by decide +kernel
theorem dd_M_noOne_20 : decode prog_7_method_24_code 20 = .ok (.goto 4, 3) := by decide +kernel
theorem dd_M_noOne_23 : decode prog_7_method_24_code 23 = .ok (.iconst 0, 1) := by decide +kernel
theorem dd_M_noOne_24 : decode prog_7_method_24_code 24 = .ok (.ireturn, 1) := by decide +kernel
theorem dd_M_tell_0 : decode prog_7_method_25_code 0 = .ok (.aload_n 0, 1) := by decide +kernel
theorem dd_M_tell_1 : decode prog_7_method_25_code 1 = .ok (.iload_n 1, 1) := by decide +kernel
theorem dd_M_tell_2 : decode prog_7_method_25_code 2 = .ok (.iload_n 2, 1) := by decide +kernel
theorem dd_M_tell_3 : decode prog_7_method_25_code 3 = .ok (.invokestatic 118, 3) := by decide +kernel
theorem dd_M_tell_6 : decode prog_7_method_25_code 6 = .ok (.ifCond .eq 7, 3) := by decide +kernel
theorem dd_M_tell_9 : decode prog_7_method_25_code 9 = .ok (.iconst 1, 1) := by decide +kernel
theorem dd_M_tell_10 : decode prog_7_method_25_code 10 = .ok (.goto 36, 3) := by decide +kernel
theorem dd_M_tell_13 : decode prog_7_method_25_code 13 = .ok (.iload_n 3, 1) := by decide +kernel
theorem dd_M_tell_14 : decode prog_7_method_25_code 14 = .ok (.iconst 0, 1) := by decide +kernel
theorem dd_M_tell_15 : decode prog_7_method_25_code 15 = .ok (.bipush 60, 2) := by decide +kernel
theorem dd_M_tell_17 : decode prog_7_method_25_code 17 = .ok (.invokestatic 56, 3) := by decide +kernel
theorem dd_M_tell_20 : decode prog_7_method_25_code 20 = .ok (.ifCond .ne 7, 3) := by decide +kernel
theorem dd_M_tell_23 : decode prog_7_method_25_code 23 = .ok (.iconst 2, 1) := by decide +kernel
theorem dd_M_tell_24 : decode prog_7_method_25_code 24 = .ok (.goto 22, 3) := by decide +kernel
theorem dd_M_tell_27 : decode prog_7_method_25_code 27 = .ok (.aload_n 0, 1) := by decide +kernel
theorem dd_M_tell_28 : decode prog_7_method_25_code 28 = .ok (.getfield 44, 3) := by decide +kernel
theorem dd_M_tell_31 : decode prog_7_method_25_code 31 = .ok (.bipush 20, 2) := by decide +kernel
theorem dd_M_tell_33 : decode prog_7_method_25_code 33 = .ok (.iload_n 1, 1) := by decide +kernel
theorem dd_M_tell_34 : decode prog_7_method_25_code 34 = .ok (.imul, 1) := by decide +kernel
theorem dd_M_tell_35 : decode prog_7_method_25_code 35 = .ok (.iload_n 2, 1) := by decide +kernel
theorem dd_M_tell_36 : decode prog_7_method_25_code 36 = .ok (.iadd, 1) := by decide +kernel
theorem dd_M_tell_37 : decode prog_7_method_25_code 37 = .ok (.iaload, 1) := by decide +kernel
theorem dd_M_tell_38 : decode prog_7_method_25_code 38 = .ok (.ifCond .le 7, 3) := by decide +kernel
theorem dd_M_tell_41 : decode prog_7_method_25_code 41 = .ok (.iconst 3, 1) := by decide +kernel
theorem dd_M_tell_42 : decode prog_7_method_25_code 42 = .ok (.goto 4, 3) := by decide +kernel
theorem dd_M_tell_45 : decode prog_7_method_25_code 45 = .ok (.iconst 0, 1) := by decide +kernel
theorem dd_M_tell_46 : decode prog_7_method_25_code 46 = .ok (.putfield 53, 3) := by decide +kernel
theorem dd_M_tell_49 : decode prog_7_method_25_code 49 = .ok (.aload_n 0, 1) := by decide +kernel
theorem dd_M_tell_50 : decode prog_7_method_25_code 50 = .ok (.getfield 53, 3) := by decide +kernel
theorem dd_M_tell_53 : decode prog_7_method_25_code 53 = .ok (.ifCond .ne 17, 3) := by decide +kernel
theorem dd_M_tell_56 : decode prog_7_method_25_code 56 = .ok (.aload_n 0, 1) := by decide +kernel
theorem dd_M_tell_57 : decode prog_7_method_25_code 57 = .ok (.getfield 44, 3) := by decide +kernel
theorem dd_M_tell_60 : decode prog_7_method_25_code 60 = .ok (.bipush 20, 2) := by decide +kernel
theorem dd_M_tell_62 : decode prog_7_method_25_code 62 = .ok (.iload_n 1, 1) := by decide +kernel
theorem dd_M_tell_63 : decode prog_7_method_25_code 63 = .ok (.imul, 1) := by decide +kernel
theorem dd_M_tell_64 : decode prog_7_method_25_code 64 = .ok (.iload_n 2, 1) := by decide +kernel
theorem dd_M_tell_65 : decode prog_7_method_25_code 65 = .ok (.iadd, 1) := by decide +kernel
theorem dd_M_tell_66 : decode prog_7_method_25_code 66 = .ok (.iload_n 3, 1) := by decide +kernel
theorem dd_M_tell_67 : decode prog_7_method_25_code 67 = .ok (.iconst 1, 1) := by decide +kernel
theorem dd_M_tell_68 : decode prog_7_method_25_code 68 = .ok (.iadd, 1) := by decide +kernel
theorem dd_M_tell_69 : decode prog_7_method_25_code 69 = .ok (.iastore, 1) := by decide +kernel
theorem dd_M_tell_70 : decode prog_7_method_25_code 70 = .ok (.return_, 1) := by decide +kernel
theorem dd_M_may_0 : decode prog_7_method_26_code 0 = .ok (.aload_n 0, 1) := by decide +kernel
theorem dd_M_may_1 : decode prog_7_method_26_code 1 = .ok (.iload_n 1, 1) := by decide +kernel
theorem dd_M_may_2 : decode prog_7_method_26_code 2 = .ok (.iload_n 2, 1) := by decide +kernel
theorem dd_M_may_3 : decode prog_7_method_26_code 3 = .ok (.invokestatic 118, 3) := by decide +kernel
theorem dd_M_may_6 : decode prog_7_method_26_code 6 = .ok (.ifCond .eq 7, 3) := by decide +kernel
theorem dd_M_may_9 : decode prog_7_method_26_code 9 = .ok (.iconst 1, 1) := by decide +kernel
theorem dd_M_may_10 : decode prog_7_method_26_code 10 = .ok (.goto 4, 3) := by decide +kernel
theorem dd_M_may_13 : decode prog_7_method_26_code 13 = .ok (.iconst 0, 1) := by decide +kernel
theorem dd_M_may_14 : decode prog_7_method_26_code 14 = .ok (.putfield 53, 3) := by decide +kernel
theorem dd_M_may_17 : decode prog_7_method_26_code 17 = .ok (.aload_n 0, 1) := by decide +kernel
theorem dd_M_may_18 : decode prog_7_method_26_code 18 = .ok (.getfield 53, 3) := by decide +kernel
theorem dd_M_may_21 : decode prog_7_method_26_code 21 = .ok (.ifCond .ne 21, 3) := by decide +kernel
theorem dd_M_may_24 : decode prog_7_method_26_code 24 = .ok (.aload_n 0, 1) := by decide +kernel
theorem dd_M_may_25 : decode prog_7_method_26_code 25 = .ok (.getfield 44, 3) := by decide +kernel
theorem dd_M_may_28 : decode prog_7_method_26_code 28 = .ok (.bipush 20, 2) := by decide +kernel
theorem dd_M_may_30 : decode prog_7_method_26_code 30 = .ok (.iload_n 1, 1) := by decide +kernel
theorem dd_M_may_31 : decode prog_7_method_26_code 31 = .ok (.imul, 1) := by decide +kernel
theorem dd_M_may_32 : decode prog_7_method_26_code 32 = .ok (.iload_n 2, 1) := by decide +kernel
theorem dd_M_may_33 : decode prog_7_method_26_code 33 = .ok (.iadd, 1) := by decide +kernel
theorem dd_M_may_34 : decode prog_7_method_26_code 34 = .ok (.iaload, 1) := by decide +kernel
theorem dd_M_may_35 : decode prog_7_method_26_code 35 = .ok (.ifCond .le 7, 3) := by decide +kernel
theorem dd_M_may_38 : decode prog_7_method_26_code 38 = .ok (.iconst 1, 1) := by decide +kernel
theorem dd_M_may_39 : decode prog_7_method_26_code 39 = .ok (.goto 4, 3) := by decide +kernel
theorem dd_M_may_42 : decode prog_7_method_26_code 42 = .ok (.iconst 0, 1) := by decide +kernel
theorem dd_M_may_43 : decode prog_7_method_26_code 43 = .ok (.ireturn, 1) := by decide +kernel
theorem dd_M_seen_0 : decode prog_7_method_27_code 0 = .ok (.aload_n 0, 1) := by decide +kernel
theorem dd_M_seen_1 : decode prog_7_method_27_code 1 = .ok (.iload_n 1, 1) := by decide +kernel
theorem dd_M_seen_2 : decode prog_7_method_27_code 2 = .ok (.iload_n 3, 1) := by decide +kernel
theorem dd_M_seen_3 : decode prog_7_method_27_code 3 = .ok (.invokestatic 118, 3) := by decide +kernel
theorem dd_M_seen_6 : decode prog_7_method_27_code 6 = .ok (.ifCond .ne 11, 3) := by decide +kernel
theorem dd_M_seen_9 : decode prog_7_method_27_code 9 = .ok (.iload_n 2, 1) := by decide +kernel
theorem dd_M_seen_10 : decode prog_7_method_27_code 10 = .ok (.iload_n 3, 1) := by decide +kernel
theorem dd_M_seen_11 : decode prog_7_method_27_code 11 = .ok (.invokestatic 118, 3) := by decide +kernel
theorem dd_M_seen_14 : decode prog_7_method_27_code 14 = .ok (.ifCond .eq 7, 3) := by decide +kernel
theorem dd_M_seen_17 : decode prog_7_method_27_code 17 = .ok (.iconst 1, 1) := by decide +kernel
theorem dd_M_seen_18 : decode prog_7_method_27_code 18 = .ok (.goto 22, 3) := by decide +kernel
theorem dd_M_seen_21 : decode prog_7_method_27_code 21 = .ok (.aload_n 0, 1) := by decide +kernel
theorem dd_M_seen_22 : decode prog_7_method_27_code 22 = .ok (.getfield 44, 3) := by decide +kernel
theorem dd_M_seen_25 : decode prog_7_method_27_code 25 = .ok (.bipush 20, 2) := by decide +kernel
theorem dd_M_seen_27 : decode prog_7_method_27_code 27 = .ok (.iload_n 1, 1) := by decide +kernel
theorem dd_M_seen_28 : decode prog_7_method_27_code 28 = .ok (.imul, 1) := by decide +kernel
theorem dd_M_seen_29 : decode prog_7_method_27_code 29 = .ok (.iload_n 3, 1) := by decide +kernel
theorem dd_M_seen_30 : decode prog_7_method_27_code 30 = .ok (.iadd, 1) := by decide +kernel
theorem dd_M_seen_31 : decode prog_7_method_27_code 31 = .ok (.iaload, 1) := by decide +kernel
theorem dd_M_seen_32 : decode prog_7_method_27_code 32 = .ok (.ifCond .ne 7, 3) := by decide +kernel
theorem dd_M_seen_35 : decode prog_7_method_27_code 35 = .ok (.iconst 2, 1) := by decide +kernel
theorem dd_M_seen_36 : decode prog_7_method_27_code 36 = .ok (.goto 4, 3) := by decide +kernel
theorem dd_M_seen_39 : decode prog_7_method_27_code 39 = .ok (.iconst 0, 1) := by decide +kernel
theorem dd_M_seen_40 : decode prog_7_method_27_code 40 = .ok (.putfield 53, 3) := by decide +kernel
theorem dd_M_seen_43 : decode prog_7_method_27_code 43 = .ok (.aload_n 0, 1) := by decide +kernel
theorem dd_M_seen_44 : decode prog_7_method_27_code 44 = .ok (.getfield 53, 3) := by decide +kernel
theorem dd_M_seen_47 : decode prog_7_method_27_code 47 = .ok (.ifCond .le 7, 3) := by decide +kernel
theorem dd_M_seen_50 : decode prog_7_method_27_code 50 = .ok (.iconst 0, 1) := by decide +kernel
theorem dd_M_seen_51 : decode prog_7_method_27_code 51 = .ok (.goto 16, 3) := by decide +kernel
theorem dd_M_seen_54 : decode prog_7_method_27_code 54 = .ok (.aload_n 0, 1) := by decide +kernel
theorem dd_M_seen_55 : decode prog_7_method_27_code 55 = .ok (.getfield 44, 3) := by decide +kernel
theorem dd_M_seen_58 : decode prog_7_method_27_code 58 = .ok (.bipush 20, 2) := by decide +kernel
theorem dd_M_seen_60 : decode prog_7_method_27_code 60 = .ok (.iload_n 2, 1) := by decide +kernel
theorem dd_M_seen_61 : decode prog_7_method_27_code 61 = .ok (.imul, 1) := by decide +kernel
theorem dd_M_seen_62 : decode prog_7_method_27_code 62 = .ok (.iload_n 3, 1) := by decide +kernel
theorem dd_M_seen_63 : decode prog_7_method_27_code 63 = .ok (.iadd, 1) := by decide +kernel
theorem dd_M_seen_64 : decode prog_7_method_27_code 64 = .ok (.iaload, 1) := by decide +kernel
theorem dd_M_seen_65 : decode prog_7_method_27_code 65 = .ok (.iconst 1, 1) := by decide +kernel
theorem dd_M_seen_66 : decode prog_7_method_27_code 66 = .ok (.isub, 1) := by decide +kernel
theorem dd_M_seen_67 : decode prog_7_method_27_code 67 = .ok (.ireturn, 1) := by decide +kernel
theorem dd_M_noTwo_0 : decode prog_7_method_29_code 0 = .ok (.iload_n 1, 1) := by decide +kernel
theorem dd_M_noTwo_1 : decode prog_7_method_29_code 1 = .ok (.iconst 0, 1) := by decide +kernel
theorem dd_M_noTwo_2 : decode prog_7_method_29_code 2 = .ok (.iconst 3, 1) := by decide +kernel
theorem dd_M_noTwo_3 : decode prog_7_method_29_code 3 = .ok (.invokestatic 56, 3) := by decide +kernel
theorem dd_M_noTwo_6 : decode prog_7_method_29_code 6 = .ok (.ifCond .eq 21, 3) := by decide +kernel
theorem dd_M_noTwo_9 : decode prog_7_method_29_code 9 = .ok (.iload_n 2, 1) := by decide +kernel
theorem dd_M_noTwo_10 : decode prog_7_method_29_code 10 = .ok (.iconst 0, 1) := by decide +kernel
theorem dd_M_noTwo_11 : decode prog_7_method_29_code 11 = .ok (.iconst 3, 1) := by decide +kernel
theorem dd_M_noTwo_12 : decode prog_7_method_29_code 12 = .ok (.invokestatic 56, 3) := by decide +kernel
theorem dd_M_noTwo_15 : decode prog_7_method_29_code 15 = .ok (.ifCond .eq 12, 3) := by decide +kernel
theorem dd_M_noTwo_18 : decode prog_7_method_29_code 18 = .ok (.iload_n 3, 1) := by decide +kernel
theorem dd_M_noTwo_19 : decode prog_7_method_29_code 19 = .ok (.iconst 0, 1) := by decide +kernel
theorem dd_M_noTwo_20 : decode prog_7_method_29_code 20 = .ok (.iconst 1, 1) := by decide +kernel
theorem dd_M_noTwo_21 : decode prog_7_method_29_code 21 = .ok (.invokestatic 56, 3) := by decide +kernel
theorem dd_M_noTwo_24 : decode prog_7_method_29_code 24 = .ok (.ifCond .ne 7, 3) := by decide +kernel
theorem dd_M_noTwo_27 : decode prog_7_method_29_code 27 = .ok (.iconst 1, 1) := by decide +kernel
theorem dd_M_noTwo_28 : decode prog_7_method_29_code 28 = .ok (.goto 4, 3) := by decide +kernel
theorem dd_M_noTwo_31 : decode prog_7_method_29_code 31 = .ok (.iconst 0, 1) := by decide +kernel
theorem dd_M_noTwo_32 : decode prog_7_method_29_code 32 = .ok (.ireturn, 1) := by decide +kernel
theorem dd_M_both_0 : decode prog_7_method_30_code 0 = .ok (.aload_n 0, 1) := by decide +kernel
theorem dd_M_both_1 : decode prog_7_method_30_code 1 = .ok (.getfield 44, 3) := by decide +kernel
theorem dd_M_both_4 : decode prog_7_method_30_code 4 = .ok (.bipush 20, 2) := by decide +kernel
theorem dd_M_both_6 : decode prog_7_method_30_code 6 = .ok (.iload_n 1, 1) := by decide +kernel
theorem dd_M_both_7 : decode prog_7_method_30_code 7 = .ok (.imul, 1) := by decide +kernel
theorem dd_M_both_8 : decode prog_7_method_30_code 8 = .ok (.iload_n 3, 1) := by decide +kernel
theorem dd_M_both_9 : decode prog_7_method_30_code 9 = .ok (.iadd, 1) := by decide +kernel
theorem dd_M_both_10 : decode prog_7_method_30_code 10 = .ok (.iaload, 1) := by decide +kernel
theorem dd_M_both_11 : decode prog_7_method_30_code 11 = .ok (.ifCond .le 21, 3) := by decide +kernel
theorem dd_M_both_14 : decode prog_7_method_30_code 14 = .ok (.aload_n 0, 1) := by decide +kernel
theorem dd_M_both_15 : decode prog_7_method_30_code 15 = .ok (.getfield 44, 3) := by decide +kernel
theorem dd_M_both_18 : decode prog_7_method_30_code 18 = .ok (.bipush 20, 2) := by decide +kernel
theorem dd_M_both_20 : decode prog_7_method_30_code 20 = .ok (.iload_n 2, 1) := by decide +kernel
theorem dd_M_both_21 : decode prog_7_method_30_code 21 = .ok (.imul, 1) := by decide +kernel
theorem dd_M_both_22 : decode prog_7_method_30_code 22 = .ok (.iload_n 3, 1) := by decide +kernel
theorem dd_M_both_23 : decode prog_7_method_30_code 23 = .ok (.iadd, 1) := by decide +kernel
theorem dd_M_both_24 : decode prog_7_method_30_code 24 = .ok (.iaload, 1) := by decide +kernel
theorem dd_M_both_25 : decode prog_7_method_30_code 25 = .ok (.ifCond .le 7, 3) := by decide +kernel
theorem dd_M_both_28 : decode prog_7_method_30_code 28 = .ok (.iconst 1, 1) := by decide +kernel
theorem dd_M_both_29 : decode prog_7_method_30_code 29 = .ok (.goto 4, 3) := by decide +kernel
theorem dd_M_both_32 : decode prog_7_method_30_code 32 = .ok (.iconst 0, 1) := by decide +kernel
theorem dd_M_both_33 : decode prog_7_method_30_code 33 = .ok (.ireturn, 1) := by decide +kernel
theorem dd_M_part_0 : decode prog_7_method_28_code 0 = .ok (.iload_n 1, 1) := by decide +kernel
theorem dd_M_part_1 : decode prog_7_method_28_code 1 = .ok (.ifCond .ne 5, 3) := by decide +kernel
theorem dd_M_part_4 : decode prog_7_method_28_code 4 = .ok (.iload_n 2, 1) := by decide +kernel
theorem dd_M_part_5 : decode prog_7_method_28_code 5 = .ok (.ireturn, 1) := by decide +kernel
theorem dd_M_part_6 : decode prog_7_method_28_code 6 = .ok (.iload_n 0, 1) := by decide +kernel
theorem dd_M_part_7 : decode prog_7_method_28_code 7 = .ok (.invokestatic 74, 3) := by decide +kernel
theorem dd_M_part_10 : decode prog_7_method_28_code 10 = .ok (.istore_n 3, 1) := by decide +kernel
theorem dd_M_part_11 : decode prog_7_method_28_code 11 = .ok (.iload_n 1, 1) := by decide +kernel
theorem dd_M_part_12 : decode prog_7_method_28_code 12 = .ok (.istore 4, 2) := by decide +kernel
theorem dd_M_part_14 : decode prog_7_method_28_code 14 = .ok (.iload_n 3, 1) := by decide +kernel
theorem dd_M_part_15 : decode prog_7_method_28_code 15 = .ok (.ifCond .eq 18, 3) := by decide +kernel
theorem dd_M_part_18 : decode prog_7_method_28_code 18 = .ok (.iload 4, 2) := by decide +kernel
theorem dd_M_part_20 : decode prog_7_method_28_code 20 = .ok (.iload_n 3, 1) := by decide +kernel
theorem dd_M_part_21 : decode prog_7_method_28_code 21 = .ok (.irem, 1) := by decide +kernel
theorem dd_M_part_22 : decode prog_7_method_28_code 22 = .ok (.istore 5, 2) := by decide +kernel
theorem dd_M_part_24 : decode prog_7_method_28_code 24 = .ok (.iload_n 3, 1) := by decide +kernel
theorem dd_M_part_25 : decode prog_7_method_28_code 25 = .ok (.istore 4, 2) := by decide +kernel
theorem dd_M_part_27 : decode prog_7_method_28_code 27 = .ok (.iload 5, 2) := by decide +kernel
theorem dd_M_part_29 : decode prog_7_method_28_code 29 = .ok (.istore_n 3, 1) := by decide +kernel
theorem dd_M_part_30 : decode prog_7_method_28_code 30 = .ok (.goto (-16), 3) := by decide +kernel
theorem dd_M_part_33 : decode prog_7_method_28_code 33 = .ok (.iload_n 2, 1) := by decide +kernel
theorem dd_M_part_34 : decode prog_7_method_28_code 34 = .ok (.ifCond .ne 10, 3) := by decide +kernel
theorem dd_M_part_37 : decode prog_7_method_28_code 37 = .ok (.iload_n 0, 1) := by decide +kernel
theorem dd_M_part_38 : decode prog_7_method_28_code 38 = .ok (.iload 4, 2) := by decide +kernel
theorem dd_M_part_40 : decode prog_7_method_28_code 40 = .ok (.idiv, 1) := by decide +kernel
theorem dd_M_part_41 : decode prog_7_method_28_code 41 = .ok (.goto 7, 3) := by decide +kernel
theorem dd_M_part_44 : decode prog_7_method_28_code 44 = .ok (.iload_n 1, 1) := by decide +kernel
theorem dd_M_part_45 : decode prog_7_method_28_code 45 = .ok (.iload 4, 2) := by decide +kernel
theorem dd_M_part_47 : decode prog_7_method_28_code 47 = .ok (.idiv, 1) := by decide +kernel
theorem dd_M_part_48 : decode prog_7_method_28_code 48 = .ok (.ireturn, 1) := by decide +kernel
theorem dd_M_agree_0 : decode prog_7_method_31_code 0 = .ok (.aload_n 0, 1) := by decide +kernel
theorem dd_M_agree_1 : decode prog_7_method_31_code 1 = .ok (.aload_n 0, 1) := by decide +kernel
theorem dd_M_agree_2 : decode prog_7_method_31_code 2 = .ok (.iload_n 1, 1) := by decide +kernel
theorem dd_M_agree_3 : decode prog_7_method_31_code 3 = .ok (.iload_n 2, 1) := by decide +kernel
theorem dd_M_agree_4 : decode prog_7_method_31_code 4 = .ok (.iload_n 3, 1) := by decide +kernel
theorem dd_M_agree_5 : decode prog_7_method_31_code 5 = .ok (.invokevirtual 121, 3) := by decide +kernel
theorem dd_M_agree_8 : decode prog_7_method_31_code 8 = .ok (.ifCond .eq 7, 3) := by decide +kernel
theorem dd_M_agree_11 : decode prog_7_method_31_code 11 = .ok (.iconst 1, 1) := by decide +kernel
theorem dd_M_agree_12 : decode prog_7_method_31_code 12 = .ok (.goto 4, 3) := by decide +kernel
theorem dd_M_agree_15 : decode prog_7_method_31_code 15 = .ok (.iconst 0, 1) := by decide +kernel
theorem dd_M_agree_16 : decode prog_7_method_31_code 16 = .ok (.putfield 53, 3) := by decide +kernel
theorem dd_M_agree_19 : decode prog_7_method_31_code 19 = .ok (.iconst 0, 1) := by decide +kernel
theorem dd_M_agree_20 : decode prog_7_method_31_code 20 = .ok (.istore 4, 2) := by decide +kernel
theorem dd_M_agree_22 : decode prog_7_method_31_code 22 = .ok (.iconst 0, 1) := by decide +kernel
theorem dd_M_agree_23 : decode prog_7_method_31_code 23 = .ok (.istore 5, 2) := by decide +kernel
theorem dd_M_agree_25 : decode prog_7_method_31_code 25 = .ok (.iconst 0, 1) := by decide +kernel
theorem dd_M_agree_26 : decode prog_7_method_31_code 26 = .ok (.istore 6, 2) := by decide +kernel
theorem dd_M_agree_28 : decode prog_7_method_31_code 28 = .ok (.iload 6, 2) := by decide +kernel
theorem dd_M_agree_30 : decode prog_7_method_31_code 30 = .ok (.bipush 20, 2) := by decide +kernel
theorem dd_M_agree_32 : decode prog_7_method_31_code 32 = .ok (.if_icmp .ge 85, 3) := by decide +kernel
theorem dd_M_agree_35 : decode prog_7_method_31_code 35 = .ok (.aload_n 0, 1) := by decide +kernel
theorem dd_M_agree_36 : decode prog_7_method_31_code 36 = .ok (.getfield 53, 3) := by decide +kernel
theorem dd_M_agree_39 : decode prog_7_method_31_code 39 = .ok (.ifCond .ne 78, 3) := by decide +kernel
theorem dd_M_agree_42 : decode prog_7_method_31_code 42 = .ok (.aload_n 0, 1) := by decide +kernel
theorem dd_M_agree_43 : decode prog_7_method_31_code 43 = .ok (.iload_n 1, 1) := by decide +kernel
theorem dd_M_agree_44 : decode prog_7_method_31_code 44 = .ok (.iload_n 2, 1) := by decide +kernel
theorem dd_M_agree_45 : decode prog_7_method_31_code 45 = .ok (.iload 6, 2) := by decide +kernel
theorem dd_M_agree_47 : decode prog_7_method_31_code 47 = .ok (.invokevirtual 124, 3) := by decide +kernel
theorem dd_M_agree_50 : decode prog_7_method_31_code 50 = .ok (.istore 7, 2) := by decide +kernel
theorem dd_M_agree_52 : decode prog_7_method_31_code 52 = .ok (.iload 7, 2) := by decide +kernel
theorem dd_M_agree_54 : decode prog_7_method_31_code 54 = .ok (.ifCond .eq 10, 3) := by decide +kernel
theorem dd_M_agree_57 : decode prog_7_method_31_code 57 = .ok (.iload 5, 2) := by decide +kernel
theorem dd_M_agree_59 : decode prog_7_method_31_code 59 = .ok (.iconst 1, 1) := by decide +kernel
theorem dd_M_agree_60 : decode prog_7_method_31_code 60 = .ok (.iadd, 1) := by decide +kernel
theorem dd_M_agree_61 : decode prog_7_method_31_code 61 = .ok (.goto 5, 3) := by decide +kernel
theorem dd_M_agree_64 : decode prog_7_method_31_code 64 = .ok (.iload 5, 2) := by decide +kernel
theorem dd_M_agree_66 : decode prog_7_method_31_code 66 = .ok (.istore 5, 2) := by decide +kernel
theorem dd_M_agree_68 : decode prog_7_method_31_code 68 = .ok (.iload 7, 2) := by decide +kernel
theorem dd_M_agree_70 : decode prog_7_method_31_code 70 = .ok (.ifCond .eq 37, 3) := by decide +kernel
theorem dd_M_agree_73 : decode prog_7_method_31_code 73 = .ok (.aload_n 0, 1) := by decide +kernel
theorem dd_M_agree_74 : decode prog_7_method_31_code 74 = .ok (.getfield 44, 3) := by decide +kernel
theorem dd_M_agree_77 : decode prog_7_method_31_code 77 = .ok (.bipush 20, 2) := by decide +kernel
theorem dd_M_agree_79 : decode prog_7_method_31_code 79 = .ok (.iload_n 1, 1) := by decide +kernel
theorem dd_M_agree_80 : decode prog_7_method_31_code 80 = .ok (.imul, 1) := by decide +kernel
theorem dd_M_agree_81 : decode prog_7_method_31_code 81 = .ok (.iload 6, 2) := by decide +kernel
theorem dd_M_agree_83 : decode prog_7_method_31_code 83 = .ok (.iadd, 1) := by decide +kernel
theorem dd_M_agree_84 : decode prog_7_method_31_code 84 = .ok (.iaload, 1) := by decide +kernel
theorem dd_M_agree_85 : decode prog_7_method_31_code 85 = .ok (.aload_n 0, 1) := by decide +kernel
theorem dd_M_agree_86 : decode prog_7_method_31_code 86 = .ok (.getfield 44, 3) := by decide +kernel
theorem dd_M_agree_89 : decode prog_7_method_31_code 89 = .ok (.bipush 20, 2) := by decide +kernel
theorem dd_M_agree_91 : decode prog_7_method_31_code 91 = .ok (.iload_n 2, 1) := by decide +kernel
theorem dd_M_agree_92 : decode prog_7_method_31_code 92 = .ok (.imul, 1) := by decide +kernel
theorem dd_M_agree_93 : decode prog_7_method_31_code 93 = .ok (.iload 6, 2) := by decide +kernel
theorem dd_M_agree_95 : decode prog_7_method_31_code 95 = .ok (.iadd, 1) := by decide +kernel
theorem dd_M_agree_96 : decode prog_7_method_31_code 96 = .ok (.iaload, 1) := by decide +kernel
theorem dd_M_agree_97 : decode prog_7_method_31_code 97 = .ok (.if_icmp .ne 10, 3) := by decide +kernel
theorem dd_M_agree_100 : decode prog_7_method_31_code 100 = .ok (.iload 4, 2) := by decide +kernel
theorem dd_M_agree_102 : decode prog_7_method_31_code 102 = .ok (.iconst 1, 1) := by decide +kernel
theorem dd_M_agree_103 : decode prog_7_method_31_code 103 = .ok (.iadd, 1) := by decide +kernel
theorem dd_M_agree_104 : decode prog_7_method_31_code 104 = .ok (.goto 5, 3) := by decide +kernel
theorem dd_M_agree_107 : decode prog_7_method_31_code 107 = .ok (.iload 4, 2) := by decide +kernel
theorem dd_M_agree_109 : decode prog_7_method_31_code 109 = .ok (.istore 4, 2) := by decide +kernel
theorem dd_M_agree_111 : decode prog_7_method_31_code 111 = .ok (.iinc 6 1, 3) := by decide +kernel
theorem dd_M_agree_114 : decode prog_7_method_31_code 114 = .ok (.goto (-86), 3) := by decide +kernel
theorem dd_M_agree_117 : decode prog_7_method_31_code 117 = .ok (.aload_n 0, 1) := by decide +kernel
theorem dd_M_agree_118 : decode prog_7_method_31_code 118 = .ok (.getfield 53, 3) := by decide +kernel
theorem dd_M_agree_121 : decode prog_7_method_31_code 121 = .ok (.ifCond .le 7, 3) := by decide +kernel
theorem dd_M_agree_124 : decode prog_7_method_31_code 124 = .ok (.iconst 0, 1) := by decide +kernel
theorem dd_M_agree_125 : decode prog_7_method_31_code 125 = .ok (.goto 11, 3) := by decide +kernel
theorem dd_M_agree_128 : decode prog_7_method_31_code 128 = .ok (.iload 4, 2) := by decide +kernel
theorem dd_M_agree_130 : decode prog_7_method_31_code 130 = .ok (.iload 5, 2) := by decide +kernel
theorem dd_M_agree_132 : decode prog_7_method_31_code 132 = .ok (.iload_n 3, 1) := by decide +kernel
theorem dd_M_agree_133 : decode prog_7_method_31_code 133 = .ok (.invokestatic 127, 3) := by decide +kernel
theorem dd_M_agree_136 : decode prog_7_method_31_code 136 = .ok (.ireturn, 1) := by decide +kernel
theorem dd_M_bias_0 : decode prog_7_method_32_code 0 = .ok (.aload_n 0, 1) := by decide +kernel
theorem dd_M_bias_1 : decode prog_7_method_32_code 1 = .ok (.aload_n 0, 1) := by decide +kernel
theorem dd_M_bias_2 : decode prog_7_method_32_code 2 = .ok (.iload_n 1, 1) := by decide +kernel
theorem dd_M_bias_3 : decode prog_7_method_32_code 3 = .ok (.iload_n 2, 1) := by decide +kernel
theorem dd_M_bias_4 : decode prog_7_method_32_code 4 = .ok (.iload_n 3, 1) := by decide +kernel
theorem dd_M_bias_5 : decode prog_7_method_32_code 5 = .ok (.invokevirtual 121, 3) := by decide +kernel
theorem dd_M_bias_8 : decode prog_7_method_32_code 8 = .ok (.ifCond .eq 7, 3) := by decide +kernel
theorem dd_M_bias_11 : decode prog_7_method_32_code 11 = .ok (.iconst 1, 1) := by decide +kernel
theorem dd_M_bias_12 : decode prog_7_method_32_code 12 = .ok (.goto 4, 3) := by decide +kernel
theorem dd_M_bias_15 : decode prog_7_method_32_code 15 = .ok (.iconst 0, 1) := by decide +kernel
theorem dd_M_bias_16 : decode prog_7_method_32_code 16 = .ok (.putfield 53, 3) := by decide +kernel
theorem dd_M_bias_19 : decode prog_7_method_32_code 19 = .ok (.iconst 0, 1) := by decide +kernel
theorem dd_M_bias_20 : decode prog_7_method_32_code 20 = .ok (.istore 4, 2) := by decide +kernel
theorem dd_M_bias_22 : decode prog_7_method_32_code 22 = .ok (.iconst 0, 1) := by decide +kernel
theorem dd_M_bias_23 : decode prog_7_method_32_code 23 = .ok (.istore 5, 2) := by decide +kernel
theorem dd_M_bias_25 : decode prog_7_method_32_code 25 = .ok (.iconst 0, 1) := by decide +kernel
theorem dd_M_bias_26 : decode prog_7_method_32_code 26 = .ok (.istore 6, 2) := by decide +kernel
theorem dd_M_bias_28 : decode prog_7_method_32_code 28 = .ok (.iload 6, 2) := by decide +kernel
theorem dd_M_bias_30 : decode prog_7_method_32_code 30 = .ok (.bipush 20, 2) := by decide +kernel
theorem dd_M_bias_32 : decode prog_7_method_32_code 32 = .ok (.if_icmp .ge 82, 3) := by decide +kernel
theorem dd_M_bias_35 : decode prog_7_method_32_code 35 = .ok (.aload_n 0, 1) := by decide +kernel
theorem dd_M_bias_36 : decode prog_7_method_32_code 36 = .ok (.getfield 53, 3) := by decide +kernel
theorem dd_M_bias_39 : decode prog_7_method_32_code 39 = .ok (.ifCond .ne 75, 3) := by decide +kernel
theorem dd_M_bias_42 : decode prog_7_method_32_code 42 = .ok (.aload_n 0, 1) := by decide +kernel
theorem dd_M_bias_43 : decode prog_7_method_32_code 43 = .ok (.iload_n 1, 1) := by decide +kernel
theorem dd_M_bias_44 : decode prog_7_method_32_code 44 = .ok (.iload_n 2, 1) := by decide +kernel
theorem dd_M_bias_45 : decode prog_7_method_32_code 45 = .ok (.iload 6, 2) := by decide +kernel
theorem dd_M_bias_47 : decode prog_7_method_32_code 47 = .ok (.invokevirtual 124, 3) := by decide +kernel
theorem dd_M_bias_50 : decode prog_7_method_32_code 50 = .ok (.istore 7, 2) := by decide +kernel
theorem dd_M_bias_52 : decode prog_7_method_32_code 52 = .ok (.iload 7, 2) := by decide +kernel
theorem dd_M_bias_54 : decode prog_7_method_32_code 54 = .ok (.ifCond .eq 10, 3) := by decide +kernel
theorem dd_M_bias_57 : decode prog_7_method_32_code 57 = .ok (.iload 5, 2) := by decide +kernel
theorem dd_M_bias_59 : decode prog_7_method_32_code 59 = .ok (.iconst 1, 1) := by decide +kernel
theorem dd_M_bias_60 : decode prog_7_method_32_code 60 = .ok (.iadd, 1) := by decide +kernel
theorem dd_M_bias_61 : decode prog_7_method_32_code 61 = .ok (.goto 5, 3) := by decide +kernel
theorem dd_M_bias_64 : decode prog_7_method_32_code 64 = .ok (.iload 5, 2) := by decide +kernel
theorem dd_M_bias_66 : decode prog_7_method_32_code 66 = .ok (.istore 5, 2) := by decide +kernel
theorem dd_M_bias_68 : decode prog_7_method_32_code 68 = .ok (.iload 7, 2) := by decide +kernel
theorem dd_M_bias_70 : decode prog_7_method_32_code 70 = .ok (.ifCond .eq 34, 3) := by decide +kernel
theorem dd_M_bias_73 : decode prog_7_method_32_code 73 = .ok (.iload 4, 2) := by decide +kernel
theorem dd_M_bias_75 : decode prog_7_method_32_code 75 = .ok (.aload_n 0, 1) := by decide +kernel
theorem dd_M_bias_76 : decode prog_7_method_32_code 76 = .ok (.getfield 44, 3) := by decide +kernel
theorem dd_M_bias_79 : decode prog_7_method_32_code 79 = .ok (.bipush 20, 2) := by decide +kernel
theorem dd_M_bias_81 : decode prog_7_method_32_code 81 = .ok (.iload_n 1, 1) := by decide +kernel
theorem dd_M_bias_82 : decode prog_7_method_32_code 82 = .ok (.imul, 1) := by decide +kernel
theorem dd_M_bias_83 : decode prog_7_method_32_code 83 = .ok (.iload 6, 2) := by decide +kernel
theorem dd_M_bias_85 : decode prog_7_method_32_code 85 = .ok (.iadd, 1) := by decide +kernel
theorem dd_M_bias_86 : decode prog_7_method_32_code 86 = .ok (.iaload, 1) := by decide +kernel
theorem dd_M_bias_87 : decode prog_7_method_32_code 87 = .ok (.iadd, 1) := by decide +kernel
theorem dd_M_bias_88 : decode prog_7_method_32_code 88 = .ok (.aload_n 0, 1) := by decide +kernel
theorem dd_M_bias_89 : decode prog_7_method_32_code 89 = .ok (.getfield 44, 3) := by decide +kernel
theorem dd_M_bias_92 : decode prog_7_method_32_code 92 = .ok (.bipush 20, 2) := by decide +kernel
theorem dd_M_bias_94 : decode prog_7_method_32_code 94 = .ok (.iload_n 2, 1) := by decide +kernel
theorem dd_M_bias_95 : decode prog_7_method_32_code 95 = .ok (.imul, 1) := by decide +kernel
theorem dd_M_bias_96 : decode prog_7_method_32_code 96 = .ok (.iload 6, 2) := by decide +kernel
theorem dd_M_bias_98 : decode prog_7_method_32_code 98 = .ok (.iadd, 1) := by decide +kernel
theorem dd_M_bias_99 : decode prog_7_method_32_code 99 = .ok (.iaload, 1) := by decide +kernel
theorem dd_M_bias_100 : decode prog_7_method_32_code 100 = .ok (.isub, 1) := by decide +kernel
theorem dd_M_bias_101 : decode prog_7_method_32_code 101 = .ok (.goto 5, 3) := by decide +kernel
theorem dd_M_bias_104 : decode prog_7_method_32_code 104 = .ok (.iload 4, 2) := by decide +kernel
theorem dd_M_bias_106 : decode prog_7_method_32_code 106 = .ok (.istore 4, 2) := by decide +kernel
theorem dd_M_bias_108 : decode prog_7_method_32_code 108 = .ok (.iinc 6 1, 3) := by decide +kernel
theorem dd_M_bias_111 : decode prog_7_method_32_code 111 = .ok (.goto (-83), 3) := by decide +kernel
theorem dd_M_bias_114 : decode prog_7_method_32_code 114 = .ok (.aload_n 0, 1) := by decide +kernel
theorem dd_M_bias_115 : decode prog_7_method_32_code 115 = .ok (.getfield 53, 3) := by decide +kernel
theorem dd_M_bias_118 : decode prog_7_method_32_code 118 = .ok (.ifCond .le 7, 3) := by decide +kernel
theorem dd_M_bias_121 : decode prog_7_method_32_code 121 = .ok (.iconst 0, 1) := by decide +kernel
theorem dd_M_bias_122 : decode prog_7_method_32_code 122 = .ok (.goto 11, 3) := by decide +kernel
theorem dd_M_bias_125 : decode prog_7_method_32_code 125 = .ok (.iload 4, 2) := by decide +kernel
theorem dd_M_bias_127 : decode prog_7_method_32_code 127 = .ok (.iload 5, 2) := by decide +kernel
theorem dd_M_bias_129 : decode prog_7_method_32_code 129 = .ok (.iload_n 3, 1) := by decide +kernel
theorem dd_M_bias_130 : decode prog_7_method_32_code 130 = .ok (.invokestatic 127, 3) := by decide +kernel
theorem dd_M_bias_133 : decode prog_7_method_32_code 133 = .ok (.ireturn, 1) := by decide +kernel
theorem dd_M_toldOf_0 : decode prog_7_method_33_code 0 = .ok (.iconst (-1), 1) := by decide +kernel
theorem dd_M_toldOf_1 : decode prog_7_method_33_code 1 = .ok (.istore_n 2, 1) := by decide +kernel
theorem dd_M_toldOf_2 : decode prog_7_method_33_code 2 = .ok (.iconst 0, 1) := by decide +kernel
theorem dd_M_toldOf_3 : decode prog_7_method_33_code 3 = .ok (.istore_n 3, 1) := by decide +kernel
theorem dd_M_toldOf_4 : decode prog_7_method_33_code 4 = .ok (.iconst 0, 1) := by decide +kernel
theorem dd_M_toldOf_5 : decode prog_7_method_33_code 5 = .ok (.istore 4, 2) := by decide +kernel
theorem dd_M_toldOf_7 : decode prog_7_method_33_code 7 = .ok (.iload 4, 2) := by decide +kernel
theorem dd_M_toldOf_9 : decode prog_7_method_33_code 9 = .ok (.bipush 60, 2) := by decide +kernel
theorem dd_M_toldOf_11 : decode prog_7_method_33_code 11 = .ok (.if_icmp .gt 83, 3) := by decide +kernel
theorem dd_M_toldOf_14 : decode prog_7_method_33_code 14 = .ok (.iconst 0, 1) := by decide +kernel
theorem dd_M_toldOf_15 : decode prog_7_method_33_code 15 = .ok (.istore 5, 2) := by decide +kernel
theorem dd_M_toldOf_17 : decode prog_7_method_33_code 17 = .ok (.iconst 0, 1) := by decide +kernel
theorem dd_M_toldOf_18 : decode prog_7_method_33_code 18 = .ok (.istore 6, 2) := by decide +kernel
theorem dd_M_toldOf_20 : decode prog_7_method_33_code 20 = .ok (.iload 6, 2) := by decide +kernel
theorem dd_M_toldOf_22 : decode prog_7_method_33_code 22 = .ok (.iconst 4, 1) := by decide +kernel
theorem dd_M_toldOf_23 : decode prog_7_method_33_code 23 = .ok (.if_icmp .ge 39, 3) := by decide +kernel
theorem dd_M_toldOf_26 : decode prog_7_method_33_code 26 = .ok (.aload_n 0, 1) := by decide +kernel
theorem dd_M_toldOf_27 : decode prog_7_method_33_code 27 = .ok (.getfield 44, 3) := by decide +kernel
theorem dd_M_toldOf_30 : decode prog_7_method_33_code 30 = .ok (.bipush 20, 2) := by decide +kernel
theorem dd_M_toldOf_32 : decode prog_7_method_33_code 32 = .ok (.iload 6, 2) := by decide +kernel
theorem dd_M_toldOf_34 : decode prog_7_method_33_code 34 = .ok (.imul, 1) := by decide +kernel
theorem dd_M_toldOf_35 : decode prog_7_method_33_code 35 = .ok (.iload_n 1, 1) := by decide +kernel
theorem dd_M_toldOf_36 : decode prog_7_method_33_code 36 = .ok (.iadd, 1) := by decide +kernel
theorem dd_M_toldOf_37 : decode prog_7_method_33_code 37 = .ok (.iaload, 1) := by decide +kernel
theorem dd_M_toldOf_38 : decode prog_7_method_33_code 38 = .ok (.iload 4, 2) := by decide +kernel
theorem dd_M_toldOf_40 : decode prog_7_method_33_code 40 = .ok (.iconst 1, 1) := by decide +kernel
theorem dd_M_toldOf_41 : decode prog_7_method_33_code 41 = .ok (.iadd, 1) := by decide +kernel
theorem dd_M_toldOf_42 : decode prog_7_method_33_code 42 = .ok (.if_icmp .ne 10, 3) := by decide +kernel
theorem dd_M_toldOf_45 : decode prog_7_method_33_code 45 = .ok (.iload 5, 2) := by decide +kernel
theorem dd_M_toldOf_47 : decode prog_7_method_33_code 47 = .ok (.iconst 1, 1) := by decide +kernel
theorem dd_M_toldOf_48 : decode prog_7_method_33_code 48 = .ok (.iadd, 1) := by decide +kernel
theorem dd_M_toldOf_49 : decode prog_7_method_33_code 49 = .ok (.goto 5, 3) := by decide +kernel
theorem dd_M_toldOf_52 : decode prog_7_method_33_code 52 = .ok (.iload 5, 2) := by decide +kernel
theorem dd_M_toldOf_54 : decode prog_7_method_33_code 54 = .ok (.istore 5, 2) := by decide +kernel
theorem dd_M_toldOf_56 : decode prog_7_method_33_code 56 = .ok (.iinc 6 1, 3) := by decide +kernel
theorem dd_M_toldOf_59 : decode prog_7_method_33_code 59 = .ok (.goto (-39), 3) := by decide +kernel
theorem dd_M_toldOf_62 : decode prog_7_method_33_code 62 = .ok (.iload 5, 2) := by decide +kernel
theorem dd_M_toldOf_64 : decode prog_7_method_33_code 64 = .ok (.iload_n 3, 1) := by decide +kernel
theorem dd_M_toldOf_65 : decode prog_7_method_33_code 65 = .ok (.if_icmp .le 8, 3) := by decide +kernel
theorem dd_M_toldOf_68 : decode prog_7_method_33_code 68 = .ok (.iload 4, 2) := by decide +kernel
theorem dd_M_toldOf_70 : decode prog_7_method_33_code 70 = .ok (.goto 4, 3) := by decide +kernel
theorem dd_M_toldOf_73 : decode prog_7_method_33_code 73 = .ok (.iload_n 2, 1) := by decide +kernel
theorem dd_M_toldOf_74 : decode prog_7_method_33_code 74 = .ok (.istore_n 2, 1) := by decide +kernel
theorem dd_M_toldOf_75 : decode prog_7_method_33_code 75 = .ok (.iload 5, 2) := by decide +kernel
theorem dd_M_toldOf_77 : decode prog_7_method_33_code 77 = .ok (.iload_n 3, 1) := by decide +kernel
theorem dd_M_toldOf_78 : decode prog_7_method_33_code 78 = .ok (.if_icmp .le 8, 3) := by decide +kernel
theorem dd_M_toldOf_81 : decode prog_7_method_33_code 81 = .ok (.iload 5, 2) := by decide +kernel
theorem dd_M_toldOf_83 : decode prog_7_method_33_code 83 = .ok (.goto 4, 3) := by decide +kernel
theorem dd_M_toldOf_86 : decode prog_7_method_33_code 86 = .ok (.iload_n 3, 1) := by decide +kernel
theorem dd_M_toldOf_87 : decode prog_7_method_33_code 87 = .ok (.istore_n 3, 1) := by decide +kernel
theorem dd_M_toldOf_88 : decode prog_7_method_33_code 88 = .ok (.iinc 4 1, 3) := by decide +kernel
theorem dd_M_toldOf_91 : decode prog_7_method_33_code 91 = .ok (.goto (-84), 3) := by decide +kernel
theorem dd_M_toldOf_94 : decode prog_7_method_33_code 94 = .ok (.iload_n 2, 1) := by decide +kernel
theorem dd_M_toldOf_95 : decode prog_7_method_33_code 95 = .ok (.ireturn, 1) := by decide +kernel
theorem dd_M_told_0 : decode prog_7_method_34_code 0 = .ok (.aload_n 0, 1) := by decide +kernel
theorem dd_M_told_1 : decode prog_7_method_34_code 1 = .ok (.iload_n 1, 1) := by decide +kernel
theorem dd_M_told_2 : decode prog_7_method_34_code 2 = .ok (.iconst 0, 1) := by decide +kernel
theorem dd_M_told_3 : decode prog_7_method_34_code 3 = .ok (.bipush 19, 2) := by decide +kernel
theorem dd_M_told_5 : decode prog_7_method_34_code 5 = .ok (.invokestatic 56, 3) := by decide +kernel
theorem dd_M_told_8 : decode prog_7_method_34_code 8 = .ok (.ifCond .ne 7, 3) := by decide +kernel
theorem dd_M_told_11 : decode prog_7_method_34_code 11 = .ok (.iconst 1, 1) := by decide +kernel
theorem dd_M_told_12 : decode prog_7_method_34_code 12 = .ok (.goto 4, 3) := by decide +kernel
theorem dd_M_told_15 : decode prog_7_method_34_code 15 = .ok (.iconst 0, 1) := by decide +kernel
theorem dd_M_told_16 : decode prog_7_method_34_code 16 = .ok (.putfield 53, 3) := by decide +kernel
theorem dd_M_told_19 : decode prog_7_method_34_code 19 = .ok (.aload_n 0, 1) := by decide +kernel
theorem dd_M_told_20 : decode prog_7_method_34_code 20 = .ok (.getfield 53, 3) := by decide +kernel
theorem dd_M_told_23 : decode prog_7_method_34_code 23 = .ok (.ifCond .le 7, 3) := by decide +kernel
theorem dd_M_told_26 : decode prog_7_method_34_code 26 = .ok (.iconst 0, 1) := by decide +kernel
theorem dd_M_told_27 : decode prog_7_method_34_code 27 = .ok (.goto 8, 3) := by decide +kernel
theorem dd_M_told_30 : decode prog_7_method_34_code 30 = .ok (.aload_n 0, 1) := by decide +kernel
theorem dd_M_told_31 : decode prog_7_method_34_code 31 = .ok (.iload_n 1, 1) := by decide +kernel
theorem dd_M_told_32 : decode prog_7_method_34_code 32 = .ok (.invokevirtual 131, 3) := by decide +kernel
theorem dd_M_told_35 : decode prog_7_method_34_code 35 = .ok (.ireturn, 1) := by decide +kernel
theorem dd_M_rightOf_0 : decode prog_7_method_35_code 0 = .ok (.iconst 0, 1) := by decide +kernel
theorem dd_M_rightOf_1 : decode prog_7_method_35_code 1 = .ok (.istore_n 2, 1) := by decide +kernel
theorem dd_M_rightOf_2 : decode prog_7_method_35_code 2 = .ok (.iconst 0, 1) := by decide +kernel
theorem dd_M_rightOf_3 : decode prog_7_method_35_code 3 = .ok (.istore_n 3, 1) := by decide +kernel
theorem dd_M_rightOf_4 : decode prog_7_method_35_code 4 = .ok (.iload_n 3, 1) := by decide +kernel
theorem dd_M_rightOf_5 : decode prog_7_method_35_code 5 = .ok (.bipush 20, 2) := by decide +kernel
theorem dd_M_rightOf_7 : decode prog_7_method_35_code 7 = .ok (.if_icmp .ge 47, 3) := by decide +kernel
theorem dd_M_rightOf_10 : decode prog_7_method_35_code 10 = .ok (.aload_n 0, 1) := by decide +kernel
theorem dd_M_rightOf_11 : decode prog_7_method_35_code 11 = .ok (.getfield 44, 3) := by decide +kernel
theorem dd_M_rightOf_14 : decode prog_7_method_35_code 14 = .ok (.bipush 20, 2) := by decide +kernel
theorem dd_M_rightOf_16 : decode prog_7_method_35_code 16 = .ok (.iload_n 1, 1) := by decide +kernel
theorem dd_M_rightOf_17 : decode prog_7_method_35_code 17 = .ok (.imul, 1) := by decide +kernel
theorem dd_M_rightOf_18 : decode prog_7_method_35_code 18 = .ok (.iload_n 3, 1) := by decide +kernel
theorem dd_M_rightOf_19 : decode prog_7_method_35_code 19 = .ok (.iadd, 1) := by decide +kernel
theorem dd_M_rightOf_20 : decode prog_7_method_35_code 20 = .ok (.iaload, 1) := by decide +kernel
theorem dd_M_rightOf_21 : decode prog_7_method_35_code 21 = .ok (.istore 4, 2) := by decide +kernel
theorem dd_M_rightOf_23 : decode prog_7_method_35_code 23 = .ok (.iload 4, 2) := by decide +kernel
theorem dd_M_rightOf_25 : decode prog_7_method_35_code 25 = .ok (.ifCond .le 21, 3) := by decide +kernel
theorem dd_M_rightOf_28 : decode prog_7_method_35_code 28 = .ok (.iload 4, 2) := by decide +kernel
theorem dd_M_rightOf_30 : decode prog_7_method_35_code 30 = .ok (.iconst 1, 1) := by decide +kernel
theorem dd_M_rightOf_31 : decode prog_7_method_35_code 31 = .ok (.isub, 1) := by decide +kernel
theorem dd_M_rightOf_32 : decode prog_7_method_35_code 32 = .ok (.aload_n 0, 1) := by decide +kernel
theorem dd_M_rightOf_33 : decode prog_7_method_35_code 33 = .ok (.iload_n 3, 1) := by decide +kernel
theorem dd_M_rightOf_34 : decode prog_7_method_35_code 34 = .ok (.invokevirtual 131, 3) := by decide +kernel
theorem dd_M_rightOf_37 : decode prog_7_method_35_code 37 = .ok (.if_icmp .ne 9, 3) := by decide +kernel
theorem dd_M_rightOf_40 : decode prog_7_method_35_code 40 = .ok (.iload_n 2, 1) := by decide +kernel
theorem dd_M_rightOf_41 : decode prog_7_method_35_code 41 = .ok (.iconst 1, 1) := by decide +kernel
theorem dd_M_rightOf_42 : decode prog_7_method_35_code 42 = .ok (.iadd, 1) := by decide +kernel
theorem dd_M_rightOf_43 : decode prog_7_method_35_code 43 = .ok (.goto 4, 3) := by decide +kernel
theorem dd_M_rightOf_46 : decode prog_7_method_35_code 46 = .ok (.iload_n 2, 1) := by decide +kernel
theorem dd_M_rightOf_47 : decode prog_7_method_35_code 47 = .ok (.istore_n 2, 1) := by decide +kernel
theorem dd_M_rightOf_48 : decode prog_7_method_35_code 48 = .ok (.iinc 3 1, 3) := by decide +kernel
theorem dd_M_rightOf_51 : decode prog_7_method_35_code 51 = .ok (.goto (-47), 3) := by decide +kernel
theorem dd_M_rightOf_54 : decode prog_7_method_35_code 54 = .ok (.iload_n 2, 1) := by decide +kernel
theorem dd_M_rightOf_55 : decode prog_7_method_35_code 55 = .ok (.ireturn, 1) := by decide +kernel
theorem dd_M_right_0 : decode prog_7_method_36_code 0 = .ok (.aload_n 0, 1) := by decide +kernel
theorem dd_M_right_1 : decode prog_7_method_36_code 1 = .ok (.iload_n 1, 1) := by decide +kernel
theorem dd_M_right_2 : decode prog_7_method_36_code 2 = .ok (.iconst 0, 1) := by decide +kernel
theorem dd_M_right_3 : decode prog_7_method_36_code 3 = .ok (.iconst 3, 1) := by decide +kernel
theorem dd_M_right_4 : decode prog_7_method_36_code 4 = .ok (.invokestatic 56, 3) := by decide +kernel
theorem dd_M_right_7 : decode prog_7_method_36_code 7 = .ok (.ifCond .ne 7, 3) := by decide +kernel
theorem dd_M_right_10 : decode prog_7_method_36_code 10 = .ok (.iconst 1, 1) := by decide +kernel
theorem dd_M_right_11 : decode prog_7_method_36_code 11 = .ok (.goto 4, 3) := by decide +kernel
theorem dd_M_right_14 : decode prog_7_method_36_code 14 = .ok (.iconst 0, 1) := by decide +kernel
theorem dd_M_right_15 : decode prog_7_method_36_code 15 = .ok (.putfield 53, 3) := by decide +kernel
theorem dd_M_right_18 : decode prog_7_method_36_code 18 = .ok (.aload_n 0, 1) := by decide +kernel
theorem dd_M_right_19 : decode prog_7_method_36_code 19 = .ok (.getfield 53, 3) := by decide +kernel
theorem dd_M_right_22 : decode prog_7_method_36_code 22 = .ok (.ifCond .le 7, 3) := by decide +kernel
theorem dd_M_right_25 : decode prog_7_method_36_code 25 = .ok (.iconst 0, 1) := by decide +kernel
theorem dd_M_right_26 : decode prog_7_method_36_code 26 = .ok (.goto 8, 3) := by decide +kernel
theorem dd_M_right_29 : decode prog_7_method_36_code 29 = .ok (.aload_n 0, 1) := by decide +kernel
theorem dd_M_right_30 : decode prog_7_method_36_code 30 = .ok (.iload_n 1, 1) := by decide +kernel
theorem dd_M_right_31 : decode prog_7_method_36_code 31 = .ok (.invokevirtual 134, 3) := by decide +kernel
theorem dd_M_right_34 : decode prog_7_method_36_code 34 = .ok (.ireturn, 1) := by decide +kernel
theorem dd_M_best_0 : decode prog_7_method_37_code 0 = .ok (.aload_n 0, 1) := by decide +kernel
theorem dd_M_best_1 : decode prog_7_method_37_code 1 = .ok (.iload_n 1, 1) := by decide +kernel
theorem dd_M_best_2 : decode prog_7_method_37_code 2 = .ok (.iconst 0, 1) := by decide +kernel
theorem dd_M_best_3 : decode prog_7_method_37_code 3 = .ok (.iconst 3, 1) := by decide +kernel
theorem dd_M_best_4 : decode prog_7_method_37_code 4 = .ok (.invokestatic 56, 3) := by decide +kernel
theorem dd_M_best_7 : decode prog_7_method_37_code 7 = .ok (.ifCond .ne 7, 3) := by decide +kernel
theorem dd_M_best_10 : decode prog_7_method_37_code 10 = .ok (.iconst 1, 1) := by decide +kernel
theorem dd_M_best_11 : decode prog_7_method_37_code 11 = .ok (.goto 4, 3) := by decide +kernel
theorem dd_M_best_14 : decode prog_7_method_37_code 14 = .ok (.iconst 0, 1) := by decide +kernel
theorem dd_M_best_15 : decode prog_7_method_37_code 15 = .ok (.putfield 53, 3) := by decide +kernel
theorem dd_M_best_18 : decode prog_7_method_37_code 18 = .ok (.iconst 0, 1) := by decide +kernel
theorem dd_M_best_19 : decode prog_7_method_37_code 19 = .ok (.istore_n 2, 1) := by decide +kernel
theorem dd_M_best_20 : decode prog_7_method_37_code 20 = .ok (.iload_n 2, 1) := by decide +kernel
theorem dd_M_best_21 : decode prog_7_method_37_code 21 = .ok (.iconst 4, 1) := by decide +kernel
theorem dd_M_best_22 : decode prog_7_method_37_code 22 = .ok (.if_icmp .ge 82, 3) := by decide +kernel
theorem dd_M_best_25 : decode prog_7_method_37_code 25 = .ok (.aload_n 0, 1) := by decide +kernel
theorem dd_M_best_26 : decode prog_7_method_37_code 26 = .ok (.getfield 53, 3) := by decide +kernel
theorem dd_M_best_29 : decode prog_7_method_37_code 29 = .ok (.ifCond .ne 75, 3) := by decide +kernel
theorem dd_M_best_32 : decode prog_7_method_37_code 32 = .ok (.iconst 0, 1) := by decide +kernel
theorem dd_M_best_33 : decode prog_7_method_37_code 33 = .ok (.istore_n 3, 1) := by decide +kernel
theorem dd_M_best_34 : decode prog_7_method_37_code 34 = .ok (.iconst 0, 1) := by decide +kernel
theorem dd_M_best_35 : decode prog_7_method_37_code 35 = .ok (.istore 4, 2) := by decide +kernel
theorem dd_M_best_37 : decode prog_7_method_37_code 37 = .ok (.iload 4, 2) := by decide +kernel
theorem dd_M_best_39 : decode prog_7_method_37_code 39 = .ok (.iconst 4, 1) := by decide +kernel
theorem dd_M_best_40 : decode prog_7_method_37_code 40 = .ok (.if_icmp .ge 51, 3) := by decide +kernel
theorem dd_M_best_43 : decode prog_7_method_37_code 43 = .ok (.aload_n 0, 1) := by decide +kernel
theorem dd_M_best_44 : decode prog_7_method_37_code 44 = .ok (.iload 4, 2) := by decide +kernel
theorem dd_M_best_46 : decode prog_7_method_37_code 46 = .ok (.invokevirtual 134, 3) := by decide +kernel
theorem dd_M_best_49 : decode prog_7_method_37_code 49 = .ok (.aload_n 0, 1) := by decide +kernel
theorem dd_M_best_50 : decode prog_7_method_37_code 50 = .ok (.iload_n 2, 1) := by decide +kernel
theorem dd_M_best_51 : decode prog_7_method_37_code 51 = .ok (.invokevirtual 134, 3) := by decide +kernel
theorem dd_M_best_54 : decode prog_7_method_37_code 54 = .ok (.if_icmp .gt 23, 3) := by decide +kernel
theorem dd_M_best_57 : decode prog_7_method_37_code 57 = .ok (.aload_n 0, 1) := by decide +kernel
theorem dd_M_best_58 : decode prog_7_method_37_code 58 = .ok (.iload 4, 2) := by decide +kernel
theorem dd_M_best_60 : decode prog_7_method_37_code 60 = .ok (.invokevirtual 134, 3) := by decide +kernel
theorem dd_M_best_63 : decode prog_7_method_37_code 63 = .ok (.aload_n 0, 1) := by decide +kernel
theorem dd_M_best_64 : decode prog_7_method_37_code 64 = .ok (.iload_n 2, 1) := by decide +kernel
theorem dd_M_best_65 : decode prog_7_method_37_code 65 = .ok (.invokevirtual 134, 3) := by decide +kernel
theorem dd_M_best_68 : decode prog_7_method_37_code 68 = .ok (.if_icmp .ne 15, 3) := by decide +kernel
theorem dd_M_best_71 : decode prog_7_method_37_code 71 = .ok (.iload 4, 2) := by decide +kernel
theorem dd_M_best_73 : decode prog_7_method_37_code 73 = .ok (.iload_n 2, 1) := by decide +kernel
theorem dd_M_best_74 : decode prog_7_method_37_code 74 = .ok (.if_icmp .ge 9, 3) := by decide +kernel
theorem dd_M_best_77 : decode prog_7_method_37_code 77 = .ok (.iload_n 3, 1) := by decide +kernel
theorem dd_M_best_78 : decode prog_7_method_37_code 78 = .ok (.iconst 1, 1) := by decide +kernel
theorem dd_M_best_79 : decode prog_7_method_37_code 79 = .ok (.iadd, 1) := by decide +kernel
theorem dd_M_best_80 : decode prog_7_method_37_code 80 = .ok (.goto 4, 3) := by decide +kernel
theorem dd_M_best_83 : decode prog_7_method_37_code 83 = .ok (.iload_n 3, 1) := by decide +kernel
theorem dd_M_best_84 : decode prog_7_method_37_code 84 = .ok (.istore_n 3, 1) := by decide +kernel
theorem dd_M_best_85 : decode prog_7_method_37_code 85 = .ok (.iinc 4 1, 3) := by decide +kernel
theorem dd_M_best_88 : decode prog_7_method_37_code 88 = .ok (.goto (-51), 3) := by decide +kernel
theorem dd_M_best_91 : decode prog_7_method_37_code 91 = .ok (.iload_n 3, 1) := by decide +kernel
theorem dd_M_best_92 : decode prog_7_method_37_code 92 = .ok (.iload_n 1, 1) := by decide +kernel
theorem dd_M_best_93 : decode prog_7_method_37_code 93 = .ok (.if_icmp .ne 5, 3) := by decide +kernel
theorem dd_M_best_96 : decode prog_7_method_37_code 96 = .ok (.iload_n 2, 1) := by decide +kernel
theorem dd_M_best_97 : decode prog_7_method_37_code 97 = .ok (.ireturn, 1) := by decide +kernel
theorem dd_M_best_98 : decode prog_7_method_37_code 98 = .ok (.iinc 2 1, 3) := by decide +kernel
theorem dd_M_best_101 : decode prog_7_method_37_code 101 = .ok (.goto (-81), 3) := by decide +kernel
theorem dd_M_best_104 : decode prog_7_method_37_code 104 = .ok (.iconst 0, 1) := by decide +kernel
theorem dd_M_best_105 : decode prog_7_method_37_code 105 = .ok (.ireturn, 1) := by decide +kernel
theorem dd_M_age_0 : decode prog_7_method_38_code 0 = .ok (.aload_n 0, 1) := by decide +kernel
theorem dd_M_age_1 : decode prog_7_method_38_code 1 = .ok (.iload_n 1, 1) := by decide +kernel
theorem dd_M_age_2 : decode prog_7_method_38_code 2 = .ok (.iconst 0, 1) := by decide +kernel
theorem dd_M_age_3 : decode prog_7_method_38_code 3 = .ok (.bipush 19, 2) := by decide +kernel
theorem dd_M_age_5 : decode prog_7_method_38_code 5 = .ok (.invokestatic 56, 3) := by decide +kernel
theorem dd_M_age_8 : decode prog_7_method_38_code 8 = .ok (.ifCond .ne 7, 3) := by decide +kernel
theorem dd_M_age_11 : decode prog_7_method_38_code 11 = .ok (.iconst 1, 1) := by decide +kernel
theorem dd_M_age_12 : decode prog_7_method_38_code 12 = .ok (.goto 30, 3) := by decide +kernel
theorem dd_M_age_15 : decode prog_7_method_38_code 15 = .ok (.iload_n 2, 1) := by decide +kernel
theorem dd_M_age_16 : decode prog_7_method_38_code 16 = .ok (.iconst 0, 1) := by decide +kernel
theorem dd_M_age_17 : decode prog_7_method_38_code 17 = .ok (.sipush 364, 3) := by decide +kernel
theorem dd_M_age_20 : decode prog_7_method_38_code 20 = .ok (.invokestatic 56, 3) := by decide +kernel
theorem dd_M_age_23 : decode prog_7_method_38_code 23 = .ok (.ifCond .eq 14, 3) := by decide +kernel
theorem dd_M_age_26 : decode prog_7_method_38_code 26 = .ok (.iload_n 3, 1) := by decide +kernel
theorem dd_M_age_27 : decode prog_7_method_38_code 27 = .ok (.iconst 0, 1) := by decide +kernel
theorem dd_M_age_28 : decode prog_7_method_38_code 28 = .ok (.sipush 364, 3) := by decide +kernel
theorem dd_M_age_31 : decode prog_7_method_38_code 31 = .ok (.invokestatic 56, 3) := by decide +kernel
theorem dd_M_age_34 : decode prog_7_method_38_code 34 = .ok (.ifCond .ne 7, 3) := by decide +kernel
theorem dd_M_age_37 : decode prog_7_method_38_code 37 = .ok (.iconst 2, 1) := by decide +kernel
theorem dd_M_age_38 : decode prog_7_method_38_code 38 = .ok (.goto 4, 3) := by decide +kernel
theorem dd_M_age_41 : decode prog_7_method_38_code 41 = .ok (.iconst 0, 1) := by decide +kernel
theorem dd_M_age_42 : decode prog_7_method_38_code 42 = .ok (.putfield 53, 3) := by decide +kernel
theorem dd_M_age_45 : decode prog_7_method_38_code 45 = .ok (.aload_n 0, 1) := by decide +kernel
theorem dd_M_age_46 : decode prog_7_method_38_code 46 = .ok (.getfield 53, 3) := by decide +kernel
theorem dd_M_age_49 : decode prog_7_method_38_code 49 = .ok (.ifCond .le 5, 3) := by decide +kernel
theorem dd_M_age_52 : decode prog_7_method_38_code 52 = .ok (.iconst 0, 1) := by decide +kernel
theorem dd_M_age_53 : decode prog_7_method_38_code 53 = .ok (.ireturn, 1) := by decide +kernel
theorem dd_M_age_54 : decode prog_7_method_38_code 54 = .ok (.aload_n 0, 1) := by decide +kernel
theorem dd_M_age_55 : decode prog_7_method_38_code 55 = .ok (.iload_n 1, 1) := by decide +kernel
theorem dd_M_age_56 : decode prog_7_method_38_code 56 = .ok (.invokevirtual 131, 3) := by decide +kernel
theorem dd_M_age_59 : decode prog_7_method_38_code 59 = .ok (.istore 4, 2) := by decide +kernel
theorem dd_M_age_61 : decode prog_7_method_38_code 61 = .ok (.iload 4, 2) := by decide +kernel
theorem dd_M_age_63 : decode prog_7_method_38_code 63 = .ok (.ifCond .le 15, 3) := by decide +kernel
theorem dd_M_age_66 : decode prog_7_method_38_code 66 = .ok (.iload_n 2, 1) := by decide +kernel
theorem dd_M_age_67 : decode prog_7_method_38_code 67 = .ok (.iload_n 3, 1) := by decide +kernel
theorem dd_M_age_68 : decode prog_7_method_38_code 68 = .ok (.if_icmp .ge 10, 3) := by decide +kernel
theorem dd_M_age_71 : decode prog_7_method_38_code 71 = .ok (.iload 4, 2) := by decide +kernel
theorem dd_M_age_73 : decode prog_7_method_38_code 73 = .ok (.iconst 1, 1) := by decide +kernel
theorem dd_M_age_74 : decode prog_7_method_38_code 74 = .ok (.isub, 1) := by decide +kernel
theorem dd_M_age_75 : decode prog_7_method_38_code 75 = .ok (.goto 5, 3) := by decide +kernel
theorem dd_M_age_78 : decode prog_7_method_38_code 78 = .ok (.iload 4, 2) := by decide +kernel
theorem dd_M_age_80 : decode prog_7_method_38_code 80 = .ok (.ireturn, 1) := by decide +kernel
theorem dd_M_twin_0 : decode prog_7_method_39_code 0 = .ok (.aload_n 0, 1) := by decide +kernel
theorem dd_M_twin_1 : decode prog_7_method_39_code 1 = .ok (.aload_n 0, 1) := by decide +kernel
theorem dd_M_twin_2 : decode prog_7_method_39_code 2 = .ok (.iload_n 1, 1) := by decide +kernel
theorem dd_M_twin_3 : decode prog_7_method_39_code 3 = .ok (.invokevirtual 87, 3) := by decide +kernel
theorem dd_M_twin_6 : decode prog_7_method_39_code 6 = .ok (.ifCond .ne 11, 3) := by decide +kernel
theorem dd_M_twin_9 : decode prog_7_method_39_code 9 = .ok (.aload_n 0, 1) := by decide +kernel
theorem dd_M_twin_10 : decode prog_7_method_39_code 10 = .ok (.iload_n 2, 1) := by decide +kernel
theorem dd_M_twin_11 : decode prog_7_method_39_code 11 = .ok (.invokevirtual 87, 3) := by decide +kernel
theorem dd_M_twin_14 : decode prog_7_method_39_code 14 = .ok (.ifCond .eq 7, 3) := by decide +kernel
theorem dd_M_twin_17 : decode prog_7_method_39_code 17 = .ok (.iconst 1, 1) := by decide +kernel
theorem dd_M_twin_18 : decode prog_7_method_39_code 18 = .ok (.goto 4, 3) := by decide +kernel
theorem dd_M_twin_21 : decode prog_7_method_39_code 21 = .ok (.iconst 0, 1) := by decide +kernel
theorem dd_M_twin_22 : decode prog_7_method_39_code 22 = .ok (.putfield 53, 3) := by decide +kernel
theorem dd_M_twin_25 : decode prog_7_method_39_code 25 = .ok (.aload_n 0, 1) := by decide +kernel
theorem dd_M_twin_26 : decode prog_7_method_39_code 26 = .ok (.getfield 53, 3) := by decide +kernel
theorem dd_M_twin_29 : decode prog_7_method_39_code 29 = .ok (.ifCond .le 5, 3) := by decide +kernel
theorem dd_M_twin_32 : decode prog_7_method_39_code 32 = .ok (.iconst 0, 1) := by decide +kernel
theorem dd_M_twin_33 : decode prog_7_method_39_code 33 = .ok (.ireturn, 1) := by decide +kernel
theorem dd_M_twin_34 : decode prog_7_method_39_code 34 = .ok (.aload_n 0, 1) := by decide +kernel
theorem dd_M_twin_35 : decode prog_7_method_39_code 35 = .ok (.iload_n 2, 1) := by decide +kernel
theorem dd_M_twin_36 : decode prog_7_method_39_code 36 = .ok (.invokevirtual 91, 3) := by decide +kernel
theorem dd_M_twin_39 : decode prog_7_method_39_code 39 = .ok (.aload_n 0, 1) := by decide +kernel
theorem dd_M_twin_40 : decode prog_7_method_39_code 40 = .ok (.getfield 77, 3) := by decide +kernel
theorem dd_M_twin_43 : decode prog_7_method_39_code 43 = .ok (.istore_n 3, 1) := by decide +kernel
theorem dd_M_twin_44 : decode prog_7_method_39_code 44 = .ok (.iconst 0, 1) := by decide +kernel
theorem dd_M_twin_45 : decode prog_7_method_39_code 45 = .ok (.istore 4, 2) := by decide +kernel
theorem dd_M_twin_47 : decode prog_7_method_39_code 47 = .ok (.iload 4, 2) := by decide +kernel
theorem dd_M_twin_49 : decode prog_7_method_39_code 49 = .ok (.iload_n 3, 1) := by decide +kernel
theorem dd_M_twin_50 : decode prog_7_method_39_code 50 = .ok (.if_icmp .ge 23, 3) := by decide +kernel
theorem dd_M_twin_53 : decode prog_7_method_39_code 53 = .ok (.aload_n 0, 1) := by decide +kernel
theorem dd_M_twin_54 : decode prog_7_method_39_code 54 = .ok (.getfield 35, 3) := by decide +kernel
theorem dd_M_twin_57 : decode prog_7_method_39_code 57 = .ok (.iload 4, 2) := by decide +kernel
theorem dd_M_twin_59 : decode prog_7_method_39_code 59 = .ok (.aload_n 0, 1) := by decide +kernel
theorem dd_M_twin_60 : decode prog_7_method_39_code 60 = .ok (.getfield 26, 3) := by decide +kernel
theorem dd_M_twin_63 : decode prog_7_method_39_code 63 = .ok (.iload 4, 2) := by decide +kernel
theorem dd_M_twin_65 : decode prog_7_method_39_code 65 = .ok (.iaload, 1) := by decide +kernel
theorem dd_M_twin_66 : decode prog_7_method_39_code 66 = .ok (.iastore, 1) := by decide +kernel
theorem dd_M_twin_67 : decode prog_7_method_39_code 67 = .ok (.iinc 4 1, 3) := by decide +kernel
theorem dd_M_twin_70 : decode prog_7_method_39_code 70 = .ok (.goto (-23), 3) := by decide +kernel
theorem dd_M_twin_73 : decode prog_7_method_39_code 73 = .ok (.aload_n 0, 1) := by decide +kernel
theorem dd_M_twin_74 : decode prog_7_method_39_code 74 = .ok (.iload_n 1, 1) := by decide +kernel
theorem dd_M_twin_75 : decode prog_7_method_39_code 75 = .ok (.invokevirtual 91, 3) := by decide +kernel
theorem dd_M_twin_78 : decode prog_7_method_39_code 78 = .ok (.aload_n 0, 1) := by decide +kernel
theorem dd_M_twin_79 : decode prog_7_method_39_code 79 = .ok (.getfield 77, 3) := by decide +kernel
theorem dd_M_twin_82 : decode prog_7_method_39_code 82 = .ok (.iload_n 3, 1) := by decide +kernel
theorem dd_M_twin_83 : decode prog_7_method_39_code 83 = .ok (.if_icmp .ne 7, 3) := by decide +kernel
theorem dd_M_twin_86 : decode prog_7_method_39_code 86 = .ok (.iconst 1, 1) := by decide +kernel
theorem dd_M_twin_87 : decode prog_7_method_39_code 87 = .ok (.goto 4, 3) := by decide +kernel
theorem dd_M_twin_90 : decode prog_7_method_39_code 90 = .ok (.iconst 0, 1) := by decide +kernel
theorem dd_M_twin_91 : decode prog_7_method_39_code 91 = .ok (.istore 4, 2) := by decide +kernel
theorem dd_M_twin_93 : decode prog_7_method_39_code 93 = .ok (.iconst 0, 1) := by decide +kernel
theorem dd_M_twin_94 : decode prog_7_method_39_code 94 = .ok (.istore 5, 2) := by decide +kernel
theorem dd_M_twin_96 : decode prog_7_method_39_code 96 = .ok (.iload 5, 2) := by decide +kernel
theorem dd_M_twin_98 : decode prog_7_method_39_code 98 = .ok (.aload_n 0, 1) := by decide +kernel
theorem dd_M_twin_99 : decode prog_7_method_39_code 99 = .ok (.getfield 77, 3) := by decide +kernel
theorem dd_M_twin_102 : decode prog_7_method_39_code 102 = .ok (.if_icmp .ge 38, 3) := by decide +kernel
theorem dd_M_twin_105 : decode prog_7_method_39_code 105 = .ok (.iload 4, 2) := by decide +kernel
theorem dd_M_twin_107 : decode prog_7_method_39_code 107 = .ok (.ifCond .eq 33, 3) := by decide +kernel
theorem dd_M_twin_110 : decode prog_7_method_39_code 110 = .ok (.aload_n 0, 1) := by decide +kernel
theorem dd_M_twin_111 : decode prog_7_method_39_code 111 = .ok (.getfield 26, 3) := by decide +kernel
theorem dd_M_twin_114 : decode prog_7_method_39_code 114 = .ok (.iload 5, 2) := by decide +kernel
theorem dd_M_twin_116 : decode prog_7_method_39_code 116 = .ok (.iaload, 1) := by decide +kernel
theorem dd_M_twin_117 : decode prog_7_method_39_code 117 = .ok (.aload_n 0, 1) := by decide +kernel
theorem dd_M_twin_118 : decode prog_7_method_39_code 118 = .ok (.getfield 35, 3) := by decide +kernel
theorem dd_M_twin_121 : decode prog_7_method_39_code 121 = .ok (.iload 5, 2) := by decide +kernel
theorem dd_M_twin_123 : decode prog_7_method_39_code 123 = .ok (.iaload, 1) := by decide +kernel
theorem dd_M_twin_124 : decode prog_7_method_39_code 124 = .ok (.if_icmp .ne 7, 3) := by decide +kernel
theorem dd_M_twin_127 : decode prog_7_method_39_code 127 = .ok (.iconst 1, 1) := by decide +kernel
theorem dd_M_twin_128 : decode prog_7_method_39_code 128 = .ok (.goto 4, 3) := by decide +kernel
theorem dd_M_twin_131 : decode prog_7_method_39_code 131 = .ok (.iconst 0, 1) := by decide +kernel
theorem dd_M_twin_132 : decode prog_7_method_39_code 132 = .ok (.istore 4, 2) := by decide +kernel
theorem dd_M_twin_134 : decode prog_7_method_39_code 134 = .ok (.iinc 5 1, 3) := by decide +kernel
theorem dd_M_twin_137 : decode prog_7_method_39_code 137 = .ok (.goto (-41), 3) := by decide +kernel
theorem dd_M_twin_140 : decode prog_7_method_39_code 140 = .ok (.iload 4, 2) := by decide +kernel
theorem dd_M_twin_142 : decode prog_7_method_39_code 142 = .ok (.ireturn, 1) := by decide +kernel
theorem dd_M_count_0 : decode prog_7_method_40_code 0 = .ok (.aload_n 0, 1) := by decide +kernel
theorem dd_M_count_1 : decode prog_7_method_40_code 1 = .ok (.iconst 0, 1) := by decide +kernel
theorem dd_M_count_2 : decode prog_7_method_40_code 2 = .ok (.putfield 53, 3) := by decide +kernel
theorem dd_M_count_5 : decode prog_7_method_40_code 5 = .ok (.iconst 0, 1) := by decide +kernel
theorem dd_M_count_6 : decode prog_7_method_40_code 6 = .ok (.istore_n 2, 1) := by decide +kernel
theorem dd_M_count_7 : decode prog_7_method_40_code 7 = .ok (.iconst 0, 1) := by decide +kernel
theorem dd_M_count_8 : decode prog_7_method_40_code 8 = .ok (.istore_n 3, 1) := by decide +kernel
theorem dd_M_count_9 : decode prog_7_method_40_code 9 = .ok (.iconst 0, 1) := by decide +kernel
theorem dd_M_count_10 : decode prog_7_method_40_code 10 = .ok (.istore 4, 2) := by decide +kernel
theorem dd_M_count_12 : decode prog_7_method_40_code 12 = .ok (.iload 4, 2) := by decide +kernel
theorem dd_M_count_14 : decode prog_7_method_40_code 14 = .ok (.bipush 20, 2) := by decide +kernel
theorem dd_M_count_16 : decode prog_7_method_40_code 16 = .ok (.if_icmp .ge 66, 3) := by decide +kernel
theorem dd_M_count_19 : decode prog_7_method_40_code 19 = .ok (.aload_n 0, 1) := by decide +kernel
theorem dd_M_count_20 : decode prog_7_method_40_code 20 = .ok (.iload 4, 2) := by decide +kernel
theorem dd_M_count_22 : decode prog_7_method_40_code 22 = .ok (.invokevirtual 131, 3) := by decide +kernel
theorem dd_M_count_25 : decode prog_7_method_40_code 25 = .ok (.iconst (-1), 1) := by decide +kernel
theorem dd_M_count_26 : decode prog_7_method_40_code 26 = .ok (.if_icmp .eq 9, 3) := by decide +kernel
theorem dd_M_count_29 : decode prog_7_method_40_code 29 = .ok (.iload_n 2, 1) := by decide +kernel
theorem dd_M_count_30 : decode prog_7_method_40_code 30 = .ok (.iconst 1, 1) := by decide +kernel
theorem dd_M_count_31 : decode prog_7_method_40_code 31 = .ok (.iadd, 1) := by decide +kernel
theorem dd_M_count_32 : decode prog_7_method_40_code 32 = .ok (.goto 4, 3) := by decide +kernel
theorem dd_M_count_35 : decode prog_7_method_40_code 35 = .ok (.iload_n 2, 1) := by decide +kernel
theorem dd_M_count_36 : decode prog_7_method_40_code 36 = .ok (.istore_n 2, 1) := by decide +kernel
theorem dd_M_count_37 : decode prog_7_method_40_code 37 = .ok (.iconst 0, 1) := by decide +kernel
theorem dd_M_count_38 : decode prog_7_method_40_code 38 = .ok (.istore 5, 2) := by decide +kernel
theorem dd_M_count_40 : decode prog_7_method_40_code 40 = .ok (.iload 5, 2) := by decide +kernel
theorem dd_M_count_42 : decode prog_7_method_40_code 42 = .ok (.iconst 4, 1) := by decide +kernel
theorem dd_M_count_43 : decode prog_7_method_40_code 43 = .ok (.if_icmp .ge 33, 3) := by decide +kernel
theorem dd_M_count_46 : decode prog_7_method_40_code 46 = .ok (.aload_n 0, 1) := by decide +kernel
theorem dd_M_count_47 : decode prog_7_method_40_code 47 = .ok (.getfield 44, 3) := by decide +kernel
theorem dd_M_count_50 : decode prog_7_method_40_code 50 = .ok (.bipush 20, 2) := by decide +kernel
theorem dd_M_count_52 : decode prog_7_method_40_code 52 = .ok (.iload 5, 2) := by decide +kernel
theorem dd_M_count_54 : decode prog_7_method_40_code 54 = .ok (.imul, 1) := by decide +kernel
theorem dd_M_count_55 : decode prog_7_method_40_code 55 = .ok (.iload 4, 2) := by decide +kernel
theorem dd_M_count_57 : decode prog_7_method_40_code 57 = .ok (.iadd, 1) := by decide +kernel
theorem dd_M_count_58 : decode prog_7_method_40_code 58 = .ok (.iaload, 1) := by decide +kernel
theorem dd_M_count_59 : decode prog_7_method_40_code 59 = .ok (.ifCond .le 9, 3) := by decide +kernel
theorem dd_M_count_62 : decode prog_7_method_40_code 62 = .ok (.iload_n 3, 1) := by decide +kernel
theorem dd_M_count_63 : decode prog_7_method_40_code 63 = .ok (.iconst 1, 1) := by decide +kernel
theorem dd_M_count_64 : decode prog_7_method_40_code 64 = .ok (.iadd, 1) := by decide +kernel
theorem dd_M_count_65 : decode prog_7_method_40_code 65 = .ok (.goto 4, 3) := by decide +kernel
theorem dd_M_count_68 : decode prog_7_method_40_code 68 = .ok (.iload_n 3, 1) := by decide +kernel
theorem dd_M_count_69 : decode prog_7_method_40_code 69 = .ok (.istore_n 3, 1) := by decide +kernel
theorem dd_M_count_70 : decode prog_7_method_40_code 70 = .ok (.iinc 5 1, 3) := by decide +kernel
theorem dd_M_count_73 : decode prog_7_method_40_code 73 = .ok (.goto (-33), 3) := by decide +kernel
theorem dd_M_count_76 : decode prog_7_method_40_code 76 = .ok (.iinc 4 1, 3) := by decide +kernel
theorem dd_M_count_79 : decode prog_7_method_40_code 79 = .ok (.goto (-67), 3) := by decide +kernel
theorem dd_M_count_82 : decode prog_7_method_40_code 82 = .ok (.iload_n 1, 1) := by decide +kernel
theorem dd_M_count_83 : decode prog_7_method_40_code 83 = .ok (.tableswitch 44 0 3 #[29, 34, 36, 38], 29) := by decide +kernel
theorem dd_M_count_112 : decode prog_7_method_40_code 112 = .ok (.aload_n 0, 1) := by decide +kernel
theorem dd_M_count_113 : decode prog_7_method_40_code 113 = .ok (.getfield 71, 3) := by decide +kernel
theorem dd_M_count_116 : decode prog_7_method_40_code 116 = .ok (.ireturn, 1) := by decide +kernel
theorem dd_M_count_117 : decode prog_7_method_40_code 117 = .ok (.iload_n 2, 1) := by decide +kernel
theorem dd_M_count_118 : decode prog_7_method_40_code 118 = .ok (.ireturn, 1) := by decide +kernel
theorem dd_M_count_119 : decode prog_7_method_40_code 119 = .ok (.iload_n 3, 1) := by decide +kernel
theorem dd_M_count_120 : decode prog_7_method_40_code 120 = .ok (.ireturn, 1) := by decide +kernel
theorem dd_M_count_121 : decode prog_7_method_40_code 121 = .ok (.aload_n 0, 1) := by decide +kernel
theorem dd_M_count_122 : decode prog_7_method_40_code 122 = .ok (.iconst 2, 1) := by decide +kernel
theorem dd_M_count_123 : decode prog_7_method_40_code 123 = .ok (.invokevirtual 64, 3) := by decide +kernel
theorem dd_M_count_126 : decode prog_7_method_40_code 126 = .ok (.ireturn, 1) := by decide +kernel
theorem dd_M_count_127 : decode prog_7_method_40_code 127 = .ok (.iconst (-1), 1) := by decide +kernel
theorem dd_M_count_128 : decode prog_7_method_40_code 128 = .ok (.ireturn, 1) := by decide +kernel
end
section
theorem dd_L_pixel_0 : decode method_3_code 0 = .ok (.aload 4, 2) := by decide +kernel
theorem dd_L_pixel_2 : decode method_3_code 2 = .ok (.iconst 0, 1) := by decide +kernel
theorem dd_L_pixel_3 : decode method_3_code 3 = .ok (.aload_n 0, 1) := by decide +kernel
theorem dd_L_pixel_4 : decode method_3_code 4 = .ok (.iload_n 1, 1) := by decide +kernel
theorem dd_L_pixel_5 : decode method_3_code 5 = .ok (.iload_n 2, 1) := by decide +kernel
theorem dd_L_pixel_6 : decode method_3_code 6 = .ok (.iload_n 3, 1) := by decide +kernel
theorem dd_L_pixel_7 : decode method_3_code 7 = .ok (.invokevirtual 7, 3) := by decide +kernel
theorem dd_L_pixel_10 : decode method_3_code 10 = .ok (.ifCond .eq 7, 3) := by decide +kernel
theorem dd_L_pixel_13 : decode method_3_code 13 = .ok (.lconst 1, 1) := by decide +kernel
theorem dd_L_pixel_14 : decode method_3_code 14 = .ok (.goto 4, 3) := by decide +kernel
theorem dd_L_pixel_17 : decode method_3_code 17 = .ok (.lconst 0, 1) := by decide +kernel
theorem dd_L_pixel_18 : decode method_3_code 18 = .ok (.lastore, 1) := by decide +kernel
theorem dd_L_pixel_19 : decode method_3_code 19 = .ok (.goto 11, 3) := by decide +kernel
theorem dd_L_pixel_22 : decode method_3_code 22 = .ok (.astore 5, 2) := by decide +kernel
theorem dd_L_pixel_24 : decode method_3_code 24 = .ok (.iconst 1, 1) := by decide +kernel
theorem dd_L_pixel_25 : decode method_3_code 25 = .ok (.ireturn, 1) := by decide +kernel
theorem dd_L_pixel_26 : decode method_3_code 26 = .ok (.astore 5, 2) := by decide +kernel
theorem dd_L_pixel_28 : decode method_3_code 28 = .ok (.iconst 2, 1) := by decide +kernel
theorem dd_L_pixel_29 : decode method_3_code 29 = .ok (.ireturn, 1) := by decide +kernel
theorem dd_L_pixel_30 : decode method_3_code 30 = .ok (.iconst 0, 1) := by decide +kernel
theorem dd_L_pixel_31 : decode method_3_code 31 = .ok (.ireturn, 1) := by decide +kernel
theorem dd_L_middle_0 : decode method_4_code 0 = .ok (.aload_n 2, 1) := by decide +kernel
theorem dd_L_middle_1 : decode method_4_code 1 = .ok (.iconst 0, 1) := by decide +kernel
theorem dd_L_middle_2 : decode method_4_code 2 = .ok (.aload_n 0, 1) := by decide +kernel
theorem dd_L_middle_3 : decode method_4_code 3 = .ok (.iload_n 1, 1) := by decide +kernel
theorem dd_L_middle_4 : decode method_4_code 4 = .ok (.invokevirtual 17, 3) := by decide +kernel
theorem dd_L_middle_7 : decode method_4_code 7 = .ok (.i2l, 1) := by decide +kernel
theorem dd_L_middle_8 : decode method_4_code 8 = .ok (.lastore, 1) := by decide +kernel
theorem dd_L_middle_9 : decode method_4_code 9 = .ok (.goto 6, 3) := by decide +kernel
theorem dd_L_middle_12 : decode method_4_code 12 = .ok (.astore_n 3, 1) := by decide +kernel
theorem dd_L_middle_13 : decode method_4_code 13 = .ok (.iconst 1, 1) := by decide +kernel
theorem dd_L_middle_14 : decode method_4_code 14 = .ok (.ireturn, 1) := by decide +kernel
theorem dd_L_middle_15 : decode method_4_code 15 = .ok (.iconst 0, 1) := by decide +kernel
theorem dd_L_middle_16 : decode method_4_code 16 = .ok (.ireturn, 1) := by decide +kernel
theorem dd_L_ray_0 : decode method_5_code 0 = .ok (.aload_n 3, 1) := by decide +kernel
theorem dd_L_ray_1 : decode method_5_code 1 = .ok (.iconst 0, 1) := by decide +kernel
theorem dd_L_ray_2 : decode method_5_code 2 = .ok (.aload_n 0, 1) := by decide +kernel
theorem dd_L_ray_3 : decode method_5_code 3 = .ok (.iload_n 1, 1) := by decide +kernel
theorem dd_L_ray_4 : decode method_5_code 4 = .ok (.iload_n 2, 1) := by decide +kernel
theorem dd_L_ray_5 : decode method_5_code 5 = .ok (.invokevirtual 21, 3) := by decide +kernel
theorem dd_L_ray_8 : decode method_5_code 8 = .ok (.i2l, 1) := by decide +kernel
theorem dd_L_ray_9 : decode method_5_code 9 = .ok (.lastore, 1) := by decide +kernel
theorem dd_L_ray_10 : decode method_5_code 10 = .ok (.goto 11, 3) := by decide +kernel
theorem dd_L_ray_13 : decode method_5_code 13 = .ok (.astore 4, 2) := by decide +kernel
theorem dd_L_ray_15 : decode method_5_code 15 = .ok (.iconst 1, 1) := by decide +kernel
theorem dd_L_ray_16 : decode method_5_code 16 = .ok (.ireturn, 1) := by decide +kernel
theorem dd_L_ray_17 : decode method_5_code 17 = .ok (.astore 4, 2) := by decide +kernel
theorem dd_L_ray_19 : decode method_5_code 19 = .ok (.iconst 2, 1) := by decide +kernel
theorem dd_L_ray_20 : decode method_5_code 20 = .ok (.ireturn, 1) := by decide +kernel
theorem dd_L_ray_21 : decode method_5_code 21 = .ok (.iconst 0, 1) := by decide +kernel
theorem dd_L_ray_22 : decode method_5_code 22 = .ok (.ireturn, 1) := by decide +kernel
theorem dd_L_samples_0 : decode method_6_code 0 = .ok (.aload_n 2, 1) := by decide +kernel
theorem dd_L_samples_1 : decode method_6_code 1 = .ok (.iconst 0, 1) := by decide +kernel
theorem dd_L_samples_2 : decode method_6_code 2 = .ok (.aload_n 0, 1) := by decide +kernel
theorem dd_L_samples_3 : decode method_6_code 3 = .ok (.iload_n 1, 1) := by decide +kernel
theorem dd_L_samples_4 : decode method_6_code 4 = .ok (.invokevirtual 27, 3) := by decide +kernel
theorem dd_L_samples_7 : decode method_6_code 7 = .ok (.i2l, 1) := by decide +kernel
theorem dd_L_samples_8 : decode method_6_code 8 = .ok (.lastore, 1) := by decide +kernel
theorem dd_L_samples_9 : decode method_6_code 9 = .ok (.goto 6, 3) := by decide +kernel
theorem dd_L_samples_12 : decode method_6_code 12 = .ok (.astore_n 3, 1) := by decide +kernel
theorem dd_L_samples_13 : decode method_6_code 13 = .ok (.iconst 1, 1) := by decide +kernel
theorem dd_L_samples_14 : decode method_6_code 14 = .ok (.ireturn, 1) := by decide +kernel
theorem dd_L_samples_15 : decode method_6_code 15 = .ok (.iconst 0, 1) := by decide +kernel
theorem dd_L_samples_16 : decode method_6_code 16 = .ok (.ireturn, 1) := by decide +kernel
theorem dd_L_sample_0 : decode method_7_code 0 = .ok (.aload 4, 2) := by decide +kernel
theorem dd_L_sample_2 : decode method_7_code 2 = .ok (.iconst 0, 1) := by decide +kernel
theorem dd_L_sample_3 : decode method_7_code 3 = .ok (.aload_n 0, 1) := by decide +kernel
theorem dd_L_sample_4 : decode method_7_code 4 = .ok (.iload_n 1, 1) := by decide +kernel
theorem dd_L_sample_5 : decode method_7_code 5 = .ok (.iload_n 2, 1) := by decide +kernel
theorem dd_L_sample_6 : decode method_7_code 6 = .ok (.iload_n 3, 1) := by decide +kernel
theorem dd_L_sample_7 : decode method_7_code 7 = .ok (.invokevirtual 30, 3) := by decide +kernel
theorem dd_L_sample_10 : decode method_7_code 10 = .ok (.i2l, 1) := by decide +kernel
theorem dd_L_sample_11 : decode method_7_code 11 = .ok (.lastore, 1) := by decide +kernel
theorem dd_L_sample_12 : decode method_7_code 12 = .ok (.goto 7, 3) := by decide +kernel
theorem dd_L_sample_15 : decode method_7_code 15 = .ok (.astore 5, 2) := by decide +kernel
theorem dd_L_sample_17 : decode method_7_code 17 = .ok (.iconst 1, 1) := by decide +kernel
theorem dd_L_sample_18 : decode method_7_code 18 = .ok (.ireturn, 1) := by decide +kernel
theorem dd_L_sample_19 : decode method_7_code 19 = .ok (.iconst 0, 1) := by decide +kernel
theorem dd_L_sample_20 : decode method_7_code 20 = .ok (.ireturn, 1) := by decide +kernel
theorem dd_L_rule_0 : decode method_8_code 0 = .ok (.aload_n 0, 1) := by decide +kernel
theorem dd_L_rule_1 : decode method_8_code 1 = .ok (.iload_n 1, 1) := by decide +kernel
theorem dd_L_rule_2 : decode method_8_code 2 = .ok (.iload_n 2, 1) := by decide +kernel
theorem dd_L_rule_3 : decode method_8_code 3 = .ok (.invokevirtual 34, 3) := by decide +kernel
theorem dd_L_rule_6 : decode method_8_code 6 = .ok (.goto 6, 3) := by decide +kernel
theorem dd_L_rule_9 : decode method_8_code 9 = .ok (.astore_n 3, 1) := by decide +kernel
theorem dd_L_rule_10 : decode method_8_code 10 = .ok (.iconst 1, 1) := by decide +kernel
theorem dd_L_rule_11 : decode method_8_code 11 = .ok (.ireturn, 1) := by decide +kernel
theorem dd_L_rule_12 : decode method_8_code 12 = .ok (.iconst 0, 1) := by decide +kernel
theorem dd_L_rule_13 : decode method_8_code 13 = .ok (.ireturn, 1) := by decide +kernel
theorem dd_L_rings_0 : decode method_9_code 0 = .ok (.aload_n 2, 1) := by decide +kernel
theorem dd_L_rings_1 : decode method_9_code 1 = .ok (.iconst 0, 1) := by decide +kernel
theorem dd_L_rings_2 : decode method_9_code 2 = .ok (.aload_n 0, 1) := by decide +kernel
theorem dd_L_rings_3 : decode method_9_code 3 = .ok (.iload_n 1, 1) := by decide +kernel
theorem dd_L_rings_4 : decode method_9_code 4 = .ok (.invokevirtual 38, 3) := by decide +kernel
theorem dd_L_rings_7 : decode method_9_code 7 = .ok (.i2l, 1) := by decide +kernel
theorem dd_L_rings_8 : decode method_9_code 8 = .ok (.lastore, 1) := by decide +kernel
theorem dd_L_rings_9 : decode method_9_code 9 = .ok (.goto 6, 3) := by decide +kernel
theorem dd_L_rings_12 : decode method_9_code 12 = .ok (.astore_n 3, 1) := by decide +kernel
theorem dd_L_rings_13 : decode method_9_code 13 = .ok (.iconst 1, 1) := by decide +kernel
theorem dd_L_rings_14 : decode method_9_code 14 = .ok (.ireturn, 1) := by decide +kernel
theorem dd_L_rings_15 : decode method_9_code 15 = .ok (.iconst 0, 1) := by decide +kernel
theorem dd_L_rings_16 : decode method_9_code 16 = .ok (.ireturn, 1) := by decide +kernel
theorem dd_L_ring_0 : decode method_10_code 0 = .ok (.aload 4, 2) := by decide +kernel
theorem dd_L_ring_2 : decode method_10_code 2 = .ok (.iconst 0, 1) := by decide +kernel
theorem dd_L_ring_3 : decode method_10_code 3 = .ok (.aload_n 0, 1) := by decide +kernel
theorem dd_L_ring_4 : decode method_10_code 4 = .ok (.iload_n 1, 1) := by decide +kernel
theorem dd_L_ring_5 : decode method_10_code 5 = .ok (.iload_n 2, 1) := by decide +kernel
theorem dd_L_ring_6 : decode method_10_code 6 = .ok (.iload_n 3, 1) := by decide +kernel
theorem dd_L_ring_7 : decode method_10_code 7 = .ok (.invokevirtual 41, 3) := by decide +kernel
theorem dd_L_ring_10 : decode method_10_code 10 = .ok (.i2l, 1) := by decide +kernel
theorem dd_L_ring_11 : decode method_10_code 11 = .ok (.lastore, 1) := by decide +kernel
theorem dd_L_ring_12 : decode method_10_code 12 = .ok (.goto 7, 3) := by decide +kernel
theorem dd_L_ring_15 : decode method_10_code 15 = .ok (.astore 5, 2) := by decide +kernel
theorem dd_L_ring_17 : decode method_10_code 17 = .ok (.iconst 1, 1) := by decide +kernel
theorem dd_L_ring_18 : decode method_10_code 18 = .ok (.ireturn, 1) := by decide +kernel
theorem dd_L_ring_19 : decode method_10_code 19 = .ok (.iconst 0, 1) := by decide +kernel
theorem dd_L_ring_20 : decode method_10_code 20 = .ok (.ireturn, 1) := by decide +kernel
theorem dd_L_join_0 : decode method_11_code 0 = .ok (.aload 4, 2) := by decide +kernel
theorem dd_L_join_2 : decode method_11_code 2 = .ok (.iconst 0, 1) := by decide +kernel
theorem dd_L_join_3 : decode method_11_code 3 = .ok (.aload_n 0, 1) := by decide +kernel
theorem dd_L_join_4 : decode method_11_code 4 = .ok (.iload_n 1, 1) := by decide +kernel
theorem dd_L_join_5 : decode method_11_code 5 = .ok (.iload_n 2, 1) := by decide +kernel
theorem dd_L_join_6 : decode method_11_code 6 = .ok (.iload_n 3, 1) := by decide +kernel
theorem dd_L_join_7 : decode method_11_code 7 = .ok (.invokevirtual 45, 3) := by decide +kernel
theorem dd_L_join_10 : decode method_11_code 10 = .ok (.i2l, 1) := by decide +kernel
theorem dd_L_join_11 : decode method_11_code 11 = .ok (.lastore, 1) := by decide +kernel
theorem dd_L_join_12 : decode method_11_code 12 = .ok (.goto 11, 3) := by decide +kernel
theorem dd_L_join_15 : decode method_11_code 15 = .ok (.astore 5, 2) := by decide +kernel
theorem dd_L_join_17 : decode method_11_code 17 = .ok (.iconst 1, 1) := by decide +kernel
theorem dd_L_join_18 : decode method_11_code 18 = .ok (.ireturn, 1) := by decide +kernel
theorem dd_L_join_19 : decode method_11_code 19 = .ok (.astore 5, 2) := by decide +kernel
theorem dd_L_join_21 : decode method_11_code 21 = .ok (.iconst 2, 1) := by decide +kernel
theorem dd_L_join_22 : decode method_11_code 22 = .ok (.ireturn, 1) := by decide +kernel
theorem dd_L_join_23 : decode method_11_code 23 = .ok (.iconst 0, 1) := by decide +kernel
theorem dd_L_join_24 : decode method_11_code 24 = .ok (.ireturn, 1) := by decide +kernel
theorem dd_L_joined_0 : decode method_12_code 0 = .ok (.aload_n 2, 1) := by decide +kernel
theorem dd_L_joined_1 : decode method_12_code 1 = .ok (.iconst 0, 1) := by decide +kernel
theorem dd_L_joined_2 : decode method_12_code 2 = .ok (.aload_n 0, 1) := by decide +kernel
theorem dd_L_joined_3 : decode method_12_code 3 = .ok (.iload_n 1, 1) := by decide +kernel
theorem dd_L_joined_4 : decode method_12_code 4 = .ok (.invokevirtual 48, 3) := by decide +kernel
theorem dd_L_joined_7 : decode method_12_code 7 = .ok (.i2l, 1) := by decide +kernel
theorem dd_L_joined_8 : decode method_12_code 8 = .ok (.lastore, 1) := by decide +kernel
theorem dd_L_joined_9 : decode method_12_code 9 = .ok (.goto 9, 3) := by decide +kernel
theorem dd_L_joined_12 : decode method_12_code 12 = .ok (.astore_n 3, 1) := by decide +kernel
theorem dd_L_joined_13 : decode method_12_code 13 = .ok (.iconst 1, 1) := by decide +kernel
theorem dd_L_joined_14 : decode method_12_code 14 = .ok (.ireturn, 1) := by decide +kernel
theorem dd_L_joined_15 : decode method_12_code 15 = .ok (.astore_n 3, 1) := by decide +kernel
theorem dd_L_joined_16 : decode method_12_code 16 = .ok (.iconst 2, 1) := by decide +kernel
theorem dd_L_joined_17 : decode method_12_code 17 = .ok (.ireturn, 1) := by decide +kernel
theorem dd_L_joined_18 : decode method_12_code 18 = .ok (.iconst 0, 1) := by decide +kernel
theorem dd_L_joined_19 : decode method_12_code 19 = .ok (.ireturn, 1) := by decide +kernel
theorem dd_L_back_0 : decode method_13_code 0 = .ok (.aload 4, 2) := by decide +kernel
theorem dd_L_back_2 : decode method_13_code 2 = .ok (.iconst 0, 1) := by decide +kernel
theorem dd_L_back_3 : decode method_13_code 3 = .ok (.aload_n 0, 1) := by decide +kernel
theorem dd_L_back_4 : decode method_13_code 4 = .ok (.iload_n 1, 1) := by decide +kernel
theorem dd_L_back_5 : decode method_13_code 5 = .ok (.iload_n 2, 1) := by decide +kernel
theorem dd_L_back_6 : decode method_13_code 6 = .ok (.iload_n 3, 1) := by decide +kernel
theorem dd_L_back_7 : decode method_13_code 7 = .ok (.invokevirtual 51, 3) := by decide +kernel
theorem dd_L_back_10 : decode method_13_code 10 = .ok (.i2l, 1) := by decide +kernel
theorem dd_L_back_11 : decode method_13_code 11 = .ok (.lastore, 1) := by decide +kernel
theorem dd_L_back_12 : decode method_13_code 12 = .ok (.goto 11, 3) := by decide +kernel
theorem dd_L_back_15 : decode method_13_code 15 = .ok (.astore 5, 2) := by decide +kernel
theorem dd_L_back_17 : decode method_13_code 17 = .ok (.iconst 1, 1) := by decide +kernel
theorem dd_L_back_18 : decode method_13_code 18 = .ok (.ireturn, 1) := by decide +kernel
theorem dd_L_back_19 : decode method_13_code 19 = .ok (.astore 5, 2) := by decide +kernel
theorem dd_L_back_21 : decode method_13_code 21 = .ok (.iconst 2, 1) := by decide +kernel
theorem dd_L_back_22 : decode method_13_code 22 = .ok (.ireturn, 1) := by decide +kernel
theorem dd_L_back_23 : decode method_13_code 23 = .ok (.iconst 0, 1) := by decide +kernel
theorem dd_L_back_24 : decode method_13_code 24 = .ok (.ireturn, 1) := by decide +kernel
theorem dd_L_tell_0 : decode method_14_code 0 = .ok (.aload_n 0, 1) := by decide +kernel
theorem dd_L_tell_1 : decode method_14_code 1 = .ok (.iload_n 1, 1) := by decide +kernel
theorem dd_L_tell_2 : decode method_14_code 2 = .ok (.iload_n 2, 1) := by decide +kernel
theorem dd_L_tell_3 : decode method_14_code 3 = .ok (.iload_n 3, 1) := by decide +kernel
theorem dd_L_tell_4 : decode method_14_code 4 = .ok (.invokevirtual 54, 3) := by decide +kernel
theorem dd_L_tell_7 : decode method_14_code 7 = .ok (.goto 15, 3) := by decide +kernel
theorem dd_L_tell_10 : decode method_14_code 10 = .ok (.astore 4, 2) := by decide +kernel
theorem dd_L_tell_12 : decode method_14_code 12 = .ok (.iconst 1, 1) := by decide +kernel
theorem dd_L_tell_13 : decode method_14_code 13 = .ok (.ireturn, 1) := by decide +kernel
theorem dd_L_tell_14 : decode method_14_code 14 = .ok (.astore 4, 2) := by decide +kernel
theorem dd_L_tell_16 : decode method_14_code 16 = .ok (.iconst 2, 1) := by decide +kernel
theorem dd_L_tell_17 : decode method_14_code 17 = .ok (.ireturn, 1) := by decide +kernel
theorem dd_L_tell_18 : decode method_14_code 18 = .ok (.astore 4, 2) := by decide +kernel
theorem dd_L_tell_20 : decode method_14_code 20 = .ok (.iconst 3, 1) := by decide +kernel
theorem dd_L_tell_21 : decode method_14_code 21 = .ok (.ireturn, 1) := by decide +kernel
theorem dd_L_tell_22 : decode method_14_code 22 = .ok (.iconst 0, 1) := by decide +kernel
theorem dd_L_tell_23 : decode method_14_code 23 = .ok (.ireturn, 1) := by decide +kernel
theorem dd_L_may_0 : decode method_15_code 0 = .ok (.aload_n 3, 1) := by decide +kernel
theorem dd_L_may_1 : decode method_15_code 1 = .ok (.iconst 0, 1) := by decide +kernel
theorem dd_L_may_2 : decode method_15_code 2 = .ok (.aload_n 0, 1) := by decide +kernel
theorem dd_L_may_3 : decode method_15_code 3 = .ok (.iload_n 1, 1) := by decide +kernel
theorem dd_L_may_4 : decode method_15_code 4 = .ok (.iload_n 2, 1) := by decide +kernel
theorem dd_L_may_5 : decode method_15_code 5 = .ok (.invokevirtual 58, 3) := by decide +kernel
theorem dd_L_may_8 : decode method_15_code 8 = .ok (.ifCond .eq 7, 3) := by decide +kernel
theorem dd_L_may_11 : decode method_15_code 11 = .ok (.lconst 1, 1) := by decide +kernel
theorem dd_L_may_12 : decode method_15_code 12 = .ok (.goto 4, 3) := by decide +kernel
theorem dd_L_may_15 : decode method_15_code 15 = .ok (.lconst 0, 1) := by decide +kernel
theorem dd_L_may_16 : decode method_15_code 16 = .ok (.lastore, 1) := by decide +kernel
theorem dd_L_may_17 : decode method_15_code 17 = .ok (.goto 7, 3) := by decide +kernel
theorem dd_L_may_20 : decode method_15_code 20 = .ok (.astore 4, 2) := by decide +kernel
theorem dd_L_may_22 : decode method_15_code 22 = .ok (.iconst 1, 1) := by decide +kernel
theorem dd_L_may_23 : decode method_15_code 23 = .ok (.ireturn, 1) := by decide +kernel
theorem dd_L_may_24 : decode method_15_code 24 = .ok (.iconst 0, 1) := by decide +kernel
theorem dd_L_may_25 : decode method_15_code 25 = .ok (.ireturn, 1) := by decide +kernel
theorem dd_L_seen_0 : decode method_16_code 0 = .ok (.aload 4, 2) := by decide +kernel
theorem dd_L_seen_2 : decode method_16_code 2 = .ok (.iconst 0, 1) := by decide +kernel
theorem dd_L_seen_3 : decode method_16_code 3 = .ok (.aload_n 0, 1) := by decide +kernel
theorem dd_L_seen_4 : decode method_16_code 4 = .ok (.iload_n 1, 1) := by decide +kernel
theorem dd_L_seen_5 : decode method_16_code 5 = .ok (.iload_n 2, 1) := by decide +kernel
theorem dd_L_seen_6 : decode method_16_code 6 = .ok (.iload_n 3, 1) := by decide +kernel
theorem dd_L_seen_7 : decode method_16_code 7 = .ok (.invokevirtual 62, 3) := by decide +kernel
theorem dd_L_seen_10 : decode method_16_code 10 = .ok (.i2l, 1) := by decide +kernel
theorem dd_L_seen_11 : decode method_16_code 11 = .ok (.lastore, 1) := by decide +kernel
theorem dd_L_seen_12 : decode method_16_code 12 = .ok (.goto 11, 3) := by decide +kernel
theorem dd_L_seen_15 : decode method_16_code 15 = .ok (.astore 5, 2) := by decide +kernel
theorem dd_L_seen_17 : decode method_16_code 17 = .ok (.iconst 1, 1) := by decide +kernel
theorem dd_L_seen_18 : decode method_16_code 18 = .ok (.ireturn, 1) := by decide +kernel
theorem dd_L_seen_19 : decode method_16_code 19 = .ok (.astore 5, 2) := by decide +kernel
theorem dd_L_seen_21 : decode method_16_code 21 = .ok (.iconst 2, 1) := by decide +kernel
theorem dd_L_seen_22 : decode method_16_code 22 = .ok (.ireturn, 1) := by decide +kernel
theorem dd_L_seen_23 : decode method_16_code 23 = .ok (.iconst 0, 1) := by decide +kernel
theorem dd_L_seen_24 : decode method_16_code 24 = .ok (.ireturn, 1) := by decide +kernel
theorem dd_L_agree_0 : decode method_17_code 0 = .ok (.aload 4, 2) := by decide +kernel
theorem dd_L_agree_2 : decode method_17_code 2 = .ok (.iconst 0, 1) := by decide +kernel
theorem dd_L_agree_3 : decode method_17_code 3 = .ok (.aload_n 0, 1) := by decide +kernel
theorem dd_L_agree_4 : decode method_17_code 4 = .ok (.iload_n 1, 1) := by decide +kernel
theorem dd_L_agree_5 : decode method_17_code 5 = .ok (.iload_n 2, 1) := by decide +kernel
theorem dd_L_agree_6 : decode method_17_code 6 = .ok (.iload_n 3, 1) := by decide +kernel
theorem dd_L_agree_7 : decode method_17_code 7 = .ok (.invokevirtual 65, 3) := by decide +kernel
theorem dd_L_agree_10 : decode method_17_code 10 = .ok (.i2l, 1) := by decide +kernel
theorem dd_L_agree_11 : decode method_17_code 11 = .ok (.lastore, 1) := by decide +kernel
theorem dd_L_agree_12 : decode method_17_code 12 = .ok (.goto 7, 3) := by decide +kernel
theorem dd_L_agree_15 : decode method_17_code 15 = .ok (.astore 5, 2) := by decide +kernel
theorem dd_L_agree_17 : decode method_17_code 17 = .ok (.iconst 1, 1) := by decide +kernel
theorem dd_L_agree_18 : decode method_17_code 18 = .ok (.ireturn, 1) := by decide +kernel
theorem dd_L_agree_19 : decode method_17_code 19 = .ok (.iconst 0, 1) := by decide +kernel
theorem dd_L_agree_20 : decode method_17_code 20 = .ok (.ireturn, 1) := by decide +kernel
theorem dd_L_bias_0 : decode method_18_code 0 = .ok (.aload 4, 2) := by decide +kernel
theorem dd_L_bias_2 : decode method_18_code 2 = .ok (.iconst 0, 1) := by decide +kernel
theorem dd_L_bias_3 : decode method_18_code 3 = .ok (.aload_n 0, 1) := by decide +kernel
theorem dd_L_bias_4 : decode method_18_code 4 = .ok (.iload_n 1, 1) := by decide +kernel
theorem dd_L_bias_5 : decode method_18_code 5 = .ok (.iload_n 2, 1) := by decide +kernel
theorem dd_L_bias_6 : decode method_18_code 6 = .ok (.iload_n 3, 1) := by decide +kernel
theorem dd_L_bias_7 : decode method_18_code 7 = .ok (.invokevirtual 68, 3) := by decide +kernel
theorem dd_L_bias_10 : decode method_18_code 10 = .ok (.i2l, 1) := by decide +kernel
theorem dd_L_bias_11 : decode method_18_code 11 = .ok (.lastore, 1) := by decide +kernel
theorem dd_L_bias_12 : decode method_18_code 12 = .ok (.goto 7, 3) := by decide +kernel
theorem dd_L_bias_15 : decode method_18_code 15 = .ok (.astore 5, 2) := by decide +kernel
theorem dd_L_bias_17 : decode method_18_code 17 = .ok (.iconst 1, 1) := by decide +kernel
theorem dd_L_bias_18 : decode method_18_code 18 = .ok (.ireturn, 1) := by decide +kernel
theorem dd_L_bias_19 : decode method_18_code 19 = .ok (.iconst 0, 1) := by decide +kernel
theorem dd_L_bias_20 : decode method_18_code 20 = .ok (.ireturn, 1) := by decide +kernel
theorem dd_L_told_0 : decode method_19_code 0 = .ok (.aload_n 2, 1) := by decide +kernel
theorem dd_L_told_1 : decode method_19_code 1 = .ok (.iconst 0, 1) := by decide +kernel
theorem dd_L_told_2 : decode method_19_code 2 = .ok (.aload_n 0, 1) := by decide +kernel
theorem dd_L_told_3 : decode method_19_code 3 = .ok (.iload_n 1, 1) := by decide +kernel
theorem dd_L_told_4 : decode method_19_code 4 = .ok (.invokevirtual 71, 3) := by decide +kernel
theorem dd_L_told_7 : decode method_19_code 7 = .ok (.i2l, 1) := by decide +kernel
theorem dd_L_told_8 : decode method_19_code 8 = .ok (.lastore, 1) := by decide +kernel
theorem dd_L_told_9 : decode method_19_code 9 = .ok (.goto 6, 3) := by decide +kernel
theorem dd_L_told_12 : decode method_19_code 12 = .ok (.astore_n 3, 1) := by decide +kernel
theorem dd_L_told_13 : decode method_19_code 13 = .ok (.iconst 1, 1) := by decide +kernel
theorem dd_L_told_14 : decode method_19_code 14 = .ok (.ireturn, 1) := by decide +kernel
theorem dd_L_told_15 : decode method_19_code 15 = .ok (.iconst 0, 1) := by decide +kernel
theorem dd_L_told_16 : decode method_19_code 16 = .ok (.ireturn, 1) := by decide +kernel
theorem dd_L_right_0 : decode method_20_code 0 = .ok (.aload_n 2, 1) := by decide +kernel
theorem dd_L_right_1 : decode method_20_code 1 = .ok (.iconst 0, 1) := by decide +kernel
theorem dd_L_right_2 : decode method_20_code 2 = .ok (.aload_n 0, 1) := by decide +kernel
theorem dd_L_right_3 : decode method_20_code 3 = .ok (.iload_n 1, 1) := by decide +kernel
theorem dd_L_right_4 : decode method_20_code 4 = .ok (.invokevirtual 74, 3) := by decide +kernel
theorem dd_L_right_7 : decode method_20_code 7 = .ok (.i2l, 1) := by decide +kernel
theorem dd_L_right_8 : decode method_20_code 8 = .ok (.lastore, 1) := by decide +kernel
theorem dd_L_right_9 : decode method_20_code 9 = .ok (.goto 6, 3) := by decide +kernel
theorem dd_L_right_12 : decode method_20_code 12 = .ok (.astore_n 3, 1) := by decide +kernel
theorem dd_L_right_13 : decode method_20_code 13 = .ok (.iconst 1, 1) := by decide +kernel
theorem dd_L_right_14 : decode method_20_code 14 = .ok (.ireturn, 1) := by decide +kernel
theorem dd_L_right_15 : decode method_20_code 15 = .ok (.iconst 0, 1) := by decide +kernel
theorem dd_L_right_16 : decode method_20_code 16 = .ok (.ireturn, 1) := by decide +kernel
theorem dd_L_best_0 : decode method_21_code 0 = .ok (.aload_n 2, 1) := by decide +kernel
theorem dd_L_best_1 : decode method_21_code 1 = .ok (.iconst 0, 1) := by decide +kernel
theorem dd_L_best_2 : decode method_21_code 2 = .ok (.aload_n 0, 1) := by decide +kernel
theorem dd_L_best_3 : decode method_21_code 3 = .ok (.iload_n 1, 1) := by decide +kernel
theorem dd_L_best_4 : decode method_21_code 4 = .ok (.invokevirtual 77, 3) := by decide +kernel
theorem dd_L_best_7 : decode method_21_code 7 = .ok (.i2l, 1) := by decide +kernel
theorem dd_L_best_8 : decode method_21_code 8 = .ok (.lastore, 1) := by decide +kernel
theorem dd_L_best_9 : decode method_21_code 9 = .ok (.goto 6, 3) := by decide +kernel
theorem dd_L_best_12 : decode method_21_code 12 = .ok (.astore_n 3, 1) := by decide +kernel
theorem dd_L_best_13 : decode method_21_code 13 = .ok (.iconst 1, 1) := by decide +kernel
theorem dd_L_best_14 : decode method_21_code 14 = .ok (.ireturn, 1) := by decide +kernel
theorem dd_L_best_15 : decode method_21_code 15 = .ok (.iconst 0, 1) := by decide +kernel
theorem dd_L_best_16 : decode method_21_code 16 = .ok (.ireturn, 1) := by decide +kernel
theorem dd_L_age_0 : decode method_22_code 0 = .ok (.aload 4, 2) := by decide +kernel
theorem dd_L_age_2 : decode method_22_code 2 = .ok (.iconst 0, 1) := by decide +kernel
theorem dd_L_age_3 : decode method_22_code 3 = .ok (.aload_n 0, 1) := by decide +kernel
theorem dd_L_age_4 : decode method_22_code 4 = .ok (.iload_n 1, 1) := by decide +kernel
theorem dd_L_age_5 : decode method_22_code 5 = .ok (.iload_n 2, 1) := by decide +kernel
theorem dd_L_age_6 : decode method_22_code 6 = .ok (.iload_n 3, 1) := by decide +kernel
theorem dd_L_age_7 : decode method_22_code 7 = .ok (.invokevirtual 80, 3) := by decide +kernel
theorem dd_L_age_10 : decode method_22_code 10 = .ok (.i2l, 1) := by decide +kernel
theorem dd_L_age_11 : decode method_22_code 11 = .ok (.lastore, 1) := by decide +kernel
theorem dd_L_age_12 : decode method_22_code 12 = .ok (.goto 11, 3) := by decide +kernel
theorem dd_L_age_15 : decode method_22_code 15 = .ok (.astore 5, 2) := by decide +kernel
theorem dd_L_age_17 : decode method_22_code 17 = .ok (.iconst 1, 1) := by decide +kernel
theorem dd_L_age_18 : decode method_22_code 18 = .ok (.ireturn, 1) := by decide +kernel
theorem dd_L_age_19 : decode method_22_code 19 = .ok (.astore 5, 2) := by decide +kernel
theorem dd_L_age_21 : decode method_22_code 21 = .ok (.iconst 2, 1) := by decide +kernel
theorem dd_L_age_22 : decode method_22_code 22 = .ok (.ireturn, 1) := by decide +kernel
theorem dd_L_age_23 : decode method_22_code 23 = .ok (.iconst 0, 1) := by decide +kernel
theorem dd_L_age_24 : decode method_22_code 24 = .ok (.ireturn, 1) := by decide +kernel
theorem dd_L_twin_0 : decode method_23_code 0 = .ok (.aload_n 3, 1) := by decide +kernel
theorem dd_L_twin_1 : decode method_23_code 1 = .ok (.iconst 0, 1) := by decide +kernel
theorem dd_L_twin_2 : decode method_23_code 2 = .ok (.aload_n 0, 1) := by decide +kernel
theorem dd_L_twin_3 : decode method_23_code 3 = .ok (.iload_n 1, 1) := by decide +kernel
theorem dd_L_twin_4 : decode method_23_code 4 = .ok (.iload_n 2, 1) := by decide +kernel
theorem dd_L_twin_5 : decode method_23_code 5 = .ok (.invokevirtual 83, 3) := by decide +kernel
theorem dd_L_twin_8 : decode method_23_code 8 = .ok (.ifCond .eq 7, 3) := by decide +kernel
theorem dd_L_twin_11 : decode method_23_code 11 = .ok (.lconst 1, 1) := by decide +kernel
theorem dd_L_twin_12 : decode method_23_code 12 = .ok (.goto 4, 3) := by decide +kernel
theorem dd_L_twin_15 : decode method_23_code 15 = .ok (.lconst 0, 1) := by decide +kernel
theorem dd_L_twin_16 : decode method_23_code 16 = .ok (.lastore, 1) := by decide +kernel
theorem dd_L_twin_17 : decode method_23_code 17 = .ok (.goto 7, 3) := by decide +kernel
theorem dd_L_twin_20 : decode method_23_code 20 = .ok (.astore 4, 2) := by decide +kernel
theorem dd_L_twin_22 : decode method_23_code 22 = .ok (.iconst 1, 1) := by decide +kernel
theorem dd_L_twin_23 : decode method_23_code 23 = .ok (.ireturn, 1) := by decide +kernel
theorem dd_L_twin_24 : decode method_23_code 24 = .ok (.iconst 0, 1) := by decide +kernel
theorem dd_L_twin_25 : decode method_23_code 25 = .ok (.ireturn, 1) := by decide +kernel
end
section
theorem dd_T_init_0 : decode prog_5_method_1_code 0 = .ok (.aload_n 0, 1) := by decide +kernel
theorem dd_T_init_1 : decode prog_5_method_1_code 1 = .ok (.invokespecial 3, 3) := by decide +kernel
theorem dd_T_init_4 : decode prog_5_method_1_code 4 = .ok (.aload_n 0, 1) := by decide +kernel
theorem dd_T_init_5 : decode prog_5_method_1_code 5 = .ok (.bipush 16, 2) := by decide +kernel
theorem dd_T_init_7 : decode prog_5_method_1_code 7 = .ok (.newarray .int, 2) := by decide +kernel
theorem dd_T_init_9 : decode prog_5_method_1_code 9 = .ok (.putfield 9, 3) := by decide +kernel
theorem dd_T_init_12 : decode prog_5_method_1_code 12 = .ok (.aload_n 0, 1) := by decide +kernel
theorem dd_T_init_13 : decode prog_5_method_1_code 13 = .ok (.bipush 16, 2) := by decide +kernel
theorem dd_T_init_15 : decode prog_5_method_1_code 15 = .ok (.newarray .int, 2) := by decide +kernel
theorem dd_T_init_17 : decode prog_5_method_1_code 17 = .ok (.putfield 15, 3) := by decide +kernel
theorem dd_T_init_20 : decode prog_5_method_1_code 20 = .ok (.aload_n 0, 1) := by decide +kernel
theorem dd_T_init_21 : decode prog_5_method_1_code 21 = .ok (.bipush 8, 2) := by decide +kernel
theorem dd_T_init_23 : decode prog_5_method_1_code 23 = .ok (.newarray .int, 2) := by decide +kernel
theorem dd_T_init_25 : decode prog_5_method_1_code 25 = .ok (.putfield 18, 3) := by decide +kernel
theorem dd_T_init_28 : decode prog_5_method_1_code 28 = .ok (.aload_n 0, 1) := by decide +kernel
theorem dd_T_init_29 : decode prog_5_method_1_code 29 = .ok (.iconst 0, 1) := by decide +kernel
theorem dd_T_init_30 : decode prog_5_method_1_code 30 = .ok (.putfield 21, 3) := by decide +kernel
theorem dd_T_init_33 : decode prog_5_method_1_code 33 = .ok (.aload_n 0, 1) := by decide +kernel
theorem dd_T_init_34 : decode prog_5_method_1_code 34 = .ok (.iconst 0, 1) := by decide +kernel
theorem dd_T_init_35 : decode prog_5_method_1_code 35 = .ok (.putfield 25, 3) := by decide +kernel
theorem dd_T_init_38 : decode prog_5_method_1_code 38 = .ok (.return_, 1) := by decide +kernel
theorem dd_G_init_0 : decode prog_2_method_1_code 0 = .ok (.aload_n 0, 1) := by decide +kernel
theorem dd_G_init_1 : decode prog_2_method_1_code 1 = .ok (.invokespecial 3, 3) := by decide +kernel
theorem dd_G_init_4 : decode prog_2_method_1_code 4 = .ok (.aload_n 0, 1) := by decide +kernel
theorem dd_G_init_5 : decode prog_2_method_1_code 5 = .ok (.bipush 81, 2) := by decide +kernel
theorem dd_G_init_7 : decode prog_2_method_1_code 7 = .ok (.newarray .int, 2) := by decide +kernel
theorem dd_G_init_9 : decode prog_2_method_1_code 9 = .ok (.putfield 11, 3) := by decide +kernel
theorem dd_G_init_12 : decode prog_2_method_1_code 12 = .ok (.aload_n 0, 1) := by decide +kernel
theorem dd_G_init_13 : decode prog_2_method_1_code 13 = .ok (.bipush 8, 2) := by decide +kernel
theorem dd_G_init_15 : decode prog_2_method_1_code 15 = .ok (.newarray .int, 2) := by decide +kernel
theorem dd_G_init_17 : decode prog_2_method_1_code 17 = .ok (.putfield 15, 3) := by decide +kernel
theorem dd_G_init_20 : decode prog_2_method_1_code 20 = .ok (.aload_n 0, 1) := by decide +kernel
theorem dd_G_init_21 : decode prog_2_method_1_code 21 = .ok (.iconst 0, 1) := by decide +kernel
theorem dd_G_init_22 : decode prog_2_method_1_code 22 = .ok (.putfield 18, 3) := by decide +kernel
theorem dd_G_init_25 : decode prog_2_method_1_code 25 = .ok (.aload_n 0, 1) := by decide +kernel
theorem dd_G_init_26 : decode prog_2_method_1_code 26 = .ok (.iconst 0, 1) := by decide +kernel
theorem dd_G_init_27 : decode prog_2_method_1_code 27 = .ok (.putfield 22, 3) := by decide +kernel
theorem dd_G_init_30 : decode prog_2_method_1_code 30 = .ok (.return_, 1) := by decide +kernel
theorem dd_P_init_0 : decode prog_3_method_1_code 0 = .ok (.aload_n 0, 1) := by decide +kernel
theorem dd_P_init_1 : decode prog_3_method_1_code 1 = .ok (.invokespecial 3, 3) := by decide +kernel
theorem dd_P_init_4 : decode prog_3_method_1_code 4 = .ok (.aload_n 0, 1) := by decide +kernel
theorem dd_P_init_5 : decode prog_3_method_1_code 5 = .ok (.iconst 0, 1) := by decide +kernel
theorem dd_P_init_6 : decode prog_3_method_1_code 6 = .ok (.putfield 9, 3) := by decide +kernel
theorem dd_P_init_9 : decode prog_3_method_1_code 9 = .ok (.aload_n 0, 1) := by decide +kernel
theorem dd_P_init_10 : decode prog_3_method_1_code 10 = .ok (.iconst 0, 1) := by decide +kernel
theorem dd_P_init_11 : decode prog_3_method_1_code 11 = .ok (.putfield 15, 3) := by decide +kernel
theorem dd_P_init_14 : decode prog_3_method_1_code 14 = .ok (.aload_n 0, 1) := by decide +kernel
theorem dd_P_init_15 : decode prog_3_method_1_code 15 = .ok (.iconst 0, 1) := by decide +kernel
theorem dd_P_init_16 : decode prog_3_method_1_code 16 = .ok (.putfield 18, 3) := by decide +kernel
theorem dd_P_init_19 : decode prog_3_method_1_code 19 = .ok (.aload_n 0, 1) := by decide +kernel
theorem dd_P_init_20 : decode prog_3_method_1_code 20 = .ok (.iload_n 1, 1) := by decide +kernel
theorem dd_P_init_21 : decode prog_3_method_1_code 21 = .ok (.putfield 21, 3) := by decide +kernel
theorem dd_P_init_24 : decode prog_3_method_1_code 24 = .ok (.aload_n 0, 1) := by decide +kernel
theorem dd_P_init_25 : decode prog_3_method_1_code 25 = .ok (.iload_n 2, 1) := by decide +kernel
theorem dd_P_init_26 : decode prog_3_method_1_code 26 = .ok (.putfield 24, 3) := by decide +kernel
theorem dd_P_init_29 : decode prog_3_method_1_code 29 = .ok (.aload_n 0, 1) := by decide +kernel
theorem dd_P_init_30 : decode prog_3_method_1_code 30 = .ok (.sipush 256, 3) := by decide +kernel
theorem dd_P_init_33 : decode prog_3_method_1_code 33 = .ok (.newarray .int, 2) := by decide +kernel
theorem dd_P_init_35 : decode prog_3_method_1_code 35 = .ok (.putfield 27, 3) := by decide +kernel
theorem dd_P_init_38 : decode prog_3_method_1_code 38 = .ok (.return_, 1) := by decide +kernel
theorem dd_D_init_0 : decode prog_4_method_1_code 0 = .ok (.aload_n 0, 1) := by decide +kernel
theorem dd_D_init_1 : decode prog_4_method_1_code 1 = .ok (.invokespecial 3, 3) := by decide +kernel
theorem dd_D_init_4 : decode prog_4_method_1_code 4 = .ok (.aload_n 0, 1) := by decide +kernel
theorem dd_D_init_5 : decode prog_4_method_1_code 5 = .ok (.bipush 80, 2) := by decide +kernel
theorem dd_D_init_7 : decode prog_4_method_1_code 7 = .ok (.newarray .int, 2) := by decide +kernel
theorem dd_D_init_9 : decode prog_4_method_1_code 9 = .ok (.putfield 9, 3) := by decide +kernel
theorem dd_D_init_12 : decode prog_4_method_1_code 12 = .ok (.aload_n 0, 1) := by decide +kernel
theorem dd_D_init_13 : decode prog_4_method_1_code 13 = .ok (.iconst 4, 1) := by decide +kernel
theorem dd_D_init_14 : decode prog_4_method_1_code 14 = .ok (.newarray .int, 2) := by decide +kernel
theorem dd_D_init_16 : decode prog_4_method_1_code 16 = .ok (.putfield 15, 3) := by decide +kernel
theorem dd_D_init_19 : decode prog_4_method_1_code 19 = .ok (.aload_n 0, 1) := by decide +kernel
theorem dd_D_init_20 : decode prog_4_method_1_code 20 = .ok (.iconst 0, 1) := by decide +kernel
theorem dd_D_init_21 : decode prog_4_method_1_code 21 = .ok (.putfield 18, 3) := by decide +kernel
theorem dd_D_init_24 : decode prog_4_method_1_code 24 = .ok (.aload_n 0, 1) := by decide +kernel
theorem dd_D_init_25 : decode prog_4_method_1_code 25 = .ok (.getfield 9, 3) := by decide +kernel
theorem dd_D_init_28 : decode prog_4_method_1_code 28 = .ok (.iconst (-1), 1) := by decide +kernel
theorem dd_D_init_29 : decode prog_4_method_1_code 29 = .ok (.invokestatic 22, 3) := by decide +kernel
theorem dd_D_init_32 : decode prog_4_method_1_code 32 = .ok (.return_, 1) := by decide +kernel
theorem dd_M_init_0 : decode prog_7_method_1_code 0 = .ok (.aload_n 0, 1) := by decide +kernel
theorem dd_M_init_1 : decode prog_7_method_1_code 1 = .ok (.invokespecial 1, 3) := by decide +kernel
theorem dd_M_init_4 : decode prog_7_method_1_code 4 = .ok (.aload_n 0, 1) := by decide +kernel
theorem dd_M_init_5 : decode prog_7_method_1_code 5 = .ok (.sipush 256, 3) := by decide +kernel
theorem dd_M_init_8 : decode prog_7_method_1_code 8 = .ok (.newarray .int, 2) := by decide +kernel
theorem dd_M_init_10 : decode prog_7_method_1_code 10 = .ok (.putfield 7, 3) := by decide +kernel
theorem dd_M_init_13 : decode prog_7_method_1_code 13 = .ok (.aload_n 0, 1) := by decide +kernel
theorem dd_M_init_14 : decode prog_7_method_1_code 14 = .ok (.bipush 8, 2) := by decide +kernel
theorem dd_M_init_16 : decode prog_7_method_1_code 16 = .ok (.newarray .int, 2) := by decide +kernel
theorem dd_M_init_18 : decode prog_7_method_1_code 18 = .ok (.putfield 13, 3) := by decide +kernel
theorem dd_M_init_21 : decode prog_7_method_1_code 21 = .ok (.aload_n 0, 1) := by decide +kernel
theorem dd_M_init_22 : decode prog_7_method_1_code 22 = .ok (.bipush 8, 2) := by decide +kernel
theorem dd_M_init_24 : decode prog_7_method_1_code 24 = .ok (.newarray .int, 2) := by decide +kernel
theorem dd_M_init_26 : decode prog_7_method_1_code 26 = .ok (.putfield 16, 3) := by decide +kernel
theorem dd_M_init_29 : decode prog_7_method_1_code 29 = .ok (.aload_n 0, 1) := by decide +kernel
theorem dd_M_init_30 : decode prog_7_method_1_code 30 = .ok (.iconst 2, 1) := by decide +kernel
theorem dd_M_init_31 : decode prog_7_method_1_code 31 = .ok (.putfield 19, 3) := by decide +kernel
theorem dd_M_init_34 : decode prog_7_method_1_code 34 = .ok (.aload_n 0, 1) := by decide +kernel
theorem dd_M_init_35 : decode prog_7_method_1_code 35 = .ok (.iconst 5, 1) := by decide +kernel
theorem dd_M_init_36 : decode prog_7_method_1_code 36 = .ok (.putfield 23, 3) := by decide +kernel
theorem dd_M_init_39 : decode prog_7_method_1_code 39 = .ok (.aload_n 0, 1) := by decide +kernel
theorem dd_M_init_40 : decode prog_7_method_1_code 40 = .ok (.bipush 16, 2) := by decide +kernel
theorem dd_M_init_42 : decode prog_7_method_1_code 42 = .ok (.newarray .int, 2) := by decide +kernel
theorem dd_M_init_44 : decode prog_7_method_1_code 44 = .ok (.putfield 26, 3) := by decide +kernel
theorem dd_M_init_47 : decode prog_7_method_1_code 47 = .ok (.aload_n 0, 1) := by decide +kernel
theorem dd_M_init_48 : decode prog_7_method_1_code 48 = .ok (.bipush 16, 2) := by decide +kernel
theorem dd_M_init_50 : decode prog_7_method_1_code 50 = .ok (.newarray .int, 2) := by decide +kernel
theorem dd_M_init_52 : decode prog_7_method_1_code 52 = .ok (.putfield 29, 3) := by decide +kernel
theorem dd_M_init_55 : decode prog_7_method_1_code 55 = .ok (.aload_n 0, 1) := by decide +kernel
theorem dd_M_init_56 : decode prog_7_method_1_code 56 = .ok (.bipush 16, 2) := by decide +kernel
theorem dd_M_init_58 : decode prog_7_method_1_code 58 = .ok (.newarray .int, 2) := by decide +kernel
theorem dd_M_init_60 : decode prog_7_method_1_code 60 = .ok (.putfield 32, 3) := by decide +kernel
theorem dd_M_init_63 : decode prog_7_method_1_code 63 = .ok (.aload_n 0, 1) := by decide +kernel
theorem dd_M_init_64 : decode prog_7_method_1_code 64 = .ok (.bipush 16, 2) := by decide +kernel
theorem dd_M_init_66 : decode prog_7_method_1_code 66 = .ok (.newarray .int, 2) := by decide +kernel
theorem dd_M_init_68 : decode prog_7_method_1_code 68 = .ok (.putfield 35, 3) := by decide +kernel
theorem dd_M_init_71 : decode prog_7_method_1_code 71 = .ok (.aload_n 0, 1) := by decide +kernel
theorem dd_M_init_72 : decode prog_7_method_1_code 72 = .ok (.sipush 289, 3) := by decide +kernel
theorem dd_M_init_75 : decode prog_7_method_1_code 75 = .ok (.newarray .int, 2) := by decide +kernel
theorem dd_M_init_77 : decode prog_7_method_1_code 77 = .ok (.putfield 38, 3) := by decide +kernel
theorem dd_M_init_80 : decode prog_7_method_1_code 80 = .ok (.aload_n 0, 1) := by decide +kernel
theorem dd_M_init_81 : decode prog_7_method_1_code 81 = .ok (.bipush 16, 2) := by decide +kernel
theorem dd_M_init_83 : decode prog_7_method_1_code 83 = .ok (.newarray .int, 2) := by decide +kernel
theorem dd_M_init_85 : decode prog_7_method_1_code 85 = .ok (.putfield 41, 3) := by decide +kernel
theorem dd_M_init_88 : decode prog_7_method_1_code 88 = .ok (.aload_n 0, 1) := by decide +kernel
theorem dd_M_init_89 : decode prog_7_method_1_code 89 = .ok (.bipush 80, 2) := by decide +kernel
theorem dd_M_init_91 : decode prog_7_method_1_code 91 = .ok (.newarray .int, 2) := by decide +kernel
theorem dd_M_init_93 : decode prog_7_method_1_code 93 = .ok (.putfield 44, 3) := by decide +kernel
theorem dd_M_init_96 : decode prog_7_method_1_code 96 = .ok (.aload_n 0, 1) := by decide +kernel
theorem dd_M_init_97 : decode prog_7_method_1_code 97 = .ok (.iload_n 1, 1) := by decide +kernel
theorem dd_M_init_98 : decode prog_7_method_1_code 98 = .ok (.iconst 1, 1) := by decide +kernel
theorem dd_M_init_99 : decode prog_7_method_1_code 99 = .ok (.if_icmp .ge 7, 3) := by decide +kernel
theorem dd_M_init_102 : decode prog_7_method_1_code 102 = .ok (.iconst 1, 1) := by decide +kernel
theorem dd_M_init_103 : decode prog_7_method_1_code 103 = .ok (.goto 15, 3) := by decide +kernel
theorem dd_M_init_106 : decode prog_7_method_1_code 106 = .ok (.iload_n 1, 1) := by decide +kernel
theorem dd_M_init_107 : decode prog_7_method_1_code 107 = .ok (.bipush 16, 2) := by decide +kernel
theorem dd_M_init_109 : decode prog_7_method_1_code 109 = .ok (.if_icmp .le 8, 3) := by decide +kernel
theorem dd_M_init_112 : decode prog_7_method_1_code 112 = .ok (.bipush 16, 2) := by decide +kernel
theorem dd_M_init_114 : decode prog_7_method_1_code 114 = .ok (.goto 4, 3) := by decide +kernel
theorem dd_M_init_117 : decode prog_7_method_1_code 117 = .ok (.iload_n 1, 1) := by decide +kernel
theorem dd_M_init_118 : decode prog_7_method_1_code 118 = .ok (.putfield 47, 3) := by decide +kernel
theorem dd_M_init_121 : decode prog_7_method_1_code 121 = .ok (.aload_n 0, 1) := by decide +kernel
theorem dd_M_init_122 : decode prog_7_method_1_code 122 = .ok (.iload_n 2, 1) := by decide +kernel
theorem dd_M_init_123 : decode prog_7_method_1_code 123 = .ok (.iconst 1, 1) := by decide +kernel
theorem dd_M_init_124 : decode prog_7_method_1_code 124 = .ok (.if_icmp .ge 7, 3) := by decide +kernel
theorem dd_M_init_127 : decode prog_7_method_1_code 127 = .ok (.iconst 1, 1) := by decide +kernel
theorem dd_M_init_128 : decode prog_7_method_1_code 128 = .ok (.goto 15, 3) := by decide +kernel
theorem dd_M_init_131 : decode prog_7_method_1_code 131 = .ok (.iload_n 2, 1) := by decide +kernel
theorem dd_M_init_132 : decode prog_7_method_1_code 132 = .ok (.bipush 16, 2) := by decide +kernel
theorem dd_M_init_134 : decode prog_7_method_1_code 134 = .ok (.if_icmp .le 8, 3) := by decide +kernel
theorem dd_M_init_137 : decode prog_7_method_1_code 137 = .ok (.bipush 16, 2) := by decide +kernel
theorem dd_M_init_139 : decode prog_7_method_1_code 139 = .ok (.goto 4, 3) := by decide +kernel
theorem dd_M_init_142 : decode prog_7_method_1_code 142 = .ok (.iload_n 2, 1) := by decide +kernel
theorem dd_M_init_143 : decode prog_7_method_1_code 143 = .ok (.putfield 50, 3) := by decide +kernel
theorem dd_M_init_146 : decode prog_7_method_1_code 146 = .ok (.return_, 1) := by decide +kernel
theorem dd_S_init_0 : decode prog_1_method_1_code 0 = .ok (.aload_n 0, 1) := by decide +kernel
theorem dd_S_init_1 : decode prog_1_method_1_code 1 = .ok (.invokespecial 3, 3) := by decide +kernel
theorem dd_S_init_4 : decode prog_1_method_1_code 4 = .ok (.aload_n 0, 1) := by decide +kernel
theorem dd_S_init_5 : decode prog_1_method_1_code 5 = .ok (.bipush 8, 2) := by decide +kernel
theorem dd_S_init_7 : decode prog_1_method_1_code 7 = .ok (.newarray .int, 2) := by decide +kernel
theorem dd_S_init_9 : decode prog_1_method_1_code 9 = .ok (.putfield 9, 3) := by decide +kernel
theorem dd_S_init_12 : decode prog_1_method_1_code 12 = .ok (.aload_n 0, 1) := by decide +kernel
theorem dd_S_init_13 : decode prog_1_method_1_code 13 = .ok (.bipush 8, 2) := by decide +kernel
theorem dd_S_init_15 : decode prog_1_method_1_code 15 = .ok (.newarray .int, 2) := by decide +kernel
theorem dd_S_init_17 : decode prog_1_method_1_code 17 = .ok (.putfield 13, 3) := by decide +kernel
theorem dd_S_init_20 : decode prog_1_method_1_code 20 = .ok (.aload_n 0, 1) := by decide +kernel
theorem dd_S_init_21 : decode prog_1_method_1_code 21 = .ok (.new 16, 3) := by decide +kernel
theorem dd_S_init_24 : decode prog_1_method_1_code 24 = .ok (.dup, 1) := by decide +kernel
theorem dd_S_init_25 : decode prog_1_method_1_code 25 = .ok (.invokespecial 18, 3) := by decide +kernel
theorem dd_S_init_28 : decode prog_1_method_1_code 28 = .ok (.putfield 19, 3) := by decide +kernel
theorem dd_S_init_31 : decode prog_1_method_1_code 31 = .ok (.aload_n 0, 1) := by decide +kernel
theorem dd_S_init_32 : decode prog_1_method_1_code 32 = .ok (.new 16, 3) := by decide +kernel
theorem dd_S_init_35 : decode prog_1_method_1_code 35 = .ok (.dup, 1) := by decide +kernel
theorem dd_S_init_36 : decode prog_1_method_1_code 36 = .ok (.invokespecial 18, 3) := by decide +kernel
theorem dd_S_init_39 : decode prog_1_method_1_code 39 = .ok (.putfield 23, 3) := by decide +kernel
theorem dd_S_init_42 : decode prog_1_method_1_code 42 = .ok (.aload_n 0, 1) := by decide +kernel
theorem dd_S_init_43 : decode prog_1_method_1_code 43 = .ok (.new 26, 3) := by decide +kernel
theorem dd_S_init_46 : decode prog_1_method_1_code 46 = .ok (.dup, 1) := by decide +kernel
theorem dd_S_init_47 : decode prog_1_method_1_code 47 = .ok (.invokespecial 28, 3) := by decide +kernel
theorem dd_S_init_50 : decode prog_1_method_1_code 50 = .ok (.putfield 29, 3) := by decide +kernel
theorem dd_S_init_53 : decode prog_1_method_1_code 53 = .ok (.aload_n 0, 1) := by decide +kernel
theorem dd_S_init_54 : decode prog_1_method_1_code 54 = .ok (.new 33, 3) := by decide +kernel
theorem dd_S_init_57 : decode prog_1_method_1_code 57 = .ok (.dup, 1) := by decide +kernel
theorem dd_S_init_58 : decode prog_1_method_1_code 58 = .ok (.invokespecial 35, 3) := by decide +kernel
theorem dd_S_init_61 : decode prog_1_method_1_code 61 = .ok (.putfield 36, 3) := by decide +kernel
theorem dd_S_init_64 : decode prog_1_method_1_code 64 = .ok (.aload_n 0, 1) := by decide +kernel
theorem dd_S_init_65 : decode prog_1_method_1_code 65 = .ok (.iconst 0, 1) := by decide +kernel
theorem dd_S_init_66 : decode prog_1_method_1_code 66 = .ok (.putfield 40, 3) := by decide +kernel
theorem dd_S_init_69 : decode prog_1_method_1_code 69 = .ok (.aload_n 0, 1) := by decide +kernel
theorem dd_S_init_70 : decode prog_1_method_1_code 70 = .ok (.iconst 2, 1) := by decide +kernel
theorem dd_S_init_71 : decode prog_1_method_1_code 71 = .ok (.putfield 44, 3) := by decide +kernel
theorem dd_S_init_74 : decode prog_1_method_1_code 74 = .ok (.aload_n 0, 1) := by decide +kernel
theorem dd_S_init_75 : decode prog_1_method_1_code 75 = .ok (.iconst 5, 1) := by decide +kernel
theorem dd_S_init_76 : decode prog_1_method_1_code 76 = .ok (.putfield 47, 3) := by decide +kernel
theorem dd_S_init_79 : decode prog_1_method_1_code 79 = .ok (.aload_n 0, 1) := by decide +kernel
theorem dd_S_init_80 : decode prog_1_method_1_code 80 = .ok (.new 50, 3) := by decide +kernel
theorem dd_S_init_83 : decode prog_1_method_1_code 83 = .ok (.dup, 1) := by decide +kernel
theorem dd_S_init_84 : decode prog_1_method_1_code 84 = .ok (.iload_n 1, 1) := by decide +kernel
theorem dd_S_init_85 : decode prog_1_method_1_code 85 = .ok (.invokestatic 52, 3) := by decide +kernel
theorem dd_S_init_88 : decode prog_1_method_1_code 88 = .ok (.iload_n 2, 1) := by decide +kernel
theorem dd_S_init_89 : decode prog_1_method_1_code 89 = .ok (.invokestatic 52, 3) := by decide +kernel
theorem dd_S_init_92 : decode prog_1_method_1_code 92 = .ok (.invokespecial 56, 3) := by decide +kernel
theorem dd_S_init_95 : decode prog_1_method_1_code 95 = .ok (.putfield 59, 3) := by decide +kernel
theorem dd_S_init_98 : decode prog_1_method_1_code 98 = .ok (.return_, 1) := by decide +kernel
theorem dd_S_nearestSide_0 : decode prog_1_method_28_code 0 = .ok (.iconst 1, 1) := by decide +kernel
theorem dd_S_nearestSide_1 : decode prog_1_method_28_code 1 = .ok (.iload_n 0, 1) := by decide +kernel
theorem dd_S_nearestSide_2 : decode prog_1_method_28_code 2 = .ok (.bipush 16, 2) := by decide +kernel
theorem dd_S_nearestSide_4 : decode prog_1_method_28_code 4 = .ok (.invokestatic 216, 3) := by decide +kernel
theorem dd_S_nearestSide_7 : decode prog_1_method_28_code 7 = .ok (.invokestatic 186, 3) := by decide +kernel
theorem dd_S_nearestSide_10 : decode prog_1_method_28_code 10 = .ok (.ireturn, 1) := by decide +kernel
theorem dd_A_fill_0 : decode prog_16_method_103_code 0 = .ok (.iconst 0, 1) := by decide +kernel
theorem dd_A_fill_1 : decode prog_16_method_103_code 1 = .ok (.istore_n 2, 1) := by decide +kernel
theorem dd_A_fill_2 : decode prog_16_method_103_code 2 = .ok (.aload_n 0, 1) := by decide +kernel
theorem dd_A_fill_3 : decode prog_16_method_103_code 3 = .ok (.arraylength, 1) := by decide +kernel
theorem dd_A_fill_4 : decode prog_16_method_103_code 4 = .ok (.istore_n 3, 1) := by decide +kernel
theorem dd_A_fill_5 : decode prog_16_method_103_code 5 = .ok (.iload_n 2, 1) := by decide +kernel
theorem dd_A_fill_6 : decode prog_16_method_103_code 6 = .ok (.iload_n 3, 1) := by decide +kernel
theorem dd_A_fill_7 : decode prog_16_method_103_code 7 = .ok (.if_icmp .ge 13, 3) := by decide +kernel
theorem dd_A_fill_10 : decode prog_16_method_103_code 10 = .ok (.aload_n 0, 1) := by decide +kernel
theorem dd_A_fill_11 : decode prog_16_method_103_code 11 = .ok (.iload_n 2, 1) := by decide +kernel
theorem dd_A_fill_12 : decode prog_16_method_103_code 12 = .ok (.iload_n 1, 1) := by decide +kernel
theorem dd_A_fill_13 : decode prog_16_method_103_code 13 = .ok (.iastore, 1) := by decide +kernel
theorem dd_A_fill_14 : decode prog_16_method_103_code 14 = .ok (.iinc 2 1, 3) := by decide +kernel
theorem dd_A_fill_17 : decode prog_16_method_103_code 17 = .ok (.goto (-12), 3) := by decide +kernel
theorem dd_A_fill_20 : decode prog_16_method_103_code 20 = .ok (.return_, 1) := by decide +kernel
theorem dd_L_cell_0 : decode method_2_code 0 = .ok (.iload_n 1, 1) := by decide +kernel
theorem dd_L_cell_1 : decode method_2_code 1 = .ok (.aload_n 0, 1) := by decide +kernel
theorem dd_L_cell_2 : decode method_2_code 2 = .ok (.arraylength, 1) := by decide +kernel
theorem dd_L_cell_3 : decode method_2_code 3 = .ok (.if_icmp .ge 9, 3) := by decide +kernel
theorem dd_L_cell_6 : decode method_2_code 6 = .ok (.aload_n 0, 1) := by decide +kernel
theorem dd_L_cell_7 : decode method_2_code 7 = .ok (.iload_n 1, 1) := by decide +kernel
theorem dd_L_cell_8 : decode method_2_code 8 = .ok (.iaload, 1) := by decide +kernel
theorem dd_L_cell_9 : decode method_2_code 9 = .ok (.goto 4, 3) := by decide +kernel
theorem dd_L_cell_12 : decode method_2_code 12 = .ok (.iconst 0, 1) := by decide +kernel
theorem dd_L_cell_13 : decode method_2_code 13 = .ok (.ireturn, 1) := by decide +kernel
end
section
theorem dd_L_law_0 : decode code 0 = .ok (.new 8, 3) := by decide +kernel
theorem dd_L_law_3 : decode code 3 = .ok (.dup, 1) := by decide +kernel
theorem dd_L_law_4 : decode code 4 = .ok (.aload_n 0, 1) := by decide +kernel
theorem dd_L_law_5 : decode code 5 = .ok (.iconst 0, 1) := by decide +kernel
theorem dd_L_law_6 : decode code 6 = .ok (.invokestatic 86, 3) := by decide +kernel
theorem dd_L_law_9 : decode code 9 = .ok (.aload_n 0, 1) := by decide +kernel
theorem dd_L_law_10 : decode code 10 = .ok (.iconst 1, 1) := by decide +kernel
theorem dd_L_law_11 : decode code 11 = .ok (.invokestatic 86, 3) := by decide +kernel
theorem dd_L_law_14 : decode code 14 = .ok (.invokespecial 92, 3) := by decide +kernel
theorem dd_L_law_17 : decode code 17 = .ok (.astore_n 1, 1) := by decide +kernel
theorem dd_L_law_18 : decode code 18 = .ok (.new 94, 3) := by decide +kernel
theorem dd_L_law_21 : decode code 21 = .ok (.dup, 1) := by decide +kernel
theorem dd_L_law_22 : decode code 22 = .ok (.aload_n 0, 1) := by decide +kernel
theorem dd_L_law_23 : decode code 23 = .ok (.iconst 0, 1) := by decide +kernel
theorem dd_L_law_24 : decode code 24 = .ok (.invokestatic 86, 3) := by decide +kernel
theorem dd_L_law_27 : decode code 27 = .ok (.aload_n 0, 1) := by decide +kernel
theorem dd_L_law_28 : decode code 28 = .ok (.iconst 1, 1) := by decide +kernel
theorem dd_L_law_29 : decode code 29 = .ok (.invokestatic 86, 3) := by decide +kernel
theorem dd_L_law_32 : decode code 32 = .ok (.invokespecial 96, 3) := by decide +kernel
theorem dd_L_law_35 : decode code 35 = .ok (.astore_n 2, 1) := by decide +kernel
theorem dd_L_law_36 : decode code 36 = .ok (.iconst 1, 1) := by decide +kernel
theorem dd_L_law_37 : decode code 37 = .ok (.newarray .long, 2) := by decide +kernel
theorem dd_L_law_39 : decode code 39 = .ok (.astore_n 3, 1) := by decide +kernel
theorem dd_L_law_40 : decode code 40 = .ok (.iconst 2, 1) := by decide +kernel
theorem dd_L_law_41 : decode code 41 = .ok (.istore 4, 2) := by decide +kernel
theorem dd_L_law_43 : decode code 43 = .ok (.iload 4, 2) := by decide +kernel
theorem dd_L_law_45 : decode code 45 = .ok (.aload_n 0, 1) := by decide +kernel
theorem dd_L_law_46 : decode code 46 = .ok (.arraylength, 1) := by decide +kernel
theorem dd_L_law_47 : decode code 47 = .ok (.iconst 4, 1) := by decide +kernel
theorem dd_L_law_48 : decode code 48 = .ok (.isub, 1) := by decide +kernel
theorem dd_L_law_49 : decode code 49 = .ok (.if_icmp .gt 1603, 3) := by decide +kernel
theorem dd_L_law_52 : decode code 52 = .ok (.aload_n 0, 1) := by decide +kernel
theorem dd_L_law_53 : decode code 53 = .ok (.iload 4, 2) := by decide +kernel
theorem dd_L_law_55 : decode code 55 = .ok (.iaload, 1) := by decide +kernel
theorem dd_L_law_56 : decode code 56 = .ok (.bipush 31, 2) := by decide +kernel
theorem dd_L_law_58 : decode code 58 = .ok (.iand, 1) := by decide +kernel
theorem dd_L_law_59 : decode code 59 = .ok (.tableswitch 1587 0 21 #[101, 188, 244, 312, 368, 464, 512, 568, 648, 728, 784, 864, 924, 999, 1079, 1159, 1239, 1295, 1351, 1407, 1487, 1562], 101) := by decide +kernel
theorem dd_L_law_160 : decode code 160 = .ok (.aload_n 1, 1) := by decide +kernel
theorem dd_L_law_161 : decode code 161 = .ok (.aload_n 0, 1) := by decide +kernel
theorem dd_L_law_162 : decode code 162 = .ok (.iload 4, 2) := by decide +kernel
theorem dd_L_law_164 : decode code 164 = .ok (.iconst 1, 1) := by decide +kernel
theorem dd_L_law_165 : decode code 165 = .ok (.iadd, 1) := by decide +kernel
theorem dd_L_law_166 : decode code 166 = .ok (.iaload, 1) := by decide +kernel
theorem dd_L_law_167 : decode code 167 = .ok (.aload_n 0, 1) := by decide +kernel
theorem dd_L_law_168 : decode code 168 = .ok (.iload 4, 2) := by decide +kernel
theorem dd_L_law_170 : decode code 170 = .ok (.iconst 2, 1) := by decide +kernel
theorem dd_L_law_171 : decode code 171 = .ok (.iadd, 1) := by decide +kernel
theorem dd_L_law_172 : decode code 172 = .ok (.iaload, 1) := by decide +kernel
theorem dd_L_law_173 : decode code 173 = .ok (.aload_n 0, 1) := by decide +kernel
theorem dd_L_law_174 : decode code 174 = .ok (.iload 4, 2) := by decide +kernel
theorem dd_L_law_176 : decode code 176 = .ok (.iconst 3, 1) := by decide +kernel
theorem dd_L_law_177 : decode code 177 = .ok (.iadd, 1) := by decide +kernel
theorem dd_L_law_178 : decode code 178 = .ok (.iaload, 1) := by decide +kernel
theorem dd_L_law_179 : decode code 179 = .ok (.aload_n 3, 1) := by decide +kernel
theorem dd_L_law_180 : decode code 180 = .ok (.invokestatic 97, 3) := by decide +kernel
theorem dd_L_law_183 : decode code 183 = .ok (.istore 5, 2) := by decide +kernel
theorem dd_L_law_185 : decode code 185 = .ok (.aload_n 2, 1) := by decide +kernel
theorem dd_L_law_186 : decode code 186 = .ok (.aload_n 0, 1) := by decide +kernel
theorem dd_L_law_187 : decode code 187 = .ok (.iload 4, 2) := by decide +kernel
theorem dd_L_law_189 : decode code 189 = .ok (.iconst 1, 1) := by decide +kernel
theorem dd_L_law_190 : decode code 190 = .ok (.iadd, 1) := by decide +kernel
theorem dd_L_law_191 : decode code 191 = .ok (.iaload, 1) := by decide +kernel
theorem dd_L_law_192 : decode code 192 = .ok (.aload_n 0, 1) := by decide +kernel
theorem dd_L_law_193 : decode code 193 = .ok (.iload 4, 2) := by decide +kernel
theorem dd_L_law_195 : decode code 195 = .ok (.iconst 2, 1) := by decide +kernel
theorem dd_L_law_196 : decode code 196 = .ok (.iadd, 1) := by decide +kernel
theorem dd_L_law_197 : decode code 197 = .ok (.iaload, 1) := by decide +kernel
theorem dd_L_law_198 : decode code 198 = .ok (.aload_n 0, 1) := by decide +kernel
theorem dd_L_law_199 : decode code 199 = .ok (.iload 4, 2) := by decide +kernel
theorem dd_L_law_201 : decode code 201 = .ok (.iconst 3, 1) := by decide +kernel
theorem dd_L_law_202 : decode code 202 = .ok (.iadd, 1) := by decide +kernel
theorem dd_L_law_203 : decode code 203 = .ok (.iaload, 1) := by decide +kernel
theorem dd_L_law_204 : decode code 204 = .ok (.invokevirtual 100, 3) := by decide +kernel
theorem dd_L_law_207 : decode code 207 = .ok (.istore 6, 2) := by decide +kernel
theorem dd_L_law_209 : decode code 209 = .ok (.aload_n 2, 1) := by decide +kernel
theorem dd_L_law_210 : decode code 210 = .ok (.invokevirtual 101, 3) := by decide +kernel
theorem dd_L_law_213 : decode code 213 = .ok (.iload 5, 2) := by decide +kernel
theorem dd_L_law_215 : decode code 215 = .ok (.if_icmp .eq 5, 3) := by decide +kernel
theorem dd_L_law_218 : decode code 218 = .ok (.iconst 0, 1) := by decide +kernel
theorem dd_L_law_219 : decode code 219 = .ok (.ireturn, 1) := by decide +kernel
theorem dd_L_law_220 : decode code 220 = .ok (.iload 5, 2) := by decide +kernel
theorem dd_L_law_222 : decode code 222 = .ok (.ifCond .ne 22, 3) := by decide +kernel
theorem dd_L_law_225 : decode code 225 = .ok (.aload_n 3, 1) := by decide +kernel
theorem dd_L_law_226 : decode code 226 = .ok (.iconst 0, 1) := by decide +kernel
theorem dd_L_law_227 : decode code 227 = .ok (.laload, 1) := by decide +kernel
theorem dd_L_law_228 : decode code 228 = .ok (.iload 6, 2) := by decide +kernel
theorem dd_L_law_230 : decode code 230 = .ok (.ifCond .eq 7, 3) := by decide +kernel
theorem dd_L_law_233 : decode code 233 = .ok (.lconst 1, 1) := by decide +kernel
theorem dd_L_law_234 : decode code 234 = .ok (.goto 4, 3) := by decide +kernel
theorem dd_L_law_237 : decode code 237 = .ok (.lconst 0, 1) := by decide +kernel
theorem dd_L_law_238 : decode code 238 = .ok (.lcmp, 1) := by decide +kernel
theorem dd_L_law_239 : decode code 239 = .ok (.ifCond .eq 5, 3) := by decide +kernel
theorem dd_L_law_242 : decode code 242 = .ok (.iconst 0, 1) := by decide +kernel
theorem dd_L_law_243 : decode code 243 = .ok (.ireturn, 1) := by decide +kernel
theorem dd_L_law_244 : decode code 244 = .ok (.goto 1402, 3) := by decide +kernel
theorem dd_L_law_247 : decode code 247 = .ok (.aload_n 1, 1) := by decide +kernel
theorem dd_L_law_248 : decode code 248 = .ok (.aload_n 0, 1) := by decide +kernel
theorem dd_L_law_249 : decode code 249 = .ok (.iload 4, 2) := by decide +kernel
theorem dd_L_law_251 : decode code 251 = .ok (.iconst 1, 1) := by decide +kernel
theorem dd_L_law_252 : decode code 252 = .ok (.iadd, 1) := by decide +kernel
theorem dd_L_law_253 : decode code 253 = .ok (.iaload, 1) := by decide +kernel
theorem dd_L_law_254 : decode code 254 = .ok (.aload_n 3, 1) := by decide +kernel
theorem dd_L_law_255 : decode code 255 = .ok (.invokestatic 105, 3) := by decide +kernel
theorem dd_L_law_258 : decode code 258 = .ok (.istore 5, 2) := by decide +kernel
theorem dd_L_law_260 : decode code 260 = .ok (.aload_n 2, 1) := by decide +kernel
theorem dd_L_law_261 : decode code 261 = .ok (.aload_n 0, 1) := by decide +kernel
theorem dd_L_law_262 : decode code 262 = .ok (.iload 4, 2) := by decide +kernel
theorem dd_L_law_264 : decode code 264 = .ok (.iconst 1, 1) := by decide +kernel
theorem dd_L_law_265 : decode code 265 = .ok (.iadd, 1) := by decide +kernel
theorem dd_L_law_266 : decode code 266 = .ok (.iaload, 1) := by decide +kernel
theorem dd_L_law_267 : decode code 267 = .ok (.invokevirtual 108, 3) := by decide +kernel
theorem dd_L_law_270 : decode code 270 = .ok (.istore 6, 2) := by decide +kernel
theorem dd_L_law_272 : decode code 272 = .ok (.aload_n 2, 1) := by decide +kernel
theorem dd_L_law_273 : decode code 273 = .ok (.invokevirtual 101, 3) := by decide +kernel
theorem dd_L_law_276 : decode code 276 = .ok (.iload 5, 2) := by decide +kernel
theorem dd_L_law_278 : decode code 278 = .ok (.if_icmp .eq 5, 3) := by decide +kernel
theorem dd_L_law_281 : decode code 281 = .ok (.iconst 0, 1) := by decide +kernel
theorem dd_L_law_282 : decode code 282 = .ok (.ireturn, 1) := by decide +kernel
theorem dd_L_law_283 : decode code 283 = .ok (.iload 5, 2) := by decide +kernel
theorem dd_L_law_285 : decode code 285 = .ok (.ifCond .ne 15, 3) := by decide +kernel
theorem dd_L_law_288 : decode code 288 = .ok (.aload_n 3, 1) := by decide +kernel
theorem dd_L_law_289 : decode code 289 = .ok (.iconst 0, 1) := by decide +kernel
theorem dd_L_law_290 : decode code 290 = .ok (.laload, 1) := by decide +kernel
theorem dd_L_law_291 : decode code 291 = .ok (.iload 6, 2) := by decide +kernel
theorem dd_L_law_293 : decode code 293 = .ok (.i2l, 1) := by decide +kernel
theorem dd_L_law_294 : decode code 294 = .ok (.lcmp, 1) := by decide +kernel
theorem dd_L_law_295 : decode code 295 = .ok (.ifCond .eq 5, 3) := by decide +kernel
theorem dd_L_law_298 : decode code 298 = .ok (.iconst 0, 1) := by decide +kernel
theorem dd_L_law_299 : decode code 299 = .ok (.ireturn, 1) := by decide +kernel
theorem dd_L_law_300 : decode code 300 = .ok (.goto 1346, 3) := by decide +kernel
theorem dd_L_law_303 : decode code 303 = .ok (.aload_n 1, 1) := by decide +kernel
theorem dd_L_law_304 : decode code 304 = .ok (.aload_n 0, 1) := by decide +kernel
theorem dd_L_law_305 : decode code 305 = .ok (.iload 4, 2) := by decide +kernel
theorem dd_L_law_307 : decode code 307 = .ok (.iconst 1, 1) := by decide +kernel
theorem dd_L_law_308 : decode code 308 = .ok (.iadd, 1) := by decide +kernel
theorem dd_L_law_309 : decode code 309 = .ok (.iaload, 1) := by decide +kernel
theorem dd_L_law_310 : decode code 310 = .ok (.aload_n 0, 1) := by decide +kernel
theorem dd_L_law_311 : decode code 311 = .ok (.iload 4, 2) := by decide +kernel
theorem dd_L_law_313 : decode code 313 = .ok (.iconst 2, 1) := by decide +kernel
theorem dd_L_law_314 : decode code 314 = .ok (.iadd, 1) := by decide +kernel
theorem dd_L_law_315 : decode code 315 = .ok (.iaload, 1) := by decide +kernel
theorem dd_L_law_316 : decode code 316 = .ok (.aload_n 3, 1) := by decide +kernel
theorem dd_L_law_317 : decode code 317 = .ok (.invokestatic 109, 3) := by decide +kernel
theorem dd_L_law_320 : decode code 320 = .ok (.istore 5, 2) := by decide +kernel
theorem dd_L_law_322 : decode code 322 = .ok (.aload_n 2, 1) := by decide +kernel
theorem dd_L_law_323 : decode code 323 = .ok (.aload_n 0, 1) := by decide +kernel
theorem dd_L_law_324 : decode code 324 = .ok (.iload 4, 2) := by decide +kernel
theorem dd_L_law_326 : decode code 326 = .ok (.iconst 1, 1) := by decide +kernel
theorem dd_L_law_327 : decode code 327 = .ok (.iadd, 1) := by decide +kernel
theorem dd_L_law_328 : decode code 328 = .ok (.iaload, 1) := by decide +kernel
theorem dd_L_law_329 : decode code 329 = .ok (.aload_n 0, 1) := by decide +kernel
theorem dd_L_law_330 : decode code 330 = .ok (.iload 4, 2) := by decide +kernel
theorem dd_L_law_332 : decode code 332 = .ok (.iconst 2, 1) := by decide +kernel
theorem dd_L_law_333 : decode code 333 = .ok (.iadd, 1) := by decide +kernel
theorem dd_L_law_334 : decode code 334 = .ok (.iaload, 1) := by decide +kernel
theorem dd_L_law_335 : decode code 335 = .ok (.invokevirtual 112, 3) := by decide +kernel
theorem dd_L_law_338 : decode code 338 = .ok (.istore 6, 2) := by decide +kernel
theorem dd_L_law_340 : decode code 340 = .ok (.aload_n 2, 1) := by decide +kernel
theorem dd_L_law_341 : decode code 341 = .ok (.invokevirtual 101, 3) := by decide +kernel
theorem dd_L_law_344 : decode code 344 = .ok (.iload 5, 2) := by decide +kernel
theorem dd_L_law_346 : decode code 346 = .ok (.if_icmp .eq 5, 3) := by decide +kernel
theorem dd_L_law_349 : decode code 349 = .ok (.iconst 0, 1) := by decide +kernel
theorem dd_L_law_350 : decode code 350 = .ok (.ireturn, 1) := by decide +kernel
theorem dd_L_law_351 : decode code 351 = .ok (.iload 5, 2) := by decide +kernel
theorem dd_L_law_353 : decode code 353 = .ok (.ifCond .ne 15, 3) := by decide +kernel
theorem dd_L_law_356 : decode code 356 = .ok (.aload_n 3, 1) := by decide +kernel
theorem dd_L_law_357 : decode code 357 = .ok (.iconst 0, 1) := by decide +kernel
theorem dd_L_law_358 : decode code 358 = .ok (.laload, 1) := by decide +kernel
theorem dd_L_law_359 : decode code 359 = .ok (.iload 6, 2) := by decide +kernel
theorem dd_L_law_361 : decode code 361 = .ok (.i2l, 1) := by decide +kernel
theorem dd_L_law_362 : decode code 362 = .ok (.lcmp, 1) := by decide +kernel
theorem dd_L_law_363 : decode code 363 = .ok (.ifCond .eq 5, 3) := by decide +kernel
theorem dd_L_law_366 : decode code 366 = .ok (.iconst 0, 1) := by decide +kernel
theorem dd_L_law_367 : decode code 367 = .ok (.ireturn, 1) := by decide +kernel
theorem dd_L_law_368 : decode code 368 = .ok (.goto 1278, 3) := by decide +kernel
theorem dd_L_law_371 : decode code 371 = .ok (.aload_n 1, 1) := by decide +kernel
theorem dd_L_law_372 : decode code 372 = .ok (.aload_n 0, 1) := by decide +kernel
theorem dd_L_law_373 : decode code 373 = .ok (.iload 4, 2) := by decide +kernel
theorem dd_L_law_375 : decode code 375 = .ok (.iconst 1, 1) := by decide +kernel
theorem dd_L_law_376 : decode code 376 = .ok (.iadd, 1) := by decide +kernel
theorem dd_L_law_377 : decode code 377 = .ok (.iaload, 1) := by decide +kernel
theorem dd_L_law_378 : decode code 378 = .ok (.aload_n 3, 1) := by decide +kernel
theorem dd_L_law_379 : decode code 379 = .ok (.invokestatic 113, 3) := by decide +kernel
theorem dd_L_law_382 : decode code 382 = .ok (.istore 5, 2) := by decide +kernel
theorem dd_L_law_384 : decode code 384 = .ok (.aload_n 2, 1) := by decide +kernel
theorem dd_L_law_385 : decode code 385 = .ok (.aload_n 0, 1) := by decide +kernel
theorem dd_L_law_386 : decode code 386 = .ok (.iload 4, 2) := by decide +kernel
theorem dd_L_law_388 : decode code 388 = .ok (.iconst 1, 1) := by decide +kernel
theorem dd_L_law_389 : decode code 389 = .ok (.iadd, 1) := by decide +kernel
theorem dd_L_law_390 : decode code 390 = .ok (.iaload, 1) := by decide +kernel
theorem dd_L_law_391 : decode code 391 = .ok (.invokevirtual 115, 3) := by decide +kernel
theorem dd_L_law_394 : decode code 394 = .ok (.istore 6, 2) := by decide +kernel
theorem dd_L_law_396 : decode code 396 = .ok (.aload_n 2, 1) := by decide +kernel
theorem dd_L_law_397 : decode code 397 = .ok (.invokevirtual 101, 3) := by decide +kernel
theorem dd_L_law_400 : decode code 400 = .ok (.iload 5, 2) := by decide +kernel
theorem dd_L_law_402 : decode code 402 = .ok (.if_icmp .eq 5, 3) := by decide +kernel
theorem dd_L_law_405 : decode code 405 = .ok (.iconst 0, 1) := by decide +kernel
theorem dd_L_law_406 : decode code 406 = .ok (.ireturn, 1) := by decide +kernel
theorem dd_L_law_407 : decode code 407 = .ok (.iload 5, 2) := by decide +kernel
theorem dd_L_law_409 : decode code 409 = .ok (.ifCond .ne 15, 3) := by decide +kernel
end
section
theorem dd_L_law_412 : decode code 412 = .ok (.aload_n 3, 1) := by decide +kernel
theorem dd_L_law_413 : decode code 413 = .ok (.iconst 0, 1) := by decide +kernel
theorem dd_L_law_414 : decode code 414 = .ok (.laload, 1) := by decide +kernel
theorem dd_L_law_415 : decode code 415 = .ok (.iload 6, 2) := by decide +kernel
theorem dd_L_law_417 : decode code 417 = .ok (.i2l, 1) := by decide +kernel
theorem dd_L_law_418 : decode code 418 = .ok (.lcmp, 1) := by decide +kernel
theorem dd_L_law_419 : decode code 419 = .ok (.ifCond .eq 5, 3) := by decide +kernel
theorem dd_L_law_422 : decode code 422 = .ok (.iconst 0, 1) := by decide +kernel
theorem dd_L_law_423 : decode code 423 = .ok (.ireturn, 1) := by decide +kernel
theorem dd_L_law_424 : decode code 424 = .ok (.goto 1222, 3) := by decide +kernel
theorem dd_L_law_427 : decode code 427 = .ok (.aload_n 1, 1) := by decide +kernel
theorem dd_L_law_428 : decode code 428 = .ok (.aload_n 0, 1) := by decide +kernel
theorem dd_L_law_429 : decode code 429 = .ok (.iload 4, 2) := by decide +kernel
theorem dd_L_law_431 : decode code 431 = .ok (.iconst 1, 1) := by decide +kernel
theorem dd_L_law_432 : decode code 432 = .ok (.iadd, 1) := by decide +kernel
theorem dd_L_law_433 : decode code 433 = .ok (.iaload, 1) := by decide +kernel
theorem dd_L_law_434 : decode code 434 = .ok (.aload_n 0, 1) := by decide +kernel
theorem dd_L_law_435 : decode code 435 = .ok (.iload 4, 2) := by decide +kernel
theorem dd_L_law_437 : decode code 437 = .ok (.iconst 2, 1) := by decide +kernel
theorem dd_L_law_438 : decode code 438 = .ok (.iadd, 1) := by decide +kernel
theorem dd_L_law_439 : decode code 439 = .ok (.iaload, 1) := by decide +kernel
theorem dd_L_law_440 : decode code 440 = .ok (.aload_n 0, 1) := by decide +kernel
theorem dd_L_law_441 : decode code 441 = .ok (.iload 4, 2) := by decide +kernel
theorem dd_L_law_443 : decode code 443 = .ok (.iconst 3, 1) := by decide +kernel
theorem dd_L_law_444 : decode code 444 = .ok (.iadd, 1) := by decide +kernel
theorem dd_L_law_445 : decode code 445 = .ok (.iaload, 1) := by decide +kernel
theorem dd_L_law_446 : decode code 446 = .ok (.ifCond .eq 7, 3) := by decide +kernel
theorem dd_L_law_449 : decode code 449 = .ok (.iconst 1, 1) := by decide +kernel
theorem dd_L_law_450 : decode code 450 = .ok (.goto 4, 3) := by decide +kernel
theorem dd_L_law_453 : decode code 453 = .ok (.iconst 0, 1) := by decide +kernel
theorem dd_L_law_454 : decode code 454 = .ok (.aload_n 3, 1) := by decide +kernel
theorem dd_L_law_455 : decode code 455 = .ok (.invokestatic 116, 3) := by decide +kernel
theorem dd_L_law_458 : decode code 458 = .ok (.istore 5, 2) := by decide +kernel
theorem dd_L_law_460 : decode code 460 = .ok (.aload_n 2, 1) := by decide +kernel
theorem dd_L_law_461 : decode code 461 = .ok (.aload_n 0, 1) := by decide +kernel
theorem dd_L_law_462 : decode code 462 = .ok (.iload 4, 2) := by decide +kernel
theorem dd_L_law_464 : decode code 464 = .ok (.iconst 1, 1) := by decide +kernel
theorem dd_L_law_465 : decode code 465 = .ok (.iadd, 1) := by decide +kernel
theorem dd_L_law_466 : decode code 466 = .ok (.iaload, 1) := by decide +kernel
theorem dd_L_law_467 : decode code 467 = .ok (.aload_n 0, 1) := by decide +kernel
theorem dd_L_law_468 : decode code 468 = .ok (.iload 4, 2) := by decide +kernel
theorem dd_L_law_470 : decode code 470 = .ok (.iconst 2, 1) := by decide +kernel
theorem dd_L_law_471 : decode code 471 = .ok (.iadd, 1) := by decide +kernel
theorem dd_L_law_472 : decode code 472 = .ok (.iaload, 1) := by decide +kernel
theorem dd_L_law_473 : decode code 473 = .ok (.aload_n 0, 1) := by decide +kernel
theorem dd_L_law_474 : decode code 474 = .ok (.iload 4, 2) := by decide +kernel
theorem dd_L_law_476 : decode code 476 = .ok (.iconst 3, 1) := by decide +kernel
theorem dd_L_law_477 : decode code 477 = .ok (.iadd, 1) := by decide +kernel
theorem dd_L_law_478 : decode code 478 = .ok (.iaload, 1) := by decide +kernel
theorem dd_L_law_479 : decode code 479 = .ok (.ifCond .eq 7, 3) := by decide +kernel
theorem dd_L_law_482 : decode code 482 = .ok (.iconst 1, 1) := by decide +kernel
theorem dd_L_law_483 : decode code 483 = .ok (.goto 4, 3) := by decide +kernel
theorem dd_L_law_486 : decode code 486 = .ok (.iconst 0, 1) := by decide +kernel
theorem dd_L_law_487 : decode code 487 = .ok (.invokevirtual 119, 3) := by decide +kernel
theorem dd_L_law_490 : decode code 490 = .ok (.istore 6, 2) := by decide +kernel
theorem dd_L_law_492 : decode code 492 = .ok (.aload_n 2, 1) := by decide +kernel
theorem dd_L_law_493 : decode code 493 = .ok (.invokevirtual 101, 3) := by decide +kernel
theorem dd_L_law_496 : decode code 496 = .ok (.iload 5, 2) := by decide +kernel
theorem dd_L_law_498 : decode code 498 = .ok (.if_icmp .eq 5, 3) := by decide +kernel
theorem dd_L_law_501 : decode code 501 = .ok (.iconst 0, 1) := by decide +kernel
theorem dd_L_law_502 : decode code 502 = .ok (.ireturn, 1) := by decide +kernel
theorem dd_L_law_503 : decode code 503 = .ok (.iload 5, 2) := by decide +kernel
theorem dd_L_law_505 : decode code 505 = .ok (.ifCond .ne 15, 3) := by decide +kernel
theorem dd_L_law_508 : decode code 508 = .ok (.aload_n 3, 1) := by decide +kernel
theorem dd_L_law_509 : decode code 509 = .ok (.iconst 0, 1) := by decide +kernel
theorem dd_L_law_510 : decode code 510 = .ok (.laload, 1) := by decide +kernel
theorem dd_L_law_511 : decode code 511 = .ok (.iload 6, 2) := by decide +kernel
theorem dd_L_law_513 : decode code 513 = .ok (.i2l, 1) := by decide +kernel
theorem dd_L_law_514 : decode code 514 = .ok (.lcmp, 1) := by decide +kernel
theorem dd_L_law_515 : decode code 515 = .ok (.ifCond .eq 5, 3) := by decide +kernel
theorem dd_L_law_518 : decode code 518 = .ok (.iconst 0, 1) := by decide +kernel
theorem dd_L_law_519 : decode code 519 = .ok (.ireturn, 1) := by decide +kernel
theorem dd_L_law_520 : decode code 520 = .ok (.goto 1126, 3) := by decide +kernel
theorem dd_L_law_523 : decode code 523 = .ok (.aload_n 1, 1) := by decide +kernel
theorem dd_L_law_524 : decode code 524 = .ok (.aload_n 0, 1) := by decide +kernel
theorem dd_L_law_525 : decode code 525 = .ok (.iload 4, 2) := by decide +kernel
theorem dd_L_law_527 : decode code 527 = .ok (.iconst 1, 1) := by decide +kernel
theorem dd_L_law_528 : decode code 528 = .ok (.iadd, 1) := by decide +kernel
theorem dd_L_law_529 : decode code 529 = .ok (.iaload, 1) := by decide +kernel
theorem dd_L_law_530 : decode code 530 = .ok (.aload_n 0, 1) := by decide +kernel
theorem dd_L_law_531 : decode code 531 = .ok (.iload 4, 2) := by decide +kernel
theorem dd_L_law_533 : decode code 533 = .ok (.iconst 2, 1) := by decide +kernel
theorem dd_L_law_534 : decode code 534 = .ok (.iadd, 1) := by decide +kernel
theorem dd_L_law_535 : decode code 535 = .ok (.iaload, 1) := by decide +kernel
theorem dd_L_law_536 : decode code 536 = .ok (.invokestatic 120, 3) := by decide +kernel
theorem dd_L_law_539 : decode code 539 = .ok (.istore 5, 2) := by decide +kernel
theorem dd_L_law_541 : decode code 541 = .ok (.aload_n 2, 1) := by decide +kernel
theorem dd_L_law_542 : decode code 542 = .ok (.aload_n 0, 1) := by decide +kernel
theorem dd_L_law_543 : decode code 543 = .ok (.iload 4, 2) := by decide +kernel
theorem dd_L_law_545 : decode code 545 = .ok (.iconst 1, 1) := by decide +kernel
theorem dd_L_law_546 : decode code 546 = .ok (.iadd, 1) := by decide +kernel
theorem dd_L_law_547 : decode code 547 = .ok (.iaload, 1) := by decide +kernel
theorem dd_L_law_548 : decode code 548 = .ok (.aload_n 0, 1) := by decide +kernel
theorem dd_L_law_549 : decode code 549 = .ok (.iload 4, 2) := by decide +kernel
theorem dd_L_law_551 : decode code 551 = .ok (.iconst 2, 1) := by decide +kernel
theorem dd_L_law_552 : decode code 552 = .ok (.iadd, 1) := by decide +kernel
theorem dd_L_law_553 : decode code 553 = .ok (.iaload, 1) := by decide +kernel
theorem dd_L_law_554 : decode code 554 = .ok (.invokevirtual 123, 3) := by decide +kernel
theorem dd_L_law_557 : decode code 557 = .ok (.aload_n 2, 1) := by decide +kernel
theorem dd_L_law_558 : decode code 558 = .ok (.invokevirtual 101, 3) := by decide +kernel
theorem dd_L_law_561 : decode code 561 = .ok (.iload 5, 2) := by decide +kernel
theorem dd_L_law_563 : decode code 563 = .ok (.if_icmp .eq 5, 3) := by decide +kernel
theorem dd_L_law_566 : decode code 566 = .ok (.iconst 0, 1) := by decide +kernel
theorem dd_L_law_567 : decode code 567 = .ok (.ireturn, 1) := by decide +kernel
theorem dd_L_law_568 : decode code 568 = .ok (.goto 1078, 3) := by decide +kernel
theorem dd_L_law_571 : decode code 571 = .ok (.aload_n 1, 1) := by decide +kernel
theorem dd_L_law_572 : decode code 572 = .ok (.aload_n 0, 1) := by decide +kernel
theorem dd_L_law_573 : decode code 573 = .ok (.iload 4, 2) := by decide +kernel
theorem dd_L_law_575 : decode code 575 = .ok (.iconst 1, 1) := by decide +kernel
theorem dd_L_law_576 : decode code 576 = .ok (.iadd, 1) := by decide +kernel
theorem dd_L_law_577 : decode code 577 = .ok (.iaload, 1) := by decide +kernel
theorem dd_L_law_578 : decode code 578 = .ok (.aload_n 3, 1) := by decide +kernel
theorem dd_L_law_579 : decode code 579 = .ok (.invokestatic 124, 3) := by decide +kernel
theorem dd_L_law_582 : decode code 582 = .ok (.istore 5, 2) := by decide +kernel
theorem dd_L_law_584 : decode code 584 = .ok (.aload_n 2, 1) := by decide +kernel
theorem dd_L_law_585 : decode code 585 = .ok (.aload_n 0, 1) := by decide +kernel
theorem dd_L_law_586 : decode code 586 = .ok (.iload 4, 2) := by decide +kernel
theorem dd_L_law_588 : decode code 588 = .ok (.iconst 1, 1) := by decide +kernel
theorem dd_L_law_589 : decode code 589 = .ok (.iadd, 1) := by decide +kernel
theorem dd_L_law_590 : decode code 590 = .ok (.iaload, 1) := by decide +kernel
theorem dd_L_law_591 : decode code 591 = .ok (.invokevirtual 126, 3) := by decide +kernel
theorem dd_L_law_594 : decode code 594 = .ok (.istore 6, 2) := by decide +kernel
theorem dd_L_law_596 : decode code 596 = .ok (.aload_n 2, 1) := by decide +kernel
theorem dd_L_law_597 : decode code 597 = .ok (.invokevirtual 101, 3) := by decide +kernel
theorem dd_L_law_600 : decode code 600 = .ok (.iload 5, 2) := by decide +kernel
theorem dd_L_law_602 : decode code 602 = .ok (.if_icmp .eq 5, 3) := by decide +kernel
theorem dd_L_law_605 : decode code 605 = .ok (.iconst 0, 1) := by decide +kernel
theorem dd_L_law_606 : decode code 606 = .ok (.ireturn, 1) := by decide +kernel
theorem dd_L_law_607 : decode code 607 = .ok (.iload 5, 2) := by decide +kernel
theorem dd_L_law_609 : decode code 609 = .ok (.ifCond .ne 15, 3) := by decide +kernel
theorem dd_L_law_612 : decode code 612 = .ok (.aload_n 3, 1) := by decide +kernel
theorem dd_L_law_613 : decode code 613 = .ok (.iconst 0, 1) := by decide +kernel
theorem dd_L_law_614 : decode code 614 = .ok (.laload, 1) := by decide +kernel
theorem dd_L_law_615 : decode code 615 = .ok (.iload 6, 2) := by decide +kernel
theorem dd_L_law_617 : decode code 617 = .ok (.i2l, 1) := by decide +kernel
theorem dd_L_law_618 : decode code 618 = .ok (.lcmp, 1) := by decide +kernel
theorem dd_L_law_619 : decode code 619 = .ok (.ifCond .eq 5, 3) := by decide +kernel
theorem dd_L_law_622 : decode code 622 = .ok (.iconst 0, 1) := by decide +kernel
theorem dd_L_law_623 : decode code 623 = .ok (.ireturn, 1) := by decide +kernel
theorem dd_L_law_624 : decode code 624 = .ok (.goto 1022, 3) := by decide +kernel
theorem dd_L_law_627 : decode code 627 = .ok (.aload_n 1, 1) := by decide +kernel
theorem dd_L_law_628 : decode code 628 = .ok (.aload_n 0, 1) := by decide +kernel
theorem dd_L_law_629 : decode code 629 = .ok (.iload 4, 2) := by decide +kernel
theorem dd_L_law_631 : decode code 631 = .ok (.iconst 1, 1) := by decide +kernel
theorem dd_L_law_632 : decode code 632 = .ok (.iadd, 1) := by decide +kernel
theorem dd_L_law_633 : decode code 633 = .ok (.iaload, 1) := by decide +kernel
theorem dd_L_law_634 : decode code 634 = .ok (.aload_n 0, 1) := by decide +kernel
theorem dd_L_law_635 : decode code 635 = .ok (.iload 4, 2) := by decide +kernel
theorem dd_L_law_637 : decode code 637 = .ok (.iconst 2, 1) := by decide +kernel
theorem dd_L_law_638 : decode code 638 = .ok (.iadd, 1) := by decide +kernel
theorem dd_L_law_639 : decode code 639 = .ok (.iaload, 1) := by decide +kernel
theorem dd_L_law_640 : decode code 640 = .ok (.aload_n 0, 1) := by decide +kernel
theorem dd_L_law_641 : decode code 641 = .ok (.iload 4, 2) := by decide +kernel
theorem dd_L_law_643 : decode code 643 = .ok (.iconst 3, 1) := by decide +kernel
theorem dd_L_law_644 : decode code 644 = .ok (.iadd, 1) := by decide +kernel
theorem dd_L_law_645 : decode code 645 = .ok (.iaload, 1) := by decide +kernel
theorem dd_L_law_646 : decode code 646 = .ok (.aload_n 3, 1) := by decide +kernel
theorem dd_L_law_647 : decode code 647 = .ok (.invokestatic 127, 3) := by decide +kernel
theorem dd_L_law_650 : decode code 650 = .ok (.istore 5, 2) := by decide +kernel
theorem dd_L_law_652 : decode code 652 = .ok (.aload_n 2, 1) := by decide +kernel
theorem dd_L_law_653 : decode code 653 = .ok (.aload_n 0, 1) := by decide +kernel
theorem dd_L_law_654 : decode code 654 = .ok (.iload 4, 2) := by decide +kernel
theorem dd_L_law_656 : decode code 656 = .ok (.iconst 1, 1) := by decide +kernel
theorem dd_L_law_657 : decode code 657 = .ok (.iadd, 1) := by decide +kernel
theorem dd_L_law_658 : decode code 658 = .ok (.iaload, 1) := by decide +kernel
theorem dd_L_law_659 : decode code 659 = .ok (.aload_n 0, 1) := by decide +kernel
theorem dd_L_law_660 : decode code 660 = .ok (.iload 4, 2) := by decide +kernel
theorem dd_L_law_662 : decode code 662 = .ok (.iconst 2, 1) := by decide +kernel
theorem dd_L_law_663 : decode code 663 = .ok (.iadd, 1) := by decide +kernel
theorem dd_L_law_664 : decode code 664 = .ok (.iaload, 1) := by decide +kernel
theorem dd_L_law_665 : decode code 665 = .ok (.aload_n 0, 1) := by decide +kernel
theorem dd_L_law_666 : decode code 666 = .ok (.iload 4, 2) := by decide +kernel
theorem dd_L_law_668 : decode code 668 = .ok (.iconst 3, 1) := by decide +kernel
theorem dd_L_law_669 : decode code 669 = .ok (.iadd, 1) := by decide +kernel
theorem dd_L_law_670 : decode code 670 = .ok (.iaload, 1) := by decide +kernel
theorem dd_L_law_671 : decode code 671 = .ok (.invokevirtual 129, 3) := by decide +kernel
theorem dd_L_law_674 : decode code 674 = .ok (.istore 6, 2) := by decide +kernel
theorem dd_L_law_676 : decode code 676 = .ok (.aload_n 2, 1) := by decide +kernel
theorem dd_L_law_677 : decode code 677 = .ok (.invokevirtual 101, 3) := by decide +kernel
theorem dd_L_law_680 : decode code 680 = .ok (.iload 5, 2) := by decide +kernel
theorem dd_L_law_682 : decode code 682 = .ok (.if_icmp .eq 5, 3) := by decide +kernel
theorem dd_L_law_685 : decode code 685 = .ok (.iconst 0, 1) := by decide +kernel
theorem dd_L_law_686 : decode code 686 = .ok (.ireturn, 1) := by decide +kernel
theorem dd_L_law_687 : decode code 687 = .ok (.iload 5, 2) := by decide +kernel
theorem dd_L_law_689 : decode code 689 = .ok (.ifCond .ne 15, 3) := by decide +kernel
theorem dd_L_law_692 : decode code 692 = .ok (.aload_n 3, 1) := by decide +kernel
theorem dd_L_law_693 : decode code 693 = .ok (.iconst 0, 1) := by decide +kernel
theorem dd_L_law_694 : decode code 694 = .ok (.laload, 1) := by decide +kernel
theorem dd_L_law_695 : decode code 695 = .ok (.iload 6, 2) := by decide +kernel
theorem dd_L_law_697 : decode code 697 = .ok (.i2l, 1) := by decide +kernel
theorem dd_L_law_698 : decode code 698 = .ok (.lcmp, 1) := by decide +kernel
theorem dd_L_law_699 : decode code 699 = .ok (.ifCond .eq 5, 3) := by decide +kernel
theorem dd_L_law_702 : decode code 702 = .ok (.iconst 0, 1) := by decide +kernel
theorem dd_L_law_703 : decode code 703 = .ok (.ireturn, 1) := by decide +kernel
theorem dd_L_law_704 : decode code 704 = .ok (.goto 942, 3) := by decide +kernel
theorem dd_L_law_707 : decode code 707 = .ok (.aload_n 1, 1) := by decide +kernel
theorem dd_L_law_708 : decode code 708 = .ok (.aload_n 0, 1) := by decide +kernel
theorem dd_L_law_709 : decode code 709 = .ok (.iload 4, 2) := by decide +kernel
theorem dd_L_law_711 : decode code 711 = .ok (.iconst 1, 1) := by decide +kernel
theorem dd_L_law_712 : decode code 712 = .ok (.iadd, 1) := by decide +kernel
end
section
theorem dd_L_law_713 : decode code 713 = .ok (.iaload, 1) := by decide +kernel
theorem dd_L_law_714 : decode code 714 = .ok (.aload_n 0, 1) := by decide +kernel
theorem dd_L_law_715 : decode code 715 = .ok (.iload 4, 2) := by decide +kernel
theorem dd_L_law_717 : decode code 717 = .ok (.iconst 2, 1) := by decide +kernel
theorem dd_L_law_718 : decode code 718 = .ok (.iadd, 1) := by decide +kernel
theorem dd_L_law_719 : decode code 719 = .ok (.iaload, 1) := by decide +kernel
theorem dd_L_law_720 : decode code 720 = .ok (.aload_n 0, 1) := by decide +kernel
theorem dd_L_law_721 : decode code 721 = .ok (.iload 4, 2) := by decide +kernel
theorem dd_L_law_723 : decode code 723 = .ok (.iconst 3, 1) := by decide +kernel
theorem dd_L_law_724 : decode code 724 = .ok (.iadd, 1) := by decide +kernel
theorem dd_L_law_725 : decode code 725 = .ok (.iaload, 1) := by decide +kernel
theorem dd_L_law_726 : decode code 726 = .ok (.aload_n 3, 1) := by decide +kernel
theorem dd_L_law_727 : decode code 727 = .ok (.invokestatic 130, 3) := by decide +kernel
theorem dd_L_law_730 : decode code 730 = .ok (.istore 5, 2) := by decide +kernel
theorem dd_L_law_732 : decode code 732 = .ok (.aload_n 2, 1) := by decide +kernel
theorem dd_L_law_733 : decode code 733 = .ok (.aload_n 0, 1) := by decide +kernel
theorem dd_L_law_734 : decode code 734 = .ok (.iload 4, 2) := by decide +kernel
theorem dd_L_law_736 : decode code 736 = .ok (.iconst 1, 1) := by decide +kernel
theorem dd_L_law_737 : decode code 737 = .ok (.iadd, 1) := by decide +kernel
theorem dd_L_law_738 : decode code 738 = .ok (.iaload, 1) := by decide +kernel
theorem dd_L_law_739 : decode code 739 = .ok (.aload_n 0, 1) := by decide +kernel
theorem dd_L_law_740 : decode code 740 = .ok (.iload 4, 2) := by decide +kernel
theorem dd_L_law_742 : decode code 742 = .ok (.iconst 2, 1) := by decide +kernel
theorem dd_L_law_743 : decode code 743 = .ok (.iadd, 1) := by decide +kernel
theorem dd_L_law_744 : decode code 744 = .ok (.iaload, 1) := by decide +kernel
theorem dd_L_law_745 : decode code 745 = .ok (.aload_n 0, 1) := by decide +kernel
theorem dd_L_law_746 : decode code 746 = .ok (.iload 4, 2) := by decide +kernel
theorem dd_L_law_748 : decode code 748 = .ok (.iconst 3, 1) := by decide +kernel
theorem dd_L_law_749 : decode code 749 = .ok (.iadd, 1) := by decide +kernel
theorem dd_L_law_750 : decode code 750 = .ok (.iaload, 1) := by decide +kernel
theorem dd_L_law_751 : decode code 751 = .ok (.invokevirtual 132, 3) := by decide +kernel
theorem dd_L_law_754 : decode code 754 = .ok (.istore 6, 2) := by decide +kernel
theorem dd_L_law_756 : decode code 756 = .ok (.aload_n 2, 1) := by decide +kernel
theorem dd_L_law_757 : decode code 757 = .ok (.invokevirtual 101, 3) := by decide +kernel
theorem dd_L_law_760 : decode code 760 = .ok (.iload 5, 2) := by decide +kernel
theorem dd_L_law_762 : decode code 762 = .ok (.if_icmp .eq 5, 3) := by decide +kernel
theorem dd_L_law_765 : decode code 765 = .ok (.iconst 0, 1) := by decide +kernel
theorem dd_L_law_766 : decode code 766 = .ok (.ireturn, 1) := by decide +kernel
theorem dd_L_law_767 : decode code 767 = .ok (.iload 5, 2) := by decide +kernel
theorem dd_L_law_769 : decode code 769 = .ok (.ifCond .ne 15, 3) := by decide +kernel
theorem dd_L_law_772 : decode code 772 = .ok (.aload_n 3, 1) := by decide +kernel
theorem dd_L_law_773 : decode code 773 = .ok (.iconst 0, 1) := by decide +kernel
theorem dd_L_law_774 : decode code 774 = .ok (.laload, 1) := by decide +kernel
theorem dd_L_law_775 : decode code 775 = .ok (.iload 6, 2) := by decide +kernel
theorem dd_L_law_777 : decode code 777 = .ok (.i2l, 1) := by decide +kernel
theorem dd_L_law_778 : decode code 778 = .ok (.lcmp, 1) := by decide +kernel
theorem dd_L_law_779 : decode code 779 = .ok (.ifCond .eq 5, 3) := by decide +kernel
theorem dd_L_law_782 : decode code 782 = .ok (.iconst 0, 1) := by decide +kernel
theorem dd_L_law_783 : decode code 783 = .ok (.ireturn, 1) := by decide +kernel
theorem dd_L_law_784 : decode code 784 = .ok (.goto 862, 3) := by decide +kernel
theorem dd_L_law_787 : decode code 787 = .ok (.aload_n 1, 1) := by decide +kernel
theorem dd_L_law_788 : decode code 788 = .ok (.aload_n 0, 1) := by decide +kernel
theorem dd_L_law_789 : decode code 789 = .ok (.iload 4, 2) := by decide +kernel
theorem dd_L_law_791 : decode code 791 = .ok (.iconst 1, 1) := by decide +kernel
theorem dd_L_law_792 : decode code 792 = .ok (.iadd, 1) := by decide +kernel
theorem dd_L_law_793 : decode code 793 = .ok (.iaload, 1) := by decide +kernel
theorem dd_L_law_794 : decode code 794 = .ok (.aload_n 3, 1) := by decide +kernel
theorem dd_L_law_795 : decode code 795 = .ok (.invokestatic 133, 3) := by decide +kernel
theorem dd_L_law_798 : decode code 798 = .ok (.istore 5, 2) := by decide +kernel
theorem dd_L_law_800 : decode code 800 = .ok (.aload_n 2, 1) := by decide +kernel
theorem dd_L_law_801 : decode code 801 = .ok (.aload_n 0, 1) := by decide +kernel
theorem dd_L_law_802 : decode code 802 = .ok (.iload 4, 2) := by decide +kernel
theorem dd_L_law_804 : decode code 804 = .ok (.iconst 1, 1) := by decide +kernel
theorem dd_L_law_805 : decode code 805 = .ok (.iadd, 1) := by decide +kernel
theorem dd_L_law_806 : decode code 806 = .ok (.iaload, 1) := by decide +kernel
theorem dd_L_law_807 : decode code 807 = .ok (.invokevirtual 135, 3) := by decide +kernel
theorem dd_L_law_810 : decode code 810 = .ok (.istore 6, 2) := by decide +kernel
theorem dd_L_law_812 : decode code 812 = .ok (.aload_n 2, 1) := by decide +kernel
theorem dd_L_law_813 : decode code 813 = .ok (.invokevirtual 101, 3) := by decide +kernel
theorem dd_L_law_816 : decode code 816 = .ok (.iload 5, 2) := by decide +kernel
theorem dd_L_law_818 : decode code 818 = .ok (.if_icmp .eq 5, 3) := by decide +kernel
theorem dd_L_law_821 : decode code 821 = .ok (.iconst 0, 1) := by decide +kernel
theorem dd_L_law_822 : decode code 822 = .ok (.ireturn, 1) := by decide +kernel
theorem dd_L_law_823 : decode code 823 = .ok (.iload 5, 2) := by decide +kernel
theorem dd_L_law_825 : decode code 825 = .ok (.ifCond .ne 15, 3) := by decide +kernel
theorem dd_L_law_828 : decode code 828 = .ok (.aload_n 3, 1) := by decide +kernel
theorem dd_L_law_829 : decode code 829 = .ok (.iconst 0, 1) := by decide +kernel
theorem dd_L_law_830 : decode code 830 = .ok (.laload, 1) := by decide +kernel
theorem dd_L_law_831 : decode code 831 = .ok (.iload 6, 2) := by decide +kernel
theorem dd_L_law_833 : decode code 833 = .ok (.i2l, 1) := by decide +kernel
theorem dd_L_law_834 : decode code 834 = .ok (.lcmp, 1) := by decide +kernel
theorem dd_L_law_835 : decode code 835 = .ok (.ifCond .eq 5, 3) := by decide +kernel
theorem dd_L_law_838 : decode code 838 = .ok (.iconst 0, 1) := by decide +kernel
theorem dd_L_law_839 : decode code 839 = .ok (.ireturn, 1) := by decide +kernel
theorem dd_L_law_840 : decode code 840 = .ok (.goto 806, 3) := by decide +kernel
theorem dd_L_law_843 : decode code 843 = .ok (.aload_n 1, 1) := by decide +kernel
theorem dd_L_law_844 : decode code 844 = .ok (.aload_n 0, 1) := by decide +kernel
theorem dd_L_law_845 : decode code 845 = .ok (.iload 4, 2) := by decide +kernel
theorem dd_L_law_847 : decode code 847 = .ok (.iconst 1, 1) := by decide +kernel
theorem dd_L_law_848 : decode code 848 = .ok (.iadd, 1) := by decide +kernel
theorem dd_L_law_849 : decode code 849 = .ok (.iaload, 1) := by decide +kernel
theorem dd_L_law_850 : decode code 850 = .ok (.aload_n 0, 1) := by decide +kernel
theorem dd_L_law_851 : decode code 851 = .ok (.iload 4, 2) := by decide +kernel
theorem dd_L_law_853 : decode code 853 = .ok (.iconst 2, 1) := by decide +kernel
theorem dd_L_law_854 : decode code 854 = .ok (.iadd, 1) := by decide +kernel
theorem dd_L_law_855 : decode code 855 = .ok (.iaload, 1) := by decide +kernel
theorem dd_L_law_856 : decode code 856 = .ok (.aload_n 0, 1) := by decide +kernel
theorem dd_L_law_857 : decode code 857 = .ok (.iload 4, 2) := by decide +kernel
theorem dd_L_law_859 : decode code 859 = .ok (.iconst 3, 1) := by decide +kernel
theorem dd_L_law_860 : decode code 860 = .ok (.iadd, 1) := by decide +kernel
theorem dd_L_law_861 : decode code 861 = .ok (.iaload, 1) := by decide +kernel
theorem dd_L_law_862 : decode code 862 = .ok (.aload_n 3, 1) := by decide +kernel
theorem dd_L_law_863 : decode code 863 = .ok (.invokestatic 136, 3) := by decide +kernel
theorem dd_L_law_866 : decode code 866 = .ok (.istore 5, 2) := by decide +kernel
theorem dd_L_law_868 : decode code 868 = .ok (.aload_n 2, 1) := by decide +kernel
theorem dd_L_law_869 : decode code 869 = .ok (.aload_n 0, 1) := by decide +kernel
theorem dd_L_law_870 : decode code 870 = .ok (.iload 4, 2) := by decide +kernel
theorem dd_L_law_872 : decode code 872 = .ok (.iconst 1, 1) := by decide +kernel
theorem dd_L_law_873 : decode code 873 = .ok (.iadd, 1) := by decide +kernel
theorem dd_L_law_874 : decode code 874 = .ok (.iaload, 1) := by decide +kernel
theorem dd_L_law_875 : decode code 875 = .ok (.aload_n 0, 1) := by decide +kernel
theorem dd_L_law_876 : decode code 876 = .ok (.iload 4, 2) := by decide +kernel
theorem dd_L_law_878 : decode code 878 = .ok (.iconst 2, 1) := by decide +kernel
theorem dd_L_law_879 : decode code 879 = .ok (.iadd, 1) := by decide +kernel
theorem dd_L_law_880 : decode code 880 = .ok (.iaload, 1) := by decide +kernel
theorem dd_L_law_881 : decode code 881 = .ok (.aload_n 0, 1) := by decide +kernel
theorem dd_L_law_882 : decode code 882 = .ok (.iload 4, 2) := by decide +kernel
theorem dd_L_law_884 : decode code 884 = .ok (.iconst 3, 1) := by decide +kernel
theorem dd_L_law_885 : decode code 885 = .ok (.iadd, 1) := by decide +kernel
theorem dd_L_law_886 : decode code 886 = .ok (.iaload, 1) := by decide +kernel
theorem dd_L_law_887 : decode code 887 = .ok (.invokevirtual 138, 3) := by decide +kernel
theorem dd_L_law_890 : decode code 890 = .ok (.istore 6, 2) := by decide +kernel
theorem dd_L_law_892 : decode code 892 = .ok (.aload_n 2, 1) := by decide +kernel
theorem dd_L_law_893 : decode code 893 = .ok (.invokevirtual 101, 3) := by decide +kernel
theorem dd_L_law_896 : decode code 896 = .ok (.iload 5, 2) := by decide +kernel
theorem dd_L_law_898 : decode code 898 = .ok (.if_icmp .eq 5, 3) := by decide +kernel
theorem dd_L_law_901 : decode code 901 = .ok (.iconst 0, 1) := by decide +kernel
theorem dd_L_law_902 : decode code 902 = .ok (.ireturn, 1) := by decide +kernel
theorem dd_L_law_903 : decode code 903 = .ok (.iload 5, 2) := by decide +kernel
theorem dd_L_law_905 : decode code 905 = .ok (.ifCond .ne 15, 3) := by decide +kernel
theorem dd_L_law_908 : decode code 908 = .ok (.aload_n 3, 1) := by decide +kernel
theorem dd_L_law_909 : decode code 909 = .ok (.iconst 0, 1) := by decide +kernel
theorem dd_L_law_910 : decode code 910 = .ok (.laload, 1) := by decide +kernel
theorem dd_L_law_911 : decode code 911 = .ok (.iload 6, 2) := by decide +kernel
theorem dd_L_law_913 : decode code 913 = .ok (.i2l, 1) := by decide +kernel
theorem dd_L_law_914 : decode code 914 = .ok (.lcmp, 1) := by decide +kernel
theorem dd_L_law_915 : decode code 915 = .ok (.ifCond .eq 5, 3) := by decide +kernel
theorem dd_L_law_918 : decode code 918 = .ok (.iconst 0, 1) := by decide +kernel
theorem dd_L_law_919 : decode code 919 = .ok (.ireturn, 1) := by decide +kernel
theorem dd_L_law_920 : decode code 920 = .ok (.goto 726, 3) := by decide +kernel
theorem dd_L_law_923 : decode code 923 = .ok (.aload_n 1, 1) := by decide +kernel
theorem dd_L_law_924 : decode code 924 = .ok (.aload_n 0, 1) := by decide +kernel
theorem dd_L_law_925 : decode code 925 = .ok (.iload 4, 2) := by decide +kernel
theorem dd_L_law_927 : decode code 927 = .ok (.iconst 1, 1) := by decide +kernel
theorem dd_L_law_928 : decode code 928 = .ok (.iadd, 1) := by decide +kernel
theorem dd_L_law_929 : decode code 929 = .ok (.iaload, 1) := by decide +kernel
theorem dd_L_law_930 : decode code 930 = .ok (.aload_n 0, 1) := by decide +kernel
theorem dd_L_law_931 : decode code 931 = .ok (.iload 4, 2) := by decide +kernel
theorem dd_L_law_933 : decode code 933 = .ok (.iconst 2, 1) := by decide +kernel
theorem dd_L_law_934 : decode code 934 = .ok (.iadd, 1) := by decide +kernel
theorem dd_L_law_935 : decode code 935 = .ok (.iaload, 1) := by decide +kernel
theorem dd_L_law_936 : decode code 936 = .ok (.aload_n 0, 1) := by decide +kernel
theorem dd_L_law_937 : decode code 937 = .ok (.iload 4, 2) := by decide +kernel
theorem dd_L_law_939 : decode code 939 = .ok (.iconst 3, 1) := by decide +kernel
theorem dd_L_law_940 : decode code 940 = .ok (.iadd, 1) := by decide +kernel
theorem dd_L_law_941 : decode code 941 = .ok (.iaload, 1) := by decide +kernel
theorem dd_L_law_942 : decode code 942 = .ok (.invokestatic 139, 3) := by decide +kernel
theorem dd_L_law_945 : decode code 945 = .ok (.istore 5, 2) := by decide +kernel
theorem dd_L_law_947 : decode code 947 = .ok (.aload_n 2, 1) := by decide +kernel
theorem dd_L_law_948 : decode code 948 = .ok (.aload_n 0, 1) := by decide +kernel
theorem dd_L_law_949 : decode code 949 = .ok (.iload 4, 2) := by decide +kernel
theorem dd_L_law_951 : decode code 951 = .ok (.iconst 1, 1) := by decide +kernel
theorem dd_L_law_952 : decode code 952 = .ok (.iadd, 1) := by decide +kernel
theorem dd_L_law_953 : decode code 953 = .ok (.iaload, 1) := by decide +kernel
theorem dd_L_law_954 : decode code 954 = .ok (.aload_n 0, 1) := by decide +kernel
theorem dd_L_law_955 : decode code 955 = .ok (.iload 4, 2) := by decide +kernel
theorem dd_L_law_957 : decode code 957 = .ok (.iconst 2, 1) := by decide +kernel
theorem dd_L_law_958 : decode code 958 = .ok (.iadd, 1) := by decide +kernel
theorem dd_L_law_959 : decode code 959 = .ok (.iaload, 1) := by decide +kernel
theorem dd_L_law_960 : decode code 960 = .ok (.aload_n 0, 1) := by decide +kernel
theorem dd_L_law_961 : decode code 961 = .ok (.iload 4, 2) := by decide +kernel
theorem dd_L_law_963 : decode code 963 = .ok (.iconst 3, 1) := by decide +kernel
theorem dd_L_law_964 : decode code 964 = .ok (.iadd, 1) := by decide +kernel
theorem dd_L_law_965 : decode code 965 = .ok (.iaload, 1) := by decide +kernel
theorem dd_L_law_966 : decode code 966 = .ok (.invokevirtual 142, 3) := by decide +kernel
theorem dd_L_law_969 : decode code 969 = .ok (.aload_n 2, 1) := by decide +kernel
theorem dd_L_law_970 : decode code 970 = .ok (.invokevirtual 101, 3) := by decide +kernel
theorem dd_L_law_973 : decode code 973 = .ok (.iload 5, 2) := by decide +kernel
theorem dd_L_law_975 : decode code 975 = .ok (.if_icmp .eq 5, 3) := by decide +kernel
theorem dd_L_law_978 : decode code 978 = .ok (.iconst 0, 1) := by decide +kernel
theorem dd_L_law_979 : decode code 979 = .ok (.ireturn, 1) := by decide +kernel
theorem dd_L_law_980 : decode code 980 = .ok (.goto 666, 3) := by decide +kernel
theorem dd_L_law_983 : decode code 983 = .ok (.aload_n 1, 1) := by decide +kernel
theorem dd_L_law_984 : decode code 984 = .ok (.aload_n 0, 1) := by decide +kernel
theorem dd_L_law_985 : decode code 985 = .ok (.iload 4, 2) := by decide +kernel
theorem dd_L_law_987 : decode code 987 = .ok (.iconst 1, 1) := by decide +kernel
theorem dd_L_law_988 : decode code 988 = .ok (.iadd, 1) := by decide +kernel
theorem dd_L_law_989 : decode code 989 = .ok (.iaload, 1) := by decide +kernel
theorem dd_L_law_990 : decode code 990 = .ok (.aload_n 0, 1) := by decide +kernel
theorem dd_L_law_991 : decode code 991 = .ok (.iload 4, 2) := by decide +kernel
theorem dd_L_law_993 : decode code 993 = .ok (.iconst 2, 1) := by decide +kernel
theorem dd_L_law_994 : decode code 994 = .ok (.iadd, 1) := by decide +kernel
theorem dd_L_law_995 : decode code 995 = .ok (.iaload, 1) := by decide +kernel
theorem dd_L_law_996 : decode code 996 = .ok (.aload_n 3, 1) := by decide +kernel
theorem dd_L_law_997 : decode code 997 = .ok (.invokestatic 143, 3) := by decide +kernel
theorem dd_L_law_1000 : decode code 1000 = .ok (.istore 5, 2) := by decide +kernel
theorem dd_L_law_1002 : decode code 1002 = .ok (.aload_n 2, 1) := by decide +kernel
theorem dd_L_law_1003 : decode code 1003 = .ok (.aload_n 0, 1) := by decide +kernel
theorem dd_L_law_1004 : decode code 1004 = .ok (.iload 4, 2) := by decide +kernel
theorem dd_L_law_1006 : decode code 1006 = .ok (.iconst 1, 1) := by decide +kernel
end
section
theorem dd_L_law_1007 : decode code 1007 = .ok (.iadd, 1) := by decide +kernel
theorem dd_L_law_1008 : decode code 1008 = .ok (.iaload, 1) := by decide +kernel
theorem dd_L_law_1009 : decode code 1009 = .ok (.aload_n 0, 1) := by decide +kernel
theorem dd_L_law_1010 : decode code 1010 = .ok (.iload 4, 2) := by decide +kernel
theorem dd_L_law_1012 : decode code 1012 = .ok (.iconst 2, 1) := by decide +kernel
theorem dd_L_law_1013 : decode code 1013 = .ok (.iadd, 1) := by decide +kernel
theorem dd_L_law_1014 : decode code 1014 = .ok (.iaload, 1) := by decide +kernel
theorem dd_L_law_1015 : decode code 1015 = .ok (.invokevirtual 145, 3) := by decide +kernel
theorem dd_L_law_1018 : decode code 1018 = .ok (.istore 6, 2) := by decide +kernel
theorem dd_L_law_1020 : decode code 1020 = .ok (.aload_n 2, 1) := by decide +kernel
theorem dd_L_law_1021 : decode code 1021 = .ok (.invokevirtual 101, 3) := by decide +kernel
theorem dd_L_law_1024 : decode code 1024 = .ok (.iload 5, 2) := by decide +kernel
theorem dd_L_law_1026 : decode code 1026 = .ok (.if_icmp .eq 5, 3) := by decide +kernel
theorem dd_L_law_1029 : decode code 1029 = .ok (.iconst 0, 1) := by decide +kernel
theorem dd_L_law_1030 : decode code 1030 = .ok (.ireturn, 1) := by decide +kernel
theorem dd_L_law_1031 : decode code 1031 = .ok (.iload 5, 2) := by decide +kernel
theorem dd_L_law_1033 : decode code 1033 = .ok (.ifCond .ne 22, 3) := by decide +kernel
theorem dd_L_law_1036 : decode code 1036 = .ok (.aload_n 3, 1) := by decide +kernel
theorem dd_L_law_1037 : decode code 1037 = .ok (.iconst 0, 1) := by decide +kernel
theorem dd_L_law_1038 : decode code 1038 = .ok (.laload, 1) := by decide +kernel
theorem dd_L_law_1039 : decode code 1039 = .ok (.iload 6, 2) := by decide +kernel
theorem dd_L_law_1041 : decode code 1041 = .ok (.ifCond .eq 7, 3) := by decide +kernel
theorem dd_L_law_1044 : decode code 1044 = .ok (.lconst 1, 1) := by decide +kernel
theorem dd_L_law_1045 : decode code 1045 = .ok (.goto 4, 3) := by decide +kernel
theorem dd_L_law_1048 : decode code 1048 = .ok (.lconst 0, 1) := by decide +kernel
theorem dd_L_law_1049 : decode code 1049 = .ok (.lcmp, 1) := by decide +kernel
theorem dd_L_law_1050 : decode code 1050 = .ok (.ifCond .eq 5, 3) := by decide +kernel
theorem dd_L_law_1053 : decode code 1053 = .ok (.iconst 0, 1) := by decide +kernel
theorem dd_L_law_1054 : decode code 1054 = .ok (.ireturn, 1) := by decide +kernel
theorem dd_L_law_1055 : decode code 1055 = .ok (.goto 591, 3) := by decide +kernel
theorem dd_L_law_1058 : decode code 1058 = .ok (.aload_n 1, 1) := by decide +kernel
theorem dd_L_law_1059 : decode code 1059 = .ok (.aload_n 0, 1) := by decide +kernel
theorem dd_L_law_1060 : decode code 1060 = .ok (.iload 4, 2) := by decide +kernel
theorem dd_L_law_1062 : decode code 1062 = .ok (.iconst 1, 1) := by decide +kernel
theorem dd_L_law_1063 : decode code 1063 = .ok (.iadd, 1) := by decide +kernel
theorem dd_L_law_1064 : decode code 1064 = .ok (.iaload, 1) := by decide +kernel
theorem dd_L_law_1065 : decode code 1065 = .ok (.aload_n 0, 1) := by decide +kernel
theorem dd_L_law_1066 : decode code 1066 = .ok (.iload 4, 2) := by decide +kernel
theorem dd_L_law_1068 : decode code 1068 = .ok (.iconst 2, 1) := by decide +kernel
theorem dd_L_law_1069 : decode code 1069 = .ok (.iadd, 1) := by decide +kernel
theorem dd_L_law_1070 : decode code 1070 = .ok (.iaload, 1) := by decide +kernel
theorem dd_L_law_1071 : decode code 1071 = .ok (.aload_n 0, 1) := by decide +kernel
theorem dd_L_law_1072 : decode code 1072 = .ok (.iload 4, 2) := by decide +kernel
theorem dd_L_law_1074 : decode code 1074 = .ok (.iconst 3, 1) := by decide +kernel
theorem dd_L_law_1075 : decode code 1075 = .ok (.iadd, 1) := by decide +kernel
theorem dd_L_law_1076 : decode code 1076 = .ok (.iaload, 1) := by decide +kernel
theorem dd_L_law_1077 : decode code 1077 = .ok (.aload_n 3, 1) := by decide +kernel
theorem dd_L_law_1078 : decode code 1078 = .ok (.invokestatic 146, 3) := by decide +kernel
theorem dd_L_law_1081 : decode code 1081 = .ok (.istore 5, 2) := by decide +kernel
theorem dd_L_law_1083 : decode code 1083 = .ok (.aload_n 2, 1) := by decide +kernel
theorem dd_L_law_1084 : decode code 1084 = .ok (.aload_n 0, 1) := by decide +kernel
theorem dd_L_law_1085 : decode code 1085 = .ok (.iload 4, 2) := by decide +kernel
theorem dd_L_law_1087 : decode code 1087 = .ok (.iconst 1, 1) := by decide +kernel
theorem dd_L_law_1088 : decode code 1088 = .ok (.iadd, 1) := by decide +kernel
theorem dd_L_law_1089 : decode code 1089 = .ok (.iaload, 1) := by decide +kernel
theorem dd_L_law_1090 : decode code 1090 = .ok (.aload_n 0, 1) := by decide +kernel
theorem dd_L_law_1091 : decode code 1091 = .ok (.iload 4, 2) := by decide +kernel
theorem dd_L_law_1093 : decode code 1093 = .ok (.iconst 2, 1) := by decide +kernel
theorem dd_L_law_1094 : decode code 1094 = .ok (.iadd, 1) := by decide +kernel
theorem dd_L_law_1095 : decode code 1095 = .ok (.iaload, 1) := by decide +kernel
theorem dd_L_law_1096 : decode code 1096 = .ok (.aload_n 0, 1) := by decide +kernel
theorem dd_L_law_1097 : decode code 1097 = .ok (.iload 4, 2) := by decide +kernel
theorem dd_L_law_1099 : decode code 1099 = .ok (.iconst 3, 1) := by decide +kernel
theorem dd_L_law_1100 : decode code 1100 = .ok (.iadd, 1) := by decide +kernel
theorem dd_L_law_1101 : decode code 1101 = .ok (.iaload, 1) := by decide +kernel
theorem dd_L_law_1102 : decode code 1102 = .ok (.invokevirtual 148, 3) := by decide +kernel
theorem dd_L_law_1105 : decode code 1105 = .ok (.istore 6, 2) := by decide +kernel
theorem dd_L_law_1107 : decode code 1107 = .ok (.aload_n 2, 1) := by decide +kernel
theorem dd_L_law_1108 : decode code 1108 = .ok (.invokevirtual 101, 3) := by decide +kernel
theorem dd_L_law_1111 : decode code 1111 = .ok (.iload 5, 2) := by decide +kernel
theorem dd_L_law_1113 : decode code 1113 = .ok (.if_icmp .eq 5, 3) := by decide +kernel
theorem dd_L_law_1116 : decode code 1116 = .ok (.iconst 0, 1) := by decide +kernel
theorem dd_L_law_1117 : decode code 1117 = .ok (.ireturn, 1) := by decide +kernel
theorem dd_L_law_1118 : decode code 1118 = .ok (.iload 5, 2) := by decide +kernel
theorem dd_L_law_1120 : decode code 1120 = .ok (.ifCond .ne 15, 3) := by decide +kernel
theorem dd_L_law_1123 : decode code 1123 = .ok (.aload_n 3, 1) := by decide +kernel
theorem dd_L_law_1124 : decode code 1124 = .ok (.iconst 0, 1) := by decide +kernel
theorem dd_L_law_1125 : decode code 1125 = .ok (.laload, 1) := by decide +kernel
theorem dd_L_law_1126 : decode code 1126 = .ok (.iload 6, 2) := by decide +kernel
theorem dd_L_law_1128 : decode code 1128 = .ok (.i2l, 1) := by decide +kernel
theorem dd_L_law_1129 : decode code 1129 = .ok (.lcmp, 1) := by decide +kernel
theorem dd_L_law_1130 : decode code 1130 = .ok (.ifCond .eq 5, 3) := by decide +kernel
theorem dd_L_law_1133 : decode code 1133 = .ok (.iconst 0, 1) := by decide +kernel
theorem dd_L_law_1134 : decode code 1134 = .ok (.ireturn, 1) := by decide +kernel
theorem dd_L_law_1135 : decode code 1135 = .ok (.goto 511, 3) := by decide +kernel
theorem dd_L_law_1138 : decode code 1138 = .ok (.aload_n 1, 1) := by decide +kernel
theorem dd_L_law_1139 : decode code 1139 = .ok (.aload_n 0, 1) := by decide +kernel
theorem dd_L_law_1140 : decode code 1140 = .ok (.iload 4, 2) := by decide +kernel
theorem dd_L_law_1142 : decode code 1142 = .ok (.iconst 1, 1) := by decide +kernel
theorem dd_L_law_1143 : decode code 1143 = .ok (.iadd, 1) := by decide +kernel
theorem dd_L_law_1144 : decode code 1144 = .ok (.iaload, 1) := by decide +kernel
theorem dd_L_law_1145 : decode code 1145 = .ok (.aload_n 0, 1) := by decide +kernel
theorem dd_L_law_1146 : decode code 1146 = .ok (.iload 4, 2) := by decide +kernel
theorem dd_L_law_1148 : decode code 1148 = .ok (.iconst 2, 1) := by decide +kernel
theorem dd_L_law_1149 : decode code 1149 = .ok (.iadd, 1) := by decide +kernel
theorem dd_L_law_1150 : decode code 1150 = .ok (.iaload, 1) := by decide +kernel
theorem dd_L_law_1151 : decode code 1151 = .ok (.aload_n 0, 1) := by decide +kernel
theorem dd_L_law_1152 : decode code 1152 = .ok (.iload 4, 2) := by decide +kernel
theorem dd_L_law_1154 : decode code 1154 = .ok (.iconst 3, 1) := by decide +kernel
theorem dd_L_law_1155 : decode code 1155 = .ok (.iadd, 1) := by decide +kernel
theorem dd_L_law_1156 : decode code 1156 = .ok (.iaload, 1) := by decide +kernel
theorem dd_L_law_1157 : decode code 1157 = .ok (.aload_n 3, 1) := by decide +kernel
theorem dd_L_law_1158 : decode code 1158 = .ok (.invokestatic 149, 3) := by decide +kernel
theorem dd_L_law_1161 : decode code 1161 = .ok (.istore 5, 2) := by decide +kernel
theorem dd_L_law_1163 : decode code 1163 = .ok (.aload_n 2, 1) := by decide +kernel
theorem dd_L_law_1164 : decode code 1164 = .ok (.aload_n 0, 1) := by decide +kernel
theorem dd_L_law_1165 : decode code 1165 = .ok (.iload 4, 2) := by decide +kernel
theorem dd_L_law_1167 : decode code 1167 = .ok (.iconst 1, 1) := by decide +kernel
theorem dd_L_law_1168 : decode code 1168 = .ok (.iadd, 1) := by decide +kernel
theorem dd_L_law_1169 : decode code 1169 = .ok (.iaload, 1) := by decide +kernel
theorem dd_L_law_1170 : decode code 1170 = .ok (.aload_n 0, 1) := by decide +kernel
theorem dd_L_law_1171 : decode code 1171 = .ok (.iload 4, 2) := by decide +kernel
theorem dd_L_law_1173 : decode code 1173 = .ok (.iconst 2, 1) := by decide +kernel
theorem dd_L_law_1174 : decode code 1174 = .ok (.iadd, 1) := by decide +kernel
theorem dd_L_law_1175 : decode code 1175 = .ok (.iaload, 1) := by decide +kernel
theorem dd_L_law_1176 : decode code 1176 = .ok (.aload_n 0, 1) := by decide +kernel
theorem dd_L_law_1177 : decode code 1177 = .ok (.iload 4, 2) := by decide +kernel
theorem dd_L_law_1179 : decode code 1179 = .ok (.iconst 3, 1) := by decide +kernel
theorem dd_L_law_1180 : decode code 1180 = .ok (.iadd, 1) := by decide +kernel
theorem dd_L_law_1181 : decode code 1181 = .ok (.iaload, 1) := by decide +kernel
theorem dd_L_law_1182 : decode code 1182 = .ok (.invokevirtual 151, 3) := by decide +kernel
theorem dd_L_law_1185 : decode code 1185 = .ok (.istore 6, 2) := by decide +kernel
theorem dd_L_law_1187 : decode code 1187 = .ok (.aload_n 2, 1) := by decide +kernel
theorem dd_L_law_1188 : decode code 1188 = .ok (.invokevirtual 101, 3) := by decide +kernel
theorem dd_L_law_1191 : decode code 1191 = .ok (.iload 5, 2) := by decide +kernel
theorem dd_L_law_1193 : decode code 1193 = .ok (.if_icmp .eq 5, 3) := by decide +kernel
theorem dd_L_law_1196 : decode code 1196 = .ok (.iconst 0, 1) := by decide +kernel
theorem dd_L_law_1197 : decode code 1197 = .ok (.ireturn, 1) := by decide +kernel
theorem dd_L_law_1198 : decode code 1198 = .ok (.iload 5, 2) := by decide +kernel
theorem dd_L_law_1200 : decode code 1200 = .ok (.ifCond .ne 15, 3) := by decide +kernel
theorem dd_L_law_1203 : decode code 1203 = .ok (.aload_n 3, 1) := by decide +kernel
theorem dd_L_law_1204 : decode code 1204 = .ok (.iconst 0, 1) := by decide +kernel
theorem dd_L_law_1205 : decode code 1205 = .ok (.laload, 1) := by decide +kernel
theorem dd_L_law_1206 : decode code 1206 = .ok (.iload 6, 2) := by decide +kernel
theorem dd_L_law_1208 : decode code 1208 = .ok (.i2l, 1) := by decide +kernel
theorem dd_L_law_1209 : decode code 1209 = .ok (.lcmp, 1) := by decide +kernel
theorem dd_L_law_1210 : decode code 1210 = .ok (.ifCond .eq 5, 3) := by decide +kernel
theorem dd_L_law_1213 : decode code 1213 = .ok (.iconst 0, 1) := by decide +kernel
theorem dd_L_law_1214 : decode code 1214 = .ok (.ireturn, 1) := by decide +kernel
theorem dd_L_law_1215 : decode code 1215 = .ok (.goto 431, 3) := by decide +kernel
theorem dd_L_law_1218 : decode code 1218 = .ok (.aload_n 1, 1) := by decide +kernel
theorem dd_L_law_1219 : decode code 1219 = .ok (.aload_n 0, 1) := by decide +kernel
theorem dd_L_law_1220 : decode code 1220 = .ok (.iload 4, 2) := by decide +kernel
theorem dd_L_law_1222 : decode code 1222 = .ok (.iconst 1, 1) := by decide +kernel
theorem dd_L_law_1223 : decode code 1223 = .ok (.iadd, 1) := by decide +kernel
theorem dd_L_law_1224 : decode code 1224 = .ok (.iaload, 1) := by decide +kernel
theorem dd_L_law_1225 : decode code 1225 = .ok (.aload_n 0, 1) := by decide +kernel
theorem dd_L_law_1226 : decode code 1226 = .ok (.iload 4, 2) := by decide +kernel
theorem dd_L_law_1228 : decode code 1228 = .ok (.iconst 2, 1) := by decide +kernel
theorem dd_L_law_1229 : decode code 1229 = .ok (.iadd, 1) := by decide +kernel
theorem dd_L_law_1230 : decode code 1230 = .ok (.iaload, 1) := by decide +kernel
theorem dd_L_law_1231 : decode code 1231 = .ok (.aload_n 0, 1) := by decide +kernel
theorem dd_L_law_1232 : decode code 1232 = .ok (.iload 4, 2) := by decide +kernel
theorem dd_L_law_1234 : decode code 1234 = .ok (.iconst 3, 1) := by decide +kernel
theorem dd_L_law_1235 : decode code 1235 = .ok (.iadd, 1) := by decide +kernel
theorem dd_L_law_1236 : decode code 1236 = .ok (.iaload, 1) := by decide +kernel
theorem dd_L_law_1237 : decode code 1237 = .ok (.aload_n 3, 1) := by decide +kernel
theorem dd_L_law_1238 : decode code 1238 = .ok (.invokestatic 152, 3) := by decide +kernel
theorem dd_L_law_1241 : decode code 1241 = .ok (.istore 5, 2) := by decide +kernel
theorem dd_L_law_1243 : decode code 1243 = .ok (.aload_n 2, 1) := by decide +kernel
theorem dd_L_law_1244 : decode code 1244 = .ok (.aload_n 0, 1) := by decide +kernel
theorem dd_L_law_1245 : decode code 1245 = .ok (.iload 4, 2) := by decide +kernel
theorem dd_L_law_1247 : decode code 1247 = .ok (.iconst 1, 1) := by decide +kernel
theorem dd_L_law_1248 : decode code 1248 = .ok (.iadd, 1) := by decide +kernel
theorem dd_L_law_1249 : decode code 1249 = .ok (.iaload, 1) := by decide +kernel
theorem dd_L_law_1250 : decode code 1250 = .ok (.aload_n 0, 1) := by decide +kernel
theorem dd_L_law_1251 : decode code 1251 = .ok (.iload 4, 2) := by decide +kernel
theorem dd_L_law_1253 : decode code 1253 = .ok (.iconst 2, 1) := by decide +kernel
theorem dd_L_law_1254 : decode code 1254 = .ok (.iadd, 1) := by decide +kernel
theorem dd_L_law_1255 : decode code 1255 = .ok (.iaload, 1) := by decide +kernel
theorem dd_L_law_1256 : decode code 1256 = .ok (.aload_n 0, 1) := by decide +kernel
theorem dd_L_law_1257 : decode code 1257 = .ok (.iload 4, 2) := by decide +kernel
theorem dd_L_law_1259 : decode code 1259 = .ok (.iconst 3, 1) := by decide +kernel
theorem dd_L_law_1260 : decode code 1260 = .ok (.iadd, 1) := by decide +kernel
theorem dd_L_law_1261 : decode code 1261 = .ok (.iaload, 1) := by decide +kernel
theorem dd_L_law_1262 : decode code 1262 = .ok (.invokevirtual 154, 3) := by decide +kernel
theorem dd_L_law_1265 : decode code 1265 = .ok (.istore 6, 2) := by decide +kernel
theorem dd_L_law_1267 : decode code 1267 = .ok (.aload_n 2, 1) := by decide +kernel
theorem dd_L_law_1268 : decode code 1268 = .ok (.invokevirtual 101, 3) := by decide +kernel
theorem dd_L_law_1271 : decode code 1271 = .ok (.iload 5, 2) := by decide +kernel
theorem dd_L_law_1273 : decode code 1273 = .ok (.if_icmp .eq 5, 3) := by decide +kernel
theorem dd_L_law_1276 : decode code 1276 = .ok (.iconst 0, 1) := by decide +kernel
theorem dd_L_law_1277 : decode code 1277 = .ok (.ireturn, 1) := by decide +kernel
theorem dd_L_law_1278 : decode code 1278 = .ok (.iload 5, 2) := by decide +kernel
theorem dd_L_law_1280 : decode code 1280 = .ok (.ifCond .ne 15, 3) := by decide +kernel
theorem dd_L_law_1283 : decode code 1283 = .ok (.aload_n 3, 1) := by decide +kernel
theorem dd_L_law_1284 : decode code 1284 = .ok (.iconst 0, 1) := by decide +kernel
theorem dd_L_law_1285 : decode code 1285 = .ok (.laload, 1) := by decide +kernel
theorem dd_L_law_1286 : decode code 1286 = .ok (.iload 6, 2) := by decide +kernel
theorem dd_L_law_1288 : decode code 1288 = .ok (.i2l, 1) := by decide +kernel
theorem dd_L_law_1289 : decode code 1289 = .ok (.lcmp, 1) := by decide +kernel
theorem dd_L_law_1290 : decode code 1290 = .ok (.ifCond .eq 5, 3) := by decide +kernel
theorem dd_L_law_1293 : decode code 1293 = .ok (.iconst 0, 1) := by decide +kernel
theorem dd_L_law_1294 : decode code 1294 = .ok (.ireturn, 1) := by decide +kernel
theorem dd_L_law_1295 : decode code 1295 = .ok (.goto 351, 3) := by decide +kernel
theorem dd_L_law_1298 : decode code 1298 = .ok (.aload_n 1, 1) := by decide +kernel
theorem dd_L_law_1299 : decode code 1299 = .ok (.aload_n 0, 1) := by decide +kernel
theorem dd_L_law_1300 : decode code 1300 = .ok (.iload 4, 2) := by decide +kernel
theorem dd_L_law_1302 : decode code 1302 = .ok (.iconst 1, 1) := by decide +kernel
theorem dd_L_law_1303 : decode code 1303 = .ok (.iadd, 1) := by decide +kernel
end
section
theorem dd_L_law_1304 : decode code 1304 = .ok (.iaload, 1) := by decide +kernel
theorem dd_L_law_1305 : decode code 1305 = .ok (.aload_n 3, 1) := by decide +kernel
theorem dd_L_law_1306 : decode code 1306 = .ok (.invokestatic 155, 3) := by decide +kernel
theorem dd_L_law_1309 : decode code 1309 = .ok (.istore 5, 2) := by decide +kernel
theorem dd_L_law_1311 : decode code 1311 = .ok (.aload_n 2, 1) := by decide +kernel
theorem dd_L_law_1312 : decode code 1312 = .ok (.aload_n 0, 1) := by decide +kernel
theorem dd_L_law_1313 : decode code 1313 = .ok (.iload 4, 2) := by decide +kernel
theorem dd_L_law_1315 : decode code 1315 = .ok (.iconst 1, 1) := by decide +kernel
theorem dd_L_law_1316 : decode code 1316 = .ok (.iadd, 1) := by decide +kernel
theorem dd_L_law_1317 : decode code 1317 = .ok (.iaload, 1) := by decide +kernel
theorem dd_L_law_1318 : decode code 1318 = .ok (.invokevirtual 157, 3) := by decide +kernel
theorem dd_L_law_1321 : decode code 1321 = .ok (.istore 6, 2) := by decide +kernel
theorem dd_L_law_1323 : decode code 1323 = .ok (.aload_n 2, 1) := by decide +kernel
theorem dd_L_law_1324 : decode code 1324 = .ok (.invokevirtual 101, 3) := by decide +kernel
theorem dd_L_law_1327 : decode code 1327 = .ok (.iload 5, 2) := by decide +kernel
theorem dd_L_law_1329 : decode code 1329 = .ok (.if_icmp .eq 5, 3) := by decide +kernel
theorem dd_L_law_1332 : decode code 1332 = .ok (.iconst 0, 1) := by decide +kernel
theorem dd_L_law_1333 : decode code 1333 = .ok (.ireturn, 1) := by decide +kernel
theorem dd_L_law_1334 : decode code 1334 = .ok (.iload 5, 2) := by decide +kernel
theorem dd_L_law_1336 : decode code 1336 = .ok (.ifCond .ne 15, 3) := by decide +kernel
theorem dd_L_law_1339 : decode code 1339 = .ok (.aload_n 3, 1) := by decide +kernel
theorem dd_L_law_1340 : decode code 1340 = .ok (.iconst 0, 1) := by decide +kernel
theorem dd_L_law_1341 : decode code 1341 = .ok (.laload, 1) := by decide +kernel
theorem dd_L_law_1342 : decode code 1342 = .ok (.iload 6, 2) := by decide +kernel
theorem dd_L_law_1344 : decode code 1344 = .ok (.i2l, 1) := by decide +kernel
theorem dd_L_law_1345 : decode code 1345 = .ok (.lcmp, 1) := by decide +kernel
theorem dd_L_law_1346 : decode code 1346 = .ok (.ifCond .eq 5, 3) := by decide +kernel
theorem dd_L_law_1349 : decode code 1349 = .ok (.iconst 0, 1) := by decide +kernel
theorem dd_L_law_1350 : decode code 1350 = .ok (.ireturn, 1) := by decide +kernel
theorem dd_L_law_1351 : decode code 1351 = .ok (.goto 295, 3) := by decide +kernel
theorem dd_L_law_1354 : decode code 1354 = .ok (.aload_n 1, 1) := by decide +kernel
theorem dd_L_law_1355 : decode code 1355 = .ok (.aload_n 0, 1) := by decide +kernel
theorem dd_L_law_1356 : decode code 1356 = .ok (.iload 4, 2) := by decide +kernel
theorem dd_L_law_1358 : decode code 1358 = .ok (.iconst 1, 1) := by decide +kernel
theorem dd_L_law_1359 : decode code 1359 = .ok (.iadd, 1) := by decide +kernel
theorem dd_L_law_1360 : decode code 1360 = .ok (.iaload, 1) := by decide +kernel
theorem dd_L_law_1361 : decode code 1361 = .ok (.aload_n 3, 1) := by decide +kernel
theorem dd_L_law_1362 : decode code 1362 = .ok (.invokestatic 158, 3) := by decide +kernel
theorem dd_L_law_1365 : decode code 1365 = .ok (.istore 5, 2) := by decide +kernel
theorem dd_L_law_1367 : decode code 1367 = .ok (.aload_n 2, 1) := by decide +kernel
theorem dd_L_law_1368 : decode code 1368 = .ok (.aload_n 0, 1) := by decide +kernel
theorem dd_L_law_1369 : decode code 1369 = .ok (.iload 4, 2) := by decide +kernel
theorem dd_L_law_1371 : decode code 1371 = .ok (.iconst 1, 1) := by decide +kernel
theorem dd_L_law_1372 : decode code 1372 = .ok (.iadd, 1) := by decide +kernel
theorem dd_L_law_1373 : decode code 1373 = .ok (.iaload, 1) := by decide +kernel
theorem dd_L_law_1374 : decode code 1374 = .ok (.invokevirtual 160, 3) := by decide +kernel
theorem dd_L_law_1377 : decode code 1377 = .ok (.istore 6, 2) := by decide +kernel
theorem dd_L_law_1379 : decode code 1379 = .ok (.aload_n 2, 1) := by decide +kernel
theorem dd_L_law_1380 : decode code 1380 = .ok (.invokevirtual 101, 3) := by decide +kernel
theorem dd_L_law_1383 : decode code 1383 = .ok (.iload 5, 2) := by decide +kernel
theorem dd_L_law_1385 : decode code 1385 = .ok (.if_icmp .eq 5, 3) := by decide +kernel
theorem dd_L_law_1388 : decode code 1388 = .ok (.iconst 0, 1) := by decide +kernel
theorem dd_L_law_1389 : decode code 1389 = .ok (.ireturn, 1) := by decide +kernel
theorem dd_L_law_1390 : decode code 1390 = .ok (.iload 5, 2) := by decide +kernel
theorem dd_L_law_1392 : decode code 1392 = .ok (.ifCond .ne 15, 3) := by decide +kernel
theorem dd_L_law_1395 : decode code 1395 = .ok (.aload_n 3, 1) := by decide +kernel
theorem dd_L_law_1396 : decode code 1396 = .ok (.iconst 0, 1) := by decide +kernel
theorem dd_L_law_1397 : decode code 1397 = .ok (.laload, 1) := by decide +kernel
theorem dd_L_law_1398 : decode code 1398 = .ok (.iload 6, 2) := by decide +kernel
theorem dd_L_law_1400 : decode code 1400 = .ok (.i2l, 1) := by decide +kernel
theorem dd_L_law_1401 : decode code 1401 = .ok (.lcmp, 1) := by decide +kernel
theorem dd_L_law_1402 : decode code 1402 = .ok (.ifCond .eq 5, 3) := by decide +kernel
theorem dd_L_law_1405 : decode code 1405 = .ok (.iconst 0, 1) := by decide +kernel
theorem dd_L_law_1406 : decode code 1406 = .ok (.ireturn, 1) := by decide +kernel
theorem dd_L_law_1407 : decode code 1407 = .ok (.goto 239, 3) := by decide +kernel
theorem dd_L_law_1410 : decode code 1410 = .ok (.aload_n 1, 1) := by decide +kernel
theorem dd_L_law_1411 : decode code 1411 = .ok (.aload_n 0, 1) := by decide +kernel
theorem dd_L_law_1412 : decode code 1412 = .ok (.iload 4, 2) := by decide +kernel
theorem dd_L_law_1414 : decode code 1414 = .ok (.iconst 1, 1) := by decide +kernel
theorem dd_L_law_1415 : decode code 1415 = .ok (.iadd, 1) := by decide +kernel
theorem dd_L_law_1416 : decode code 1416 = .ok (.iaload, 1) := by decide +kernel
theorem dd_L_law_1417 : decode code 1417 = .ok (.aload_n 3, 1) := by decide +kernel
theorem dd_L_law_1418 : decode code 1418 = .ok (.invokestatic 161, 3) := by decide +kernel
theorem dd_L_law_1421 : decode code 1421 = .ok (.istore 5, 2) := by decide +kernel
theorem dd_L_law_1423 : decode code 1423 = .ok (.aload_n 2, 1) := by decide +kernel
theorem dd_L_law_1424 : decode code 1424 = .ok (.aload_n 0, 1) := by decide +kernel
theorem dd_L_law_1425 : decode code 1425 = .ok (.iload 4, 2) := by decide +kernel
theorem dd_L_law_1427 : decode code 1427 = .ok (.iconst 1, 1) := by decide +kernel
theorem dd_L_law_1428 : decode code 1428 = .ok (.iadd, 1) := by decide +kernel
theorem dd_L_law_1429 : decode code 1429 = .ok (.iaload, 1) := by decide +kernel
theorem dd_L_law_1430 : decode code 1430 = .ok (.invokevirtual 163, 3) := by decide +kernel
theorem dd_L_law_1433 : decode code 1433 = .ok (.istore 6, 2) := by decide +kernel
theorem dd_L_law_1435 : decode code 1435 = .ok (.aload_n 2, 1) := by decide +kernel
theorem dd_L_law_1436 : decode code 1436 = .ok (.invokevirtual 101, 3) := by decide +kernel
theorem dd_L_law_1439 : decode code 1439 = .ok (.iload 5, 2) := by decide +kernel
theorem dd_L_law_1441 : decode code 1441 = .ok (.if_icmp .eq 5, 3) := by decide +kernel
theorem dd_L_law_1444 : decode code 1444 = .ok (.iconst 0, 1) := by decide +kernel
theorem dd_L_law_1445 : decode code 1445 = .ok (.ireturn, 1) := by decide +kernel
theorem dd_L_law_1446 : decode code 1446 = .ok (.iload 5, 2) := by decide +kernel
theorem dd_L_law_1448 : decode code 1448 = .ok (.ifCond .ne 15, 3) := by decide +kernel
theorem dd_L_law_1451 : decode code 1451 = .ok (.aload_n 3, 1) := by decide +kernel
theorem dd_L_law_1452 : decode code 1452 = .ok (.iconst 0, 1) := by decide +kernel
theorem dd_L_law_1453 : decode code 1453 = .ok (.laload, 1) := by decide +kernel
theorem dd_L_law_1454 : decode code 1454 = .ok (.iload 6, 2) := by decide +kernel
theorem dd_L_law_1456 : decode code 1456 = .ok (.i2l, 1) := by decide +kernel
theorem dd_L_law_1457 : decode code 1457 = .ok (.lcmp, 1) := by decide +kernel
theorem dd_L_law_1458 : decode code 1458 = .ok (.ifCond .eq 5, 3) := by decide +kernel
theorem dd_L_law_1461 : decode code 1461 = .ok (.iconst 0, 1) := by decide +kernel
theorem dd_L_law_1462 : decode code 1462 = .ok (.ireturn, 1) := by decide +kernel
theorem dd_L_law_1463 : decode code 1463 = .ok (.goto 183, 3) := by decide +kernel
theorem dd_L_law_1466 : decode code 1466 = .ok (.aload_n 1, 1) := by decide +kernel
theorem dd_L_law_1467 : decode code 1467 = .ok (.aload_n 0, 1) := by decide +kernel
theorem dd_L_law_1468 : decode code 1468 = .ok (.iload 4, 2) := by decide +kernel
theorem dd_L_law_1470 : decode code 1470 = .ok (.iconst 1, 1) := by decide +kernel
theorem dd_L_law_1471 : decode code 1471 = .ok (.iadd, 1) := by decide +kernel
theorem dd_L_law_1472 : decode code 1472 = .ok (.iaload, 1) := by decide +kernel
theorem dd_L_law_1473 : decode code 1473 = .ok (.aload_n 0, 1) := by decide +kernel
theorem dd_L_law_1474 : decode code 1474 = .ok (.iload 4, 2) := by decide +kernel
theorem dd_L_law_1476 : decode code 1476 = .ok (.iconst 2, 1) := by decide +kernel
theorem dd_L_law_1477 : decode code 1477 = .ok (.iadd, 1) := by decide +kernel
theorem dd_L_law_1478 : decode code 1478 = .ok (.iaload, 1) := by decide +kernel
theorem dd_L_law_1479 : decode code 1479 = .ok (.aload_n 0, 1) := by decide +kernel
theorem dd_L_law_1480 : decode code 1480 = .ok (.iload 4, 2) := by decide +kernel
theorem dd_L_law_1482 : decode code 1482 = .ok (.iconst 3, 1) := by decide +kernel
theorem dd_L_law_1483 : decode code 1483 = .ok (.iadd, 1) := by decide +kernel
theorem dd_L_law_1484 : decode code 1484 = .ok (.iaload, 1) := by decide +kernel
theorem dd_L_law_1485 : decode code 1485 = .ok (.aload_n 3, 1) := by decide +kernel
theorem dd_L_law_1486 : decode code 1486 = .ok (.invokestatic 164, 3) := by decide +kernel
theorem dd_L_law_1489 : decode code 1489 = .ok (.istore 5, 2) := by decide +kernel
theorem dd_L_law_1491 : decode code 1491 = .ok (.aload_n 2, 1) := by decide +kernel
theorem dd_L_law_1492 : decode code 1492 = .ok (.aload_n 0, 1) := by decide +kernel
theorem dd_L_law_1493 : decode code 1493 = .ok (.iload 4, 2) := by decide +kernel
theorem dd_L_law_1495 : decode code 1495 = .ok (.iconst 1, 1) := by decide +kernel
theorem dd_L_law_1496 : decode code 1496 = .ok (.iadd, 1) := by decide +kernel
theorem dd_L_law_1497 : decode code 1497 = .ok (.iaload, 1) := by decide +kernel
theorem dd_L_law_1498 : decode code 1498 = .ok (.aload_n 0, 1) := by decide +kernel
theorem dd_L_law_1499 : decode code 1499 = .ok (.iload 4, 2) := by decide +kernel
theorem dd_L_law_1501 : decode code 1501 = .ok (.iconst 2, 1) := by decide +kernel
theorem dd_L_law_1502 : decode code 1502 = .ok (.iadd, 1) := by decide +kernel
theorem dd_L_law_1503 : decode code 1503 = .ok (.iaload, 1) := by decide +kernel
theorem dd_L_law_1504 : decode code 1504 = .ok (.aload_n 0, 1) := by decide +kernel
theorem dd_L_law_1505 : decode code 1505 = .ok (.iload 4, 2) := by decide +kernel
theorem dd_L_law_1507 : decode code 1507 = .ok (.iconst 3, 1) := by decide +kernel
theorem dd_L_law_1508 : decode code 1508 = .ok (.iadd, 1) := by decide +kernel
theorem dd_L_law_1509 : decode code 1509 = .ok (.iaload, 1) := by decide +kernel
theorem dd_L_law_1510 : decode code 1510 = .ok (.invokevirtual 166, 3) := by decide +kernel
theorem dd_L_law_1513 : decode code 1513 = .ok (.istore 6, 2) := by decide +kernel
theorem dd_L_law_1515 : decode code 1515 = .ok (.aload_n 2, 1) := by decide +kernel
theorem dd_L_law_1516 : decode code 1516 = .ok (.invokevirtual 101, 3) := by decide +kernel
theorem dd_L_law_1519 : decode code 1519 = .ok (.iload 5, 2) := by decide +kernel
theorem dd_L_law_1521 : decode code 1521 = .ok (.if_icmp .eq 5, 3) := by decide +kernel
theorem dd_L_law_1524 : decode code 1524 = .ok (.iconst 0, 1) := by decide +kernel
theorem dd_L_law_1525 : decode code 1525 = .ok (.ireturn, 1) := by decide +kernel
theorem dd_L_law_1526 : decode code 1526 = .ok (.iload 5, 2) := by decide +kernel
theorem dd_L_law_1528 : decode code 1528 = .ok (.ifCond .ne 15, 3) := by decide +kernel
theorem dd_L_law_1531 : decode code 1531 = .ok (.aload_n 3, 1) := by decide +kernel
theorem dd_L_law_1532 : decode code 1532 = .ok (.iconst 0, 1) := by decide +kernel
theorem dd_L_law_1533 : decode code 1533 = .ok (.laload, 1) := by decide +kernel
theorem dd_L_law_1534 : decode code 1534 = .ok (.iload 6, 2) := by decide +kernel
theorem dd_L_law_1536 : decode code 1536 = .ok (.i2l, 1) := by decide +kernel
theorem dd_L_law_1537 : decode code 1537 = .ok (.lcmp, 1) := by decide +kernel
theorem dd_L_law_1538 : decode code 1538 = .ok (.ifCond .eq 5, 3) := by decide +kernel
theorem dd_L_law_1541 : decode code 1541 = .ok (.iconst 0, 1) := by decide +kernel
theorem dd_L_law_1542 : decode code 1542 = .ok (.ireturn, 1) := by decide +kernel
theorem dd_L_law_1543 : decode code 1543 = .ok (.goto 103, 3) := by decide +kernel
theorem dd_L_law_1546 : decode code 1546 = .ok (.aload_n 1, 1) := by decide +kernel
theorem dd_L_law_1547 : decode code 1547 = .ok (.aload_n 0, 1) := by decide +kernel
theorem dd_L_law_1548 : decode code 1548 = .ok (.iload 4, 2) := by decide +kernel
theorem dd_L_law_1550 : decode code 1550 = .ok (.iconst 1, 1) := by decide +kernel
theorem dd_L_law_1551 : decode code 1551 = .ok (.iadd, 1) := by decide +kernel
theorem dd_L_law_1552 : decode code 1552 = .ok (.iaload, 1) := by decide +kernel
theorem dd_L_law_1553 : decode code 1553 = .ok (.aload_n 0, 1) := by decide +kernel
theorem dd_L_law_1554 : decode code 1554 = .ok (.iload 4, 2) := by decide +kernel
theorem dd_L_law_1556 : decode code 1556 = .ok (.iconst 2, 1) := by decide +kernel
theorem dd_L_law_1557 : decode code 1557 = .ok (.iadd, 1) := by decide +kernel
theorem dd_L_law_1558 : decode code 1558 = .ok (.iaload, 1) := by decide +kernel
theorem dd_L_law_1559 : decode code 1559 = .ok (.aload_n 3, 1) := by decide +kernel
theorem dd_L_law_1560 : decode code 1560 = .ok (.invokestatic 167, 3) := by decide +kernel
theorem dd_L_law_1563 : decode code 1563 = .ok (.istore 5, 2) := by decide +kernel
theorem dd_L_law_1565 : decode code 1565 = .ok (.aload_n 2, 1) := by decide +kernel
theorem dd_L_law_1566 : decode code 1566 = .ok (.aload_n 0, 1) := by decide +kernel
theorem dd_L_law_1567 : decode code 1567 = .ok (.iload 4, 2) := by decide +kernel
theorem dd_L_law_1569 : decode code 1569 = .ok (.iconst 1, 1) := by decide +kernel
theorem dd_L_law_1570 : decode code 1570 = .ok (.iadd, 1) := by decide +kernel
theorem dd_L_law_1571 : decode code 1571 = .ok (.iaload, 1) := by decide +kernel
theorem dd_L_law_1572 : decode code 1572 = .ok (.aload_n 0, 1) := by decide +kernel
theorem dd_L_law_1573 : decode code 1573 = .ok (.iload 4, 2) := by decide +kernel
theorem dd_L_law_1575 : decode code 1575 = .ok (.iconst 2, 1) := by decide +kernel
theorem dd_L_law_1576 : decode code 1576 = .ok (.iadd, 1) := by decide +kernel
theorem dd_L_law_1577 : decode code 1577 = .ok (.iaload, 1) := by decide +kernel
theorem dd_L_law_1578 : decode code 1578 = .ok (.invokevirtual 169, 3) := by decide +kernel
theorem dd_L_law_1581 : decode code 1581 = .ok (.istore 6, 2) := by decide +kernel
theorem dd_L_law_1583 : decode code 1583 = .ok (.aload_n 2, 1) := by decide +kernel
theorem dd_L_law_1584 : decode code 1584 = .ok (.invokevirtual 101, 3) := by decide +kernel
theorem dd_L_law_1587 : decode code 1587 = .ok (.iload 5, 2) := by decide +kernel
theorem dd_L_law_1589 : decode code 1589 = .ok (.if_icmp .eq 5, 3) := by decide +kernel
theorem dd_L_law_1592 : decode code 1592 = .ok (.iconst 0, 1) := by decide +kernel
theorem dd_L_law_1593 : decode code 1593 = .ok (.ireturn, 1) := by decide +kernel
theorem dd_L_law_1594 : decode code 1594 = .ok (.iload 5, 2) := by decide +kernel
theorem dd_L_law_1596 : decode code 1596 = .ok (.ifCond .ne 22, 3) := by decide +kernel
theorem dd_L_law_1599 : decode code 1599 = .ok (.aload_n 3, 1) := by decide +kernel
theorem dd_L_law_1600 : decode code 1600 = .ok (.iconst 0, 1) := by decide +kernel
theorem dd_L_law_1601 : decode code 1601 = .ok (.laload, 1) := by decide +kernel
theorem dd_L_law_1602 : decode code 1602 = .ok (.iload 6, 2) := by decide +kernel
theorem dd_L_law_1604 : decode code 1604 = .ok (.ifCond .eq 7, 3) := by decide +kernel
theorem dd_L_law_1607 : decode code 1607 = .ok (.lconst 1, 1) := by decide +kernel
theorem dd_L_law_1608 : decode code 1608 = .ok (.goto 4, 3) := by decide +kernel
theorem dd_L_law_1611 : decode code 1611 = .ok (.lconst 0, 1) := by decide +kernel
theorem dd_L_law_1612 : decode code 1612 = .ok (.lcmp, 1) := by decide +kernel
theorem dd_L_law_1613 : decode code 1613 = .ok (.ifCond .eq 5, 3) := by decide +kernel
end
section
theorem dd_L_law_1616 : decode code 1616 = .ok (.iconst 0, 1) := by decide +kernel
theorem dd_L_law_1617 : decode code 1617 = .ok (.ireturn, 1) := by decide +kernel
theorem dd_L_law_1618 : decode code 1618 = .ok (.goto 28, 3) := by decide +kernel
theorem dd_L_law_1621 : decode code 1621 = .ok (.aload_n 1, 1) := by decide +kernel
theorem dd_L_law_1622 : decode code 1622 = .ok (.aload_n 0, 1) := by decide +kernel
theorem dd_L_law_1623 : decode code 1623 = .ok (.iload 4, 2) := by decide +kernel
theorem dd_L_law_1625 : decode code 1625 = .ok (.iconst 1, 1) := by decide +kernel
theorem dd_L_law_1626 : decode code 1626 = .ok (.iadd, 1) := by decide +kernel
theorem dd_L_law_1627 : decode code 1627 = .ok (.iaload, 1) := by decide +kernel
theorem dd_L_law_1628 : decode code 1628 = .ok (.invokevirtual 170, 3) := by decide +kernel
theorem dd_L_law_1631 : decode code 1631 = .ok (.aload_n 2, 1) := by decide +kernel
theorem dd_L_law_1632 : decode code 1632 = .ok (.aload_n 0, 1) := by decide +kernel
theorem dd_L_law_1633 : decode code 1633 = .ok (.iload 4, 2) := by decide +kernel
theorem dd_L_law_1635 : decode code 1635 = .ok (.iconst 1, 1) := by decide +kernel
theorem dd_L_law_1636 : decode code 1636 = .ok (.iadd, 1) := by decide +kernel
theorem dd_L_law_1637 : decode code 1637 = .ok (.iaload, 1) := by decide +kernel
theorem dd_L_law_1638 : decode code 1638 = .ok (.invokevirtual 173, 3) := by decide +kernel
theorem dd_L_law_1641 : decode code 1641 = .ok (.if_icmp .eq 5, 3) := by decide +kernel
theorem dd_L_law_1644 : decode code 1644 = .ok (.iconst 0, 1) := by decide +kernel
theorem dd_L_law_1645 : decode code 1645 = .ok (.ireturn, 1) := by decide +kernel
theorem dd_L_law_1646 : decode code 1646 = .ok (.iinc 4 4, 3) := by decide +kernel
theorem dd_L_law_1649 : decode code 1649 = .ok (.goto (-1606), 3) := by decide +kernel
theorem dd_L_law_1652 : decode code 1652 = .ok (.iconst 1, 1) := by decide +kernel
theorem dd_L_law_1653 : decode code 1653 = .ok (.ireturn, 1) := by decide +kernel
end
section
-- ===== PART A: goes FIRST, ahead of the names: the tables' words, and 'selects' of the private methods out of them =====
/-- a private method of a class that the tables say can be made, by its rows of tables_1 -/
def lw_okq (q : MethodName × Nat) : Prop := (q.1.cls ≠ "java/lang/invoke/MethodHandle" ∧ q.1.cls ≠ "java/lang/invoke/VarHandle") ∧ Cond.instantiable q.1.cls q.2 ∈ tables_1 ∧ Cond.privateMethod q.1 ∈ tables_1 ∧ Cond.instanceMethod q.1 ∈ tables_1
theorem lw_p0 : lw_okq (⟨"java/lang/Throwable", "fillInStackTrace", "(I)Ljava/lang/Throwable;"⟩, 6) := ⟨⟨by decide +kernel, by decide +kernel⟩, List.mem_of_getElem? (i := 237) (by decide +kernel), List.mem_of_getElem? (i := 235) (by decide +kernel), List.mem_of_getElem? (i := 236) (by decide +kernel)⟩
theorem lw_p1 : lw_okq (⟨"StoneRings", "follow", "(ILStoneRings$Trace;)V"⟩, 10) := ⟨⟨by decide +kernel, by decide +kernel⟩, List.mem_of_getElem? (i := 16) (by decide +kernel), List.mem_of_getElem? (i := 352) (by decide +kernel), List.mem_of_getElem? (i := 353) (by decide +kernel)⟩
theorem lw_p2 : lw_okq (⟨"StoneRingsModel", "isThere", "(II)Z"⟩, 21) := ⟨⟨by decide +kernel, by decide +kernel⟩, List.mem_of_getElem? (i := 587) (by decide +kernel), List.mem_of_getElem? (i := 665) (by decide +kernel), List.mem_of_getElem? (i := 666) (by decide +kernel)⟩
theorem lw_p3 : lw_okq (⟨"StoneRingsModel", "middleOf", "(I)I"⟩, 21) := ⟨⟨by decide +kernel, by decide +kernel⟩, List.mem_of_getElem? (i := 587) (by decide +kernel), List.mem_of_getElem? (i := 676) (by decide +kernel), List.mem_of_getElem? (i := 677) (by decide +kernel)⟩
theorem lw_p4 : lw_okq (⟨"StoneRingsModel", "sumOf", "(I)I"⟩, 21) := ⟨⟨by decide +kernel, by decide +kernel⟩, List.mem_of_getElem? (i := 587) (by decide +kernel), List.mem_of_getElem? (i := 680) (by decide +kernel), List.mem_of_getElem? (i := 681) (by decide +kernel)⟩
theorem lw_p5 : lw_okq (⟨"StoneRingsModel", "noRay", "(I)Z"⟩, 21) := ⟨⟨by decide +kernel, by decide +kernel⟩, List.mem_of_getElem? (i := 587) (by decide +kernel), List.mem_of_getElem? (i := 692) (by decide +kernel), List.mem_of_getElem? (i := 693) (by decide +kernel)⟩
theorem lw_p6 : lw_okq (⟨"StoneRingsModel", "lay", "(I)V"⟩, 21) := ⟨⟨by decide +kernel, by decide +kernel⟩, List.mem_of_getElem? (i := 587) (by decide +kernel), List.mem_of_getElem? (i := 696) (by decide +kernel), List.mem_of_getElem? (i := 697) (by decide +kernel)⟩
theorem lw_p7 : lw_okq (⟨"StoneRingsModel", "widthOf", "(I)I"⟩, 21) := ⟨⟨by decide +kernel, by decide +kernel⟩, List.mem_of_getElem? (i := 587) (by decide +kernel), List.mem_of_getElem? (i := 724) (by decide +kernel), List.mem_of_getElem? (i := 725) (by decide +kernel)⟩
theorem lw_p8 : lw_okq (⟨"StoneRingsModel", "together", "(II)I"⟩, 21) := ⟨⟨by decide +kernel, by decide +kernel⟩, List.mem_of_getElem? (i := 587) (by decide +kernel), List.mem_of_getElem? (i := 733) (by decide +kernel), List.mem_of_getElem? (i := 734) (by decide +kernel)⟩
theorem lw_p9 : lw_okq (⟨"StoneRingsModel", "noTwo", "(III)Z"⟩, 21) := ⟨⟨by decide +kernel, by decide +kernel⟩, List.mem_of_getElem? (i := 587) (by decide +kernel), List.mem_of_getElem? (i := 765) (by decide +kernel), List.mem_of_getElem? (i := 766) (by decide +kernel)⟩
theorem lw_p10 : lw_okq (⟨"StoneRingsModel", "both", "(III)Z"⟩, 21) := ⟨⟨by decide +kernel, by decide +kernel⟩, List.mem_of_getElem? (i := 587) (by decide +kernel), List.mem_of_getElem? (i := 769) (by decide +kernel), List.mem_of_getElem? (i := 770) (by decide +kernel)⟩
theorem lw_p11 : lw_okq (⟨"StoneRingsModel", "toldOf", "(I)I"⟩, 21) := ⟨⟨by decide +kernel, by decide +kernel⟩, List.mem_of_getElem? (i := 587) (by decide +kernel), List.mem_of_getElem? (i := 784) (by decide +kernel), List.mem_of_getElem? (i := 785) (by decide +kernel)⟩
theorem lw_p12 : lw_okq (⟨"StoneRingsModel", "rightOf", "(I)I"⟩, 21) := ⟨⟨by decide +kernel, by decide +kernel⟩, List.mem_of_getElem? (i := 587) (by decide +kernel), List.mem_of_getElem? (i := 792) (by decide +kernel), List.mem_of_getElem? (i := 793) (by decide +kernel)⟩
def lw_privs_1 : List (MethodName × Nat) := [(⟨"java/lang/Throwable", "fillInStackTrace", "(I)Ljava/lang/Throwable;"⟩, 6), (⟨"StoneRings", "follow", "(ILStoneRings$Trace;)V"⟩, 10), (⟨"StoneRingsModel", "isThere", "(II)Z"⟩, 21), (⟨"StoneRingsModel", "middleOf", "(I)I"⟩, 21), (⟨"StoneRingsModel", "sumOf", "(I)I"⟩, 21), (⟨"StoneRingsModel", "noRay", "(I)Z"⟩, 21), (⟨"StoneRingsModel", "lay", "(I)V"⟩, 21), (⟨"StoneRingsModel", "widthOf", "(I)I"⟩, 21), (⟨"StoneRingsModel", "together", "(II)I"⟩, 21), (⟨"StoneRingsModel", "noTwo", "(III)Z"⟩, 21), (⟨"StoneRingsModel", "both", "(III)Z"⟩, 21), (⟨"StoneRingsModel", "toldOf", "(I)I"⟩, 21), (⟨"StoneRingsModel", "rightOf", "(I)I"⟩, 21)]
theorem lw_r1 : ∀ q ∈ lw_privs_1, lw_okq q := List.forall_mem_cons.mpr ⟨lw_p0, List.forall_mem_cons.mpr ⟨lw_p1, List.forall_mem_cons.mpr ⟨lw_p2, List.forall_mem_cons.mpr ⟨lw_p3, List.forall_mem_cons.mpr ⟨lw_p4, List.forall_mem_cons.mpr ⟨lw_p5, List.forall_mem_cons.mpr ⟨lw_p6, List.forall_mem_cons.mpr ⟨lw_p7, List.forall_mem_cons.mpr ⟨lw_p8, List.forall_mem_cons.mpr ⟨lw_p9, List.forall_mem_cons.mpr ⟨lw_p10, List.forall_mem_cons.mpr ⟨lw_p11, List.forall_mem_cons.mpr ⟨lw_p12, fun _ h => absurd h List.not_mem_nil⟩⟩⟩⟩⟩⟩⟩⟩⟩⟩⟩⟩⟩
def lw_privs : List (MethodName × Nat) := lw_privs_1
def lw_tbl : List Cond := k2_sels lw_privs ++ tables_1
theorem lw_privs_ok : ∀ q ∈ lw_privs, lw_okq q := lw_r1
end
section
/-! ===== BEGIN words of one list among another's, by their places ===== -/
theorem goodIn_r {big : List Cond} (ws : List Cond) (ps : List Nat) (hp : ws = ps.filterMap (fun i => big[i]?)) (h : ws.all goodWord = true) : GoodIn big ws := by
  intro w hw
  have h1 := List.all_eq_true.mp h w hw
  rw [hp] at hw
  obtain ⟨i, -, hi⟩ := List.mem_filterMap.mp hw
  have hm : w ∈ big := by first | exact List.mem_of_getElem? hi | exact List.getElem?_mem hi
  exact ⟨hm, good_of_word h1⟩
theorem goodIn_app {big a b : List Cond} (ha : GoodIn big a) (hb : GoodIn big b) : GoodIn big (a ++ b) := fun w h => (List.mem_append.mp h).elim (ha w) (hb w)
theorem goodIn_ca {big a b : List Cond} {c : Cond} (ha : GoodIn big (c :: a)) (hb : GoodIn big b) : GoodIn big (c :: (a ++ b)) := fun w h => (List.mem_cons.mp h).elim (fun e => ha w (List.mem_cons.mpr (Or.inl e))) (fun h => (List.mem_append.mp h).elim (fun h => ha w (List.mem_cons.mpr (Or.inr h))) (hb w))
theorem goodIn_sub {big ws : List Cond} (hm : ∀ w ∈ ws, w ∈ big) (h : ws.all goodWord = true) : GoodIn big ws := fun w hw => ⟨hm w hw, good_of_word (List.all_eq_true.mp h w hw)⟩
/-! ===== END ===== -/

/-! ===== BEGIN exceptions that leave a method, and their catching by the caller (launches without stack traces) ===== -/
section VXA
/-! The laws vx_back, vx_callV, vx_callS, vx_callSW, vx_throw0, vx_throwS follow proofs of the library, with one case more: JvmDerived/Free/Laws.lean (Back.of_free), Shelf42/LK1.lean (callV, callS), Shelf/KitTraced.lean (throwNew0V, throwNewS). -/
/-- where a method has thrown q: the class by its name, the cell, what was written, the world -/
def vx_T (XC : String → State → State → Prop) (st : State) (q : Addr) (t : State) (mc ms : Nat) (free : Addr → Prop) : Prop :=
  ∃ (E : String) (ce : Cell) (L : List Loc), XC E st t ∧ t.heap[q]? = some ce ∧ ce.vm = .none ∧ st.vm.findClass E = some ce.cls ∧ st.WarmedH t.vm ∧ st.sameButNew ({ t with vm := st.vm } : State) L mc ms ∧ ∀ z ∈ L, free z.base
def vx_Q (Qc : Array Value → State → Outcome → State → Prop) (XC : String → State → State → Prop) (mc ms : Nat) (free : Addr → Prop) : Array Value → State → Outcome → State → Prop := fun a st o t =>
  (Qc a st o t ∧ ∃ L, FrameEnd st o t L mc ms ∧ ∀ q ∈ L, free q.base) ∨ ∃ q, o = .threw q ∧ vx_T XC st q t mc ms free
/-- a callee that returns or throws -/
def vx_Met (l : Launch) (y : MethodName) (ws : List Cond) (rm : Room) (Pc : Array Value → State → Prop) (Qc : Array Value → State → Outcome → State → Prop) (XC : String → State → State → Prop) (mc ms : Nat) (free : Addr → Prop) : Prop :=
  MetFree l y (headSpec ws rm) Pc (fun _ _ _ _ _ => True) (vx_Q Qc XC mc ms free)
def vx_Post (XC : String → State → State → Prop) (mc ms : Nat) (free : Addr → Prop) : Pt → Array Value → Addr → Pt → Prop := fun A a q B =>
  ∃ (g : JFrame) (mk : MethodId) (t : State) (L : List Loc) (E : String) (ce : Cell), B.U.heap = t.heap ∧ B.U.vm = t.vm ∧ XC E (A.U.calling g mk a) t ∧ t.heap[q]? = some ce ∧ ce.vm = .none ∧ A.U.vm.findClass E = some ce.cls ∧ B.locs = A.locs ++ L ∧ (∀ z ∈ L, free z.base) ∧ B.cells = A.cells + mc ∧ B.slots = A.slots + ms
def vx_Back (l : Launch) (R : Room) (p : Program) (e : Env) (below : List Frame) (s : State) (sargs : Array Value) (y : MethodName) (len W9 : Nat)
    (Pre : Pt → Array Value → Prop) (Post : Pt → Array Value → Option Value → Pt → Prop) (PostX : Pt → Array Value → Addr → Pt → Prop) : Prop :=
  ∀ (m : MethodId) (meth : Method) (c : Code) (A : Pt) (g : JFrame) (ig : Instr) (mk : MethodId) (a : Array Value),
    Stand p l e R s m sargs below meth c A.U A.locs A.cells A.slots → g.method = m → g.locals.size = c.maxLocals → decode c.code g.pc = .ok (ig, len) →
    2 * g.monitorRoom + (g.stack.map fun v => v.category).sum ≤ W9 → A.U.methodNamed? y = some mk → Pre A a →
    (∃ (v : Option Value) (B : Pt), Stand p l e R s m sargs below meth c B.U B.locs B.cells B.slots ∧ Post A a v B ∧
      Steps p.tables e below (doInvoke e (A.U.setTop g) [] mk a).1 (B.U.setTop { g with pc := g.pc + len, stack := v.toList ++ g.stack })) ∨
    (∃ (q : Addr) (B : Pt), Stand p l e R s m sargs below meth c B.U B.locs B.cells B.slots ∧ PostX A a q B ∧
      Steps p.tables e below (doInvoke e (A.U.setTop g) [] mk a).1 ((B.U.setTop g).pushFrame (.throwing q)))
section Payer
variable {l : Launch} {R : Room} {p : Program} {e : Env} {below : List Frame} {s : State} {sargs : Array Value} {y : MethodName} {len W9 : Nat}
theorem vx_back {ws : List Cond} {rm : Room} {Pc : Array Value → State → Prop} {Qc : Array Value → State → Outcome → State → Prop} {XC : String → State → State → Prop} {mc ms : Nat} {free : Addr → Prop} {bytes : ByteArray} {maxL : Nat} {ret : Option FieldType}
    (hM : vx_Met l y ws rm Pc Qc XC mc ms free) (hblind : FrameBlind Pc) (hrc : rm.cells = mc) (hrs : rm.slots = ms)
    (hframes : rm.frames + 1 ≤ R.frames) (hlocals : W9 + (maxL + 11) + rm.locals ≤ R.locals)
    (hws : ∀ w ∈ ws, ∀ a' U, s.WarmedH U.vm → w.before a' U = true) (hcode : Cond.code y bytes maxL ret ∈ ws) (hinit : ∀ a' U, s.WarmedH U.vm → (Cond.initialized y.cls).before a' U = true) :
    vx_Back l R p e below s sargs y len W9 (PreOf R mc ms Pc) (PostOf Qc mc ms free) (vx_Post XC mc ms free) := by
  intro m meth c A g ig mk a X hg hsize hdg hW hn hp
  have h1 : (headSpec ws rm).pre.before a A.U = true := atoms_intro fun w hw => hws w hw _ _ X.warmed
  have h2 : (Cond.code y bytes maxL ret).before a A.U = true := hws _ hcode _ _ X.warmed
  have h3 : (Cond.initialized y.cls).before a A.U = true := hinit _ _ X.warmed
  have h4 : A.cells + (headSpec ws rm).room.cells ≤ R.cells := by rw [show (headSpec ws rm).room.cells = mc from hrc]; exact hp.1
  have h5 : A.slots + (headSpec ws rm).room.slots ≤ R.slots := by rw [show (headSpec ws rm).room.slots = ms from hrs]; exact hp.2.1
  have hPc : Pc a (A.U.calling g mk a) := hblind _ _ _ _ hp.2.2
  obtain ⟨U, Ls, c0, s0⟩ := A
  dsimp only [Pt.U, Pt.locs, Pt.cells, Pt.slots] at h1 h2 h3 h4 h5 X hn hPc ⊢
  obtain ⟨methY, cY, hmY, hcY, -, hlY, -, -, -, -⟩ := Cond.code_spec hn h2
  obtain ⟨kY, hkY, -⟩ := className_of_methodNamed hn
  have hinitY : kY.init = .initialized := Cond.initialized_spec (findClass_of_methodNamed hn) hkY h3
  have h : At U g.method c below := by rw [hg]; exact X.here
  have hlocals9 : W9 + (maxL + 11) + (headSpec ws rm).room.locals ≤ R.locals := hlocals
  have happ : (headSpec ws rm).appliesLoose y e.platform (U.calling g mk a) = true :=
    Spec.appliesLoose_calling (g := g) h hdg hn hkY hinitY
      (X.room_calling (g := g) (R' := (headSpec ws rm).room) hsize hmY hcY hframes (by rw [hlY]; omega) h4 h5) h1
  obtain ⟨mid, hmid⟩ := h.above
  have hfr : (U.setTop g).frames = (.java g :: mid) ++ below := by rw [State.frames_setTop' g h.top, hmid]; rfl
  obtain ⟨o, s₂, hsteps, -, hend, hq⟩ := Steps.callFree hM p X.admits X.cas X.clock (acts := []) hfr happ hPc trivial
  have hq' : vx_Q Qc XC mc ms free a (U.calling g mk a) o s₂ := hq
  rw [State.frames_setTop' g h.top] at hend
  obtain ⟨g₀, hg0⟩ := Option.isSome_iff_exists.mp h.top
  obtain ⟨r, hr⟩ := State.topJava?_eq_some.mp hg0
  have hr' : (({ U with heap := s₂.heap, slotsUsed := s₂.slotsUsed } : State).setVm s₂.vm).frames = .java g₀ :: r := hr
  rcases hq' with ⟨hqc, L, hfe, hL⟩ | ⟨q, rfl, E, ce, L, hx, hce, hcv, hcl, hW₂, hsm, hL⟩
  · obtain ⟨⟨v, rfl⟩, hW₂, e2, q2, q3, q4, q5, q6⟩ := id hfe
    have e3 : s₂ = ({ (U.calling g mk a).setFrames s₂.frames with heap := s₂.heap, slotsUsed := s₂.slotsUsed } : State).setVm s₂.vm := by
      have : s₂ = ({ s₂ with vm := (U.calling g mk a).vm } : State).setVm s₂.vm := rfl
      rw [e2] at this
      exact this
    obtain ⟨c₂, i₂, len₂, hc₂, hd₂, hf₂⟩ := hend
    have hW' : U.WarmedH s₂.vm := hW₂
    have hcc : c₂ = c := by
      have h1 : s₂.code? g.method = U.code? g.method := by
        rw [State.code?_eq, State.code?_eq, hW'.alike.method?]
      exact Option.some.inj (hc₂.symm.trans (h1.trans h.code))
    subst hcc
    have hlen : len₂ = len := by rw [hdg] at hd₂; cases hd₂; rfl
    subst hlen
    have hs₂ : s₂ = (({ U with heap := s₂.heap, slotsUsed := s₂.slotsUsed } : State).setVm s₂.vm).setTop { g with pc := g.pc + len₂, stack := v.toList ++ g.stack } := by
      refine e3.trans ?_
      rw [hf₂, State.calling_eq h.top, State.setFrames_setFrames, State.setTop_of_frames _ hr', hr]
      rfl
    have hsame : U.sameButNew ({ U with heap := s₂.heap, slotsUsed := s₂.slotsUsed } : State) L mc ms := by
      refine ⟨?_, q2, q3, q4, q5, q6⟩
      obtain ⟨t, ht, -⟩ := State.frames_cons hr
      show ({ U with heap := s₂.heap, slotsUsed := s₂.slotsUsed } : State) = { U.setFrames U.frames with heap := s₂.heap, slotsUsed := s₂.slotsUsed }
      rw [State.setFrames_self ht]
    subst hg
    refine Or.inl ⟨v, ⟨(({ U with heap := s₂.heap, slotsUsed := s₂.slotsUsed } : State).setVm s₂.vm), Ls ++ L, c0 + mc, s0 + ms⟩,
      ⟨X.admits, X.cas, X.clock, X.frames, X.room, X.hears, X.method, X.code, (X.here.setHeapUsed s₂.heap s₂.slotsUsed).setVm hW'.alike, X.tail, State.WarmedH.trans X.warmed hW', X.limits, X.bytes, X.same.trans (hsame.setVm s.vm)⟩,
      ⟨g, mk, s₂, L, rfl, rfl, hqc, rfl, hL, rfl, rfl⟩, ?_⟩
    show Steps p.tables e below _ ((({ U with heap := s₂.heap, slotsUsed := s₂.slotsUsed } : State).setVm s₂.vm).setTop { g with pc := g.pc + len₂, stack := v.toList ++ g.stack })
    rw [← hs₂]
    exact hsteps
  · obtain ⟨e2, q2, q3, q4, q5, q6⟩ := id hsm
    have e3 : s₂ = ({ (U.calling g mk a).setFrames s₂.frames with heap := s₂.heap, slotsUsed := s₂.slotsUsed } : State).setVm s₂.vm := by
      have : s₂ = ({ s₂ with vm := (U.calling g mk a).vm } : State).setVm s₂.vm := rfl
      rw [e2] at this
      exact this
    have hf₂ : s₂.frames = .throwing q :: .java g :: U.frames.tail := hend
    have hW' : U.WarmedH s₂.vm := hW₂
    have hs₂ : s₂ = ((({ U with heap := s₂.heap, slotsUsed := s₂.slotsUsed } : State).setVm s₂.vm).setTop g).pushFrame (.throwing q) := by
      refine e3.trans ?_
      rw [hf₂, State.calling_eq h.top, State.setFrames_setFrames, State.pushFrame, State.frames_setTop _ hr', State.setTop_of_frames _ hr', State.setFrames_setFrames, hr]
      rfl
    have hsame : U.sameButNew ({ U with heap := s₂.heap, slotsUsed := s₂.slotsUsed } : State) L mc ms := by
      refine ⟨?_, q2, q3, q4, q5, q6⟩
      obtain ⟨t, ht, -⟩ := State.frames_cons hr
      show ({ U with heap := s₂.heap, slotsUsed := s₂.slotsUsed } : State) = { U.setFrames U.frames with heap := s₂.heap, slotsUsed := s₂.slotsUsed }
      rw [State.setFrames_self ht]
    subst hg
    refine Or.inr ⟨q, ⟨(({ U with heap := s₂.heap, slotsUsed := s₂.slotsUsed } : State).setVm s₂.vm), Ls ++ L, c0 + mc, s0 + ms⟩,
      ⟨X.admits, X.cas, X.clock, X.frames, X.room, X.hears, X.method, X.code, (X.here.setHeapUsed s₂.heap s₂.slotsUsed).setVm hW'.alike, X.tail, State.WarmedH.trans X.warmed hW', X.limits, X.bytes, X.same.trans (hsame.setVm s.vm)⟩,
      ⟨g, mk, s₂, L, E, ce, rfl, rfl, hx, hce, hcv, hcl, rfl, hL, rfl, rfl⟩, ?_⟩
    show Steps p.tables e below _ (((({ U with heap := s₂.heap, slotsUsed := s₂.slotsUsed } : State).setVm s₂.vm).setTop g).pushFrame (.throwing q))
    rw [← hs₂]
    exact hsteps
end Payer
section Calls
variable {p : Program} {l : Launch} {e : Env} {R : Room} {s : State} {m : MethodId} {args : Array Value} {below : List Frame} {meth : Method} {c : Code} {T : State} {locs : List Loc} {cells slots : Nat}
theorem vx_callV (X : Stand p l e R s m args below meth c T locs cells slots) (hexec : p.tables.exec = Jvm.exec) {own C : String} {index : Nat} {y : MethodName} {bytes : ByteArray} {maxL : Nat} {ret : Option FieldType}
    (hown : s.vm.findClass own = some m.cls) (hlink : (Cond.methodLink own index y).before args s = true) (hinst : (Cond.instanceMethod y).before args s = true) (hsel : (Cond.selects C y y).before args s = true)
    (hcode : (Cond.code y bytes maxL ret).before args s = true) (hy : y.cls ≠ "java/lang/invoke/MethodHandle" ∧ y.cls ≠ "java/lang/invoke/VarHandle")
    {W9 : Nat} {Pre : Pt → Array Value → Prop} {Post : Pt → Array Value → Option Value → Pt → Prop} {PostX : Pt → Array Value → Addr → Pt → Prop} (hK : vx_Back l R p e below s args y 3 W9 Pre Post PostX)
    {b : Addr} {cellB : Cell} (hcell : T.heap[b]? = some cellB) (hobj : cellB.vm.isStatics = false) (hcls : s.vm.findClass C = some cellB.cls)
    {g : JFrame} (hg : g.method = m) (hsize : g.locals.size = c.maxLocals) {argsL rest : List Value} (hlen : ∀ sig, parseMethodDescriptor y.desc = some sig → argsL.length = sig.parameters.length)
    (hstack : g.stack = argsL.reverse ++ .ref b :: rest) (hW : 2 * g.monitorRoom + (rest.map fun v => v.category).sum ≤ W9) (hdg : decode c.code g.pc = .ok (.invokevirtual index, 3))
    (hpre : ∀ vm₁, s.WarmedH vm₁ → Pre ⟨T.setVm vm₁, locs, cells, slots⟩ (Value.ref b :: argsL).toArray) :
    (∃ (v : Option Value) (vm₁ : Vm) (B : Pt), s.WarmedH vm₁ ∧ Stand p l e R s m args below meth c B.U B.locs B.cells B.slots ∧ Post ⟨T.setVm vm₁, locs, cells, slots⟩ (Value.ref b :: argsL).toArray v B ∧
      ∀ target, Steps p.tables e below (B.U.setTop { g with pc := g.pc + 3, stack := v.toList ++ rest }) target → Steps p.tables e below (T.setTop g) target) ∨
    (∃ (q : Addr) (vm₁ : Vm) (B : Pt), s.WarmedH vm₁ ∧ Stand p l e R s m args below meth c B.U B.locs B.cells B.slots ∧ PostX ⟨T.setVm vm₁, locs, cells, slots⟩ (Value.ref b :: argsL).toArray q B ∧
      Steps p.tables e below (T.setTop g) ((B.U.setTop { g with stack := rest }).pushFrame (.throwing q))) := by
  obtain ⟨mk, methM, hnamed, hmethM, hstM, habM⟩ := Cond.instanceMethod_spec hinst
  obtain ⟨methM', cM, hmethM', -, -, -, -, -, -, hsigM⟩ := Cond.code_spec hnamed hcode
  cases hmethM.symm.trans hmethM'
  obtain ⟨c2, r2, m2, q1, q2, q3, q4, kP, hkP, hkPi⟩ := Cond.selects_spec hsel
  cases hcls.symm.trans q1
  cases (State.methodFound?_of_named hnamed hy).symm.trans q2
  cases hnamed.symm.trans q3
  have hselP : selectMethod e.platform s.vm cellB.cls mk = .method mk := by rw [Launch.admits_selectMethod X.admits]; exact q4
  obtain ⟨vm₁, X₁, hstep₁⟩ := X.invokevirtual hexec hown hlink hnamed hmethM hstM hkP hkPi hy (a := b) (cell := cellB) hcell
    (fun z h => by rw [h] at hobj; cases hobj) hselP hmethM habM hkP hkPi (g := g) hg (argsL := argsL) (rest := rest) (hlen _ hsigM) hstack hdg
  rcases hK m meth c ⟨T.setVm vm₁, locs, cells, slots⟩ { g with stack := rest } (.invokevirtual index) mk (Value.ref b :: argsL).toArray X₁ hg hsize hdg hW (X₁.named hnamed) (hpre vm₁ X₁.warmed) with ⟨v, B, X', hpost, hsteps⟩ | ⟨q, B, X', hpost, hsteps⟩
  · exact Or.inl ⟨v, vm₁, B, X₁.warmed, X', hpost, fun target h => hstep₁ _ fun acts => by rw [doInvoke_state]; exact hsteps.trans h⟩
  · exact Or.inr ⟨q, vm₁, B, X₁.warmed, X', hpost, hstep₁ _ fun acts => by rw [doInvoke_state]; exact hsteps⟩
theorem vx_callS (X : Stand p l e R s m args below meth c T locs cells slots) (hexec : p.tables.exec = Jvm.exec) {own : String} {index : Nat} {y : MethodName} {bytes : ByteArray} {maxL : Nat} {ret : Option FieldType}
    (hown : s.vm.findClass own = some m.cls) (hlink : (Cond.methodLink own index y).before args s = true) (hstat : (Cond.static y).before args s = true) (hinit : (Cond.initialized y.cls).before args s = true)
    (hcode : (Cond.code y bytes maxL ret).before args s = true) (hy : y.cls ≠ "java/lang/invoke/MethodHandle" ∧ y.cls ≠ "java/lang/invoke/VarHandle")
    {W9 : Nat} {Pre : Pt → Array Value → Prop} {Post : Pt → Array Value → Option Value → Pt → Prop} {PostX : Pt → Array Value → Addr → Pt → Prop} (hK : vx_Back l R p e below s args y 3 W9 Pre Post PostX)
    {g : JFrame} (hg : g.method = m) (hsize : g.locals.size = c.maxLocals) {argsL rest : List Value} (hlen : ∀ sig, parseMethodDescriptor y.desc = some sig → argsL.length = sig.parameters.length)
    (hstack : g.stack = argsL.reverse ++ rest) (hW : 2 * g.monitorRoom + (rest.map fun v => v.category).sum ≤ W9) (hdg : decode c.code g.pc = .ok (.invokestatic index, 3))
    (hpre : ∀ vm₁, s.WarmedH vm₁ → Pre ⟨T.setVm vm₁, locs, cells, slots⟩ argsL.toArray) :
    (∃ (v : Option Value) (vm₁ : Vm) (B : Pt), s.WarmedH vm₁ ∧ Stand p l e R s m args below meth c B.U B.locs B.cells B.slots ∧ Post ⟨T.setVm vm₁, locs, cells, slots⟩ argsL.toArray v B ∧
      ∀ target, Steps p.tables e below (B.U.setTop { g with pc := g.pc + 3, stack := v.toList ++ rest }) target → Steps p.tables e below (T.setTop g) target) ∨
    (∃ (q : Addr) (vm₁ : Vm) (B : Pt), s.WarmedH vm₁ ∧ Stand p l e R s m args below meth c B.U B.locs B.cells B.slots ∧ PostX ⟨T.setVm vm₁, locs, cells, slots⟩ argsL.toArray q B ∧
      Steps p.tables e below (T.setTop g) ((B.U.setTop { g with stack := rest }).pushFrame (.throwing q))) := by
  obtain ⟨mk, hnamed⟩ := Cond.code_named hcode
  obtain ⟨methM, cM, hmethM, -, -, -, -, -, -, hsigM⟩ := Cond.code_spec hnamed hcode
  have hstatic : methM.isStatic = true := Cond.static_spec hnamed hmethM hstat
  obtain ⟨kP, hkP, -⟩ := className_of_methodNamed hnamed
  have hinitP : kP.init = .initialized := Cond.initialized_spec (findClass_of_methodNamed hnamed) hkP hinit
  obtain ⟨vm₁, X₁, hstep₁⟩ := X.invokestatic hexec hown hlink hnamed hmethM hstatic hkP hinitP hy (g := g) hg (argsL := argsL) (rest := rest) (hlen _ hsigM) hstack hdg
  rcases hK m meth c ⟨T.setVm vm₁, locs, cells, slots⟩ { g with stack := rest } (.invokestatic index) mk argsL.toArray X₁ hg hsize hdg hW (X₁.named hnamed) (hpre vm₁ X₁.warmed) with ⟨v, B, X', hpost, hsteps⟩ | ⟨q, B, X', hpost, hsteps⟩
  · exact Or.inl ⟨v, vm₁, B, X₁.warmed, X', hpost, fun target h => hstep₁ _ fun acts => by rw [doInvoke_state]; exact hsteps.trans h⟩
  · exact Or.inr ⟨q, vm₁, B, X₁.warmed, X', hpost, hstep₁ _ fun acts => by rw [doInvoke_state]; exact hsteps⟩
end Calls
theorem vx_cls {s : State} {T : State} {vm₁ : Vm} {E : String} {k : ClassId} (hW : s.WarmedH vm₁) (h : (T.setVm vm₁).vm.findClass E = some k) : s.vm.findClass E = some k := by
  have h1 : vm₁.findClass E = some k := h
  rw [hW.alike.findClass] at h1
  exact h1
/-- the method's frame g, with q thrown over it -/
def vx_W (p : Program) (l : Launch) (e : Env) (R : Room) (s : State) (m : MethodId) (args : Array Value) (below : List Frame) (meth : Method) (c : Code) (H : Heap) (locs : List Loc) (cells slots : Nat) (Q : State → Prop) (g : JFrame) (q : Addr) : Prop :=
  ∀ T : State, T.heap = H → Stand p l e R s m args below meth c T locs cells slots → ∃ t, Steps p.tables e below ((T.setTop g).pushFrame (.throwing q)) t ∧ Q t
def vx_Run (p : Program) (l : Launch) (e : Env) (R : Room) (s : State) (m : MethodId) (args : Array Value) (below : List Frame) (meth : Method) (c : Code) (H : Heap) (locs : List Loc) (cells slots mc ms : Nat) (g : JFrame) (rest : List Value) (Qa : State → Outcome → State → Prop) (XC : String → State → State → Prop) (free : Addr → Prop) : Prop :=
  ∀ T : State, T.heap = H → Stand p l e R s m args below meth c T locs cells slots →
    (∃ (v : Option Value) (st₀ t T' : State) (L : List Loc), st₀.heap = H ∧ Stand p l e R s m args below meth c T' (locs ++ L) (cells + mc) (slots + ms) ∧ (∀ q ∈ L, free q.base) ∧ T'.heap = t.heap ∧ T'.vm = t.vm ∧ Qa st₀ (.returned v) t ∧
      Goes p e below T g T' { g with pc := g.pc + 3, stack := v.toList ++ rest }) ∨
    (∃ (q : Addr) (st₀ t T' : State) (L : List Loc) (E : String) (ce : Cell), st₀.heap = H ∧ Stand p l e R s m args below meth c T' (locs ++ L) (cells + mc) (slots + ms) ∧ (∀ z ∈ L, free z.base) ∧ T'.heap = t.heap ∧ T'.vm = t.vm ∧ XC E st₀ t ∧ t.heap[q]? = some ce ∧ ce.vm = .none ∧ s.vm.findClass E = some ce.cls ∧
      Steps p.tables e below (T.setTop g) ((T'.setTop { g with stack := rest }).pushFrame (.throwing q)))
def vx_X {S : Type} (px : S → Prop) (B : String → S → State → Prop) (A : Nat → Prop) : String → State → State → Prop := fun E st t => ∃ u : S, px u ∧ B E u t ∧ va_F A st t
section Runs
variable {p : Program} {l : Launch} {e : Env} {R : Room} {s : State} {m : MethodId} {args : Array Value} {below : List Frame} {meth : Method} {c : Code} {H : Heap} {locs : List Loc} {cells slots : Nat}
variable {y : MethodName} {bytes cc : ByteArray} {maxL nL mc ms n index : Nat} {ret : Option FieldType} {ws : List Cond} {rm : Room} {Pc : Array Value → State → Prop} {Qc : Array Value → State → Outcome → State → Prop} {XC : String → State → State → Prop} {free : Addr → Prop} {Ts : List Cond} {own C : String} {b : Addr} {As rest : List Value} {g : JFrame}
theorem vx_callBack (cb : CallB R s args own index y bytes maxL ret ws rm mc ms n) (hM : vx_Met l y ws rm Pc Qc XC mc ms free) (hbl : FrameBlind Pc) : vx_Back l R p e below s args y 3 8 (PreOf R mc ms Pc) (PostOf Qc mc ms free) (vx_Post XC mc ms free) := by
  obtain ⟨hrc, hrs, hfr, hlo, hws, hcw, -, hini, -⟩ := cb
  exact vx_back (bytes := bytes) (maxL := maxL) (ret := ret) hM hbl hrc hrs hfr hlo hws hcw (fun a' U hW => word_at hW (Or.inl (by first | rfl | simp [Cond.onTables, Cond.keeps, Cond.steady])) hini)
theorem vx_runV (S : CallFix p m c cc nL s args Ts own) (hM : vx_Met l y ws rm Pc Qc XC mc ms free) (cw : CallW R s args own C index y bytes maxL ret ws rm mc ms n) (hp : PreV s H C b Pc As)
    (hg : g.method = m) (hn : As.length = n) (hsize : g.locals.size = nL) (hstack : g.stack = As.reverse ++ .ref b :: rest) (hW : 2 * g.monitorRoom + (rest.map fun v => v.category).sum ≤ 8) (hdg : decode cc g.pc = .ok (.invokevirtual index, 3)) (hf : cells + mc ≤ R.cells ∧ slots + ms ≤ R.slots) :
    vx_Run p l e R s m args below meth c H locs cells slots mc ms g rest (Qc (Value.ref b :: As).toArray) XC free := by
  have hK : vx_Back l R p e below s args y 3 8 (PreOf R mc ms Pc) (PostOf Qc mc ms free) (vx_Post XC mc ms free) := vx_callBack cw.1 hM hp.1
  obtain ⟨⟨-, -, -, -, -, -, hcode, -, hy, hlen, hl⟩, hin, hse⟩ := cw
  obtain ⟨hx, hb, hml, ho, -⟩ := S
  obtain ⟨-, ⟨cellB, hcB, hoB, hclB⟩, hPc⟩ := hp
  intro T hT X
  rcases vx_callV X hx (C := C) (bytes := bytes) (maxL := maxL) (ret := ret) ho hl hin hse hcode hy hK (by rw [hT]; exact hcB) hoB hclB hg (hsize.trans hml.symm) (argsL := As) (rest := rest) (fun sig h => hn.trans (hlen sig h)) hstack hW (by rw [hb]; exact hdg)
    (fun vm₁ hW₁ => ⟨hf.1, hf.2, hPc (T.setVm vm₁) hT hW₁⟩) with ⟨v, vm₁, ⟨U', l2, c2, s2⟩, hW₁, X', ⟨g', mk, t, L, e1, e2, hq, h1, hL, h2, h3⟩, st⟩ | ⟨q, vm₁, ⟨U', l2, c2, s2⟩, hW₁, X', ⟨g', mk, t, L, E, ce, e1, e2, hq, hce, hcv, hcl, h1, hL, h2, h3⟩, st⟩
  · dsimp only [Pt.U, Pt.locs, Pt.cells, Pt.slots] at X' e1 e2 h1 h2 h3 st
    subst h1; subst h2; subst h3
    exact Or.inl ⟨v, (T.setVm vm₁).calling g' mk (Value.ref b :: As).toArray, t, U', L, hT, X', hL, e1, e2, hq, st⟩
  · dsimp only [Pt.U, Pt.locs, Pt.cells, Pt.slots] at X' e1 e2 h1 h2 h3 st hcl
    subst h1; subst h2; subst h3
    exact Or.inr ⟨q, (T.setVm vm₁).calling g' mk (Value.ref b :: As).toArray, t, U', L, E, ce, hT, X', hL, e1, e2, hq, hce, hcv, vx_cls hW₁ hcl, st⟩
theorem vx_runS (S : CallFix p m c cc nL s args Ts own) (hM : vx_Met l y ws rm Pc Qc XC mc ms free) (cw : CallB R s args own index y bytes maxL ret ws rm mc ms n ∧ (Cond.static y).before args s = true) (hp : PreS s H Pc As)
    (hg : g.method = m) (hn : As.length = n) (hsize : g.locals.size = nL) (hstack : g.stack = As.reverse ++ rest) (hW : 2 * g.monitorRoom + (rest.map fun v => v.category).sum ≤ 8) (hdg : decode cc g.pc = .ok (.invokestatic index, 3)) (hf : cells + mc ≤ R.cells ∧ slots + ms ≤ R.slots) :
    vx_Run p l e R s m args below meth c H locs cells slots mc ms g rest (Qc As.toArray) XC free := by
  have hK : vx_Back l R p e below s args y 3 8 (PreOf R mc ms Pc) (PostOf Qc mc ms free) (vx_Post XC mc ms free) := vx_callBack cw.1 hM hp.1
  obtain ⟨⟨-, -, -, -, -, -, hcode, hini, hy, hlen, hl⟩, hstt⟩ := cw
  obtain ⟨hx, hb, hml, ho, -⟩ := S
  intro T hT X
  rcases vx_callS X hx (bytes := bytes) (maxL := maxL) (ret := ret) ho hl hstt hini hcode hy hK hg (hsize.trans hml.symm) (argsL := As) (rest := rest) (fun sig h => hn.trans (hlen sig h)) hstack hW (by rw [hb]; exact hdg)
    (fun vm₁ hW₁ => ⟨hf.1, hf.2, hp.2 (T.setVm vm₁) hT hW₁⟩) with ⟨v, vm₁, ⟨U', l2, c2, s2⟩, hW₁, X', ⟨g', mk, t, L, e1, e2, hq, h1, hL, h2, h3⟩, st⟩ | ⟨q, vm₁, ⟨U', l2, c2, s2⟩, hW₁, X', ⟨g', mk, t, L, E, ce, e1, e2, hq, hce, hcv, hcl, h1, hL, h2, h3⟩, st⟩
  · dsimp only [Pt.U, Pt.locs, Pt.cells, Pt.slots] at X' e1 e2 h1 h2 h3 st
    subst h1; subst h2; subst h3
    exact Or.inl ⟨v, (T.setVm vm₁).calling g' mk As.toArray, t, U', L, hT, X', hL, e1, e2, hq, st⟩
  · dsimp only [Pt.U, Pt.locs, Pt.cells, Pt.slots] at X' e1 e2 h1 h2 h3 st hcl
    subst h1; subst h2; subst h3
    exact Or.inr ⟨q, (T.setVm vm₁).calling g' mk As.toArray, t, U', L, E, ce, hT, X', hL, e1, e2, hq, hce, hcv, vx_cls hW₁ hcl, st⟩
end Runs
section Rows
variable {p : Program} {l : Launch} {e : Env} {R : Room} {s : State} {m : MethodId} {args : Array Value} {below : List Frame} {meth : Method} {c : Code} {H : Heap} {locs : List Loc} {cells slots : Nat} {Q : State → Prop}
variable {mc ms : Nat} {free : Addr → Prop} {A0 A1 : Nat → Prop} {H0 : Heap} {a : Array Value} {pc : Nat} {ls : Array Slot} {st0 rest : List Value}
theorem vx_keep {st₀ t T' : State} {L : List Loc} (h0 : st₀.heap = H) (e1 : T'.heap = t.heap) (hS : va_S A0 H0 H locs) (hA : ∀ q, q < H.size → A1 q → A0 q) (hf : ∀ q, free q → A0 q) (hL : ∀ q ∈ L, free q.base) (hF : va_F A1 st₀ t) :
    H.size ≤ T'.heap.size ∧ (∀ q : Nat, q < H.size → ¬ A1 q → T'.heap[q]? = H[q]?) ∧ va_S A0 H0 T'.heap (locs ++ L) := by
  obtain ⟨hz, hk⟩ := hF
  rw [h0] at hz hk
  exact ⟨by rw [e1]; exact hz, fun q h1 h2 => by rw [e1]; exact hk q h1 h2,
    ⟨Nat.le_trans hS.1 (by rw [e1]; exact hz), fun q h1 h2 => by rw [e1, hk q (Nat.lt_of_lt_of_le h1 hS.1) (fun z => h2 (hA q (Nat.lt_of_lt_of_le h1 hS.1) z))]; exact hS.2.1 q h1 h2, fun q hq => by
      rcases List.mem_append.mp hq with h | h
      · exact hS.2.2 q h
      · exact hf _ (hL q h)⟩⟩
theorem vx_calli {S SX : Type} {post : Int32 → S → Prop} {px : SX → Prop} {B : S → State → Prop} {BX : String → SX → State → Prop} {AX : Nat → Prop} (hr : vx_Run p l e R s m args below meth c H locs cells slots mc ms (F0 m pc ls st0) rest (va_Qi post B A1 a) (vx_X px BX AX) free) (hS : va_S A0 H0 H locs) (hA : ∀ q, q < H.size → A1 q → A0 q) (hf : ∀ q, free q → A0 q) (hAX : ∀ q, q < H.size → AX q → A0 q)
    (kx : ∀ (E : String) (ce : Cell) (q9 : Addr) (u : SX) (t : State) (H1 : Heap) (locs1 : List Loc), t.heap = H1 → s.vm.Alike t.vm → px u → BX E u t → H.size ≤ H1.size → (∀ q : Nat, q < H.size → ¬ AX q → H1[q]? = H[q]?) → va_S A0 H0 H1 locs1 → H1[q9]? = some ce → ce.vm = .none → s.vm.findClass E = some ce.cls → vx_W p l e R s m args below meth c H1 locs1 (cells + mc) (slots + ms) Q (F0 m pc ls rest) q9)
    (kk : ∀ (r : Int32) (u : S) (t : State) (H1 : Heap) (locs1 : List Loc), t.heap = H1 → s.vm.Alike t.vm → post r u → B u t → H.size ≤ H1.size → (∀ q : Nat, q < H.size → ¬ A1 q → H1[q]? = H[q]?) → va_S A0 H0 H1 locs1 → W p l e R s m args below meth c H1 locs1 (cells + mc) (slots + ms) Q (F0 m (pc + 3) ls (.int r :: rest))) : W p l e R s m args below meth c H locs cells slots Q (F0 m pc ls st0) := by
  intro T hT X
  rcases hr T hT X with ⟨v, st₀, t, T', L, h0, X', hL, e1, e2, ⟨⟨r, u, hv, hp, hb⟩, hF⟩, st⟩ | ⟨q, st₀, t, T', L, E, ce, h0, X', hL, e1, e2, ⟨u, hp, hb, hF⟩, hce, hcv, hcl, st⟩
  · cases hv
    obtain ⟨k1, k2, k3⟩ := vx_keep h0 e1 hS hA hf hL hF
    obtain ⟨t2, a1, b1⟩ := kk r u t T'.heap (locs ++ L) e1.symm (by rw [← e2]; exact X'.warmed.alike) hp hb k1 k2 k3 T' rfl X'
    exact ⟨t2, st t2 a1, b1⟩
  · obtain ⟨k1, k2, k3⟩ := vx_keep h0 e1 hS hAX hf hL hF
    obtain ⟨t2, a1, b1⟩ := kx E ce q u t T'.heap (locs ++ L) e1.symm (by rw [← e2]; exact X'.warmed.alike) hp hb k1 k2 k3 (by rw [e1]; exact hce) hcv hcl T' rfl X'
    exact ⟨t2, st.trans a1, b1⟩
theorem vx_calll {S SX : Type} {post : Int64 → S → Prop} {px : SX → Prop} {B : S → State → Prop} {BX : String → SX → State → Prop} {AX : Nat → Prop} (hr : vx_Run p l e R s m args below meth c H locs cells slots mc ms (F0 m pc ls st0) rest (va_Ql post B A1 a) (vx_X px BX AX) free) (hS : va_S A0 H0 H locs) (hA : ∀ q, q < H.size → A1 q → A0 q) (hf : ∀ q, free q → A0 q) (hAX : ∀ q, q < H.size → AX q → A0 q)
    (kx : ∀ (E : String) (ce : Cell) (q9 : Addr) (u : SX) (t : State) (H1 : Heap) (locs1 : List Loc), t.heap = H1 → s.vm.Alike t.vm → px u → BX E u t → H.size ≤ H1.size → (∀ q : Nat, q < H.size → ¬ AX q → H1[q]? = H[q]?) → va_S A0 H0 H1 locs1 → H1[q9]? = some ce → ce.vm = .none → s.vm.findClass E = some ce.cls → vx_W p l e R s m args below meth c H1 locs1 (cells + mc) (slots + ms) Q (F0 m pc ls rest) q9)
    (kk : ∀ (r : Int64) (u : S) (t : State) (H1 : Heap) (locs1 : List Loc), t.heap = H1 → s.vm.Alike t.vm → post r u → B u t → H.size ≤ H1.size → (∀ q : Nat, q < H.size → ¬ A1 q → H1[q]? = H[q]?) → va_S A0 H0 H1 locs1 → W p l e R s m args below meth c H1 locs1 (cells + mc) (slots + ms) Q (F0 m (pc + 3) ls (.long r :: rest))) : W p l e R s m args below meth c H locs cells slots Q (F0 m pc ls st0) := by
  intro T hT X
  rcases hr T hT X with ⟨v, st₀, t, T', L, h0, X', hL, e1, e2, ⟨⟨r, u, hv, hp, hb⟩, hF⟩, st⟩ | ⟨q, st₀, t, T', L, E, ce, h0, X', hL, e1, e2, ⟨u, hp, hb, hF⟩, hce, hcv, hcl, st⟩
  · cases hv
    obtain ⟨k1, k2, k3⟩ := vx_keep h0 e1 hS hA hf hL hF
    obtain ⟨t2, a1, b1⟩ := kk r u t T'.heap (locs ++ L) e1.symm (by rw [← e2]; exact X'.warmed.alike) hp hb k1 k2 k3 T' rfl X'
    exact ⟨t2, st t2 a1, b1⟩
  · obtain ⟨k1, k2, k3⟩ := vx_keep h0 e1 hS hAX hf hL hF
    obtain ⟨t2, a1, b1⟩ := kx E ce q u t T'.heap (locs ++ L) e1.symm (by rw [← e2]; exact X'.warmed.alike) hp hb k1 k2 k3 (by rw [e1]; exact hce) hcv hcl T' rfl X'
    exact ⟨t2, st.trans a1, b1⟩
theorem vx_callf {S SX : Type} {post : UInt32 → S → Prop} {px : SX → Prop} {B : S → State → Prop} {BX : String → SX → State → Prop} {AX : Nat → Prop} (hr : vx_Run p l e R s m args below meth c H locs cells slots mc ms (F0 m pc ls st0) rest (va_Qf post B A1 a) (vx_X px BX AX) free) (hS : va_S A0 H0 H locs) (hA : ∀ q, q < H.size → A1 q → A0 q) (hf : ∀ q, free q → A0 q) (hAX : ∀ q, q < H.size → AX q → A0 q)
    (kx : ∀ (E : String) (ce : Cell) (q9 : Addr) (u : SX) (t : State) (H1 : Heap) (locs1 : List Loc), t.heap = H1 → s.vm.Alike t.vm → px u → BX E u t → H.size ≤ H1.size → (∀ q : Nat, q < H.size → ¬ AX q → H1[q]? = H[q]?) → va_S A0 H0 H1 locs1 → H1[q9]? = some ce → ce.vm = .none → s.vm.findClass E = some ce.cls → vx_W p l e R s m args below meth c H1 locs1 (cells + mc) (slots + ms) Q (F0 m pc ls rest) q9)
    (kk : ∀ (r : UInt32) (u : S) (t : State) (H1 : Heap) (locs1 : List Loc), t.heap = H1 → s.vm.Alike t.vm → post r u → B u t → H.size ≤ H1.size → (∀ q : Nat, q < H.size → ¬ A1 q → H1[q]? = H[q]?) → va_S A0 H0 H1 locs1 → W p l e R s m args below meth c H1 locs1 (cells + mc) (slots + ms) Q (F0 m (pc + 3) ls (.float r :: rest))) : W p l e R s m args below meth c H locs cells slots Q (F0 m pc ls st0) := by
  intro T hT X
  rcases hr T hT X with ⟨v, st₀, t, T', L, h0, X', hL, e1, e2, ⟨⟨r, u, hv, hp, hb⟩, hF⟩, st⟩ | ⟨q, st₀, t, T', L, E, ce, h0, X', hL, e1, e2, ⟨u, hp, hb, hF⟩, hce, hcv, hcl, st⟩
  · cases hv
    obtain ⟨k1, k2, k3⟩ := vx_keep h0 e1 hS hA hf hL hF
    obtain ⟨t2, a1, b1⟩ := kk r u t T'.heap (locs ++ L) e1.symm (by rw [← e2]; exact X'.warmed.alike) hp hb k1 k2 k3 T' rfl X'
    exact ⟨t2, st t2 a1, b1⟩
  · obtain ⟨k1, k2, k3⟩ := vx_keep h0 e1 hS hAX hf hL hF
    obtain ⟨t2, a1, b1⟩ := kx E ce q u t T'.heap (locs ++ L) e1.symm (by rw [← e2]; exact X'.warmed.alike) hp hb k1 k2 k3 (by rw [e1]; exact hce) hcv hcl T' rfl X'
    exact ⟨t2, st.trans a1, b1⟩
theorem vx_calld {S SX : Type} {post : UInt64 → S → Prop} {px : SX → Prop} {B : S → State → Prop} {BX : String → SX → State → Prop} {AX : Nat → Prop} (hr : vx_Run p l e R s m args below meth c H locs cells slots mc ms (F0 m pc ls st0) rest (va_Qd post B A1 a) (vx_X px BX AX) free) (hS : va_S A0 H0 H locs) (hA : ∀ q, q < H.size → A1 q → A0 q) (hf : ∀ q, free q → A0 q) (hAX : ∀ q, q < H.size → AX q → A0 q)
    (kx : ∀ (E : String) (ce : Cell) (q9 : Addr) (u : SX) (t : State) (H1 : Heap) (locs1 : List Loc), t.heap = H1 → s.vm.Alike t.vm → px u → BX E u t → H.size ≤ H1.size → (∀ q : Nat, q < H.size → ¬ AX q → H1[q]? = H[q]?) → va_S A0 H0 H1 locs1 → H1[q9]? = some ce → ce.vm = .none → s.vm.findClass E = some ce.cls → vx_W p l e R s m args below meth c H1 locs1 (cells + mc) (slots + ms) Q (F0 m pc ls rest) q9)
    (kk : ∀ (r : UInt64) (u : S) (t : State) (H1 : Heap) (locs1 : List Loc), t.heap = H1 → s.vm.Alike t.vm → post r u → B u t → H.size ≤ H1.size → (∀ q : Nat, q < H.size → ¬ A1 q → H1[q]? = H[q]?) → va_S A0 H0 H1 locs1 → W p l e R s m args below meth c H1 locs1 (cells + mc) (slots + ms) Q (F0 m (pc + 3) ls (.double r :: rest))) : W p l e R s m args below meth c H locs cells slots Q (F0 m pc ls st0) := by
  intro T hT X
  rcases hr T hT X with ⟨v, st₀, t, T', L, h0, X', hL, e1, e2, ⟨⟨r, u, hv, hp, hb⟩, hF⟩, st⟩ | ⟨q, st₀, t, T', L, E, ce, h0, X', hL, e1, e2, ⟨u, hp, hb, hF⟩, hce, hcv, hcl, st⟩
  · cases hv
    obtain ⟨k1, k2, k3⟩ := vx_keep h0 e1 hS hA hf hL hF
    obtain ⟨t2, a1, b1⟩ := kk r u t T'.heap (locs ++ L) e1.symm (by rw [← e2]; exact X'.warmed.alike) hp hb k1 k2 k3 T' rfl X'
    exact ⟨t2, st t2 a1, b1⟩
  · obtain ⟨k1, k2, k3⟩ := vx_keep h0 e1 hS hAX hf hL hF
    obtain ⟨t2, a1, b1⟩ := kx E ce q u t T'.heap (locs ++ L) e1.symm (by rw [← e2]; exact X'.warmed.alike) hp hb k1 k2 k3 (by rw [e1]; exact hce) hcv hcl T' rfl X'
    exact ⟨t2, st.trans a1, b1⟩
theorem vx_callv {S SX : Type} {post : S → Prop} {px : SX → Prop} {B : S → State → Prop} {BX : String → SX → State → Prop} {AX : Nat → Prop} (hr : vx_Run p l e R s m args below meth c H locs cells slots mc ms (F0 m pc ls st0) rest (va_Qv post B A1 a) (vx_X px BX AX) free) (hS : va_S A0 H0 H locs) (hA : ∀ q, q < H.size → A1 q → A0 q) (hf : ∀ q, free q → A0 q) (hAX : ∀ q, q < H.size → AX q → A0 q)
    (kx : ∀ (E : String) (ce : Cell) (q9 : Addr) (u : SX) (t : State) (H1 : Heap) (locs1 : List Loc), t.heap = H1 → s.vm.Alike t.vm → px u → BX E u t → H.size ≤ H1.size → (∀ q : Nat, q < H.size → ¬ AX q → H1[q]? = H[q]?) → va_S A0 H0 H1 locs1 → H1[q9]? = some ce → ce.vm = .none → s.vm.findClass E = some ce.cls → vx_W p l e R s m args below meth c H1 locs1 (cells + mc) (slots + ms) Q (F0 m pc ls rest) q9)
    (kk : ∀ (u : S) (t : State) (H1 : Heap) (locs1 : List Loc), t.heap = H1 → s.vm.Alike t.vm → post u → B u t → H.size ≤ H1.size → (∀ q : Nat, q < H.size → ¬ A1 q → H1[q]? = H[q]?) → va_S A0 H0 H1 locs1 → W p l e R s m args below meth c H1 locs1 (cells + mc) (slots + ms) Q (F0 m (pc + 3) ls (rest))) : W p l e R s m args below meth c H locs cells slots Q (F0 m pc ls st0) := by
  intro T hT X
  rcases hr T hT X with ⟨v, st₀, t, T', L, h0, X', hL, e1, e2, ⟨⟨u, hv, hp, hb⟩, hF⟩, st⟩ | ⟨q, st₀, t, T', L, E, ce, h0, X', hL, e1, e2, ⟨u, hp, hb, hF⟩, hce, hcv, hcl, st⟩
  · cases hv
    obtain ⟨k1, k2, k3⟩ := vx_keep h0 e1 hS hA hf hL hF
    obtain ⟨t2, a1, b1⟩ := kk u t T'.heap (locs ++ L) e1.symm (by rw [← e2]; exact X'.warmed.alike) hp hb k1 k2 k3 T' rfl X'
    exact ⟨t2, st t2 a1, b1⟩
  · obtain ⟨k1, k2, k3⟩ := vx_keep h0 e1 hS hAX hf hL hF
    obtain ⟨t2, a1, b1⟩ := kx E ce q u t T'.heap (locs ++ L) e1.symm (by rw [← e2]; exact X'.warmed.alike) hp hb k1 k2 k3 (by rw [e1]; exact hce) hcv hcl T' rfl X'
    exact ⟨t2, st.trans a1, b1⟩
/-- caught by the row x of this method's table; the rows ahead don't take it -/
theorem vx_catch {own name : String} {E : String} {ce : Cell} {q : Addr} (hown : s.vm.findClass own = some m.cls) (pre : List ExceptionTableEntry) (x : ExceptionTableEntry) (suf : List ExceptionTableEntry) (hsplit : c.exceptionTable.toList = pre ++ x :: suf)
    (hpass : ∀ z ∈ pre, covers z pc = false ∨ (z.catchType ≠ 0 ∧ ∃ nm : String, (Cond.classLink own z.catchType nm).before args s = true ∧ va_Nc E nm s)) (hx : covers x pc = true) (h0 : x.catchType ≠ 0)
    (hlink : (Cond.classLink own x.catchType name).before args s = true) (hcast : (Cond.castable E name).before args s = true) (hcell : H[q]? = some ce) (hv : ce.vm = .none) (hcl : s.vm.findClass E = some ce.cls)
    (kk : W p l e R s m args below meth c H locs cells slots Q (F0 m x.handlerPc ls [.ref q])) : vx_W p l e R s m args below meth c H locs cells slots Q (F0 m pc ls rest) q := by
  intro T hT X
  have hpl : e.platform.magicAccessors = ({} : Platform).magicAccessors := by rw [X.admits.platform]
  obtain ⟨c3, c4, hc3, hc4, hasg⟩ := Cond.castable_spec hcast
  cases Option.some.inj (hc3.symm.trans hcl)
  obtain ⟨c5, hc5, hcl5⟩ := Cond.classLink_spec hown hlink e.platform hpl
  cases Option.some.inj (hc4.symm.trans hc5)
  obtain ⟨vm', X', st⟩ := X.thenCaughtThrough q (g := F0 m pc ls rest) rfl (Steps.refl _) (by rw [hT]; exact hcell) (by rw [hv]; rfl) (by obtain ⟨k9, h9, -⟩ := Vm.findClass_spec hcl; exact ⟨k9, h9⟩) pre x suf hsplit
    (fun z hz => by
      rcases hpass z hz with h | ⟨hz0, nm, hl1, hn1⟩
      · exact Or.inl h
      · obtain ⟨c6, hc6, hcl6⟩ := Cond.classLink_spec hown hl1 e.platform hpl
        obtain ⟨a8, b8, h1, h2, h3⟩ := hn1
        cases Option.some.inj (h1.symm.trans hcl)
        cases Option.some.inj (h2.symm.trans hc6)
        exact Or.inr ⟨hz0, _, hcl6, h3⟩) hx (Or.inr ⟨h0, c4, hcl5, hasg⟩)
  obtain ⟨t, a1, b1⟩ := kk (T.setVm vm') hT X'
  exact ⟨t, st.trans a1, b1⟩
end Rows
section Ends
variable {p : Program} {l : Launch} {e : Env} {R : Room} {s : State} {m : MethodId} {args : Array Value} {below : List Frame} {meth : Method} {c : Code} {H : Heap} {locs : List Loc} {cells slots : Nat} {Q : State → Prop}
variable {mc ms : Nat} {free : Addr → Prop} {A0 A1 : Nat → Prop} {H0 : Heap} {a : Array Value} {ls : Array Slot} {st0 rest : List Value}
variable {Qc : Array Value → State → Outcome → State → Prop} {XC : String → State → State → Prop}
/-- what a body that may throw owes at its end -/
def vx_MQ (below : List Frame) (Qc : Array Value → State → Outcome → State → Prop) (XC : String → State → State → Prop) (a : Array Value) (s : State) (mc ms : Nat) (free : Addr → Prop) : State → Prop := fun t =>
  ∃ o, t.status = .running ∧ Ended t below o ∧ vx_Q Qc XC mc ms free a s o t
theorem vx_ret {g : JFrame} {mc ms : Nat} (k : W p l e R s m args below meth c H locs cells slots (MQ below Qc args s mc ms free) g) : W p l e R s m args below meth c H locs cells slots (vx_MQ below Qc XC args s mc ms free) g := by
  intro T hT X
  obtain ⟨t, a1, o, b1, b2, b3, b4⟩ := k T hT X
  exact ⟨t, a1, o, b1, b2, Or.inl ⟨b3, b4⟩⟩
/-- not caught here: it goes on to the caller -/
theorem vx_widen {g : JFrame} {q : Addr} {k n : Nat} (h1 : cells ≤ k) (h2 : slots ≤ n) (kk : vx_W p l e R s m args below meth c H locs k n Q g q) : vx_W p l e R s m args below meth c H locs cells slots Q g q := fun T hT X => kk T hT (stand_widen X h1 h2)
theorem vx_out {pc : Nat} {E : String} {ce : Cell} {q : Addr} {mc ms : Nat} (hout : ∀ x ∈ c.exceptionTable.toList, covers x pc = false) (hlocks : meth.locks = false) (hcell : H[q]? = some ce) (hv : ce.vm = .none) (hcl : s.vm.findClass E = some ce.cls)
    (hx : ∀ t : State, t.heap = H → s.vm.Alike t.vm → XC E s t) (hf : ∀ z ∈ locs, free z.base) (hc : cells ≤ mc) (hs : slots ≤ ms) :
    vx_W p l e R s m args below meth c H locs cells slots (vx_MQ below Qc XC args s mc ms free) (F0 m pc ls rest) q := by
  intro T hT X
  obtain ⟨st1, hrun, hend, hW, hsm⟩ := X.leaveThrown q (g := F0 m pc ls rest) rfl rfl rfl hout hlocks
  have hcell9 : (T.setFrames (.throwing q :: below)).heap[q]? = some ce := by
    show T.heap[q]? = some ce
    rw [hT]; exact hcell
  exact ⟨_, st1, .threw q, hrun, hend, Or.inr ⟨q, rfl, E, ce, locs, hx _ hT hW.alike, hcell9, hv, hcl, hW, hsm.mono hc hs, hf⟩⟩
theorem vx_frame {U : State} {k n : Nat} (h : s.sameButNew ({ U with vm := s.vm } : State) locs k n) : s.heap.size ≤ U.heap.size ∧ ∀ q : Nat, q < s.heap.size → (∀ z ∈ locs, z.base ≠ q) → U.heap[q]? = s.heap[q]? := by
  obtain ⟨-, h2, -, -, -, h6⟩ := h
  refine ⟨h2, fun q hq hz => ?_⟩
  obtain ⟨c9, e1, e2, e3, e4⟩ := h6 q _ (Array.getElem?_eq_getElem hq)
  have hs : c9.slots = (s.heap[q]).slots := Array.ext_getElem? fun i => e4 i fun hm => hz _ hm rfl
  have h9 : c9 = s.heap[q] := by
    rw [hs] at e2
    exact e2
  have e5 : U.heap[q]? = some c9 := e1
  rw [e5, h9, Array.getElem?_eq_getElem hq]
/-- the words of a throw but the four that speak of the heap -/
def vx_no (w : Cond) : Bool := decide (w ≠ .isRef (.static Bundle.tN "UNASSIGNED_STACK" Bundle.steD)) && decide (w ≠ .isRef (.static Bundle.tN "SUPPRESSED_SENTINEL" Bundle.listD)) && decide (w ≠ .laysStatic Bundle.tN "UNASSIGNED_STACK" Bundle.steD) && decide (w ≠ .laysStatic Bundle.tN "SUPPRESSED_SENTINEL" Bundle.listD)
def vx_at0 (own : String) (ic : Nat) (X : String) (names : List String) : List Cond := (Bundle.ownAtoms0 own ic X names).filter vx_no
def vx_atS (own : String) (ic : Nat) (X : String) (names : List String) : List Cond := (Bundle.ownAtoms own ic X names).filter vx_no
/-- a word that the tables alone decide, or a good one -/
def vx_ot (w : Cond) : Bool := w.onTables || goodWord w
theorem vx_ot_at {args a' : Array Value} {s U : State} {w : Cond} (hW : s.WarmedH U.vm) (hvm : s.vm = U.vm) (hg : vx_ot w = true) (h : w.before args s = true) : w.before a' U = true := by
  simp only [vx_ot, Bool.or_eq_true] at hg
  rcases hg with hg | hg
  · exact va_tabs hg hvm h
  · exact word_at hW (good_of_word hg) h
/-- a list's words: the good ones out of the method's own list, the others by premises of their own -/
theorem vx_hat {args : Array Value} {s : State} {L B : List Cond} (h1 : ∀ w ∈ L.filter goodWord, w.before args s = true) (h2 : ∀ w ∈ L.filter (fun w => !goodWord w), w ∈ B) (h3 : ∀ w ∈ B, w.before args s = true) : ∀ w ∈ L, w.before args s = true := by
  intro w hw
  by_cases g : goodWord w = true
  · exact h1 w (List.mem_filter.mpr ⟨hw, g⟩)
  · refine h3 w (h2 w (List.mem_filter.mpr ⟨hw, ?_⟩))
    show (!goodWord w) = true
    cases hgw : goodWord w
    · rfl
    · exact absurd hgw g
theorem vx_c {args : Array Value} {s : State} {w : Cond} {B : List Cond} (h : w.before args s = true) (t : ∀ w ∈ B, w.before args s = true) : ∀ w' ∈ w :: B, w'.before args s = true := fun w' h' => (List.mem_cons.mp h').elim (fun e => by rw [e]; exact h) (t w')
theorem vx_n {args : Array Value} {s : State} : ∀ w ∈ ([] : List Cond), w.before args s = true := fun _ h => nomatch h
theorem vx_own {args : Array Value} {s : State} {L : List Cond} (h1 : ∀ w ∈ L.filter vx_no, w.before args s = true)
    (hU : (Cond.isRef (.static Bundle.tN "UNASSIGNED_STACK" Bundle.steD)).before args s = true) (hN : (Cond.isRef (.static Bundle.tN "SUPPRESSED_SENTINEL" Bundle.listD)).before args s = true)
    (lU : (Cond.laysStatic Bundle.tN "UNASSIGNED_STACK" Bundle.steD).before args s = true) (lN : (Cond.laysStatic Bundle.tN "SUPPRESSED_SENTINEL" Bundle.listD).before args s = true) : ∀ w ∈ L, w.before args s = true := by
  intro w hw
  by_cases e1 : w = .isRef (.static Bundle.tN "UNASSIGNED_STACK" Bundle.steD)
  · rw [e1]; exact hU
  · by_cases e2 : w = .isRef (.static Bundle.tN "SUPPRESSED_SENTINEL" Bundle.listD)
    · rw [e2]; exact hN
    · by_cases e3 : w = .laysStatic Bundle.tN "UNASSIGNED_STACK" Bundle.steD
      · rw [e3]; exact lU
      · by_cases e4 : w = .laysStatic Bundle.tN "SUPPRESSED_SENTINEL" Bundle.listD
        · rw [e4]; exact lN
        · exact h1 w (List.mem_filter.mpr ⟨hw, by unfold vx_no; rw [decide_eq_true e1, decide_eq_true e2, decide_eq_true e3, decide_eq_true e4]; rfl⟩)
/-- where a static field lies, its class's statics cell in H -/
def vx_L (C n d : String) (A : Nat → Prop) (U : State) (H : Heap) : Prop := ∃ (c : ClassId) (k : Class) (i : Nat) (f : Field) (a : Nat) (cell : Cell), U.vm.findClass C = some c ∧ U.fieldFound? C n d = some (c, k, i, f) ∧ f.isStatic = true ∧ k.statics = some a ∧ H[a]? = some cell ∧ cell.vm.isStatics = true ∧ cell.cls = c ∧ f.slot < cell.slots.size ∧ k.staticTypes[f.slot]? = some f.type ∧ ¬ A a
theorem vx_L.moved {C n d : String} {A : Nat → Prop} {u U : State} {H : Heap} (hvm : u.vm.Alike U.vm) (h : vx_L C n d A u H) : vx_L C n d A U H := by
  obtain ⟨c, k, i, f, a, cell, h1, h2, h3, h4, h5, h6, h7, h8, h9, h10⟩ := h
  obtain ⟨k', hi', he⟩ := State.fieldFound?_setVm hvm h2
  exact ⟨c, k', i, f, a, cell, by rw [hvm.findClass]; exact h1, hi', h3, by rw [he]; exact h4, h5, h6, h7, h8, by rw [he]; exact h9, h10⟩
theorem vx_L.kept {C n d : String} {A : Nat → Prop} {U : State} {H H1 : Heap} (h : vx_L C n d A U H) (hq : ∀ a : Nat, a < H.size → ¬ A a → H1[a]? = H[a]?) : vx_L C n d A U H1 := by
  obtain ⟨c, k, i, f, a, cell, h1, h2, h3, h4, h5, h6, h7, h8, h9, h10⟩ := h
  exact ⟨c, k, i, f, a, cell, h1, h2, h3, h4, by rw [hq a (Array.getElem?_eq_some_iff.mp h5).1 h10]; exact h5, h6, h7, h8, h9, h10⟩
theorem vx_L.narrow {C n d : String} {A B : Nat → Prop} {U : State} {H : Heap} (h : vx_L C n d A U H) (hAB : ∀ q, B q → A q) : vx_L C n d B U H := by
  obtain ⟨c, k, i, f, a, cell, h1, h2, h3, h4, h5, h6, h7, h8, h9, h10⟩ := h
  exact ⟨c, k, i, f, a, cell, h1, h2, h3, h4, h5, h6, h7, h8, h9, fun z => h10 (hAB _ z)⟩
theorem vx_L.word {C n d : String} {A : Nat → Prop} {s : State} {args : Array Value} (h : vx_L C n d A s s.heap) : (Cond.laysStatic C n d).before args s = true := by
  obtain ⟨c, k, i, f, a, cell, h1, h2, h3, h4, h5, h6, h7, h8, h9, -⟩ := h
  show (Cond.laysStatic C n d).holds args s none s [] = true
  exact Cond.laysStatic_of h1 h2 h3 h4 h5 h6 h7 h8 h9
/-- .. and what it holds: null or some reference -/
def vx_Zq (C n d : String) (A : Nat → Prop) (U : State) (H : Heap) : Prop := va_Zq C n d A U H ∧ vx_L C n d A U H
theorem vx_Zq.moved {C n d : String} {A : Nat → Prop} {u U : State} {H : Heap} (hvm : u.vm.Alike U.vm) (h : vx_Zq C n d A u H) : vx_Zq C n d A U H := ⟨va_Zq.moved hvm h.1, vx_L.moved hvm h.2⟩
theorem vx_Zq.kept {C n d : String} {A : Nat → Prop} {U : State} {H H1 : Heap} (h : vx_Zq C n d A U H) (hq : ∀ a : Nat, a < H.size → ¬ A a → H1[a]? = H[a]?) : vx_Zq C n d A U H1 := ⟨va_Zq.kept h.1 hq, vx_L.kept h.2 hq⟩
theorem vx_Zq.narrow {C n d : String} {A B : Nat → Prop} {U : State} {H : Heap} (h : vx_Zq C n d A U H) (hAB : ∀ q, B q → A q) : vx_Zq C n d B U H := ⟨va_Zq.narrow h.1 hAB, vx_L.narrow h.2 hAB⟩
theorem vx_Zqof {args : Array Value} {s : State} {C n d : String} {A : Nat → Prop} (hl : (Cond.laysStatic C n d).before args s = true) (hini : (Cond.initialized C).before args s = true) (h : (Cond.isRef (.static C n d)).before args s = true) (hA : ∀ a : Nat, a < s.heap.size → ¬ A a) : vx_Zq C n d A s s.heap := by
  refine ⟨va_Zqof hl hini h hA, ?_⟩
  obtain ⟨c, k, i, f, a, cell, h1, h2, h3, h4, h5, h6, h7, h8, h9⟩ := Cond.laysStatic_spec hl
  exact ⟨c, k, i, f, a, cell, h1, h2, h3, h4, h5, h6, h7, h8, h9, hA a (Array.getElem?_eq_some_iff.mp h5).1⟩
theorem vx_isRef {C n d : String} {v : Value} {A : Nat → Prop} {s : State} {args : Array Value} (h : va_Z C n d v A s s.heap) (hv : v.isRef = true) : (Cond.isRef (.static C n d)).before args s = true := by
  obtain ⟨cf, kf, fi, f, a, cell, h1, h2, h3, h4, h5, h6, h7, -⟩ := h
  have he : (Term.static C n d).eval args s none [] s = some v := by
    simp [Term.eval, State.fieldNamed?, h1, h2, h4, h5, h6, h7]
  simp only [Cond.before, Cond.holds, Cond.value, he]
  cases v <;> simp_all [Value.isRef]
theorem vx_isRefq {C n d : String} {A : Nat → Prop} {s : State} {args : Array Value} (h : va_Zq C n d A s s.heap) : (Cond.isRef (.static C n d)).before args s = true := by
  rcases h with h | ⟨t, h⟩
  · exact vx_isRef h rfl
  · exact vx_isRef h rfl
/-- the same frame, seen from here: as if the method were called anew in this heap -/
theorem vx_rebase {T : State} (X : Stand p l e R s m args below meth c T locs cells slots) {R' : Room} (hf : R'.frames ≤ R.frames) (hl : R'.locals ≤ R.locals) (hc : cells + R'.cells ≤ R.cells) (hs : slots + R'.slots ≤ R.slots) :
    Stand p l e R' ((T.setVm s.vm).setFrames (.invoking m args :: below)) m args below meth c T [] 0 0 := by
  have htop : (T.setVm s.vm).topJava?.isSome := X.here.top
  have hF : ((T.setVm s.vm).setFrames (.invoking m args :: below)).frames = .invoking m args :: below := State.frames_setFrames _ (State.cur_lt_of_top htop)
  obtain ⟨g₀, hg0⟩ := Option.isSome_iff_exists.mp htop
  obtain ⟨r, hr⟩ := State.topJava?_eq_some.mp hg0
  have hl9 : e.platform.stackLimits (T.setVm s.vm).me = e.platform.stackLimits s.me := X.limits
  have hb9 : (T.setVm s.vm).me.stackBytes = s.me.stackBytes := X.bytes
  refine ⟨X.admits, X.cas, X.clock, hF, ?_, X.hears, X.method, X.code, X.here, X.tail, X.warmed, ?_, ?_, ?_⟩
  · have h := X.room
    have hU : ((T.setVm s.vm).setFrames (.invoking m args :: below)).localsInUse = s.localsInUse := by
      rw [State.localsInUse_invoking hF (meth := meth) (c := c) X.method X.code, State.localsInUse_invoking X.frames X.method X.code]
    simp only [State.hasRoom, Bool.and_eq_true, decide_eq_true_eq] at h ⊢
    obtain ⟨⟨⟨⟨h1, h2, h3, h4, h5, h6⟩, h7⟩, h8⟩, h9⟩ := h
    rw [X.frames, List.length_cons] at h2 h3
    have q1 := X.heapSize
    have q2 := X.used
    simp only [hF, hU, List.length_cons, State.stackLimits_setFrames, State.stackBytes_setFrames, hl9, hb9]
    refine ⟨⟨⟨⟨by omega, by omega, by omega, by omega, by omega, h6⟩, ?_⟩, ?_⟩, X.book⟩
    · show T.heap.size + R'.cells ≤ e.platform.maxCells
      omega
    · show T.slotsUsed + R'.slots ≤ e.platform.maxSlots
      omega
  · rw [State.stackLimits_setFrames]; rfl
  · rw [State.stackBytes_setFrames]; rfl
  · refine ⟨?_, Nat.le_refl _, Nat.le_refl _, ?_, ?_, fun a c9 h9 => ⟨c9, h9, rfl, rfl, fun _ _ => rfl⟩⟩
    · obtain ⟨t, ht, -⟩ := State.frames_cons hr
      show T.setVm s.vm = { ((T.setVm s.vm).setFrames (.invoking m args :: below)).setFrames (T.setVm s.vm).frames with heap := T.heap, slotsUsed := T.slotsUsed }
      rw [State.setFrames_setFrames, State.setFrames_self ht]
      rfl
    · show T.slotsUsed = T.slotsUsed + ((T.heap.toList.drop T.heap.size).map (·.slots.size)).sum
      rw [List.drop_eq_nil_of_le (Nat.le_of_eq Array.length_toList)]
      rfl
    · show ((T.heap.toList.drop T.heap.size).map (·.slots.size)).sum ≤ 0
      rw [List.drop_eq_nil_of_le (Nat.le_of_eq Array.length_toList)]
      exact Nat.le_refl _
/-- 'throw new E()': new; dup; invokespecial; athrow -/
theorem vx_throw0 {cc : ByteArray} {pc : Nat} (hexec : p.tables.exec = Jvm.exec) (hb : c.code = cc) (hl : l.stackTraces = false) {own cls : String} {names : List String} {ik ic mc ms : Nat} {A : Nat → Prop}
    (hown : s.vm.findClass own = some m.cls) (hcls : Bundle.fit cls = true) (hnames : ∀ n ∈ names, Bundle.fit n = true)
    (hk : (Cond.classLink own ik cls).before args s = true) (hini : (Cond.initialized cls).before args s = true) (hat : ∀ w ∈ vx_at0 own ic cls names, w.before args s = true)
    (hgood : ∀ w ∈ Cond.classLink own ik cls :: Cond.initialized cls :: vx_at0 own ic cls names, vx_ot w = true)
    (hU : vx_Zq Bundle.tN "UNASSIGNED_STACK" Bundle.steD A s s.heap) (hN : vx_Zq Bundle.tN "SUPPRESSED_SENTINEL" Bundle.listD A s s.heap) (hS : va_S A s.heap H locs) (hsize : ls.size = c.maxLocals)
    (d0 : decode cc pc = .ok (.new ik, 3)) (d3 : decode cc (pc + 3) = .ok (.dup, 1)) (d4 : decode cc (pc + 4) = .ok (.invokespecial ic, 3)) (d7 : decode cc (pc + 7) = .ok (.athrow, 1))
    (hout : ∀ x ∈ c.exceptionTable.toList, covers x (pc + 7) = false)
    (hRframes : names.length + 3 < R.frames) (hRlocals : (rest.map fun v => v.category).sum + (13 * (names.length + 1) + 42) ≤ R.locals) (hRcells : cells + 1 ≤ R.cells) (hRslots : slots + 6 ≤ R.slots) (hlocks : meth.locks = false)
    (hx : ∀ t : State, s.vm.Alike t.vm → H.size ≤ t.heap.size → (∀ q : Nat, q < H.size → t.heap[q]? = H[q]?) → XC cls s t)
    (hf : ∀ z ∈ locs, free z.base) (hc : cells + 1 ≤ mc) (hs : slots + 6 ≤ ms) :
    W p l e R s m args below meth c H locs cells slots (vx_MQ below Qc XC args s mc ms free) (F0 m pc ls rest) := by
  intro T hT X
  have htr : e.platform.stackTraces = false := (show e.platform.stackTraces = l.stackTraces by rw [X.admits.platform]).trans hl
  have Y := vx_rebase X (R' := { frames := R.frames, locals := R.locals, cells := 1, slots := 6 }) (Nat.le_refl _) (Nat.le_refl _) hRcells hRslots
  obtain ⟨s', hA⟩ : ∃ z, z = (T.setVm s.vm).setFrames (.invoking m args :: below) := ⟨_, rfl⟩
  rw [← hA] at Y
  have hvm : s'.vm = s.vm := by rw [hA]; rfl
  have hhp : s'.heap = H := by rw [hA]; exact hT
  have hW0 : s.WarmedH s'.vm := by rw [hvm]; exact State.WarmedH.refl s
  have hat' : ∀ w ∈ vx_at0 own ic cls names, w.before args s' = true := fun w hw => vx_ot_at hW0 hvm.symm (hgood w (List.mem_cons_of_mem _ (List.mem_cons_of_mem _ hw))) (hat w hw)
  have hk' : (Cond.classLink own ik cls).before args s' = true := vx_ot_at hW0 hvm.symm (hgood _ List.mem_cons_self) hk
  have hini' : (Cond.initialized cls).before args s' = true := vx_ot_at hW0 hvm.symm (hgood _ (List.mem_cons_of_mem _ List.mem_cons_self)) hini
  have hU' : vx_Zq Bundle.tN "UNASSIGNED_STACK" Bundle.steD A s' s'.heap := by rw [hhp]; exact vx_Zq.moved hW0.alike (hU.kept hS.2.1)
  have hN' : vx_Zq Bundle.tN "SUPPRESSED_SENTINEL" Bundle.listD A s' s'.heap := by rw [hhp]; exact vx_Zq.moved hW0.alike (hN.kept hS.2.1)
  have h : ∀ w ∈ Bundle.ownAtoms0 own ic cls names, w.before args s' = true := vx_own hat' (vx_isRefq hU'.1) (vx_isRefq hN'.1) hU'.2.word hN'.2.word
  have hown' : s'.vm.findClass own = some m.cls := by rw [hvm]; exact hown
  have hins : (Cond.instantiable cls 6).before args s' = true := h _ (by simp [Bundle.ownAtoms0])
  obtain ⟨vm₁, cX, kX, hfX, hkX, -, -, X₁, st1⟩ := Y.newCold hexec (own := own) (C := cls) (index := ik) (n := 6) hown' hk' hins hini'
    (g := F0 m pc ls rest) rfl (by rw [hb]; exact d0) (Nat.le_refl _) (Nat.le_refl _)
  generalize hT1 : (T.setVm vm₁).pushCell { cls := cX, slots := kX.instanceTypes.map defaultValue, vm := .none } = T1 at X₁ st1
  have hcat : (Value.ref T.heap.size).category = 1 := rfl
  have hcellA : T1.heap[T.heap.size]? = some (freshCell cX kX) := by rw [← hT1]; exact State.heap_pushCell_size _ _
  have d3' : decode c.code (pc + 3) = .ok (.dup, 1) := by rw [hb]; exact d3
  obtain ⟨U, hsteps, hrun, hend, hW, hsame, ce, hce, hO⟩ := X₁.ctorThrow0 hexec htr (own := own) (cls := cls) (names := names) (ic := ic) hown' hcls hnames h (fun x hx => nomatch hx) hfX hkX hcellA (by rw [hhp, hT]; exact Nat.le_refl _)
    (g := { method := m, pc := pc + 4, locals := ls, stack := .ref T.heap.size :: .ref T.heap.size :: rest, locked := none }) rfl hsize rfl rfl (rest := rest) rfl
    (by rw [hb]; exact d4) (by rw [hb]; exact d7) hout hRframes (by simp only [List.map_cons, List.sum_cons, hcat]; omega) hlocks
  obtain ⟨f1, f2⟩ := vx_frame hsame
  rw [hhp] at f1 f2
  have hWs : s.WarmedH U.vm := State.WarmedH.trans hW0 hW
  have hcl : s.vm.findClass cls = some ce.cls := by
    have h9 := hO.cls
    rw [hvm] at h9
    exact h9
  have hall : s.sameButNew ({ U with vm := s.vm } : State) locs mc ms := by
    subst hA
    obtain ⟨e1, e2⟩ := hsame
    rw [State.setFrames_setFrames] at e1
    have h2 : (T.setVm s.vm).sameButNew ({ U with vm := s.vm } : State) [] (0 + 1) (0 + 6) := ⟨e1, e2⟩
    have h3 := X.same.trans h2
    rw [List.append_nil] at h3
    exact h3.mono hc hs
  refine ⟨U, ?_, .threw T.heap.size, hrun, hend, Or.inr ⟨T.heap.size, rfl, cls, ce, locs, hx U hWs.alike f1 (fun q hq => f2 q hq (fun z hz => nomatch hz)), hce, hO.vm, hcl, hWs, hall, hf⟩⟩
  refine st1 _ ?_
  show Steps p.tables e below (T1.setTop { method := m, pc := pc + 3, locals := ls, stack := .ref T.heap.size :: rest, locked := none }) _
  jvm_step X₁.here [X₁.here.top, hexec, d3', Value.category]
  exact hsteps
/-- 'throw new E("text")': new; dup; ldc; invokespecial; athrow -/
theorem vx_throwS {cc : ByteArray} {pc : Nat} (hexec : p.tables.exec = Jvm.exec) (hb : c.code = cc) (hl : l.stackTraces = false) {own cls text : String} {names : List String} {ik is ic mc ms sa : Nat} {A : Nat → Prop}
    (hown : s.vm.findClass own = some m.cls) (hcls : Bundle.fit cls = true) (hnames : ∀ n ∈ names, Bundle.fit n = true)
    (hk : (Cond.classLink own ik cls).before args s = true) (hini : (Cond.initialized cls).before args s = true) (hstr : vk_R own is text sa s) (hat : ∀ w ∈ vx_atS own ic cls names, w.before args s = true)
    (hgood : ∀ w ∈ Cond.classLink own ik cls :: Cond.initialized cls :: vx_atS own ic cls names, vx_ot w = true)
    (hU : vx_Zq Bundle.tN "UNASSIGNED_STACK" Bundle.steD A s s.heap) (hN : vx_Zq Bundle.tN "SUPPRESSED_SENTINEL" Bundle.listD A s s.heap) (hS : va_S A s.heap H locs) (hsize : ls.size = c.maxLocals)
    (d0 : decode cc pc = .ok (.new ik, 3)) (d3 : decode cc (pc + 3) = .ok (.dup, 1)) (d4 : decode cc (pc + 4) = .ok (.ldc is, 2)) (d6 : decode cc (pc + 6) = .ok (.invokespecial ic, 3)) (d9 : decode cc (pc + 9) = .ok (.athrow, 1))
    (hout : ∀ x ∈ c.exceptionTable.toList, covers x (pc + 9) = false)
    (hRframes : names.length + 3 < R.frames) (hRlocals : (rest.map fun v => v.category).sum + (13 * (names.length + 1) + 43) ≤ R.locals) (hRcells : cells + 1 ≤ R.cells) (hRslots : slots + 6 ≤ R.slots) (hlocks : meth.locks = false)
    (hx : ∀ t : State, s.vm.Alike t.vm → H.size ≤ t.heap.size → (∀ q : Nat, q < H.size → t.heap[q]? = H[q]?) → XC cls s t)
    (hf : ∀ z ∈ locs, free z.base) (hc : cells + 1 ≤ mc) (hs : slots + 6 ≤ ms) :
    W p l e R s m args below meth c H locs cells slots (vx_MQ below Qc XC args s mc ms free) (F0 m pc ls rest) := by
  intro T hT X
  have htr : e.platform.stackTraces = false := (show e.platform.stackTraces = l.stackTraces by rw [X.admits.platform]).trans hl
  have Y := vx_rebase X (R' := { frames := R.frames, locals := R.locals, cells := 1, slots := 6 }) (Nat.le_refl _) (Nat.le_refl _) hRcells hRslots
  obtain ⟨s', hA⟩ : ∃ z, z = (T.setVm s.vm).setFrames (.invoking m args :: below) := ⟨_, rfl⟩
  rw [← hA] at Y
  have hvm : s'.vm = s.vm := by rw [hA]; rfl
  have hhp : s'.heap = H := by rw [hA]; exact hT
  have hW0 : s.WarmedH s'.vm := by rw [hvm]; exact State.WarmedH.refl s
  have hat' : ∀ w ∈ vx_atS own ic cls names, w.before args s' = true := fun w hw => vx_ot_at hW0 hvm.symm (hgood w (List.mem_cons_of_mem _ (List.mem_cons_of_mem _ hw))) (hat w hw)
  have hk' : (Cond.classLink own ik cls).before args s' = true := vx_ot_at hW0 hvm.symm (hgood _ List.mem_cons_self) hk
  have hini' : (Cond.initialized cls).before args s' = true := vx_ot_at hW0 hvm.symm (hgood _ (List.mem_cons_of_mem _ List.mem_cons_self)) hini
  have hU' : vx_Zq Bundle.tN "UNASSIGNED_STACK" Bundle.steD A s' s'.heap := by rw [hhp]; exact vx_Zq.moved hW0.alike (hU.kept hS.2.1)
  have hN' : vx_Zq Bundle.tN "SUPPRESSED_SENTINEL" Bundle.listD A s' s'.heap := by rw [hhp]; exact vx_Zq.moved hW0.alike (hN.kept hS.2.1)
  have h : ∀ w ∈ Bundle.ownAtoms own ic cls names, w.before args s' = true := vx_own hat' (vx_isRefq hU'.1) (vx_isRefq hN'.1) hU'.2.word hN'.2.word
  have hown' : s'.vm.findClass own = some m.cls := by rw [hvm]; exact hown
  have hins : (Cond.instantiable cls 6).before args s' = true := h _ (by simp [Bundle.ownAtoms])
  obtain ⟨vm₁, cX, kX, hfX, hkX, -, -, X₁, st1⟩ := Y.newCold hexec (own := own) (C := cls) (index := ik) (n := 6) hown' hk' hins hini'
    (g := F0 m pc ls rest) rfl (by rw [hb]; exact d0) (Nat.le_refl _) (Nat.le_refl _)
  generalize hT1 : (T.setVm vm₁).pushCell { cls := cX, slots := kX.instanceTypes.map defaultValue, vm := .none } = T1 at X₁ st1
  have hcat : (Value.ref T.heap.size).category = 1 := rfl
  have hcellA : T1.heap[T.heap.size]? = some (freshCell cX kX) := by rw [← hT1]; exact State.heap_pushCell_size _ _
  have d3' : decode c.code (pc + 3) = .ok (.dup, 1) := by rw [hb]; exact d3
  have d4' : decode c.code (pc + 4) = .ok (.ldc is, 2) := by rw [hb]; exact d4
  have hstr' : vk_R own is text sa s' := vk_R.warm hW0 hstr
  obtain ⟨U, hsteps, hrun, hend, hW, hsame, ce, hce, hO⟩ := X₁.ctorThrowS hexec htr (own := own) (cls := cls) (names := names) (ic := ic) hown' hcls hnames h (fun x hx => nomatch hx) hfX hkX hcellA (by rw [hhp, hT]; exact Nat.le_refl _) (msg := .ref sa) rfl
    (g := { method := m, pc := pc + 6, locals := ls, stack := .ref sa :: .ref T.heap.size :: .ref T.heap.size :: rest, locked := none }) rfl hsize rfl rfl (rest := rest) rfl
    (by rw [hb]; exact d6) (by rw [hb]; exact d9) hout hRframes (by simp only [List.map_cons, List.sum_cons, hcat]; omega) hlocks
  obtain ⟨f1, f2⟩ := vx_frame hsame
  rw [hhp] at f1 f2
  have hWs : s.WarmedH U.vm := State.WarmedH.trans hW0 hW
  have hcl : s.vm.findClass cls = some ce.cls := by
    have h9 := hO.cls
    rw [hvm] at h9
    exact h9
  have hall : s.sameButNew ({ U with vm := s.vm } : State) locs mc ms := by
    subst hA
    obtain ⟨e1, e2⟩ := hsame
    rw [State.setFrames_setFrames] at e1
    have h2 : (T.setVm s.vm).sameButNew ({ U with vm := s.vm } : State) [] (0 + 1) (0 + 6) := ⟨e1, e2⟩
    have h3 := X.same.trans h2
    rw [List.append_nil] at h3
    exact h3.mono hc hs
  refine ⟨U, ?_, .threw T.heap.size, hrun, hend, Or.inr ⟨T.heap.size, rfl, cls, ce, locs, hx U hWs.alike f1 (fun q hq => f2 q hq (fun z hz => nomatch hz)), hce, hO.vm, hcl, hWs, hall, hf⟩⟩
  refine st1 _ ?_
  show Steps p.tables e below (T1.setTop { method := m, pc := pc + 3, locals := ls, stack := .ref T.heap.size :: rest, locked := none }) _
  jvm_step X₁.here [X₁.here.top, hexec, d3', Value.category]
  exact X₁.ldcString hexec (own := own) (text := text) (index := is) (a := sa) hown' hstr'.1 hstr'.2
    (g := { method := m, pc := pc + 4, locals := ls, stack := .ref T.heap.size :: .ref T.heap.size :: rest, locked := none }) rfl d4' _ hsteps
/-- 'throw new E("text")', the text by a wide index -/
theorem vx_throwSW {cc : ByteArray} {pc : Nat} (hexec : p.tables.exec = Jvm.exec) (hb : c.code = cc) (hl : l.stackTraces = false) {own cls text : String} {names : List String} {ik is ic mc ms sa : Nat} {A : Nat → Prop}
    (hown : s.vm.findClass own = some m.cls) (hcls : Bundle.fit cls = true) (hnames : ∀ n ∈ names, Bundle.fit n = true)
    (hk : (Cond.classLink own ik cls).before args s = true) (hini : (Cond.initialized cls).before args s = true) (hstr : vk_R own is text sa s) (hat : ∀ w ∈ vx_atS own ic cls names, w.before args s = true)
    (hgood : ∀ w ∈ Cond.classLink own ik cls :: Cond.initialized cls :: vx_atS own ic cls names, vx_ot w = true)
    (hU : vx_Zq Bundle.tN "UNASSIGNED_STACK" Bundle.steD A s s.heap) (hN : vx_Zq Bundle.tN "SUPPRESSED_SENTINEL" Bundle.listD A s s.heap) (hS : va_S A s.heap H locs) (hsize : ls.size = c.maxLocals)
    (d0 : decode cc pc = .ok (.new ik, 3)) (d3 : decode cc (pc + 3) = .ok (.dup, 1)) (d4 : decode cc (pc + 4) = .ok (.ldc_w is, 3)) (d7 : decode cc (pc + 7) = .ok (.invokespecial ic, 3)) (d10 : decode cc (pc + 10) = .ok (.athrow, 1))
    (hout : ∀ x ∈ c.exceptionTable.toList, covers x (pc + 10) = false)
    (hRframes : names.length + 3 < R.frames) (hRlocals : (rest.map fun v => v.category).sum + (13 * (names.length + 1) + 43) ≤ R.locals) (hRcells : cells + 1 ≤ R.cells) (hRslots : slots + 6 ≤ R.slots) (hlocks : meth.locks = false)
    (hx : ∀ t : State, s.vm.Alike t.vm → H.size ≤ t.heap.size → (∀ q : Nat, q < H.size → t.heap[q]? = H[q]?) → XC cls s t)
    (hf : ∀ z ∈ locs, free z.base) (hc : cells + 1 ≤ mc) (hs : slots + 6 ≤ ms) :
    W p l e R s m args below meth c H locs cells slots (vx_MQ below Qc XC args s mc ms free) (F0 m pc ls rest) := by
  intro T hT X
  have htr : e.platform.stackTraces = false := (show e.platform.stackTraces = l.stackTraces by rw [X.admits.platform]).trans hl
  have Y := vx_rebase X (R' := { frames := R.frames, locals := R.locals, cells := 1, slots := 6 }) (Nat.le_refl _) (Nat.le_refl _) hRcells hRslots
  obtain ⟨s', hA⟩ : ∃ z, z = (T.setVm s.vm).setFrames (.invoking m args :: below) := ⟨_, rfl⟩
  rw [← hA] at Y
  have hvm : s'.vm = s.vm := by rw [hA]; rfl
  have hhp : s'.heap = H := by rw [hA]; exact hT
  have hW0 : s.WarmedH s'.vm := by rw [hvm]; exact State.WarmedH.refl s
  have hat' : ∀ w ∈ vx_atS own ic cls names, w.before args s' = true := fun w hw => vx_ot_at hW0 hvm.symm (hgood w (List.mem_cons_of_mem _ (List.mem_cons_of_mem _ hw))) (hat w hw)
  have hk' : (Cond.classLink own ik cls).before args s' = true := vx_ot_at hW0 hvm.symm (hgood _ List.mem_cons_self) hk
  have hini' : (Cond.initialized cls).before args s' = true := vx_ot_at hW0 hvm.symm (hgood _ (List.mem_cons_of_mem _ List.mem_cons_self)) hini
  have hU' : vx_Zq Bundle.tN "UNASSIGNED_STACK" Bundle.steD A s' s'.heap := by rw [hhp]; exact vx_Zq.moved hW0.alike (hU.kept hS.2.1)
  have hN' : vx_Zq Bundle.tN "SUPPRESSED_SENTINEL" Bundle.listD A s' s'.heap := by rw [hhp]; exact vx_Zq.moved hW0.alike (hN.kept hS.2.1)
  have h : ∀ w ∈ Bundle.ownAtoms own ic cls names, w.before args s' = true := vx_own hat' (vx_isRefq hU'.1) (vx_isRefq hN'.1) hU'.2.word hN'.2.word
  have hown' : s'.vm.findClass own = some m.cls := by rw [hvm]; exact hown
  have hins : (Cond.instantiable cls 6).before args s' = true := h _ (by simp [Bundle.ownAtoms])
  obtain ⟨vm₁, cX, kX, hfX, hkX, -, -, X₁, st1⟩ := Y.newCold hexec (own := own) (C := cls) (index := ik) (n := 6) hown' hk' hins hini'
    (g := F0 m pc ls rest) rfl (by rw [hb]; exact d0) (Nat.le_refl _) (Nat.le_refl _)
  generalize hT1 : (T.setVm vm₁).pushCell { cls := cX, slots := kX.instanceTypes.map defaultValue, vm := .none } = T1 at X₁ st1
  have hcat : (Value.ref T.heap.size).category = 1 := rfl
  have hcellA : T1.heap[T.heap.size]? = some (freshCell cX kX) := by rw [← hT1]; exact State.heap_pushCell_size _ _
  have d3' : decode c.code (pc + 3) = .ok (.dup, 1) := by rw [hb]; exact d3
  have d4' : decode c.code (pc + 4) = .ok (.ldc_w is, 3) := by rw [hb]; exact d4
  have hstr' : vk_R own is text sa s' := vk_R.warm hW0 hstr
  obtain ⟨U, hsteps, hrun, hend, hW, hsame, ce, hce, hO⟩ := X₁.ctorThrowS hexec htr (own := own) (cls := cls) (names := names) (ic := ic) hown' hcls hnames h (fun x hx => nomatch hx) hfX hkX hcellA (by rw [hhp, hT]; exact Nat.le_refl _) (msg := .ref sa) rfl
    (g := { method := m, pc := pc + 7, locals := ls, stack := .ref sa :: .ref T.heap.size :: .ref T.heap.size :: rest, locked := none }) rfl hsize rfl rfl (rest := rest) rfl
    (by rw [hb]; exact d7) (by rw [hb]; exact d10) hout hRframes (by simp only [List.map_cons, List.sum_cons, hcat]; omega) hlocks
  obtain ⟨f1, f2⟩ := vx_frame hsame
  rw [hhp] at f1 f2
  have hWs : s.WarmedH U.vm := State.WarmedH.trans hW0 hW
  have hcl : s.vm.findClass cls = some ce.cls := by
    have h9 := hO.cls
    rw [hvm] at h9
    exact h9
  have hall : s.sameButNew ({ U with vm := s.vm } : State) locs mc ms := by
    subst hA
    obtain ⟨e1, e2⟩ := hsame
    rw [State.setFrames_setFrames] at e1
    have h2 : (T.setVm s.vm).sameButNew ({ U with vm := s.vm } : State) [] (0 + 1) (0 + 6) := ⟨e1, e2⟩
    have h3 := X.same.trans h2
    rw [List.append_nil] at h3
    exact h3.mono hc hs
  refine ⟨U, ?_, .threw T.heap.size, hrun, hend, Or.inr ⟨T.heap.size, rfl, cls, ce, locs, hx U hWs.alike f1 (fun q hq => f2 q hq (fun z hz => nomatch hz)), hce, hO.vm, hcl, hWs, hall, hf⟩⟩
  refine st1 _ ?_
  show Steps p.tables e below (T1.setTop { method := m, pc := pc + 3, locals := ls, stack := .ref T.heap.size :: rest, locked := none }) _
  jvm_step X₁.here [X₁.here.top, hexec, d3', Value.category]
  exact X₁.ldcStringW hexec (own := own) (text := text) (index := is) (a := sa) hown' hstr'.1 hstr'.2
    (g := { method := m, pc := pc + 4, locals := ls, stack := .ref T.heap.size :: .ref T.heap.size :: rest, locked := none }) rfl d4' _ hsteps
end Ends
section Bodies
variable {l : Launch}
theorem vx_ofW {y : MethodName} {ws ws' : List Cond} {rm : Room} {Pc : Array Value → State → Prop} {Qc : Array Value → State → Outcome → State → Prop} {XC : String → State → State → Prop} {mc ms : Nat} {free : Addr → Prop} {cc : ByteArray} {maxL : Nat} {ret : Option FieldType}
    (hy : plainName y.cls = true) (hw : ws = Cond.code y cc maxL ret :: ws')
    (body : ∀ p e s m args below meth c s₁, BodyLoose p l y (headSpec ws rm) cc maxL ret e s m args below meth c s₁ → c.maxLocals = maxL → (∀ x ∈ c.exceptionTable.toList, False) → Pc args s →
      W p l e (headSpec ws rm).room s m args below meth c s.heap [] 0 0 (vx_MQ below Qc XC args s mc ms free) (entryFrame m args maxL)) : vx_Met l y ws rm Pc Qc XC mc ms free := by
  refine MetFree.of_bodyS (code := cc) (maxLocals := maxL) (ret := ret) hy ?_ ?_
  · intro args s m h hn
    obtain ⟨meth, c, h1, h2, h3, h4, h5, h6, -, -⟩ := Cond.code_spec hn (atoms_spec (ws := ws) h _ (by rw [hw]; exact List.mem_cons_self))
    exact ⟨meth, c, h1, h2, h3, h4, h5, h6⟩
  · intro p e s m args below meth c s₁ B hml hP _
    have hh0 : s₁.heap = s.heap := by rw [B.state]; rfl
    have ht : ∀ x ∈ c.exceptionTable.toList, False := by
      obtain ⟨meth9, c9, h1, h2, -, -, -, -, h7, -⟩ := Cond.code_spec B.named (atoms_spec (ws := ws) B.pre _ (by rw [hw]; exact List.mem_cons_self))
      cases Option.some.inj (h1.symm.trans B.method)
      cases Option.some.inj (h2.symm.trans (Stand.of_body B).code)
      intro x hx
      rw [Array.isEmpty_iff.mp h7] at hx
      cases hx
    obtain ⟨t, a1, o, b1, b2, b3⟩ := body p e s m args below meth c s₁ B hml ht hP s₁ hh0 (Stand.of_body B)
    exact ⟨t, o, a1, b1, b2, b3⟩
/-- the table of a body with handlers -/
theorem vx_table {p : Program} {x y : MethodName} {S : Spec} {cc bytes : ByteArray} {maxL maxL' : Nat} {ret ret' : Option FieldType} {e : Env} {s s₁ : State} {m : MethodId} {args : Array Value} {below : List Frame} {meth : Method} {c : Code} {hh : List (Nat × Nat × Nat × Nat)}
    (B : BodyLoose p l y S cc maxL ret e s m args below meth c s₁) (h : (Cond.codeWith y bytes maxL' ret' hh).before args s = true) : c.exceptionTable.toList = tableOf hh := by
  obtain ⟨m9, meth9, c9, hn9, h1, h2, -, -, h6, -⟩ := Cond.codeWith_spec h
  cases Option.some.inj (hn9.symm.trans B.named)
  cases Option.some.inj (h1.symm.trans B.method)
  cases Option.some.inj (h2.symm.trans (Stand.of_body B).code)
  rw [← h6, table_eq]
end Bodies
end VXA
/-! ===== END ===== -/
/-! ===== BEGIN a static call of a method with an exception table ===== -/
section VXS
variable {p : Program} {l : Launch} {e : Env} {R : Room} {s : State} {m : MethodId} {args : Array Value} {below : List Frame} {meth : Method} {c : Code} {T : State} {H : Heap} {locs : List Loc} {cells slots : Nat}
abbrev vx_CSW (R : Room) (s : State) (args : Array Value) (own : String) (index : Nat) (y : MethodName) (bytes : ByteArray) (maxL : Nat) (ret : Option FieldType) (hh : List (Nat × Nat × Nat × Nat)) (ws : List Cond) (rm : Room) (mc ms n : Nat) : Prop :=
  (rm.cells = mc ∧ rm.slots = ms ∧ rm.frames + 1 ≤ R.frames ∧ 8 + (maxL + 11) + rm.locals ≤ R.locals ∧ (∀ w ∈ ws, ∀ (a' : Array Value) (U : State), s.WarmedH U.vm → w.before a' U = true) ∧ Cond.codeWith y bytes maxL ret hh ∈ ws) ∧
  (Cond.codeWith y bytes maxL ret hh).before args s = true ∧ (Cond.initialized y.cls).before args s = true ∧ (y.cls ≠ "java/lang/invoke/MethodHandle" ∧ y.cls ≠ "java/lang/invoke/VarHandle") ∧
  (∀ sig, parseMethodDescriptor y.desc = some sig → n = sig.parameters.length) ∧ (Cond.methodLink own index y).before args s = true ∧ (Cond.static y).before args s = true
theorem vx_cwSW {own : String} {index maxL mc ms : Nat} {y : MethodName} {bytes : ByteArray} {ret : Option FieldType} {hh : List (Nat × Nat × Nat × Nat)} {Ts ws ws' : List Cond} {rm : Room} (n : Nat) (ht : ∀ w ∈ Ts, w.before args s = true) (hT : GoodIn Ts (va_wsS own index y ws)) (hw : ws = Cond.codeWith y bytes maxL ret hh :: ws') (hrc : rm.cells = mc) (hrs : rm.slots = ms)
    (hd : y.cls ≠ "java/lang/invoke/MethodHandle" ∧ y.cls ≠ "java/lang/invoke/VarHandle" ∧ (parseMethodDescriptor y.desc).map (fun d => d.parameters.length) = some n) (hR : rm.frames + 1 ≤ R.frames ∧ 8 + (maxL + 11) + rm.locals ≤ R.locals) :
    vx_CSW R s args own index y bytes maxL ret hh ws rm mc ms n := by
  have ok : ∀ w ∈ va_wsS own index y ws, w.before args s = true := fun w h => ht w (hT w h).1
  have hG : GoodIn Ts ws := fun w h => hT w (by unfold va_wsS; exact List.mem_append_right _ h)
  have hc : Cond.codeWith y bytes maxL ret hh ∈ ws := by rw [hw]; exact List.mem_cons_self
  refine ⟨⟨hrc, hrs, hR.1, hR.2, pay_in ht hG, hc⟩, ht _ (hG _ hc).1, ok _ (by simp [va_wsS]), ⟨hd.1, hd.2.1⟩, fun sig h => ?_, ok _ (by simp [va_wsS]), ok _ (by simp [va_wsS])⟩
  have h2 := hd.2.2
  rw [h] at h2
  exact (Option.some.inj h2).symm
theorem vx_callSW (X : Stand p l e R s m args below meth c T locs cells slots) (hexec : p.tables.exec = Jvm.exec) {own : String} {index : Nat} {y : MethodName} {bytes : ByteArray} {maxL : Nat} {ret : Option FieldType} {hh : List (Nat × Nat × Nat × Nat)}
    (hown : s.vm.findClass own = some m.cls) (hlink : (Cond.methodLink own index y).before args s = true) (hstat : (Cond.static y).before args s = true) (hinit : (Cond.initialized y.cls).before args s = true)
    (hcode : (Cond.codeWith y bytes maxL ret hh).before args s = true) (hy : y.cls ≠ "java/lang/invoke/MethodHandle" ∧ y.cls ≠ "java/lang/invoke/VarHandle")
    {W9 : Nat} {Pre : Pt → Array Value → Prop} {Post : Pt → Array Value → Option Value → Pt → Prop} (hK : Back l R p e below s args y 3 W9 Pre Post)
    {g : JFrame} (hg : g.method = m) (hsize : g.locals.size = c.maxLocals) {argsL rest : List Value} (hlen : ∀ sig, parseMethodDescriptor y.desc = some sig → argsL.length = sig.parameters.length)
    (hstack : g.stack = argsL.reverse ++ rest) (hW : 2 * g.monitorRoom + (rest.map fun v => v.category).sum ≤ W9) (hdg : decode c.code g.pc = .ok (.invokestatic index, 3))
    (hpre : ∀ vm₁, s.WarmedH vm₁ → Pre ⟨T.setVm vm₁, locs, cells, slots⟩ argsL.toArray) :
    ∃ (v : Option Value) (vm₁ : Vm) (B : Pt), s.WarmedH vm₁ ∧ Stand p l e R s m args below meth c B.U B.locs B.cells B.slots ∧ Post ⟨T.setVm vm₁, locs, cells, slots⟩ argsL.toArray v B ∧
      ∀ target, Steps p.tables e below (B.U.setTop { g with pc := g.pc + 3, stack := v.toList ++ rest }) target → Steps p.tables e below (T.setTop g) target := by
  obtain ⟨mk, methM, cM, hnamed, hmethM, -, -, -, -, -, -, hsigM⟩ := Cond.codeWith_spec hcode
  have hstatic : methM.isStatic = true := Cond.static_spec hnamed hmethM hstat
  obtain ⟨kP, hkP, -⟩ := className_of_methodNamed hnamed
  have hinitP : kP.init = .initialized := Cond.initialized_spec (findClass_of_methodNamed hnamed) hkP hinit
  obtain ⟨vm₁, X₁, hstep₁⟩ := X.invokestatic hexec hown hlink hnamed hmethM hstatic hkP hinitP hy (g := g) hg (argsL := argsL) (rest := rest) (hlen _ hsigM) hstack hdg
  obtain ⟨v, B, X', hpost, hsteps⟩ := hK m meth c ⟨T.setVm vm₁, locs, cells, slots⟩ { g with stack := rest } (.invokestatic index) mk argsL.toArray X₁ hg hsize hdg hW (X₁.named hnamed) (hpre vm₁ X₁.warmed)
  exact ⟨v, vm₁, B, X₁.warmed, X', hpost, fun target h => hstep₁ _ fun acts => by rw [doInvoke_state]; exact hsteps.trans h⟩
theorem vx_runSW {y : MethodName} {bytes cc : ByteArray} {maxL nL mc ms n index : Nat} {ret : Option FieldType} {hh : List (Nat × Nat × Nat × Nat)} {ws : List Cond} {rm : Room} {Pc : Array Value → State → Prop} {Qc : Array Value → State → Outcome → State → Prop} {free : Addr → Prop} {Ts : List Cond} {own : String} {As rest : List Value} {g : JFrame}
    (S : CallFix p m c cc nL s args Ts own) (hM : Met l y ws rm Pc Qc mc ms free) (cw : vx_CSW R s args own index y bytes maxL ret hh ws rm mc ms n) (hp : PreS s H Pc As)
    (hg : g.method = m) (hn : As.length = n) (hsize : g.locals.size = nL) (hstack : g.stack = As.reverse ++ rest) (hW : 2 * g.monitorRoom + (rest.map fun v => v.category).sum ≤ 8) (hdg : decode cc g.pc = .ok (.invokestatic index, 3)) (hf : cells + mc ≤ R.cells ∧ slots + ms ≤ R.slots) :
    va_Run p l e R s m args below meth c H locs cells slots mc ms g rest (Qc As.toArray) (free) := by
  obtain ⟨⟨hrc, hrs, hfr, hlo, hws, hcw⟩, hcode, hini, hy, hlen, hl, hstt⟩ := cw
  have hK : Back l R p e below s args y 3 8 (PreOf R mc ms Pc) (PostOf Qc mc ms free) := va_backW (hh := hh) (bytes := bytes) (maxL := maxL) (ret := ret) hM hp.1 hrc hrs hfr hlo hws hcw (fun a' U hW => word_at hW (Or.inl (by first | rfl | simp [Cond.onTables, Cond.keeps, Cond.steady])) hini)
  obtain ⟨hx, hb, hml, ho, -⟩ := S
  intro T hT X
  obtain ⟨v, vm₁, ⟨U', l2, c2, s2⟩, hW₁, X', ⟨g', mk, t, L, e1, e2, hq, h1, hL, h2, h3⟩, st⟩ := vx_callSW X hx (hh := hh) (bytes := bytes) (maxL := maxL) (ret := ret) ho hl hstt hini hcode hy hK hg (hsize.trans hml.symm) (argsL := As) (rest := rest) (fun sig h => hn.trans (hlen sig h)) hstack hW (by rw [hb]; exact hdg)
    (fun vm₁ hW₁ => ⟨hf.1, hf.2, hp.2 (T.setVm vm₁) hT hW₁⟩)
  dsimp only [Pt.U, Pt.locs, Pt.cells, Pt.slots] at X' e1 e2 h1 h2 h3 st
  subst h1; subst h2; subst h3
  exact ⟨v, (T.setVm vm₁).calling g' mk As.toArray, t, U', L, hT, X', hL, e1, e2, hq, st⟩
/-- not caught here, past rows that name other classes: it goes on to the caller -/
theorem vx_outP {p : Program} {l : Launch} {e : Env} {R : Room} {s : State} {m : MethodId} {args : Array Value} {below : List Frame} {meth : Method} {c : Code} {H : Heap} {locs : List Loc} {cells slots : Nat} {free : Addr → Prop} {ls : Array Slot} {rest : List Value} {Qc : Array Value → State → Outcome → State → Prop} {XC : String → State → State → Prop}
    {pc : Nat} {own E : String} {ce : Cell} {q : Addr} {mc ms : Nat} (hown : s.vm.findClass own = some m.cls) (hlocks : meth.locks = false)
    (hpass : ∀ z ∈ c.exceptionTable.toList, covers z pc = false ∨ (z.catchType ≠ 0 ∧ ∃ nm : String, (Cond.classLink own z.catchType nm).before args s = true ∧ va_Nc E nm s)) (hcell : H[q]? = some ce) (hv : ce.vm = .none) (hcl : s.vm.findClass E = some ce.cls)
    (hx : ∀ t : State, t.heap = H → s.vm.Alike t.vm → XC E s t) (hf : ∀ z ∈ locs, free z.base) (hc : cells ≤ mc) (hs : slots ≤ ms) :
    vx_W p l e R s m args below meth c H locs cells slots (vx_MQ below Qc XC args s mc ms free) (F0 m pc ls rest) q := by
  intro T hT X
  have hpl : e.platform.magicAccessors = ({} : Platform).magicAccessors := by rw [X.admits.platform]
  obtain ⟨vm', hW', X', st⟩ := X.outThrough hlocks q (g := F0 m pc ls rest) rfl rfl rfl (cell := ce) (by rw [hT]; exact hcell) (by rw [hv]; rfl)
    (by obtain ⟨k9, h9, -⟩ := Vm.findClass_spec hcl; exact ⟨k9, h9⟩) (fun z hz => by
      rcases hpass z hz with h | ⟨hz0, nm, hl1, hn1⟩
      · exact Or.inl h
      · obtain ⟨c6, hc6, hcl6⟩ := Cond.classLink_spec hown hl1 e.platform hpl
        obtain ⟨a8, b8, h1, h2, h3⟩ := hn1
        cases Option.some.inj (h1.symm.trans hcl)
        cases Option.some.inj (h2.symm.trans hc6)
        exact Or.inr ⟨hz0, _, hcl6, h3⟩)
  obtain ⟨g₀, hfr⟩ := X'.frames_eq
  have hcell9 : ((T.setVm vm').setFrames (.throwing q :: below)).heap[q]? = some ce := by
    show T.heap[q]? = some ce
    rw [hT]; exact hcell
  have hend : Ended ((T.setVm vm').setFrames (.throwing q :: below)) below (.threw q) := State.frames_setFrames _ (State.cur_lt_of_frames hfr)
  refine ⟨(T.setVm vm').setFrames (.throwing q :: below), ?_, .threw q, X'.here.running, hend, Or.inr ⟨q, rfl, E, ce, locs, hx _ hT (X'.ends _).1.alike, hcell9, hv, hcl, (X'.ends _).1, (X'.ends _).2.mono hc hs, hf⟩⟩
  rw [X.pushThrowing_eq]
  exact st
/-- a thing of a world lies in the heap -/
theorem vx_lt {D : va_G} {cl : List vw_C} {ws : va_W} {H1 : Heap} (h : va_P D cl ws H1) {k : Nat} {q : Nat × va_E} (hk : ws[k]? = some q) : q.1 < H1.size := (h k q hk).lt
end VXS
/-! ===== END ===== -/
/-! ===== BEGIN methods with a table of their own: called by a name, returning or throwing ===== -/
section VXH
/-! vx_backW, vx_callVX, vx_callSX, vx_callVW, vx_runVW, vx_runVX, vx_runSX, vx_ofWH follow the same proofs as their sisters above (Free/Laws.lean, Shelf42/LK1.lean); vx_outP calls Shelf42/NT130.lean (outThrough). -/
section
variable {l : Launch} {R : Room} {p : Program} {e : Env} {below : List Frame} {s : State} {sargs : Array Value} {y : MethodName} {len W9 : Nat}
theorem vx_backW {ws : List Cond} {rm : Room} {Pc : Array Value → State → Prop} {Qc : Array Value → State → Outcome → State → Prop} {XC : String → State → State → Prop} {mc ms : Nat} {free : Addr → Prop} {bytes : ByteArray} {maxL : Nat} {ret : Option FieldType} {hh : List (Nat × Nat × Nat × Nat)}
    (hM : vx_Met l y ws rm Pc Qc XC mc ms free) (hblind : FrameBlind Pc) (hrc : rm.cells = mc) (hrs : rm.slots = ms)
    (hframes : rm.frames + 1 ≤ R.frames) (hlocals : W9 + (maxL + 11) + rm.locals ≤ R.locals)
    (hws : ∀ w ∈ ws, ∀ a' U, s.WarmedH U.vm → w.before a' U = true) (hcode : Cond.codeWith y bytes maxL ret hh ∈ ws) (hinit : ∀ a' U, s.WarmedH U.vm → (Cond.initialized y.cls).before a' U = true) :
    vx_Back l R p e below s sargs y len W9 (PreOf R mc ms Pc) (PostOf Qc mc ms free) (vx_Post XC mc ms free) := by
  intro m meth c A g ig mk a X hg hsize hdg hW hn hp
  have h1 : (headSpec ws rm).pre.before a A.U = true := atoms_intro fun w hw => hws w hw _ _ X.warmed
  have h2 : (Cond.codeWith y bytes maxL ret hh).before a A.U = true := hws _ hcode _ _ X.warmed
  have h3 : (Cond.initialized y.cls).before a A.U = true := hinit _ _ X.warmed
  have h4 : A.cells + (headSpec ws rm).room.cells ≤ R.cells := by rw [show (headSpec ws rm).room.cells = mc from hrc]; exact hp.1
  have h5 : A.slots + (headSpec ws rm).room.slots ≤ R.slots := by rw [show (headSpec ws rm).room.slots = ms from hrs]; exact hp.2.1
  have hPc : Pc a (A.U.calling g mk a) := hblind _ _ _ _ hp.2.2
  obtain ⟨U, Ls, c0, s0⟩ := A
  dsimp only [Pt.U, Pt.locs, Pt.cells, Pt.slots] at h1 h2 h3 h4 h5 X hn hPc ⊢
  obtain ⟨m9, methY, cY, hn9, hmY, hcY, -, hlY, -⟩ := Cond.codeWith_spec h2
  cases Option.some.inj (hn9.symm.trans hn)
  obtain ⟨kY, hkY, -⟩ := className_of_methodNamed hn
  have hinitY : kY.init = .initialized := Cond.initialized_spec (findClass_of_methodNamed hn) hkY h3
  have h : At U g.method c below := by rw [hg]; exact X.here
  have hlocals9 : W9 + (maxL + 11) + (headSpec ws rm).room.locals ≤ R.locals := hlocals
  have happ : (headSpec ws rm).appliesLoose y e.platform (U.calling g mk a) = true :=
    Spec.appliesLoose_calling (g := g) h hdg hn hkY hinitY
      (X.room_calling (g := g) (R' := (headSpec ws rm).room) hsize hmY hcY hframes (by rw [hlY]; omega) h4 h5) h1
  obtain ⟨mid, hmid⟩ := h.above
  have hfr : (U.setTop g).frames = (.java g :: mid) ++ below := by rw [State.frames_setTop' g h.top, hmid]; rfl
  obtain ⟨o, s₂, hsteps, -, hend, hq⟩ := Steps.callFree hM p X.admits X.cas X.clock (acts := []) hfr happ hPc trivial
  have hq' : vx_Q Qc XC mc ms free a (U.calling g mk a) o s₂ := hq
  rw [State.frames_setTop' g h.top] at hend
  obtain ⟨g₀, hg0⟩ := Option.isSome_iff_exists.mp h.top
  obtain ⟨r, hr⟩ := State.topJava?_eq_some.mp hg0
  have hr' : (({ U with heap := s₂.heap, slotsUsed := s₂.slotsUsed } : State).setVm s₂.vm).frames = .java g₀ :: r := hr
  rcases hq' with ⟨hqc, L, hfe, hL⟩ | ⟨q, rfl, E, ce, L, hx, hce, hcv, hcl, hW₂, hsm, hL⟩
  · obtain ⟨⟨v, rfl⟩, hW₂, e2, q2, q3, q4, q5, q6⟩ := id hfe
    have e3 : s₂ = ({ (U.calling g mk a).setFrames s₂.frames with heap := s₂.heap, slotsUsed := s₂.slotsUsed } : State).setVm s₂.vm := by
      have : s₂ = ({ s₂ with vm := (U.calling g mk a).vm } : State).setVm s₂.vm := rfl
      rw [e2] at this
      exact this
    obtain ⟨c₂, i₂, len₂, hc₂, hd₂, hf₂⟩ := hend
    have hW' : U.WarmedH s₂.vm := hW₂
    have hcc : c₂ = c := by
      have h1 : s₂.code? g.method = U.code? g.method := by
        rw [State.code?_eq, State.code?_eq, hW'.alike.method?]
      exact Option.some.inj (hc₂.symm.trans (h1.trans h.code))
    subst hcc
    have hlen : len₂ = len := by rw [hdg] at hd₂; cases hd₂; rfl
    subst hlen
    have hs₂ : s₂ = (({ U with heap := s₂.heap, slotsUsed := s₂.slotsUsed } : State).setVm s₂.vm).setTop { g with pc := g.pc + len₂, stack := v.toList ++ g.stack } := by
      refine e3.trans ?_
      rw [hf₂, State.calling_eq h.top, State.setFrames_setFrames, State.setTop_of_frames _ hr', hr]
      rfl
    have hsame : U.sameButNew ({ U with heap := s₂.heap, slotsUsed := s₂.slotsUsed } : State) L mc ms := by
      refine ⟨?_, q2, q3, q4, q5, q6⟩
      obtain ⟨t, ht, -⟩ := State.frames_cons hr
      show ({ U with heap := s₂.heap, slotsUsed := s₂.slotsUsed } : State) = { U.setFrames U.frames with heap := s₂.heap, slotsUsed := s₂.slotsUsed }
      rw [State.setFrames_self ht]
    subst hg
    refine Or.inl ⟨v, ⟨(({ U with heap := s₂.heap, slotsUsed := s₂.slotsUsed } : State).setVm s₂.vm), Ls ++ L, c0 + mc, s0 + ms⟩,
      ⟨X.admits, X.cas, X.clock, X.frames, X.room, X.hears, X.method, X.code, (X.here.setHeapUsed s₂.heap s₂.slotsUsed).setVm hW'.alike, X.tail, State.WarmedH.trans X.warmed hW', X.limits, X.bytes, X.same.trans (hsame.setVm s.vm)⟩,
      ⟨g, mk, s₂, L, rfl, rfl, hqc, rfl, hL, rfl, rfl⟩, ?_⟩
    show Steps p.tables e below _ ((({ U with heap := s₂.heap, slotsUsed := s₂.slotsUsed } : State).setVm s₂.vm).setTop { g with pc := g.pc + len₂, stack := v.toList ++ g.stack })
    rw [← hs₂]
    exact hsteps
  · obtain ⟨e2, q2, q3, q4, q5, q6⟩ := id hsm
    have e3 : s₂ = ({ (U.calling g mk a).setFrames s₂.frames with heap := s₂.heap, slotsUsed := s₂.slotsUsed } : State).setVm s₂.vm := by
      have : s₂ = ({ s₂ with vm := (U.calling g mk a).vm } : State).setVm s₂.vm := rfl
      rw [e2] at this
      exact this
    have hf₂ : s₂.frames = .throwing q :: .java g :: U.frames.tail := hend
    have hW' : U.WarmedH s₂.vm := hW₂
    have hs₂ : s₂ = ((({ U with heap := s₂.heap, slotsUsed := s₂.slotsUsed } : State).setVm s₂.vm).setTop g).pushFrame (.throwing q) := by
      refine e3.trans ?_
      rw [hf₂, State.calling_eq h.top, State.setFrames_setFrames, State.pushFrame, State.frames_setTop _ hr', State.setTop_of_frames _ hr', State.setFrames_setFrames, hr]
      rfl
    have hsame : U.sameButNew ({ U with heap := s₂.heap, slotsUsed := s₂.slotsUsed } : State) L mc ms := by
      refine ⟨?_, q2, q3, q4, q5, q6⟩
      obtain ⟨t, ht, -⟩ := State.frames_cons hr
      show ({ U with heap := s₂.heap, slotsUsed := s₂.slotsUsed } : State) = { U.setFrames U.frames with heap := s₂.heap, slotsUsed := s₂.slotsUsed }
      rw [State.setFrames_self ht]
    subst hg
    refine Or.inr ⟨q, ⟨(({ U with heap := s₂.heap, slotsUsed := s₂.slotsUsed } : State).setVm s₂.vm), Ls ++ L, c0 + mc, s0 + ms⟩,
      ⟨X.admits, X.cas, X.clock, X.frames, X.room, X.hears, X.method, X.code, (X.here.setHeapUsed s₂.heap s₂.slotsUsed).setVm hW'.alike, X.tail, State.WarmedH.trans X.warmed hW', X.limits, X.bytes, X.same.trans (hsame.setVm s.vm)⟩,
      ⟨g, mk, s₂, L, E, ce, rfl, rfl, hx, hce, hcv, hcl, rfl, hL, rfl, rfl⟩, ?_⟩
    show Steps p.tables e below _ (((({ U with heap := s₂.heap, slotsUsed := s₂.slotsUsed } : State).setVm s₂.vm).setTop g).pushFrame (.throwing q))
    rw [← hs₂]
    exact hsteps
end
variable {p : Program} {l : Launch} {e : Env} {R : Room} {s : State} {m : MethodId} {args : Array Value} {below : List Frame} {meth : Method} {c : Code} {T : State} {H : Heap} {locs : List Loc} {cells slots : Nat}
theorem vx_callVX (X : Stand p l e R s m args below meth c T locs cells slots) (hexec : p.tables.exec = Jvm.exec) {own C : String} {index : Nat} {y : MethodName} {bytes : ByteArray} {maxL : Nat} {ret : Option FieldType} {hh : List (Nat × Nat × Nat × Nat)}
    (hown : s.vm.findClass own = some m.cls) (hlink : (Cond.methodLink own index y).before args s = true) (hinst : (Cond.instanceMethod y).before args s = true) (hsel : (Cond.selects C y y).before args s = true)
    (hcode : (Cond.codeWith y bytes maxL ret hh).before args s = true) (hy : y.cls ≠ "java/lang/invoke/MethodHandle" ∧ y.cls ≠ "java/lang/invoke/VarHandle")
    {W9 : Nat} {Pre : Pt → Array Value → Prop} {Post : Pt → Array Value → Option Value → Pt → Prop} {PostX : Pt → Array Value → Addr → Pt → Prop} (hK : vx_Back l R p e below s args y 3 W9 Pre Post PostX)
    {b : Addr} {cellB : Cell} (hcell : T.heap[b]? = some cellB) (hobj : cellB.vm.isStatics = false) (hcls : s.vm.findClass C = some cellB.cls)
    {g : JFrame} (hg : g.method = m) (hsize : g.locals.size = c.maxLocals) {argsL rest : List Value} (hlen : ∀ sig, parseMethodDescriptor y.desc = some sig → argsL.length = sig.parameters.length)
    (hstack : g.stack = argsL.reverse ++ .ref b :: rest) (hW : 2 * g.monitorRoom + (rest.map fun v => v.category).sum ≤ W9) (hdg : decode c.code g.pc = .ok (.invokevirtual index, 3))
    (hpre : ∀ vm₁, s.WarmedH vm₁ → Pre ⟨T.setVm vm₁, locs, cells, slots⟩ (Value.ref b :: argsL).toArray) :
    (∃ (v : Option Value) (vm₁ : Vm) (B : Pt), s.WarmedH vm₁ ∧ Stand p l e R s m args below meth c B.U B.locs B.cells B.slots ∧ Post ⟨T.setVm vm₁, locs, cells, slots⟩ (Value.ref b :: argsL).toArray v B ∧
      ∀ target, Steps p.tables e below (B.U.setTop { g with pc := g.pc + 3, stack := v.toList ++ rest }) target → Steps p.tables e below (T.setTop g) target) ∨
    (∃ (q : Addr) (vm₁ : Vm) (B : Pt), s.WarmedH vm₁ ∧ Stand p l e R s m args below meth c B.U B.locs B.cells B.slots ∧ PostX ⟨T.setVm vm₁, locs, cells, slots⟩ (Value.ref b :: argsL).toArray q B ∧
      Steps p.tables e below (T.setTop g) ((B.U.setTop { g with stack := rest }).pushFrame (.throwing q))) := by
  obtain ⟨mk, methM, hnamed, hmethM, hstM, habM⟩ := Cond.instanceMethod_spec hinst
  obtain ⟨m8, methM', cM, hn8, hmethM', -, -, -, -, -, -, hsigM⟩ := Cond.codeWith_spec hcode
  cases Option.some.inj (hn8.symm.trans hnamed)
  cases hmethM.symm.trans hmethM'
  obtain ⟨c2, r2, m2, q1, q2, q3, q4, kP, hkP, hkPi⟩ := Cond.selects_spec hsel
  cases hcls.symm.trans q1
  cases (State.methodFound?_of_named hnamed hy).symm.trans q2
  cases hnamed.symm.trans q3
  have hselP : selectMethod e.platform s.vm cellB.cls mk = .method mk := by rw [Launch.admits_selectMethod X.admits]; exact q4
  obtain ⟨vm₁, X₁, hstep₁⟩ := X.invokevirtual hexec hown hlink hnamed hmethM hstM hkP hkPi hy (a := b) (cell := cellB) hcell
    (fun z h => by rw [h] at hobj; cases hobj) hselP hmethM habM hkP hkPi (g := g) hg (argsL := argsL) (rest := rest) (hlen _ hsigM) hstack hdg
  rcases hK m meth c ⟨T.setVm vm₁, locs, cells, slots⟩ { g with stack := rest } (.invokevirtual index) mk (Value.ref b :: argsL).toArray X₁ hg hsize hdg hW (X₁.named hnamed) (hpre vm₁ X₁.warmed) with ⟨v, B, X', hpost, hsteps⟩ | ⟨q, B, X', hpost, hsteps⟩
  · exact Or.inl ⟨v, vm₁, B, X₁.warmed, X', hpost, fun target h => hstep₁ _ fun acts => by rw [doInvoke_state]; exact hsteps.trans h⟩
  · exact Or.inr ⟨q, vm₁, B, X₁.warmed, X', hpost, hstep₁ _ fun acts => by rw [doInvoke_state]; exact hsteps⟩
theorem vx_callSX (X : Stand p l e R s m args below meth c T locs cells slots) (hexec : p.tables.exec = Jvm.exec) {own : String} {index : Nat} {y : MethodName} {bytes : ByteArray} {maxL : Nat} {ret : Option FieldType} {hh : List (Nat × Nat × Nat × Nat)}
    (hown : s.vm.findClass own = some m.cls) (hlink : (Cond.methodLink own index y).before args s = true) (hstat : (Cond.static y).before args s = true) (hinit : (Cond.initialized y.cls).before args s = true)
    (hcode : (Cond.codeWith y bytes maxL ret hh).before args s = true) (hy : y.cls ≠ "java/lang/invoke/MethodHandle" ∧ y.cls ≠ "java/lang/invoke/VarHandle")
    {W9 : Nat} {Pre : Pt → Array Value → Prop} {Post : Pt → Array Value → Option Value → Pt → Prop} {PostX : Pt → Array Value → Addr → Pt → Prop} (hK : vx_Back l R p e below s args y 3 W9 Pre Post PostX)
    {g : JFrame} (hg : g.method = m) (hsize : g.locals.size = c.maxLocals) {argsL rest : List Value} (hlen : ∀ sig, parseMethodDescriptor y.desc = some sig → argsL.length = sig.parameters.length)
    (hstack : g.stack = argsL.reverse ++ rest) (hW : 2 * g.monitorRoom + (rest.map fun v => v.category).sum ≤ W9) (hdg : decode c.code g.pc = .ok (.invokestatic index, 3))
    (hpre : ∀ vm₁, s.WarmedH vm₁ → Pre ⟨T.setVm vm₁, locs, cells, slots⟩ argsL.toArray) :
    (∃ (v : Option Value) (vm₁ : Vm) (B : Pt), s.WarmedH vm₁ ∧ Stand p l e R s m args below meth c B.U B.locs B.cells B.slots ∧ Post ⟨T.setVm vm₁, locs, cells, slots⟩ argsL.toArray v B ∧
      ∀ target, Steps p.tables e below (B.U.setTop { g with pc := g.pc + 3, stack := v.toList ++ rest }) target → Steps p.tables e below (T.setTop g) target) ∨
    (∃ (q : Addr) (vm₁ : Vm) (B : Pt), s.WarmedH vm₁ ∧ Stand p l e R s m args below meth c B.U B.locs B.cells B.slots ∧ PostX ⟨T.setVm vm₁, locs, cells, slots⟩ argsL.toArray q B ∧
      Steps p.tables e below (T.setTop g) ((B.U.setTop { g with stack := rest }).pushFrame (.throwing q))) := by
  obtain ⟨mk, methM, cM, hnamed, hmethM, -, -, -, -, -, -, hsigM⟩ := Cond.codeWith_spec hcode
  have hstatic : methM.isStatic = true := Cond.static_spec hnamed hmethM hstat
  obtain ⟨kP, hkP, -⟩ := className_of_methodNamed hnamed
  have hinitP : kP.init = .initialized := Cond.initialized_spec (findClass_of_methodNamed hnamed) hkP hinit
  obtain ⟨vm₁, X₁, hstep₁⟩ := X.invokestatic hexec hown hlink hnamed hmethM hstatic hkP hinitP hy (g := g) hg (argsL := argsL) (rest := rest) (hlen _ hsigM) hstack hdg
  rcases hK m meth c ⟨T.setVm vm₁, locs, cells, slots⟩ { g with stack := rest } (.invokestatic index) mk argsL.toArray X₁ hg hsize hdg hW (X₁.named hnamed) (hpre vm₁ X₁.warmed) with ⟨v, B, X', hpost, hsteps⟩ | ⟨q, B, X', hpost, hsteps⟩
  · exact Or.inl ⟨v, vm₁, B, X₁.warmed, X', hpost, fun target h => hstep₁ _ fun acts => by rw [doInvoke_state]; exact hsteps.trans h⟩
  · exact Or.inr ⟨q, vm₁, B, X₁.warmed, X', hpost, hstep₁ _ fun acts => by rw [doInvoke_state]; exact hsteps⟩
theorem vx_callVW (X : Stand p l e R s m args below meth c T locs cells slots) (hexec : p.tables.exec = Jvm.exec) {own C : String} {index : Nat} {y : MethodName} {bytes : ByteArray} {maxL : Nat} {ret : Option FieldType} {hh : List (Nat × Nat × Nat × Nat)}
    (hown : s.vm.findClass own = some m.cls) (hlink : (Cond.methodLink own index y).before args s = true) (hinst : (Cond.instanceMethod y).before args s = true) (hsel : (Cond.selects C y y).before args s = true)
    (hcode : (Cond.codeWith y bytes maxL ret hh).before args s = true) (hy : y.cls ≠ "java/lang/invoke/MethodHandle" ∧ y.cls ≠ "java/lang/invoke/VarHandle")
    {W9 : Nat} {Pre : Pt → Array Value → Prop} {Post : Pt → Array Value → Option Value → Pt → Prop} (hK : Back l R p e below s args y 3 W9 Pre Post)
    {b : Addr} {cellB : Cell} (hcell : T.heap[b]? = some cellB) (hobj : cellB.vm.isStatics = false) (hcls : s.vm.findClass C = some cellB.cls)
    {g : JFrame} (hg : g.method = m) (hsize : g.locals.size = c.maxLocals) {argsL rest : List Value} (hlen : ∀ sig, parseMethodDescriptor y.desc = some sig → argsL.length = sig.parameters.length)
    (hstack : g.stack = argsL.reverse ++ .ref b :: rest) (hW : 2 * g.monitorRoom + (rest.map fun v => v.category).sum ≤ W9) (hdg : decode c.code g.pc = .ok (.invokevirtual index, 3))
    (hpre : ∀ vm₁, s.WarmedH vm₁ → Pre ⟨T.setVm vm₁, locs, cells, slots⟩ (Value.ref b :: argsL).toArray) :
    ∃ (v : Option Value) (vm₁ : Vm) (B : Pt), s.WarmedH vm₁ ∧ Stand p l e R s m args below meth c B.U B.locs B.cells B.slots ∧ Post ⟨T.setVm vm₁, locs, cells, slots⟩ (Value.ref b :: argsL).toArray v B ∧
      ∀ target, Steps p.tables e below (B.U.setTop { g with pc := g.pc + 3, stack := v.toList ++ rest }) target → Steps p.tables e below (T.setTop g) target := by
  obtain ⟨mk, methM, hnamed, hmethM, hstM, habM⟩ := Cond.instanceMethod_spec hinst
  obtain ⟨m8, methM', cM, hn8, hmethM', -, -, -, -, -, -, hsigM⟩ := Cond.codeWith_spec hcode
  cases Option.some.inj (hn8.symm.trans hnamed)
  cases hmethM.symm.trans hmethM'
  obtain ⟨c2, r2, m2, q1, q2, q3, q4, kP, hkP, hkPi⟩ := Cond.selects_spec hsel
  cases hcls.symm.trans q1
  cases (State.methodFound?_of_named hnamed hy).symm.trans q2
  cases hnamed.symm.trans q3
  have hselP : selectMethod e.platform s.vm cellB.cls mk = .method mk := by rw [Launch.admits_selectMethod X.admits]; exact q4
  obtain ⟨vm₁, X₁, hstep₁⟩ := X.invokevirtual hexec hown hlink hnamed hmethM hstM hkP hkPi hy (a := b) (cell := cellB) hcell
    (fun z h => by rw [h] at hobj; cases hobj) hselP hmethM habM hkP hkPi (g := g) hg (argsL := argsL) (rest := rest) (hlen _ hsigM) hstack hdg
  obtain ⟨v, B, X', hpost, hsteps⟩ := hK m meth c ⟨T.setVm vm₁, locs, cells, slots⟩ { g with stack := rest } (.invokevirtual index) mk (Value.ref b :: argsL).toArray X₁ hg hsize hdg hW (X₁.named hnamed) (hpre vm₁ X₁.warmed)
  exact ⟨v, vm₁, B, X₁.warmed, X', hpost, fun target h => hstep₁ _ fun acts => by rw [doInvoke_state]; exact hsteps.trans h⟩
abbrev vx_CVW (R : Room) (s : State) (args : Array Value) (own C : String) (index : Nat) (y : MethodName) (bytes : ByteArray) (maxL : Nat) (ret : Option FieldType) (hh : List (Nat × Nat × Nat × Nat)) (ws : List Cond) (rm : Room) (mc ms n : Nat) : Prop :=
  (rm.cells = mc ∧ rm.slots = ms ∧ rm.frames + 1 ≤ R.frames ∧ 8 + (maxL + 11) + rm.locals ≤ R.locals ∧ (∀ w ∈ ws, ∀ (a' : Array Value) (U : State), s.WarmedH U.vm → w.before a' U = true) ∧ Cond.codeWith y bytes maxL ret hh ∈ ws) ∧
  (Cond.codeWith y bytes maxL ret hh).before args s = true ∧ (Cond.initialized y.cls).before args s = true ∧ (y.cls ≠ "java/lang/invoke/MethodHandle" ∧ y.cls ≠ "java/lang/invoke/VarHandle") ∧
  (∀ sig, parseMethodDescriptor y.desc = some sig → n = sig.parameters.length) ∧ (Cond.methodLink own index y).before args s = true ∧ (Cond.instanceMethod y).before args s = true ∧ (Cond.selects C y y).before args s = true
theorem vx_cwVW {own C : String} {index maxL mc ms : Nat} {y : MethodName} {bytes : ByteArray} {ret : Option FieldType} {hh : List (Nat × Nat × Nat × Nat)} {Ts ws ws' : List Cond} {rm : Room} (n : Nat) (ht : ∀ w ∈ Ts, w.before args s = true) (hT : GoodIn Ts (wsV own index C y ws)) (hw : ws = Cond.codeWith y bytes maxL ret hh :: ws') (hrc : rm.cells = mc) (hrs : rm.slots = ms)
    (hd : y.cls = C ∧ y.cls ≠ "java/lang/invoke/MethodHandle" ∧ y.cls ≠ "java/lang/invoke/VarHandle" ∧ (parseMethodDescriptor y.desc).map (fun d => d.parameters.length) = some n) (hR : rm.frames + 1 ≤ R.frames ∧ 8 + (maxL + 11) + rm.locals ≤ R.locals) :
    vx_CVW R s args own C index y bytes maxL ret hh ws rm mc ms n := by
  obtain ⟨hC, hd⟩ := hd
  subst hC
  have ok : ∀ w ∈ wsV own index y.cls y ws, w.before args s = true := fun w h => ht w (hT w h).1
  have hG : GoodIn Ts ws := fun w h => hT w (by unfold wsV; exact List.mem_append_right _ h)
  have hc : Cond.codeWith y bytes maxL ret hh ∈ ws := by rw [hw]; exact List.mem_cons_self
  refine ⟨⟨hrc, hrs, hR.1, hR.2, pay_in ht hG, hc⟩, ht _ (hG _ hc).1, ok _ (by simp [wsV]), ⟨hd.1, hd.2.1⟩, fun sig h => ?_, ok _ (by simp [wsV]), ok _ (by simp [wsV]), ok _ (by simp [wsV])⟩
  have h2 := hd.2.2
  rw [h] at h2
  exact (Option.some.inj h2).symm
theorem vx_runVW {y : MethodName} {bytes cc : ByteArray} {maxL nL mc ms n index : Nat} {ret : Option FieldType} {hh : List (Nat × Nat × Nat × Nat)} {ws : List Cond} {rm : Room} {Pc : Array Value → State → Prop} {Qc : Array Value → State → Outcome → State → Prop} {free : Addr → Prop} {Ts : List Cond} {own C : String} {b : Addr} {As rest : List Value} {g : JFrame}
    (S : CallFix p m c cc nL s args Ts own) (hM : Met l y ws rm Pc Qc mc ms free) (cw : vx_CVW R s args own C index y bytes maxL ret hh ws rm mc ms n) (hp : PreV s H C b Pc As)
    (hg : g.method = m) (hn : As.length = n) (hsize : g.locals.size = nL) (hstack : g.stack = As.reverse ++ .ref b :: rest) (hW : 2 * g.monitorRoom + (rest.map fun v => v.category).sum ≤ 8) (hdg : decode cc g.pc = .ok (.invokevirtual index, 3)) (hf : cells + mc ≤ R.cells ∧ slots + ms ≤ R.slots) :
    va_Run p l e R s m args below meth c H locs cells slots mc ms g rest (Qc (Value.ref b :: As).toArray) free := by
  obtain ⟨⟨hrc, hrs, hfr, hlo, hws, hcw⟩, hcode, hini, hy, hlen, hl, hin, hse⟩ := cw
  have hK : Back l R p e below s args y 3 8 (PreOf R mc ms Pc) (PostOf Qc mc ms free) := va_backW (hh := hh) (bytes := bytes) (maxL := maxL) (ret := ret) hM hp.1 hrc hrs hfr hlo hws hcw (fun a' U hW => word_at hW (Or.inl (by first | rfl | simp [Cond.onTables, Cond.keeps, Cond.steady])) hini)
  obtain ⟨hx, hb, hml, ho, -⟩ := S
  obtain ⟨-, ⟨cellB, hcB, hoB, hclB⟩, hPc⟩ := hp
  intro T hT X
  obtain ⟨v, vm₁, ⟨U', l2, c2, s2⟩, hW₁, X', ⟨g', mk, t, L, e1, e2, hq, h1, hL, h2, h3⟩, st⟩ := vx_callVW X hx (C := C) (hh := hh) (bytes := bytes) (maxL := maxL) (ret := ret) ho hl hin hse hcode hy hK (by rw [hT]; exact hcB) hoB hclB hg (hsize.trans hml.symm) (argsL := As) (rest := rest) (fun sig h => hn.trans (hlen sig h)) hstack hW (by rw [hb]; exact hdg)
    (fun vm₁ hW₁ => ⟨hf.1, hf.2, hPc (T.setVm vm₁) hT hW₁⟩)
  dsimp only [Pt.U, Pt.locs, Pt.cells, Pt.slots] at X' e1 e2 h1 h2 h3 st
  subst h1; subst h2; subst h3
  exact ⟨v, (T.setVm vm₁).calling g' mk (Value.ref b :: As).toArray, t, U', L, hT, X', hL, e1, e2, hq, st⟩
section
variable {y : MethodName} {bytes cc : ByteArray} {maxL nL mc ms n index : Nat} {ret : Option FieldType} {ws : List Cond} {rm : Room} {Pc : Array Value → State → Prop} {Qc : Array Value → State → Outcome → State → Prop} {XC : String → State → State → Prop} {free : Addr → Prop} {Ts : List Cond} {own C : String} {b : Addr} {As rest : List Value} {g : JFrame}
theorem vx_runVX {hh : List (Nat × Nat × Nat × Nat)} (S : CallFix p m c cc nL s args Ts own) (hM : vx_Met l y ws rm Pc Qc XC mc ms free) (cw : vx_CVW R s args own C index y bytes maxL ret hh ws rm mc ms n) (hp : PreV s H C b Pc As)
    (hg : g.method = m) (hn : As.length = n) (hsize : g.locals.size = nL) (hstack : g.stack = As.reverse ++ .ref b :: rest) (hW : 2 * g.monitorRoom + (rest.map fun v => v.category).sum ≤ 8) (hdg : decode cc g.pc = .ok (.invokevirtual index, 3)) (hf : cells + mc ≤ R.cells ∧ slots + ms ≤ R.slots) :
    vx_Run p l e R s m args below meth c H locs cells slots mc ms g rest (Qc (Value.ref b :: As).toArray) XC free := by
  obtain ⟨⟨hrc, hrs, hfr, hlo, hws, hcw⟩, hcode, hini, hy, hlen, hl, hin, hse⟩ := cw
  have hK : vx_Back l R p e below s args y 3 8 (PreOf R mc ms Pc) (PostOf Qc mc ms free) (vx_Post XC mc ms free) := vx_backW (hh := hh) (bytes := bytes) (maxL := maxL) (ret := ret) hM hp.1 hrc hrs hfr hlo hws hcw (fun a' U hW => word_at hW (Or.inl (by first | rfl | simp [Cond.onTables, Cond.keeps, Cond.steady])) hini)
  obtain ⟨hx, hb, hml, ho, -⟩ := S
  obtain ⟨-, ⟨cellB, hcB, hoB, hclB⟩, hPc⟩ := hp
  intro T hT X
  rcases vx_callVX X hx (C := C) (hh := hh) (bytes := bytes) (maxL := maxL) (ret := ret) ho hl hin hse hcode hy hK (by rw [hT]; exact hcB) hoB hclB hg (hsize.trans hml.symm) (argsL := As) (rest := rest) (fun sig h => hn.trans (hlen sig h)) hstack hW (by rw [hb]; exact hdg)
    (fun vm₁ hW₁ => ⟨hf.1, hf.2, hPc (T.setVm vm₁) hT hW₁⟩) with ⟨v, vm₁, ⟨U', l2, c2, s2⟩, hW₁, X', ⟨g', mk, t, L, e1, e2, hq, h1, hL, h2, h3⟩, st⟩ | ⟨q, vm₁, ⟨U', l2, c2, s2⟩, hW₁, X', ⟨g', mk, t, L, E, ce, e1, e2, hq, hce, hcv, hcl, h1, hL, h2, h3⟩, st⟩
  · dsimp only [Pt.U, Pt.locs, Pt.cells, Pt.slots] at X' e1 e2 h1 h2 h3 st
    subst h1; subst h2; subst h3
    exact Or.inl ⟨v, (T.setVm vm₁).calling g' mk (Value.ref b :: As).toArray, t, U', L, hT, X', hL, e1, e2, hq, st⟩
  · dsimp only [Pt.U, Pt.locs, Pt.cells, Pt.slots] at X' e1 e2 h1 h2 h3 st hcl
    subst h1; subst h2; subst h3
    exact Or.inr ⟨q, (T.setVm vm₁).calling g' mk (Value.ref b :: As).toArray, t, U', L, E, ce, hT, X', hL, e1, e2, hq, hce, hcv, vx_cls hW₁ hcl, st⟩
theorem vx_runSX {hh : List (Nat × Nat × Nat × Nat)} (S : CallFix p m c cc nL s args Ts own) (hM : vx_Met l y ws rm Pc Qc XC mc ms free) (cw : vx_CSW R s args own index y bytes maxL ret hh ws rm mc ms n) (hp : PreS s H Pc As)
    (hg : g.method = m) (hn : As.length = n) (hsize : g.locals.size = nL) (hstack : g.stack = As.reverse ++ rest) (hW : 2 * g.monitorRoom + (rest.map fun v => v.category).sum ≤ 8) (hdg : decode cc g.pc = .ok (.invokestatic index, 3)) (hf : cells + mc ≤ R.cells ∧ slots + ms ≤ R.slots) :
    vx_Run p l e R s m args below meth c H locs cells slots mc ms g rest (Qc As.toArray) XC free := by
  obtain ⟨⟨hrc, hrs, hfr, hlo, hws, hcw⟩, hcode, hini, hy, hlen, hl, hstt⟩ := cw
  have hK : vx_Back l R p e below s args y 3 8 (PreOf R mc ms Pc) (PostOf Qc mc ms free) (vx_Post XC mc ms free) := vx_backW (hh := hh) (bytes := bytes) (maxL := maxL) (ret := ret) hM hp.1 hrc hrs hfr hlo hws hcw (fun a' U hW => word_at hW (Or.inl (by first | rfl | simp [Cond.onTables, Cond.keeps, Cond.steady])) hini)
  obtain ⟨hx, hb, hml, ho, -⟩ := S
  intro T hT X
  rcases vx_callSX X hx (hh := hh) (bytes := bytes) (maxL := maxL) (ret := ret) ho hl hstt hini hcode hy hK hg (hsize.trans hml.symm) (argsL := As) (rest := rest) (fun sig h => hn.trans (hlen sig h)) hstack hW (by rw [hb]; exact hdg)
    (fun vm₁ hW₁ => ⟨hf.1, hf.2, hp.2 (T.setVm vm₁) hT hW₁⟩) with ⟨v, vm₁, ⟨U', l2, c2, s2⟩, hW₁, X', ⟨g', mk, t, L, e1, e2, hq, h1, hL, h2, h3⟩, st⟩ | ⟨q, vm₁, ⟨U', l2, c2, s2⟩, hW₁, X', ⟨g', mk, t, L, E, ce, e1, e2, hq, hce, hcv, hcl, h1, hL, h2, h3⟩, st⟩
  · dsimp only [Pt.U, Pt.locs, Pt.cells, Pt.slots] at X' e1 e2 h1 h2 h3 st
    subst h1; subst h2; subst h3
    exact Or.inl ⟨v, (T.setVm vm₁).calling g' mk As.toArray, t, U', L, hT, X', hL, e1, e2, hq, st⟩
  · dsimp only [Pt.U, Pt.locs, Pt.cells, Pt.slots] at X' e1 e2 h1 h2 h3 st hcl
    subst h1; subst h2; subst h3
    exact Or.inr ⟨q, (T.setVm vm₁).calling g' mk As.toArray, t, U', L, E, ce, hT, X', hL, e1, e2, hq, hce, hcv, vx_cls hW₁ hcl, st⟩
end
end VXH
theorem vx_ofWH {l : Launch} {y : MethodName} {ws ws' : List Cond} {rm : Room} {Pc : Array Value → State → Prop} {Qc : Array Value → State → Outcome → State → Prop} {XC : String → State → State → Prop} {mc ms : Nat} {free : Addr → Prop} {cc : ByteArray} {maxL : Nat} {ret : Option FieldType} {hh : List (Nat × Nat × Nat × Nat)}
    (hy : plainName y.cls = true) (hw : ws = Cond.codeWith y cc maxL ret hh :: ws')
    (body : ∀ p e s m args below meth c s₁, BodyLoose p l y (headSpec ws rm) cc maxL ret e s m args below meth c s₁ → c.maxLocals = maxL → Pc args s →
      W p l e (headSpec ws rm).room s m args below meth c s.heap [] 0 0 (vx_MQ below Qc XC args s mc ms free) (entryFrame m args maxL)) : vx_Met l y ws rm Pc Qc XC mc ms free := by
  refine MetFree.of_bodyS (code := cc) (maxLocals := maxL) (ret := ret) hy ?_ ?_
  · intro args s m h hn
    obtain ⟨m9, meth, c, hn9, h1, h2, h3, h4, -, h5, h6, -⟩ := Cond.codeWith_spec (atoms_spec (ws := ws) h _ (by rw [hw]; exact List.mem_cons_self))
    cases hn.symm.trans hn9
    exact ⟨meth, c, h1, h2, h3, h4, h5, h6⟩
  · intro p e s m args below meth c s₁ B hml hP _
    have hh0 : s₁.heap = s.heap := by rw [B.state]; rfl
    obtain ⟨t, a1, o, b1, b2, b3⟩ := body p e s m args below meth c s₁ B hml hP s₁ hh0 (Stand.of_body B)
    exact ⟨t, o, a1, b1, b2, b3⟩
/-! ===== END ===== -/
end
section
def tt_G : u_T := fun k => match k with
  | 0 => ("StoneRings$Pairing", "costs", "[I", true)
  | 1 => ("StoneRings$Pairing", "partners", "[I", true)
  | 2 => ("StoneRings$Pairing", "size", "I", false)
  | _ => ("StoneRings$Pairing", "made", "Z", false)
def ty_G : Nat → FieldType := fun k => match k with
  | 0 => .array .int
  | 1 => .array .int
  | 2 => .int
  | _ => .boolean
theorem nm_G : ∀ a, a < 4 → ∀ b, b < 4 → a ≠ b → (tt_G a).2.1 ≠ (tt_G b).2.1 := by decide +kernel
theorem tyk_G : ∀ k, k < 4 → parseFieldDescriptor (tt_G k).2.2.1 = some (ty_G k) := by decide +kernel
def tt_P : u_T := fun k => match k with
  | 0 => ("StoneRings$Picture", "width", "I", true)
  | 1 => ("StoneRings$Picture", "height", "I", true)
  | 2 => ("StoneRings$Picture", "pixels", "[I", true)
  | 3 => ("StoneRings$Picture", "sum", "I", false)
  | 4 => ("StoneRings$Picture", "sumX", "I", false)
  | _ => ("StoneRings$Picture", "sumY", "I", false)
def ty_P : Nat → FieldType := fun k => match k with
  | 0 => .int
  | 1 => .int
  | 2 => .array .int
  | 3 => .int
  | 4 => .int
  | _ => .int
theorem nm_P : ∀ a, a < 6 → ∀ b, b < 6 → a ≠ b → (tt_P a).2.1 ≠ (tt_P b).2.1 := by decide +kernel
theorem tyk_P : ∀ k, k < 6 → parseFieldDescriptor (tt_P k).2.2.1 = some (ty_P k) := by decide +kernel
def tt_D : u_T := fun k => match k with
  | 0 => ("StoneRings$Readings", "counts", "[I", true)
  | 1 => ("StoneRings$Readings", "ranks", "[I", true)
  | _ => ("StoneRings$Readings", "size", "I", false)
def ty_D : Nat → FieldType := fun k => match k with
  | 0 => .array .int
  | 1 => .array .int
  | _ => .int
theorem nm_D : ∀ a, a < 3 → ∀ b, b < 3 → a ≠ b → (tt_D a).2.1 ≠ (tt_D b).2.1 := by decide +kernel
theorem tyk_D : ∀ k, k < 3 → parseFieldDescriptor (tt_D k).2.2.1 = some (ty_D k) := by decide +kernel
def tt_T : u_T := fun k => match k with
  | 0 => ("StoneRings$Trace", "values", "[I", true)
  | 1 => ("StoneRings$Trace", "evens", "[I", true)
  | 2 => ("StoneRings$Trace", "places", "[I", true)
  | 3 => ("StoneRings$Trace", "length", "I", false)
  | _ => ("StoneRings$Trace", "found", "I", false)
def ty_T : Nat → FieldType := fun k => match k with
  | 0 => .array .int
  | 1 => .array .int
  | 2 => .array .int
  | 3 => .int
  | _ => .int
theorem nm_T : ∀ a, a < 5 → ∀ b, b < 5 → a ≠ b → (tt_T a).2.1 ≠ (tt_T b).2.1 := by decide +kernel
theorem tyk_T : ∀ k, k < 5 → parseFieldDescriptor (tt_T k).2.2.1 = some (ty_T k) := by decide +kernel
def tt_S : u_T := fun k => match k with
  | 0 => ("StoneRings", "picture", "LStoneRings$Picture;", true)
  | 1 => ("StoneRings", "across", "[I", true)
  | 2 => ("StoneRings", "down", "[I", true)
  | 3 => ("StoneRings", "first", "LStoneRings$Trace;", true)
  | 4 => ("StoneRings", "second", "LStoneRings$Trace;", true)
  | 5 => ("StoneRings", "pairing", "LStoneRings$Pairing;", true)
  | 6 => ("StoneRings", "readings", "LStoneRings$Readings;", true)
  | 7 => ("StoneRings", "rayCount", "I", false)
  | 8 => ("StoneRings", "apartRule", "I", false)
  | _ => ("StoneRings", "highRule", "I", false)
def ty_S : Nat → FieldType := fun k => match k with
  | 0 => .object "StoneRings$Picture"
  | 1 => .array .int
  | 2 => .array .int
  | 3 => .object "StoneRings$Trace"
  | 4 => .object "StoneRings$Trace"
  | 5 => .object "StoneRings$Pairing"
  | 6 => .object "StoneRings$Readings"
  | 7 => .int
  | 8 => .int
  | _ => .int
theorem nm_S : ∀ a, a < 10 → ∀ b, b < 10 → a ≠ b → (tt_S a).2.1 ≠ (tt_S b).2.1 := by decide +kernel
theorem tyk_S : ∀ k, k < 10 → parseFieldDescriptor (tt_S k).2.2.1 = some (ty_S k) := by decide +kernel
def tt_M : u_T := fun k => match k with
  | 0 => ("StoneRingsModel", "thrown", "I", false)
  | 1 => ("StoneRingsModel", "wide", "I", true)
  | 2 => ("StoneRingsModel", "high", "I", true)
  | 3 => ("StoneRingsModel", "pixels", "[I", true)
  | 4 => ("StoneRingsModel", "rays", "I", false)
  | 5 => ("StoneRingsModel", "dxs", "[I", true)
  | 6 => ("StoneRingsModel", "dys", "[I", true)
  | 7 => ("StoneRingsModel", "apart", "I", false)
  | 8 => ("StoneRingsModel", "more", "I", false)
  | 9 => ("StoneRingsModel", "many", "I", false)
  | 10 => ("StoneRingsModel", "row", "[I", true)
  | 11 => ("StoneRingsModel", "even", "[I", true)
  | 12 => ("StoneRingsModel", "rings", "I", false)
  | 13 => ("StoneRingsModel", "places", "[I", true)
  | 14 => ("StoneRingsModel", "others", "I", false)
  | 15 => ("StoneRingsModel", "otherPlaces", "[I", true)
  | 16 => ("StoneRingsModel", "costs", "[I", true)
  | 17 => ("StoneRingsModel", "hasJoined", "Z", false)
  | 18 => ("StoneRingsModel", "joinedMany", "I", false)
  | 19 => ("StoneRingsModel", "partners", "[I", true)
  | _ => ("StoneRingsModel", "counts", "[I", true)
def ty_M : Nat → FieldType := fun k => match k with
  | 0 => .int
  | 1 => .int
  | 2 => .int
  | 3 => .array .int
  | 4 => .int
  | 5 => .array .int
  | 6 => .array .int
  | 7 => .int
  | 8 => .int
  | 9 => .int
  | 10 => .array .int
  | 11 => .array .int
  | 12 => .int
  | 13 => .array .int
  | 14 => .int
  | 15 => .array .int
  | 16 => .array .int
  | 17 => .boolean
  | 18 => .int
  | 19 => .array .int
  | _ => .array .int
theorem nm_M : ∀ a, a < 21 → ∀ b, b < 21 → a ≠ b → (tt_M a).2.1 ≠ (tt_M b).2.1 := by decide +kernel
theorem tyk_M : ∀ k, k < 21 → parseFieldDescriptor (tt_M k).2.2.1 = some (ty_M k) := by decide +kernel
abbrev sr_cl : List vw_C := [("StoneRings$Pairing", tt_G, 4), ("StoneRings$Picture", tt_P, 6), ("StoneRings$Readings", tt_D, 3), ("StoneRings$Trace", tt_T, 5), ("StoneRings", tt_S, 10), ("StoneRingsModel", tt_M, 21)]
def yy_S_init : MethodName := ⟨"StoneRings", "<init>", "(II)V"⟩
def yy_T_init : MethodName := ⟨"StoneRings$Trace", "<init>", "()V"⟩
def yy_G_init : MethodName := ⟨"StoneRings$Pairing", "<init>", "()V"⟩
def yy_D_init : MethodName := ⟨"StoneRings$Readings", "<init>", "()V"⟩
def yy_A_fill : MethodName := ⟨"java/util/Arrays", "fill", "([II)V"⟩
def yy_S_nearestSide : MethodName := ⟨"StoneRings", "nearestSide", "(I)I"⟩
def yy_H_min : MethodName := ⟨"java/lang/Math", "min", "(II)I"⟩
def yy_H_max : MethodName := ⟨"java/lang/Math", "max", "(II)I"⟩
def yy_P_init : MethodName := ⟨"StoneRings$Picture", "<init>", "(II)V"⟩
def yy_S_count : MethodName := ⟨"StoneRings", "count", "(I)I"⟩
def yy_D_stonesWithCounts : MethodName := ⟨"StoneRings$Readings", "stonesWithCounts", "()I"⟩
def yy_D_mostTold : MethodName := ⟨"StoneRings$Readings", "mostTold", "(I)I"⟩
def yy_D_of : MethodName := ⟨"StoneRings$Readings", "of", "(II)I"⟩
def yy_D_votesFor : MethodName := ⟨"StoneRings$Readings", "votesFor", "(II)I"⟩
def yy_L_cell : MethodName := ⟨"StoneRingsLaw", "cell", "([II)I"⟩
def yy_L_pixel : MethodName := ⟨"StoneRingsLaw", "pixel", "(LStoneRings;III[J)I"⟩
def yy_S_pixel : MethodName := ⟨"StoneRings", "pixel", "(III)Z"⟩
def yy_P_holds : MethodName := ⟨"StoneRings$Picture", "holds", "(II)Z"⟩
def yy_S_needNumber : MethodName := ⟨"StoneRings", "needNumber", "(III)V"⟩
def yy_P_put : MethodName := ⟨"StoneRings$Picture", "put", "(III)Z"⟩
def yy_P_at : MethodName := ⟨"StoneRings$Picture", "at", "(II)I"⟩
def yy_L_middle : MethodName := ⟨"StoneRingsLaw", "middle", "(LStoneRings;I[J)I"⟩
def yy_S_middle : MethodName := ⟨"StoneRings", "middle", "(I)I"⟩
def yy_S_needPlace : MethodName := ⟨"StoneRings", "needPlace", "(II)V"⟩
def yy_P_centreX : MethodName := ⟨"StoneRings$Picture", "centreX", "()I"⟩
def yy_S_floorOf : MethodName := ⟨"StoneRings", "floorOf", "(II)I"⟩
def yy_H_floorDiv : MethodName := ⟨"java/lang/Math", "floorDiv", "(II)I"⟩
def yy_P_centreY : MethodName := ⟨"StoneRings$Picture", "centreY", "()I"⟩
def yy_L_ray : MethodName := ⟨"StoneRingsLaw", "ray", "(LStoneRings;II[J)I"⟩
def yy_S_ray : MethodName := ⟨"StoneRings", "ray", "(II)I"⟩
def yy_L_samples : MethodName := ⟨"StoneRingsLaw", "samples", "(LStoneRings;I[J)I"⟩
def yy_S_samples : MethodName := ⟨"StoneRings", "samples", "(I)I"⟩
def yy_S_follow : MethodName := ⟨"StoneRings", "follow", "(ILStoneRings$Trace;)V"⟩
def yy_T_walk : MethodName := ⟨"StoneRings$Trace", "walk", "(LStoneRings$Picture;II)V"⟩
def yy_H_abs : MethodName := ⟨"java/lang/Math", "abs", "(I)I"⟩
def yy_T_evenOut : MethodName := ⟨"StoneRings$Trace", "evenOut", "()V"⟩
def yy_T_findRings : MethodName := ⟨"StoneRings$Trace", "findRings", "(II)V"⟩
def yy_L_sample : MethodName := ⟨"StoneRingsLaw", "sample", "(LStoneRings;IIZ[J)I"⟩
def yy_S_sample : MethodName := ⟨"StoneRings", "sample", "(IIZ)I"⟩
def yy_L_rule : MethodName := ⟨"StoneRingsLaw", "rule", "(LStoneRings;II)I"⟩
def yy_S_rule : MethodName := ⟨"StoneRings", "rule", "(II)V"⟩
def yy_L_rings : MethodName := ⟨"StoneRingsLaw", "rings", "(LStoneRings;I[J)I"⟩
def yy_S_rings : MethodName := ⟨"StoneRings", "rings", "(I)I"⟩
def yy_L_ring : MethodName := ⟨"StoneRingsLaw", "ring", "(LStoneRings;III[J)I"⟩
def yy_S_ring : MethodName := ⟨"StoneRings", "ring", "(III)I"⟩
def yy_T_widthOf : MethodName := ⟨"StoneRings$Trace", "widthOf", "(I)I"⟩
def yy_T_isFalse : MethodName := ⟨"StoneRings$Trace", "isFalse", "(I)Z"⟩
def yy_L_join : MethodName := ⟨"StoneRingsLaw", "join", "(LStoneRings;III[J)I"⟩
def yy_S_join : MethodName := ⟨"StoneRings", "join", "(III)I"⟩
def yy_G_pair : MethodName := ⟨"StoneRings$Pairing", "pair", "(LStoneRings$Trace;LStoneRings$Trace;I)I"⟩
def yy_G_fillCosts : MethodName := ⟨"StoneRings$Pairing", "fillCosts", "(LStoneRings$Trace;LStoneRings$Trace;I)V"⟩
def yy_G_leastFrom : MethodName := ⟨"StoneRings$Pairing", "leastFrom", "(LStoneRings$Trace;LStoneRings$Trace;III)I"⟩
def yy_G_together : MethodName := ⟨"StoneRings$Pairing", "together", "(LStoneRings$Trace;LStoneRings$Trace;II)I"⟩
def yy_G_choosePartners : MethodName := ⟨"StoneRings$Pairing", "choosePartners", "(LStoneRings$Trace;LStoneRings$Trace;I)V"⟩
def yy_L_joined : MethodName := ⟨"StoneRingsLaw", "joined", "(LStoneRings;I[J)I"⟩
def yy_S_joined : MethodName := ⟨"StoneRings", "joined", "(I)I"⟩
def yy_L_back : MethodName := ⟨"StoneRingsLaw", "back", "(LStoneRings;III[J)I"⟩
def yy_S_back : MethodName := ⟨"StoneRings", "back", "(III)I"⟩
def yy_L_tell : MethodName := ⟨"StoneRingsLaw", "tell", "(LStoneRings;III)I"⟩
def yy_S_tell : MethodName := ⟨"StoneRings", "tell", "(III)V"⟩
def yy_D_has : MethodName := ⟨"StoneRings$Readings", "has", "(II)Z"⟩
def yy_D_put : MethodName := ⟨"StoneRings$Readings", "put", "(III)V"⟩
def yy_L_may : MethodName := ⟨"StoneRingsLaw", "may", "(LStoneRings;II[J)I"⟩
def yy_S_may : MethodName := ⟨"StoneRings", "may", "(II)Z"⟩
def yy_L_seen : MethodName := ⟨"StoneRingsLaw", "seen", "(LStoneRings;III[J)I"⟩
def yy_S_seen : MethodName := ⟨"StoneRings", "seen", "(III)I"⟩
def yy_L_agree : MethodName := ⟨"StoneRingsLaw", "agree", "(LStoneRings;III[J)I"⟩
def yy_S_agree : MethodName := ⟨"StoneRings", "agree", "(III)I"⟩
def yy_S_needPair : MethodName := ⟨"StoneRings", "needPair", "(III)V"⟩
def yy_D_alike : MethodName := ⟨"StoneRings$Readings", "alike", "(II)I"⟩
def yy_D_bothTold : MethodName := ⟨"StoneRings$Readings", "bothTold", "(III)Z"⟩
def yy_D_shared : MethodName := ⟨"StoneRings$Readings", "shared", "(II)I"⟩
def yy_S_fractionPart : MethodName := ⟨"StoneRings", "fractionPart", "(III)I"⟩
def yy_S_commonDivisor : MethodName := ⟨"StoneRings", "commonDivisor", "(II)I"⟩
def yy_L_bias : MethodName := ⟨"StoneRingsLaw", "bias", "(LStoneRings;III[J)I"⟩
def yy_S_bias : MethodName := ⟨"StoneRings", "bias", "(III)I"⟩
def yy_D_excess : MethodName := ⟨"StoneRings$Readings", "excess", "(II)I"⟩
def yy_L_told : MethodName := ⟨"StoneRingsLaw", "told", "(LStoneRings;I[J)I"⟩
def yy_S_told : MethodName := ⟨"StoneRings", "told", "(I)I"⟩
def yy_L_right : MethodName := ⟨"StoneRingsLaw", "right", "(LStoneRings;I[J)I"⟩
def yy_S_right : MethodName := ⟨"StoneRings", "right", "(I)I"⟩
def yy_D_hits : MethodName := ⟨"StoneRings$Readings", "hits", "(I)I"⟩
def yy_L_best : MethodName := ⟨"StoneRingsLaw", "best", "(LStoneRings;I[J)I"⟩
def yy_S_best : MethodName := ⟨"StoneRings", "best", "(I)I"⟩
def yy_D_readerAt : MethodName := ⟨"StoneRings$Readings", "readerAt", "(I)I"⟩
def yy_D_readersBefore : MethodName := ⟨"StoneRings$Readings", "readersBefore", "(I)I"⟩
def yy_L_age : MethodName := ⟨"StoneRingsLaw", "age", "(LStoneRings;III[J)I"⟩
def yy_S_age : MethodName := ⟨"StoneRings", "age", "(III)I"⟩
def yy_L_twin : MethodName := ⟨"StoneRingsLaw", "twin", "(LStoneRings;II[J)I"⟩
def yy_S_twin : MethodName := ⟨"StoneRings", "twin", "(II)Z"⟩
def yy_T_sameValues : MethodName := ⟨"StoneRings$Trace", "sameValues", "(LStoneRings$Trace;)Z"⟩
def yy_M_init : MethodName := ⟨"StoneRingsModel", "<init>", "(II)V"⟩
def yy_M_thrown : MethodName := ⟨"StoneRingsModel", "thrown", "()I"⟩
def yy_M_pixel : MethodName := ⟨"StoneRingsModel", "pixel", "(III)Z"⟩
def yy_M_isThere : MethodName := ⟨"StoneRingsModel", "isThere", "(II)Z"⟩
def yy_M_isIn : MethodName := ⟨"StoneRingsModel", "isIn", "(III)Z"⟩
def yy_M_middle : MethodName := ⟨"StoneRingsModel", "middle", "(I)I"⟩
def yy_M_middleOf : MethodName := ⟨"StoneRingsModel", "middleOf", "(I)I"⟩
def yy_M_sumOf : MethodName := ⟨"StoneRingsModel", "sumOf", "(I)I"⟩
def yy_M_ray : MethodName := ⟨"StoneRingsModel", "ray", "(II)I"⟩
def yy_M_samples : MethodName := ⟨"StoneRingsModel", "samples", "(I)I"⟩
def yy_M_noRay : MethodName := ⟨"StoneRingsModel", "noRay", "(I)Z"⟩
def yy_M_lay : MethodName := ⟨"StoneRingsModel", "lay", "(I)V"⟩
def yy_M_size : MethodName := ⟨"StoneRingsModel", "size", "(I)I"⟩
def yy_M_down : MethodName := ⟨"StoneRingsModel", "down", "(II)I"⟩
def yy_M_sample : MethodName := ⟨"StoneRingsModel", "sample", "(IIZ)I"⟩
def yy_M_rule : MethodName := ⟨"StoneRingsModel", "rule", "(II)V"⟩
def yy_M_rings : MethodName := ⟨"StoneRingsModel", "rings", "(I)I"⟩
def yy_M_ring : MethodName := ⟨"StoneRingsModel", "ring", "(III)I"⟩
def yy_M_widthOf : MethodName := ⟨"StoneRingsModel", "widthOf", "(I)I"⟩
def yy_M_join : MethodName := ⟨"StoneRingsModel", "join", "(III)I"⟩
def yy_M_together : MethodName := ⟨"StoneRingsModel", "together", "(II)I"⟩
def yy_M_joined : MethodName := ⟨"StoneRingsModel", "joined", "(I)I"⟩
def yy_M_back : MethodName := ⟨"StoneRingsModel", "back", "(III)I"⟩
def yy_M_tell : MethodName := ⟨"StoneRingsModel", "tell", "(III)V"⟩
def yy_M_noOne : MethodName := ⟨"StoneRingsModel", "noOne", "(II)Z"⟩
def yy_M_may : MethodName := ⟨"StoneRingsModel", "may", "(II)Z"⟩
def yy_M_seen : MethodName := ⟨"StoneRingsModel", "seen", "(III)I"⟩
def yy_M_agree : MethodName := ⟨"StoneRingsModel", "agree", "(III)I"⟩
def yy_M_noTwo : MethodName := ⟨"StoneRingsModel", "noTwo", "(III)Z"⟩
def yy_M_both : MethodName := ⟨"StoneRingsModel", "both", "(III)Z"⟩
def yy_M_part : MethodName := ⟨"StoneRingsModel", "part", "(III)I"⟩
def yy_M_bias : MethodName := ⟨"StoneRingsModel", "bias", "(III)I"⟩
def yy_M_told : MethodName := ⟨"StoneRingsModel", "told", "(I)I"⟩
def yy_M_toldOf : MethodName := ⟨"StoneRingsModel", "toldOf", "(I)I"⟩
def yy_M_right : MethodName := ⟨"StoneRingsModel", "right", "(I)I"⟩
def yy_M_rightOf : MethodName := ⟨"StoneRingsModel", "rightOf", "(I)I"⟩
def yy_M_best : MethodName := ⟨"StoneRingsModel", "best", "(I)I"⟩
def yy_M_age : MethodName := ⟨"StoneRingsModel", "age", "(III)I"⟩
def yy_M_twin : MethodName := ⟨"StoneRingsModel", "twin", "(II)Z"⟩
def yy_M_count : MethodName := ⟨"StoneRingsModel", "count", "(I)I"⟩
def yy_L_law : MethodName := ⟨"StoneRingsLaw", "law", "([I)Z"⟩
def sr_ts : List Cond := lw_tbl.filter goodWord
theorem sr_mem {w : Cond} (i : Nat) (h : lw_tbl[i]? = some w) (hg : goodWord w = true) : w ∈ sr_ts := List.mem_filter.mpr ⟨List.mem_of_getElem? h, hg⟩
theorem sr_goodIn : GoodIn sr_ts sr_ts := fun w h => ⟨h, good_of_word (List.mem_filter.mp h).2⟩
def sr_strs : List (String × Nat × String) := [("StoneRings", 69, "no such pixel"), ("StoneRings", 214, "a number outside its bounds"), ("StoneRings", 212, "no such place"), ("StoneRings", 94, "a ray without a direction"), ("StoneRings", 99, "no room for another ray"), ("StoneRings", 136, "no rays were joined"), ("StoneRings", 152, "the reader told a count of that stone before"), ("StoneRings", 156, "the reader told no count of that stone yet")]
def sr_bad : List Cond := [.methodLinkNest "StoneRings" (18 : Nat) yy_T_init "StoneRings", .methodLinkNest "StoneRings" (28 : Nat) yy_G_init "StoneRings", .castable "java/lang/IndexOutOfBoundsException" "java/lang/IndexOutOfBoundsException", .declares ({ cls := "java/lang/RuntimeException", name := "<init>", desc := "()V" } : Jvm.MethodName), .declares ({ cls := "java/lang/RuntimeException", name := "<init>", desc := "(Ljava/lang/String;)V" } : Jvm.MethodName), .declares ({ cls := "java/lang/Exception", name := "<init>", desc := "()V" } : Jvm.MethodName), .declares ({ cls := "java/lang/Exception", name := "<init>", desc := "(Ljava/lang/String;)V" } : Jvm.MethodName), .declares ({ cls := "java/lang/Throwable", name := "<init>", desc := "()V" } : Jvm.MethodName), .declares ({ cls := "java/lang/Throwable", name := "<init>", desc := "(Ljava/lang/String;)V" } : Jvm.MethodName), .castable "java/lang/IllegalArgumentException" "java/lang/IllegalArgumentException", .methodLinkNest "StoneRings$Picture" (39 : Nat) yy_S_floorOf "StoneRings", .castable "java/lang/IllegalStateException" "java/lang/IllegalStateException", .methodLinkNest "StoneRings$Trace" (50 : Nat) yy_S_floorOf "StoneRings"]
theorem sr_bad_tab : ∀ w ∈ sr_bad, w.onTables = true := by decide +kernel
theorem sr_bad_in : ∀ w ∈ sr_bad, w ∈ lw_tbl := by decide +kernel
theorem sr_bad_warm {s U : State} (hW : s.WarmedH U.vm) (h : ∀ w ∈ sr_bad, va_Nw w s) : ∀ w ∈ sr_bad, va_Nw w U := by
  intro w hw
  have h := h w hw
  simp only [sr_bad, List.mem_cons, List.not_mem_nil, or_false] at hw
  rcases hw with rfl | rfl | rfl | rfl | rfl | rfl | rfl | rfl | rfl | rfl | rfl | rfl | rfl
  · exact va_Nw.warmM hW h
  · exact va_Nw.warmM hW h
  · exact va_Nw.warmC hW h
  · exact va_Nw.warmD hW h
  · exact va_Nw.warmD hW h
  · exact va_Nw.warmD hW h
  · exact va_Nw.warmD hW h
  · exact va_Nw.warmD hW h
  · exact va_Nw.warmD hW h
  · exact va_Nw.warmC hW h
  · exact va_Nw.warmM hW h
  · exact va_Nw.warmC hW h
  · exact va_Nw.warmM hW h
def sr_ncs : List (String × String) := [("java/lang/IndexOutOfBoundsException", "java/lang/IllegalArgumentException"), ("java/lang/IndexOutOfBoundsException", "java/lang/IllegalStateException"), ("java/lang/IllegalArgumentException", "java/lang/IndexOutOfBoundsException"), ("java/lang/IllegalArgumentException", "java/lang/IllegalStateException"), ("java/lang/IllegalStateException", "java/lang/IndexOutOfBoundsException"), ("java/lang/IllegalStateException", "java/lang/IllegalArgumentException")]
theorem in_G : ∀ w ∈ u_ws "StoneRings$Pairing" tt_G 4, w ∈ sr_ts := by decide +kernel
theorem in_P : ∀ w ∈ u_ws "StoneRings$Picture" tt_P 6, w ∈ sr_ts := by decide +kernel
theorem in_D : ∀ w ∈ u_ws "StoneRings$Readings" tt_D 3, w ∈ sr_ts := by decide +kernel
theorem in_T : ∀ w ∈ u_ws "StoneRings$Trace" tt_T 5, w ∈ sr_ts := by decide +kernel
theorem in_S : ∀ w ∈ u_ws "StoneRings" tt_S 10, w ∈ sr_ts := by decide +kernel
theorem in_M : ∀ w ∈ u_ws "StoneRingsModel" tt_M 21, w ∈ sr_ts := by decide +kernel
end
section
/-! WHOLE NUMBERS FOR INTS, ONE MEMORY FOR THE WORLD, AND THE WALK OVER THEM.
sx_i a: the machine's int of the whole number a. A memory μ: cell, place ↦ whole number. sx_W: the world (a list of cells) that a layout and a memory give.
sx_V: 'the walk from pc, with these locals, this stack, this memory, comes to Q'. Each row turns sx_V at an instruction into sx_V at the next. -/
section SXN
def sx_i (a : Int) : Int32 := Int32.ofInt a
def sx_j (a : Int) : Int64 := Int64.ofInt a
abbrev sx_R (a : Int) : Prop := -2147483648 ≤ a ∧ a ≤ 2147483647
theorem sx_toInt {a : Int} (h : sx_R a) : (sx_i a).toInt = a := Int32.toInt_ofInt_of_le (by have := h.1; omega) (by have := h.2; omega)
theorem sx_of (x : Int32) : sx_i x.toInt = x := Int32.ofInt_toInt x
theorem sx_rg (x : Int32) : sx_R x.toInt := ⟨by have := x.le_toInt; omega, by have := x.toInt_lt; omega⟩
theorem sx_add (a b : Int) : sx_i a + sx_i b = sx_i (a + b) := (Int32.ofInt_add a b).symm
theorem sx_sub (a b : Int) : sx_i a - sx_i b = sx_i (a - b) := (Int32.ofInt_sub a b).symm
theorem sx_mul (a b : Int) : sx_i a * sx_i b = sx_i (a * b) := (Int32.ofInt_mul a b).symm
theorem sx_neg (a : Int) : -sx_i a = sx_i (-a) := (Int32.ofInt_neg a).symm
theorem sx_0 : sx_i 0 = 0 := by decide
theorem sx_lt {a b : Int} (ha : sx_R a) (hb : sx_R b) : sx_i a < sx_i b ↔ a < b := by
  rw [Int32.lt_iff_toInt_lt, sx_toInt ha, sx_toInt hb]
theorem sx_le {a b : Int} (ha : sx_R a) (hb : sx_R b) : sx_i a ≤ sx_i b ↔ a ≤ b := by
  rw [Int32.le_iff_toInt_le, sx_toInt ha, sx_toInt hb]
theorem sx_eq {a b : Int} (ha : sx_R a) (hb : sx_R b) : sx_i a = sx_i b ↔ a = b := by
  rw [← Int32.toInt_inj, sx_toInt ha, sx_toInt hb]
theorem sx_tdiv {a b : Int} (h0 : 0 < b) : -(if a < 0 then -a else a) ≤ a.tdiv b ∧ a.tdiv b ≤ (if a < 0 then -a else a) := by
  have key : ∀ c : Int, 0 ≤ c → 0 ≤ c.tdiv b ∧ c.tdiv b ≤ c := fun c hc => by
    rw [Int.tdiv_eq_ediv_of_nonneg hc]
    exact ⟨Int.ediv_nonneg hc (Int.le_of_lt h0), Int.ediv_le_self b hc⟩
  by_cases ha : a < 0
  · have h := key (-a) (by omega)
    rw [Int.neg_tdiv] at h
    rw [if_pos ha]
    omega
  · have h := key a (by omega)
    rw [if_neg ha]
    omega
theorem sx_divR {a b : Int} (ha : sx_R a) (h0 : 0 < b) (hm : -2147483648 < a) : sx_R (a.tdiv b) := by
  have h := sx_tdiv (a := a) h0
  have h1 := ha.1
  have h2 := ha.2
  by_cases hn : a < 0
  · rw [if_pos hn] at h
    exact ⟨by omega, by omega⟩
  · rw [if_neg hn] at h
    exact ⟨by omega, by omega⟩
theorem sx_ne1 {b : Int} (hb : sx_R b) (h0 : 0 < b) : sx_i b ≠ -1 := by
  intro h
  have h1 := congrArg Int32.toInt h
  rw [sx_toInt hb] at h1
  have h2 : (-1 : Int32).toInt = -1 := by decide
  rw [h2] at h1
  omega
theorem sx_nz {b : Int} (hb : sx_R b) (h0 : 0 < b) : ¬ sx_i b = 0 := by
  rw [← sx_0, sx_eq hb ⟨by omega, by omega⟩]
  omega
theorem sx_div {a b : Int} (ha : sx_R a) (hb : sx_R b) (h0 : 0 < b) (hm : -2147483648 < a) : sx_i a / sx_i b = sx_i (a.tdiv b) := by
  rw [← Int32.toInt_inj, Int32.toInt_div_of_ne_right _ _ (sx_ne1 hb h0), sx_toInt ha, sx_toInt hb, sx_toInt (sx_divR ha h0 hm)]
theorem sx_rem {a b : Int} (ha : sx_R a) (hb : sx_R b) (h0 : 0 < b) (hm : -2147483648 < a) : sx_i a - sx_i a / sx_i b * sx_i b = sx_i (a.tmod b) := by
  rw [sx_div ha hb h0 hm, sx_mul, sx_sub, Int.tmod_def, Int.mul_comm]
def sx_xor (a b : Int) : Int := (sx_i a ^^^ sx_i b).toInt
def sx_and (a b : Int) : Int := (sx_i a &&& sx_i b).toInt
theorem sx_in {j : Int} {n : Nat} (hn : n < 2147483648) (h : 0 ≤ j ∧ j < n) : vp_in (sx_i j) n ∧ (sx_i j).toNatClampNeg = j.toNat ∧ ((j.toNat : Nat) : Int) = j := by
  have hr : sx_R j := ⟨by omega, by omega⟩
  refine ⟨vp_in_iff.mpr (by rw [sx_toInt hr]; exact h), ?_, by omega⟩
  show (Int32.ofInt j).toNatClampNeg = j.toNat
  exact Int32.toNatClampNeg_ofInt_of_le (by omega) (by omega)
/-- what lcmp says -/
def sx_cmp (a b : Int) : Int := if b < a then 1 else if a = b then 0 else -1
theorem sx_jT {a : Int} (h : sx_R a) : (sx_j a).toInt = a := Int64.toInt_ofInt_of_le (by have := h.1; omega) (by have := h.2; omega)
theorem sx_lcmp {a b : Int} (ha : sx_R a) (hb : sx_R b) : lg_cmp (sx_j a) (sx_j b) = sx_i (sx_cmp a b) := by
  unfold lg_cmp sx_cmp
  have h1 : (sx_j a > sx_j b) ↔ b < a := by
    show sx_j b < sx_j a ↔ b < a
    rw [Int64.lt_iff_toInt_lt, sx_jT ha, sx_jT hb]
  have h2 : (sx_j a = sx_j b) ↔ a = b := by rw [← Int64.toInt_inj, sx_jT ha, sx_jT hb]
  by_cases c1 : b < a
  · rw [if_pos (h1.mpr c1), if_pos c1]; rfl
  · rw [if_neg (fun q => c1 (h1.mp q)), if_neg c1]
    by_cases c2 : a = b
    · rw [if_pos (h2.mpr c2), if_pos c2]; rfl
    · rw [if_neg (fun q => c2 (h2.mp q)), if_neg c2]; rfl
theorem sx_i2l {a : Int} (h : sx_R a) : (sx_i a).toInt64 = sx_j a := by
  rw [← Int64.toInt_inj, Int32.toInt_toInt64, sx_toInt h, sx_jT h]
end SXN
section SXW
abbrev sx_M : Type := Nat → Int → Int
def sx_up (μ : sx_M) (c : Nat) (k v : Int) : sx_M := fun c' k' => if c' = c ∧ k' = k then v else μ c' k'
/-- a cell's layout: an object (its class's number; a field: a reference to a cell, or an int), an array of ints, of longs -/
abbrev sx_L : Type := (Nat × List (Option Nat)) ⊕ (Nat ⊕ Nat)
def sx_fv (ad : Nat → Nat) (f : Int → Int) (q : Option Nat × Nat) : Value := match q.1 with
  | some j => .ref (ad j)
  | none => .int (sx_i (f (q.2 : Nat)))
def sx_e (cI cJ : ClassId) (ad : Nat → Nat) (f : Int → Int) (d : sx_L) : va_E := match d with
  | .inl o => .inr (o.1, o.2.zipIdx.map (sx_fv ad f))
  | .inr (.inl n) => .inl (cI, n, .inl (fun i => sx_i (f (i : Nat))))
  | .inr (.inr n) => .inl (cJ, n, .inr (.inl (fun i => sx_j (f (i : Nat)))))
def sx_W (lay : List sx_L) (cI cJ : ClassId) (ad : Nat → Nat) (μ : sx_M) : va_W := lay.zipIdx.map (fun q => (ad q.2, sx_e cI cJ ad (μ q.2) q.1))
variable {lay : List sx_L} {cI cJ : ClassId} {ad : Nat → Nat} {μ : sx_M}
theorem sx_get (i : Nat) : (sx_W lay cI cJ ad μ)[i]? = (lay[i]?).map (fun d => (ad i, sx_e cI cJ ad (μ i) d)) := by
  unfold sx_W
  rw [List.getElem?_map, List.getElem?_zipIdx]
  cases lay[i]? with
  | none => rfl
  | some d => simp
theorem sx_at {c : Nat} {d : sx_L} (h : lay[c]? = some d) : (sx_W lay cI cJ ad μ)[c]? = some (ad c, sx_e cI cJ ad (μ c) d) := by
  rw [sx_get, h]; rfl
theorem sx_up_ne {c i : Nat} (k v : Int) (h : i ≠ c) : sx_up μ c k v i = μ i := by
  funext k'
  simp [sx_up, h]
theorem sx_set {c : Nat} {d : sx_L} {e : va_E} {k v : Int} (h : lay[c]? = some d) (he : sx_e cI cJ ad (sx_up μ c k v c) d = e) : (sx_W lay cI cJ ad μ).set c (ad c, e) = sx_W lay cI cJ ad (sx_up μ c k v) := by
  apply List.ext_getElem?
  intro i
  by_cases hi : i = c
  · subst hi
    rw [List.getElem?_set_self (by have := (List.getElem?_eq_some_iff.mp (sx_at (cI := cI) (cJ := cJ) (ad := ad) (μ := μ) h)).1; exact this), sx_at h, he]
  · rw [List.getElem?_set_ne (Ne.symm hi), sx_get, sx_get, sx_up_ne k v hi]
theorem sx_setF {fl : List (Option Nat)} {ad : Nat → Nat} {f : Int → Int} {k : Nat} {v : Int} (h : fl[k]? = some none) : fl.zipIdx.map (sx_fv ad (fun q => if q = (k : Int) then v else f q)) = (fl.zipIdx.map (sx_fv ad f)).set k (.int (sx_i v)) := by
  apply List.ext_getElem?
  intro i
  by_cases hi : i = k
  · subst hi
    rw [List.getElem?_set_self (by rw [List.length_map, List.length_zipIdx]; exact (List.getElem?_eq_some_iff.mp h).1), List.getElem?_map, List.getElem?_zipIdx, h]
    simp [sx_fv]
  · rw [List.getElem?_set_ne (Ne.symm hi), List.getElem?_map, List.getElem?_map, List.getElem?_zipIdx]
    cases fl[i]? with
    | none => rfl
    | some o =>
      cases o with
      | some j => simp [sx_fv]
      | none =>
        have hne : ¬ ((i : Nat) : Int) = (k : Int) := by omega
        simp [sx_fv, hne]
theorem sx_up_self {c : Nat} (k v : Int) : sx_up μ c k v c = fun q => if q = k then v else μ c q := by
  funext q
  simp [sx_up]
theorem sx_putI {c ci k : Nat} {fl : List (Option Nat)} {v : Int} (h : lay[c]? = some (.inl (ci, fl))) (hk : fl[k]? = some none) : (sx_W lay cI cJ ad μ).set c (ad c, .inr (ci, (fl.zipIdx.map (sx_fv ad (μ c))).set k (.int (sx_i v)))) = sx_W lay cI cJ ad (sx_up μ c (k : Int) v) :=
  sx_set h (by rw [sx_up_self]; show Sum.inr (ci, _) = _; rw [sx_setF hk])
theorem sx_putA {c n : Nat} {j v : Int} (h : lay[c]? = some (.inr (.inl n))) (hj : 0 ≤ j) : (sx_W lay cI cJ ad μ).set c (ad c, .inl (cI, n, .inl (upd (fun i => sx_i (μ c (i : Nat))) j.toNat (sx_i v)))) = sx_W lay cI cJ ad (sx_up μ c j v) :=
  sx_set h (by
    rw [sx_up_self]
    show Sum.inl (cI, n, Sum.inl _) = _
    congr 4
    funext i
    by_cases hi : i = j.toNat
    · subst hi
      have : ((j.toNat : Nat) : Int) = j := by omega
      simp [upd, this]
    · have : ¬ ((i : Nat) : Int) = j := by omega
      simp [upd, this, hi])
theorem sx_putL {c n : Nat} {j v : Int} (h : lay[c]? = some (.inr (.inr n))) (hj : 0 ≤ j) : (sx_W lay cI cJ ad μ).set c (ad c, .inl (cJ, n, .inr (.inl (vp_updL (fun i => sx_j (μ c (i : Nat))) j.toNat (sx_j v))))) = sx_W lay cI cJ ad (sx_up μ c j v) :=
  sx_set h (by
    rw [sx_up_self]
    show Sum.inl (cJ, n, Sum.inr (Sum.inl _)) = _
    congr 5
    funext i
    by_cases hi : i = j.toNat
    · subst hi
      have : ((j.toNat : Nat) : Int) = j := by omega
      simp [vp_updL, this]
    · have : ¬ ((i : Nat) : Int) = j := by omega
      simp [vp_updL, this, hi])
/-- the cells are apart -/
def sx_J (lay : List sx_L) (ad : Nat → Nat) : Prop := ∀ i j : Nat, i < lay.length → j < lay.length → ad i = ad j → i = j
/-- the addresses that a method may change: its world's, and all that come -/
def sx_A (lay : List sx_L) (ad : Nat → Nat) (sz : Nat) : Nat → Prop := fun q => (∃ i, i < lay.length ∧ q = ad i) ∨ sz ≤ q
theorem sx_len {i : Nat} {q : Nat × va_E} (h : (sx_W lay cI cJ ad μ)[i]? = some q) : i < lay.length ∧ q.1 = ad i := by
  rw [sx_get] at h
  cases hl : lay[i]? with
  | none => rw [hl] at h; cases h
  | some d =>
    rw [hl] at h
    cases h
    exact ⟨(List.getElem?_eq_some_iff.mp hl).1, rfl⟩
theorem sx_D {A : Nat → Prop} (hJ : sx_J lay ad) (hA : ∀ i, i < lay.length → A (ad i)) (μ : sx_M) : va_D A (sx_W lay cI cJ ad μ) := by
  refine ⟨fun i j p q hi hj hpq => ?_, fun k q hk => ?_⟩
  · obtain ⟨h1, h2⟩ := sx_len hi
    obtain ⟨h3, h4⟩ := sx_len hj
    exact hJ i j h1 h3 (h2.symm.trans (hpq.trans h4))
  · obtain ⟨h1, h2⟩ := sx_len hk
    rw [h2]
    exact hA k h1
end SXW
end
section
section SXV
/-- what a method's walk stands on -/
def sx_C (lay : List sx_L) (cl : List vw_C) (D : va_G) (cI cJ : ClassId) (ad : Nat → Nat) (A : Nat → Prop) (nL : Nat) (own : String) (cc : ByteArray) (Ts : List Cond) (p : Program) (s : State) (m : MethodId) (args : Array Value) (c : Code) : Prop :=
  p.tables.exec = Jvm.exec ∧ c.code = cc ∧ c.maxLocals = nL ∧ s.vm.findClass own = some m.cls ∧ (∀ w ∈ Ts, w.before args s = true) ∧ va_K D cl [(cI, .int), (cJ, .long)] s ∧ (∀ q : Nat, s.heap.size ≤ q → A q) ∧ sx_J lay ad ∧ ∀ i, i < lay.length → A (ad i)
/-- from pc, with these locals, this stack, this memory, the walk comes to Q -/
def sx_V (lay : List sx_L) (cl : List vw_C) (D : va_G) (cI cJ : ClassId) (ad : Nat → Nat) (A : Nat → Prop) (nL : Nat) (p : Program) (l : Launch) (e : Env) (R : Room) (s : State) (m : MethodId) (args : Array Value) (below : List Frame) (meth : Method) (c : Code) (Q : State → Prop) (cells slots : Nat) (μ : sx_M) (pc : Nat) (lv : List (Nat × Value)) (st : List Value) : Prop :=
  ∀ (H : Heap) (locs : List Loc) (ls : Array Slot), va_P D cl (sx_W lay cI cJ ad μ) H → va_S A s.heap H locs → lv_has ls nL lv → W p l e R s m args below meth c H locs cells slots Q (F0 m pc ls st)
variable {lay : List sx_L} {cl : List vw_C} {D : va_G} {cI cJ : ClassId} {ad : Nat → Nat} {A : Nat → Prop} {nL : Nat} {own : String} {cc : ByteArray} {Ts : List Cond} {p : Program} {l : Launch} {e : Env} {R : Room} {s : State} {m : MethodId} {args : Array Value} {below : List Frame} {meth : Method} {c : Code} {Q : State → Prop} {cells slots : Nat} {μ : sx_M} {pc : Nat} {lv : List (Nat × Value)} {st : List Value}

theorem sx_iconst (C : sx_C lay cl D cI cJ ad A nL own cc Ts p s m args c) {n v : Int} (hd : decode cc pc = .ok (.iconst n, 1)) (hv : n = v) (k : sx_V lay cl D cI cJ ad A nL p l e R s m args below meth c Q cells slots μ (pc + 1) lv (.int (sx_i v) :: st)) : sx_V lay cl D cI cJ ad A nL p l e R s m args below meth c Q cells slots μ (pc) lv (st) := by
  intro H locs ls hP hS hl
  subst hv
  exact lv_iconst C.1 C.2.1 hd rfl (k H locs ls hP hS hl)

theorem sx_bipush (C : sx_C lay cl D cI cJ ad A nL own cc Ts p s m args c) {n v : Int} (hd : decode cc pc = .ok (.bipush n, 2)) (hv : (Int8.ofInt n).toInt32 = sx_i v) (k : sx_V lay cl D cI cJ ad A nL p l e R s m args below meth c Q cells slots μ (pc + 2) lv (.int (sx_i v) :: st)) : sx_V lay cl D cI cJ ad A nL p l e R s m args below meth c Q cells slots μ (pc) lv (st) := by
  intro H locs ls hP hS hl
  exact lv_bipush C.1 C.2.1 hd hv (k H locs ls hP hS hl)

theorem sx_sipush (C : sx_C lay cl D cI cJ ad A nL own cc Ts p s m args c) {n v : Int} (hd : decode cc pc = .ok (.sipush n, 3)) (hv : (Int16.ofInt n).toInt32 = sx_i v) (k : sx_V lay cl D cI cJ ad A nL p l e R s m args below meth c Q cells slots μ (pc + 3) lv (.int (sx_i v) :: st)) : sx_V lay cl D cI cJ ad A nL p l e R s m args below meth c Q cells slots μ (pc) lv (st) := by
  intro H locs ls hP hS hl
  exact lv_sipush C.1 C.2.1 hd hv (k H locs ls hP hS hl)

theorem sx_ldc (C : sx_C lay cl D cI cJ ad A nL own cc Ts p s m args c) {index : Nat} {v : Int} (hd : decode cc pc = .ok (.ldc index, 2)) (hw : Jvm.Cond.constant own index (sx_i v) ∈ Ts) (k : sx_V lay cl D cI cJ ad A nL p l e R s m args below meth c Q cells slots μ (pc + 2) lv (.int (sx_i v) :: st)) : sx_V lay cl D cI cJ ad A nL p l e R s m args below meth c Q cells slots μ (pc) lv (st) := by
  intro H locs ls hP hS hl
  exact lv_ldc C.1 C.2.1 C.2.2.2.1 (C.2.2.2.2.1 _ hw) hd (k H locs ls hP hS hl)

theorem sx_lconst (C : sx_C lay cl D cI cJ ad A nL own cc Ts p s m args c) {n : Fin 2} {v : Int} (hd : decode cc pc = .ok (.lconst n, 1)) (hv : Int64.ofNat (n : Nat) = sx_j v) (k : sx_V lay cl D cI cJ ad A nL p l e R s m args below meth c Q cells slots μ (pc + 1) lv (.long (sx_j v) :: st)) : sx_V lay cl D cI cJ ad A nL p l e R s m args below meth c Q cells slots μ (pc) lv (st) := by
  intro H locs ls hP hS hl
  exact lv_lconst C.1 C.2.1 hd hv (k H locs ls hP hS hl)

theorem sx_iload_n (C : sx_C lay cl D cI cJ ad A nL own cc Ts p s m args c) {q : Fin 4} {i : Nat} {x : Int} (n : Nat) (hd : decode cc pc = .ok (.iload_n q, 1)) (hi : (q : Nat) = i) (hv : lv[n]? = some (i, .int (sx_i x))) (k : sx_V lay cl D cI cJ ad A nL p l e R s m args below meth c Q cells slots μ (pc + 1) lv (.int (sx_i x) :: st)) : sx_V lay cl D cI cJ ad A nL p l e R s m args below meth c Q cells slots μ (pc) lv (st) := by
  intro H locs ls hP hS hl
  exact lv_iload_n C.1 C.2.1 hd hi (lv_at hl n hv) (k H locs ls hP hS hl)

theorem sx_iload (C : sx_C lay cl D cI cJ ad A nL own cc Ts p s m args c) {i : Nat} {x : Int} (n : Nat) (hd : decode cc pc = .ok (.iload i, 2)) (hv : lv[n]? = some (i, .int (sx_i x))) (k : sx_V lay cl D cI cJ ad A nL p l e R s m args below meth c Q cells slots μ (pc + 2) lv (.int (sx_i x) :: st)) : sx_V lay cl D cI cJ ad A nL p l e R s m args below meth c Q cells slots μ (pc) lv (st) := by
  intro H locs ls hP hS hl
  exact lv_iload C.1 C.2.1 hd (lv_at hl n hv) (k H locs ls hP hS hl)

theorem sx_aload_n (C : sx_C lay cl D cI cJ ad A nL own cc Ts p s m args c) {q : Fin 4} {i a : Nat} (n : Nat) (hd : decode cc pc = .ok (.aload_n q, 1)) (hi : (q : Nat) = i) (hv : lv[n]? = some (i, .ref a)) (k : sx_V lay cl D cI cJ ad A nL p l e R s m args below meth c Q cells slots μ (pc + 1) lv (.ref a :: st)) : sx_V lay cl D cI cJ ad A nL p l e R s m args below meth c Q cells slots μ (pc) lv (st) := by
  intro H locs ls hP hS hl
  exact lv_aload_n C.1 C.2.1 hd hi (lv_at hl n hv) (k H locs ls hP hS hl)

theorem sx_aload (C : sx_C lay cl D cI cJ ad A nL own cc Ts p s m args c) {i a : Nat} (n : Nat) (hd : decode cc pc = .ok (.aload i, 2)) (hv : lv[n]? = some (i, .ref a)) (k : sx_V lay cl D cI cJ ad A nL p l e R s m args below meth c Q cells slots μ (pc + 2) lv (.ref a :: st)) : sx_V lay cl D cI cJ ad A nL p l e R s m args below meth c Q cells slots μ (pc) lv (st) := by
  intro H locs ls hP hS hl
  exact lv_aload C.1 C.2.1 hd (lv_at hl n hv) (k H locs ls hP hS hl)

theorem sx_istore_n (C : sx_C lay cl D cI cJ ad A nL own cc Ts p s m args c) {q : Fin 4} {i : Nat} {x : Int} {lu : List (Nat × Value)} (hd : decode cc pc = .ok (.istore_n q, 1)) (hi : (q : Nat) = i) (hn : i < nL) (hv : (i, Value.int (sx_i x)) :: lv.filter (fun q => !(q.1 == i) && !(q.1 + 1 == i && q.2.category == 2)) = lu) (k : sx_V lay cl D cI cJ ad A nL p l e R s m args below meth c Q cells slots μ (pc + 1) lu (st)) : sx_V lay cl D cI cJ ad A nL p l e R s m args below meth c Q cells slots μ (pc) lv (.int (sx_i x) :: st) := by
  intro H locs ls hP hS hl
  exact lv_istore_n C.1 C.2.1 hd hi hl hn hv (fun ls' hl' => k H locs ls' hP hS hl')

theorem sx_istore (C : sx_C lay cl D cI cJ ad A nL own cc Ts p s m args c) {i : Nat} {x : Int} {lu : List (Nat × Value)} (hd : decode cc pc = .ok (.istore i, 2)) (hn : i < nL) (hv : (i, Value.int (sx_i x)) :: lv.filter (fun q => !(q.1 == i) && !(q.1 + 1 == i && q.2.category == 2)) = lu) (k : sx_V lay cl D cI cJ ad A nL p l e R s m args below meth c Q cells slots μ (pc + 2) lu (st)) : sx_V lay cl D cI cJ ad A nL p l e R s m args below meth c Q cells slots μ (pc) lv (.int (sx_i x) :: st) := by
  intro H locs ls hP hS hl
  exact lv_istore C.1 C.2.1 hd hl hn hv (fun ls' hl' => k H locs ls' hP hS hl')

theorem sx_astore_n (C : sx_C lay cl D cI cJ ad A nL own cc Ts p s m args c) {q : Fin 4} {i a : Nat} {lu : List (Nat × Value)} (hd : decode cc pc = .ok (.astore_n q, 1)) (hi : (q : Nat) = i) (hn : i < nL) (hv : (i, Value.ref a) :: lv.filter (fun q => !(q.1 == i) && !(q.1 + 1 == i && q.2.category == 2)) = lu) (k : sx_V lay cl D cI cJ ad A nL p l e R s m args below meth c Q cells slots μ (pc + 1) lu (st)) : sx_V lay cl D cI cJ ad A nL p l e R s m args below meth c Q cells slots μ (pc) lv (.ref a :: st) := by
  intro H locs ls hP hS hl
  exact lv_astore_n C.1 C.2.1 hd hi hl hn hv (fun ls' hl' => k H locs ls' hP hS hl')

theorem sx_astore (C : sx_C lay cl D cI cJ ad A nL own cc Ts p s m args c) {i a : Nat} {lu : List (Nat × Value)} (hd : decode cc pc = .ok (.astore i, 2)) (hn : i < nL) (hv : (i, Value.ref a) :: lv.filter (fun q => !(q.1 == i) && !(q.1 + 1 == i && q.2.category == 2)) = lu) (k : sx_V lay cl D cI cJ ad A nL p l e R s m args below meth c Q cells slots μ (pc + 2) lu (st)) : sx_V lay cl D cI cJ ad A nL p l e R s m args below meth c Q cells slots μ (pc) lv (.ref a :: st) := by
  intro H locs ls hP hS hl
  exact lv_astore C.1 C.2.1 hd hl hn hv (fun ls' hl' => k H locs ls' hP hS hl')

theorem sx_iinc (C : sx_C lay cl D cI cJ ad A nL own cc Ts p s m args c) {i : Nat} {n x : Int} {lu : List (Nat × Value)} (q : Nat) (hd : decode cc pc = .ok (.iinc i n, 3)) (hx : lv[q]? = some (i, .int (sx_i x))) (hn : i < nL) (hv : (i, Value.int (sx_i (x + n))) :: lv.filter (fun q => !(q.1 == i) && !(q.1 + 1 == i && q.2.category == 2)) = lu) (k : sx_V lay cl D cI cJ ad A nL p l e R s m args below meth c Q cells slots μ (pc + 3) lu (st)) : sx_V lay cl D cI cJ ad A nL p l e R s m args below meth c Q cells slots μ (pc) lv (st) := by
  intro H locs ls hP hS hl
  exact lv_iinc C.1 C.2.1 hd hl hx (sx_add x n) hn hv (fun ls' hl' => k H locs ls' hP hS hl')

theorem sx_less (C : sx_C lay cl D cI cJ ad A nL own cc Ts p s m args c) {lu : List (Nat × Value)} (ks : List Nat) (hv : lv_pick lv ks = lu) (k : sx_V lay cl D cI cJ ad A nL p l e R s m args below meth c Q cells slots μ (pc) lu (st)) : sx_V lay cl D cI cJ ad A nL p l e R s m args below meth c Q cells slots μ (pc) lv (st) := by
  intro H locs ls hP hS hl
  exact k H locs ls hP hS (lv_sub hl ks hv)

theorem sx_wide (C : sx_C lay cl D cI cJ ad A nL own cc Ts p s m args c) {cells2 slots2 : Nat} (h1 : cells ≤ cells2) (h2 : slots ≤ slots2) (k : sx_V lay cl D cI cJ ad A nL p l e R s m args below meth c Q cells2 slots2 μ (pc) lv (st)) : sx_V lay cl D cI cJ ad A nL p l e R s m args below meth c Q cells slots μ (pc) lv (st) := by
  intro H locs ls hP hS hl
  exact W.widen h1 h2 (k H locs ls hP hS hl)

theorem sx_iadd (C : sx_C lay cl D cI cJ ad A nL own cc Ts p s m args c) {x y : Int} (hd : decode cc pc = .ok (.iadd, 1)) (k : sx_V lay cl D cI cJ ad A nL p l e R s m args below meth c Q cells slots μ (pc + 1) lv (.int (sx_i (x + y)) :: st)) : sx_V lay cl D cI cJ ad A nL p l e R s m args below meth c Q cells slots μ (pc) lv (.int (sx_i y) :: .int (sx_i x) :: st) := by
  intro H locs ls hP hS hl
  refine lv_iadd C.1 C.2.1 hd ?_
  rw [sx_add]
  exact k H locs ls hP hS hl

theorem sx_isub (C : sx_C lay cl D cI cJ ad A nL own cc Ts p s m args c) {x y : Int} (hd : decode cc pc = .ok (.isub, 1)) (k : sx_V lay cl D cI cJ ad A nL p l e R s m args below meth c Q cells slots μ (pc + 1) lv (.int (sx_i (x - y)) :: st)) : sx_V lay cl D cI cJ ad A nL p l e R s m args below meth c Q cells slots μ (pc) lv (.int (sx_i y) :: .int (sx_i x) :: st) := by
  intro H locs ls hP hS hl
  refine lv_isub C.1 C.2.1 hd ?_
  rw [sx_sub]
  exact k H locs ls hP hS hl

theorem sx_imul (C : sx_C lay cl D cI cJ ad A nL own cc Ts p s m args c) {x y : Int} (hd : decode cc pc = .ok (.imul, 1)) (k : sx_V lay cl D cI cJ ad A nL p l e R s m args below meth c Q cells slots μ (pc + 1) lv (.int (sx_i (x * y)) :: st)) : sx_V lay cl D cI cJ ad A nL p l e R s m args below meth c Q cells slots μ (pc) lv (.int (sx_i y) :: .int (sx_i x) :: st) := by
  intro H locs ls hP hS hl
  refine lv_imul C.1 C.2.1 hd ?_
  rw [sx_mul]
  exact k H locs ls hP hS hl

theorem sx_ineg (C : sx_C lay cl D cI cJ ad A nL own cc Ts p s m args c) {x : Int} (hd : decode cc pc = .ok (.ineg, 1)) (k : sx_V lay cl D cI cJ ad A nL p l e R s m args below meth c Q cells slots μ (pc + 1) lv (.int (sx_i (-x)) :: st)) : sx_V lay cl D cI cJ ad A nL p l e R s m args below meth c Q cells slots μ (pc) lv (.int (sx_i x) :: st) := by
  intro H locs ls hP hS hl
  refine lv_ineg C.1 C.2.1 hd ?_
  rw [sx_neg]
  exact k H locs ls hP hS hl

theorem sx_ixor (C : sx_C lay cl D cI cJ ad A nL own cc Ts p s m args c) {x y : Int} (hd : decode cc pc = .ok (.ixor, 1)) (k : sx_V lay cl D cI cJ ad A nL p l e R s m args below meth c Q cells slots μ (pc + 1) lv (.int (sx_i (sx_xor x y)) :: st)) : sx_V lay cl D cI cJ ad A nL p l e R s m args below meth c Q cells slots μ (pc) lv (.int (sx_i y) :: .int (sx_i x) :: st) := by
  intro H locs ls hP hS hl
  refine lv_ixor C.1 C.2.1 hd ?_
  rw [← sx_of (sx_i x ^^^ sx_i y)]
  exact k H locs ls hP hS hl

theorem sx_iand (C : sx_C lay cl D cI cJ ad A nL own cc Ts p s m args c) {x y : Int} (hd : decode cc pc = .ok (.iand, 1)) (k : sx_V lay cl D cI cJ ad A nL p l e R s m args below meth c Q cells slots μ (pc + 1) lv (.int (sx_i (sx_and x y)) :: st)) : sx_V lay cl D cI cJ ad A nL p l e R s m args below meth c Q cells slots μ (pc) lv (.int (sx_i y) :: .int (sx_i x) :: st) := by
  intro H locs ls hP hS hl
  refine lv_iand C.1 C.2.1 hd ?_
  rw [← sx_of (sx_i x &&& sx_i y)]
  exact k H locs ls hP hS hl

theorem sx_idiv (C : sx_C lay cl D cI cJ ad A nL own cc Ts p s m args c) {x y : Int} {B : Prop} (hd : decode cc pc = .ok (.idiv, 1)) (h : (sx_R x ∧ sx_R y ∧ 0 < y ∧ -2147483648 < x) ∧ B) (k : B → sx_V lay cl D cI cJ ad A nL p l e R s m args below meth c Q cells slots μ (pc + 1) lv (.int (sx_i (x.tdiv y)) :: st)) : sx_V lay cl D cI cJ ad A nL p l e R s m args below meth c Q cells slots μ (pc) lv (.int (sx_i y) :: .int (sx_i x) :: st) := by
  intro H locs ls hP hS hl
  obtain ⟨⟨h1, h2, h3, h4⟩, hB⟩ := h
  refine lv_idiv C.1 C.2.1 hd (sx_nz h2 h3) ?_
  rw [sx_div h1 h2 h3 h4]
  exact k hB H locs ls hP hS hl

theorem sx_irem (C : sx_C lay cl D cI cJ ad A nL own cc Ts p s m args c) {x y : Int} {B : Prop} (hd : decode cc pc = .ok (.irem, 1)) (h : (sx_R x ∧ sx_R y ∧ 0 < y ∧ -2147483648 < x) ∧ B) (k : B → sx_V lay cl D cI cJ ad A nL p l e R s m args below meth c Q cells slots μ (pc + 1) lv (.int (sx_i (x.tmod y)) :: st)) : sx_V lay cl D cI cJ ad A nL p l e R s m args below meth c Q cells slots μ (pc) lv (.int (sx_i y) :: .int (sx_i x) :: st) := by
  intro H locs ls hP hS hl
  obtain ⟨⟨h1, h2, h3, h4⟩, hB⟩ := h
  refine lv_irem C.1 C.2.1 hd (sx_nz h2 h3) ?_
  rw [sx_rem h1 h2 h3 h4]
  exact k hB H locs ls hP hS hl

theorem sx_toL (C : sx_C lay cl D cI cJ ad A nL own cc Ts p s m args c) {x : Int} {B : Prop} (hd : decode cc pc = .ok (.i2l, 1)) (h : sx_R x ∧ B) (k : B → sx_V lay cl D cI cJ ad A nL p l e R s m args below meth c Q cells slots μ (pc + 1) lv (.long (sx_j x) :: st)) : sx_V lay cl D cI cJ ad A nL p l e R s m args below meth c Q cells slots μ (pc) lv (.int (sx_i x) :: st) := by
  intro H locs ls hP hS hl
  exact lv_i2l C.1 C.2.1 hd (sx_i2l h.1) (k h.2 H locs ls hP hS hl)

theorem sx_cmpL (C : sx_C lay cl D cI cJ ad A nL own cc Ts p s m args c) {x y : Int} {B : Prop} (hd : decode cc pc = .ok (.lcmp, 1)) (h : (sx_R x ∧ sx_R y) ∧ B) (k : B → sx_V lay cl D cI cJ ad A nL p l e R s m args below meth c Q cells slots μ (pc + 1) lv (.int (sx_i (sx_cmp x y)) :: st)) : sx_V lay cl D cI cJ ad A nL p l e R s m args below meth c Q cells slots μ (pc) lv (.long (sx_j y) :: .long (sx_j x) :: st) := by
  intro H locs ls hP hS hl
  refine W.lcmp C.1 C.2.1 hd ?_
  rw [sx_lcmp h.1.1 h.1.2]
  exact k h.2 H locs ls hP hS hl

theorem sx_dup (C : sx_C lay cl D cI cJ ad A nL own cc Ts p s m args c) {v : Value} (hd : decode cc pc = .ok (.dup, 1)) (hc : v.category = 1) (k : sx_V lay cl D cI cJ ad A nL p l e R s m args below meth c Q cells slots μ (pc + 1) lv (v :: v :: st)) : sx_V lay cl D cI cJ ad A nL p l e R s m args below meth c Q cells slots μ (pc) lv (v :: st) := by
  intro H locs ls hP hS hl
  exact lv_dup C.1 C.2.1 hd hc (k H locs ls hP hS hl)

theorem sx_dup_x1 (C : sx_C lay cl D cI cJ ad A nL own cc Ts p s m args c) {v w : Value} (hd : decode cc pc = .ok (.dup_x1, 1)) (hc : v.category = 1) (hw : w.category = 1) (k : sx_V lay cl D cI cJ ad A nL p l e R s m args below meth c Q cells slots μ (pc + 1) lv (v :: w :: v :: st)) : sx_V lay cl D cI cJ ad A nL p l e R s m args below meth c Q cells slots μ (pc) lv (v :: w :: st) := by
  intro H locs ls hP hS hl
  exact lv_dup_x1 C.1 C.2.1 hd hc hw (k H locs ls hP hS hl)

theorem sx_dup2 (C : sx_C lay cl D cI cJ ad A nL own cc Ts p s m args c) {v w : Value} (hd : decode cc pc = .ok (.dup2, 1)) (hc : v.category = 1) (hw : w.category = 1) (k : sx_V lay cl D cI cJ ad A nL p l e R s m args below meth c Q cells slots μ (pc + 1) lv (v :: w :: v :: w :: st)) : sx_V lay cl D cI cJ ad A nL p l e R s m args below meth c Q cells slots μ (pc) lv (v :: w :: st) := by
  intro H locs ls hP hS hl
  exact lv_dup2_11 C.1 C.2.1 hd hc hw (k H locs ls hP hS hl)

theorem sx_pop (C : sx_C lay cl D cI cJ ad A nL own cc Ts p s m args c) {v : Value} (hd : decode cc pc = .ok (.pop, 1)) (hc : v.category = 1) (k : sx_V lay cl D cI cJ ad A nL p l e R s m args below meth c Q cells slots μ (pc + 1) lv (st)) : sx_V lay cl D cI cJ ad A nL p l e R s m args below meth c Q cells slots μ (pc) lv (v :: st) := by
  intro H locs ls hP hS hl
  exact lv_pop C.1 C.2.1 hd hc (k H locs ls hP hS hl)

theorem sx_goto (C : sx_C lay cl D cI cJ ad A nL own cc Ts p s m args c) {off : Int} {tgt : Nat} (hd : decode cc pc = .ok (.goto off, 3)) (ht : (pc : Int) + off = (tgt : Int)) (k : sx_V lay cl D cI cJ ad A nL p l e R s m args below meth c Q cells slots μ (tgt) lv (st)) : sx_V lay cl D cI cJ ad A nL p l e R s m args below meth c Q cells slots μ (pc) lv (st) := by
  intro H locs ls hP hS hl
  exact lv_goto C.1 C.2.1 hd ht (k H locs ls hP hS hl)

theorem sx_icmp_eq (C : sx_C lay cl D cI cJ ad A nL own cc Ts p s m args c) {x y off : Int} {tgt : Nat} {A0 B0 : Prop} (hd : decode cc pc = .ok (.if_icmp .eq off, 3)) (ht : (pc : Int) + off = (tgt : Int)) (h : (sx_R x ∧ sx_R y) ∧ (x = y → A0) ∧ (¬ x = y → B0)) (kt : A0 → sx_V lay cl D cI cJ ad A nL p l e R s m args below meth c Q cells slots μ (tgt) lv (st)) (kf : B0 → sx_V lay cl D cI cJ ad A nL p l e R s m args below meth c Q cells slots μ (pc + 3) lv (st)) : sx_V lay cl D cI cJ ad A nL p l e R s m args below meth c Q cells slots μ (pc) lv (.int (sx_i y) :: .int (sx_i x) :: st) := by
  intro H locs ls hP hS hl
  obtain ⟨⟨h1, h2⟩, hA, hB⟩ := h
  exact lv_icmp_eq C.1 C.2.1 hd ht (fun q => kt (hA ((sx_eq h1 h2).mp q)) H locs ls hP hS hl) (fun q => kf (hB (fun z => q ((sx_eq h1 h2).mpr z))) H locs ls hP hS hl)

theorem sx_if_eq (C : sx_C lay cl D cI cJ ad A nL own cc Ts p s m args c) {x off : Int} {tgt : Nat} {A0 B0 : Prop} (hd : decode cc pc = .ok (.ifCond .eq off, 3)) (ht : (pc : Int) + off = (tgt : Int)) (h : sx_R x ∧ (x = 0 → A0) ∧ (¬ x = 0 → B0)) (kt : A0 → sx_V lay cl D cI cJ ad A nL p l e R s m args below meth c Q cells slots μ (tgt) lv (st)) (kf : B0 → sx_V lay cl D cI cJ ad A nL p l e R s m args below meth c Q cells slots μ (pc + 3) lv (st)) : sx_V lay cl D cI cJ ad A nL p l e R s m args below meth c Q cells slots μ (pc) lv (.int (sx_i x) :: st) := by
  intro H locs ls hP hS hl
  obtain ⟨h1, hA, hB⟩ := h
  have h2 : sx_R 0 := ⟨by omega, by omega⟩
  exact lv_if_eq C.1 C.2.1 hd ht (by rw [← sx_0]; exact fun q => kt (hA ((sx_eq h1 h2).mp q)) H locs ls hP hS hl) (by rw [← sx_0]; exact fun q => kf (hB (fun z => q ((sx_eq h1 h2).mpr z))) H locs ls hP hS hl)

theorem sx_icmp_ne (C : sx_C lay cl D cI cJ ad A nL own cc Ts p s m args c) {x y off : Int} {tgt : Nat} {A0 B0 : Prop} (hd : decode cc pc = .ok (.if_icmp .ne off, 3)) (ht : (pc : Int) + off = (tgt : Int)) (h : (sx_R x ∧ sx_R y) ∧ (¬ x = y → A0) ∧ (x = y → B0)) (kt : A0 → sx_V lay cl D cI cJ ad A nL p l e R s m args below meth c Q cells slots μ (tgt) lv (st)) (kf : B0 → sx_V lay cl D cI cJ ad A nL p l e R s m args below meth c Q cells slots μ (pc + 3) lv (st)) : sx_V lay cl D cI cJ ad A nL p l e R s m args below meth c Q cells slots μ (pc) lv (.int (sx_i y) :: .int (sx_i x) :: st) := by
  intro H locs ls hP hS hl
  obtain ⟨⟨h1, h2⟩, hA, hB⟩ := h
  exact lv_icmp_ne C.1 C.2.1 hd ht (fun q => kt (hA (fun z => q ((sx_eq h1 h2).mpr z))) H locs ls hP hS hl) (fun q => kf (hB ((sx_eq h1 h2).mp q)) H locs ls hP hS hl)

theorem sx_if_ne (C : sx_C lay cl D cI cJ ad A nL own cc Ts p s m args c) {x off : Int} {tgt : Nat} {A0 B0 : Prop} (hd : decode cc pc = .ok (.ifCond .ne off, 3)) (ht : (pc : Int) + off = (tgt : Int)) (h : sx_R x ∧ (¬ x = 0 → A0) ∧ (x = 0 → B0)) (kt : A0 → sx_V lay cl D cI cJ ad A nL p l e R s m args below meth c Q cells slots μ (tgt) lv (st)) (kf : B0 → sx_V lay cl D cI cJ ad A nL p l e R s m args below meth c Q cells slots μ (pc + 3) lv (st)) : sx_V lay cl D cI cJ ad A nL p l e R s m args below meth c Q cells slots μ (pc) lv (.int (sx_i x) :: st) := by
  intro H locs ls hP hS hl
  obtain ⟨h1, hA, hB⟩ := h
  have h2 : sx_R 0 := ⟨by omega, by omega⟩
  exact lv_if_ne C.1 C.2.1 hd ht (by rw [← sx_0]; exact fun q => kt (hA (fun z => q ((sx_eq h1 h2).mpr z))) H locs ls hP hS hl) (by rw [← sx_0]; exact fun q => kf (hB ((sx_eq h1 h2).mp q)) H locs ls hP hS hl)

theorem sx_icmp_lt (C : sx_C lay cl D cI cJ ad A nL own cc Ts p s m args c) {x y off : Int} {tgt : Nat} {A0 B0 : Prop} (hd : decode cc pc = .ok (.if_icmp .lt off, 3)) (ht : (pc : Int) + off = (tgt : Int)) (h : (sx_R x ∧ sx_R y) ∧ (x < y → A0) ∧ (y ≤ x → B0)) (kt : A0 → sx_V lay cl D cI cJ ad A nL p l e R s m args below meth c Q cells slots μ (tgt) lv (st)) (kf : B0 → sx_V lay cl D cI cJ ad A nL p l e R s m args below meth c Q cells slots μ (pc + 3) lv (st)) : sx_V lay cl D cI cJ ad A nL p l e R s m args below meth c Q cells slots μ (pc) lv (.int (sx_i y) :: .int (sx_i x) :: st) := by
  intro H locs ls hP hS hl
  obtain ⟨⟨h1, h2⟩, hA, hB⟩ := h
  exact lv_icmp_lt C.1 C.2.1 hd ht (fun q => kt (hA ((sx_lt h1 h2).mp q)) H locs ls hP hS hl) (fun q => kf (hB (by have z := (not_congr (sx_lt h1 h2)).mp q; omega)) H locs ls hP hS hl)

theorem sx_if_lt (C : sx_C lay cl D cI cJ ad A nL own cc Ts p s m args c) {x off : Int} {tgt : Nat} {A0 B0 : Prop} (hd : decode cc pc = .ok (.ifCond .lt off, 3)) (ht : (pc : Int) + off = (tgt : Int)) (h : sx_R x ∧ (x < 0 → A0) ∧ (0 ≤ x → B0)) (kt : A0 → sx_V lay cl D cI cJ ad A nL p l e R s m args below meth c Q cells slots μ (tgt) lv (st)) (kf : B0 → sx_V lay cl D cI cJ ad A nL p l e R s m args below meth c Q cells slots μ (pc + 3) lv (st)) : sx_V lay cl D cI cJ ad A nL p l e R s m args below meth c Q cells slots μ (pc) lv (.int (sx_i x) :: st) := by
  intro H locs ls hP hS hl
  obtain ⟨h1, hA, hB⟩ := h
  have h2 : sx_R 0 := ⟨by omega, by omega⟩
  exact lv_if_lt C.1 C.2.1 hd ht (by rw [← sx_0]; exact fun q => kt (hA ((sx_lt h1 h2).mp q)) H locs ls hP hS hl) (by rw [← sx_0]; exact fun q => kf (hB (by have z := (not_congr (sx_lt h1 h2)).mp q; omega)) H locs ls hP hS hl)

theorem sx_icmp_ge (C : sx_C lay cl D cI cJ ad A nL own cc Ts p s m args c) {x y off : Int} {tgt : Nat} {A0 B0 : Prop} (hd : decode cc pc = .ok (.if_icmp .ge off, 3)) (ht : (pc : Int) + off = (tgt : Int)) (h : (sx_R x ∧ sx_R y) ∧ (y ≤ x → A0) ∧ (x < y → B0)) (kt : A0 → sx_V lay cl D cI cJ ad A nL p l e R s m args below meth c Q cells slots μ (tgt) lv (st)) (kf : B0 → sx_V lay cl D cI cJ ad A nL p l e R s m args below meth c Q cells slots μ (pc + 3) lv (st)) : sx_V lay cl D cI cJ ad A nL p l e R s m args below meth c Q cells slots μ (pc) lv (.int (sx_i y) :: .int (sx_i x) :: st) := by
  intro H locs ls hP hS hl
  obtain ⟨⟨h1, h2⟩, hA, hB⟩ := h
  exact lv_icmp_ge C.1 C.2.1 hd ht (fun q => kt (hA ((sx_le h2 h1).mp q)) H locs ls hP hS hl) (fun q => kf (hB (by have z := (not_congr (sx_le h2 h1)).mp q; omega)) H locs ls hP hS hl)

theorem sx_if_ge (C : sx_C lay cl D cI cJ ad A nL own cc Ts p s m args c) {x off : Int} {tgt : Nat} {A0 B0 : Prop} (hd : decode cc pc = .ok (.ifCond .ge off, 3)) (ht : (pc : Int) + off = (tgt : Int)) (h : sx_R x ∧ (0 ≤ x → A0) ∧ (x < 0 → B0)) (kt : A0 → sx_V lay cl D cI cJ ad A nL p l e R s m args below meth c Q cells slots μ (tgt) lv (st)) (kf : B0 → sx_V lay cl D cI cJ ad A nL p l e R s m args below meth c Q cells slots μ (pc + 3) lv (st)) : sx_V lay cl D cI cJ ad A nL p l e R s m args below meth c Q cells slots μ (pc) lv (.int (sx_i x) :: st) := by
  intro H locs ls hP hS hl
  obtain ⟨h1, hA, hB⟩ := h
  have h2 : sx_R 0 := ⟨by omega, by omega⟩
  exact lv_if_ge C.1 C.2.1 hd ht (by rw [← sx_0]; exact fun q => kt (hA ((sx_le h2 h1).mp q)) H locs ls hP hS hl) (by rw [← sx_0]; exact fun q => kf (hB (by have z := (not_congr (sx_le h2 h1)).mp q; omega)) H locs ls hP hS hl)

theorem sx_icmp_gt (C : sx_C lay cl D cI cJ ad A nL own cc Ts p s m args c) {x y off : Int} {tgt : Nat} {A0 B0 : Prop} (hd : decode cc pc = .ok (.if_icmp .gt off, 3)) (ht : (pc : Int) + off = (tgt : Int)) (h : (sx_R x ∧ sx_R y) ∧ (y < x → A0) ∧ (x ≤ y → B0)) (kt : A0 → sx_V lay cl D cI cJ ad A nL p l e R s m args below meth c Q cells slots μ (tgt) lv (st)) (kf : B0 → sx_V lay cl D cI cJ ad A nL p l e R s m args below meth c Q cells slots μ (pc + 3) lv (st)) : sx_V lay cl D cI cJ ad A nL p l e R s m args below meth c Q cells slots μ (pc) lv (.int (sx_i y) :: .int (sx_i x) :: st) := by
  intro H locs ls hP hS hl
  obtain ⟨⟨h1, h2⟩, hA, hB⟩ := h
  exact lv_icmp_gt C.1 C.2.1 hd ht (fun q => kt (hA ((sx_lt h2 h1).mp q)) H locs ls hP hS hl) (fun q => kf (hB (by have z := (not_congr (sx_lt h2 h1)).mp q; omega)) H locs ls hP hS hl)

theorem sx_if_gt (C : sx_C lay cl D cI cJ ad A nL own cc Ts p s m args c) {x off : Int} {tgt : Nat} {A0 B0 : Prop} (hd : decode cc pc = .ok (.ifCond .gt off, 3)) (ht : (pc : Int) + off = (tgt : Int)) (h : sx_R x ∧ (0 < x → A0) ∧ (x ≤ 0 → B0)) (kt : A0 → sx_V lay cl D cI cJ ad A nL p l e R s m args below meth c Q cells slots μ (tgt) lv (st)) (kf : B0 → sx_V lay cl D cI cJ ad A nL p l e R s m args below meth c Q cells slots μ (pc + 3) lv (st)) : sx_V lay cl D cI cJ ad A nL p l e R s m args below meth c Q cells slots μ (pc) lv (.int (sx_i x) :: st) := by
  intro H locs ls hP hS hl
  obtain ⟨h1, hA, hB⟩ := h
  have h2 : sx_R 0 := ⟨by omega, by omega⟩
  exact lv_if_gt C.1 C.2.1 hd ht (by rw [← sx_0]; exact fun q => kt (hA ((sx_lt h2 h1).mp q)) H locs ls hP hS hl) (by rw [← sx_0]; exact fun q => kf (hB (by have z := (not_congr (sx_lt h2 h1)).mp q; omega)) H locs ls hP hS hl)

theorem sx_icmp_le (C : sx_C lay cl D cI cJ ad A nL own cc Ts p s m args c) {x y off : Int} {tgt : Nat} {A0 B0 : Prop} (hd : decode cc pc = .ok (.if_icmp .le off, 3)) (ht : (pc : Int) + off = (tgt : Int)) (h : (sx_R x ∧ sx_R y) ∧ (x ≤ y → A0) ∧ (y < x → B0)) (kt : A0 → sx_V lay cl D cI cJ ad A nL p l e R s m args below meth c Q cells slots μ (tgt) lv (st)) (kf : B0 → sx_V lay cl D cI cJ ad A nL p l e R s m args below meth c Q cells slots μ (pc + 3) lv (st)) : sx_V lay cl D cI cJ ad A nL p l e R s m args below meth c Q cells slots μ (pc) lv (.int (sx_i y) :: .int (sx_i x) :: st) := by
  intro H locs ls hP hS hl
  obtain ⟨⟨h1, h2⟩, hA, hB⟩ := h
  exact lv_icmp_le C.1 C.2.1 hd ht (fun q => kt (hA ((sx_le h1 h2).mp q)) H locs ls hP hS hl) (fun q => kf (hB (by have z := (not_congr (sx_le h1 h2)).mp q; omega)) H locs ls hP hS hl)

theorem sx_if_le (C : sx_C lay cl D cI cJ ad A nL own cc Ts p s m args c) {x off : Int} {tgt : Nat} {A0 B0 : Prop} (hd : decode cc pc = .ok (.ifCond .le off, 3)) (ht : (pc : Int) + off = (tgt : Int)) (h : sx_R x ∧ (x ≤ 0 → A0) ∧ (0 < x → B0)) (kt : A0 → sx_V lay cl D cI cJ ad A nL p l e R s m args below meth c Q cells slots μ (tgt) lv (st)) (kf : B0 → sx_V lay cl D cI cJ ad A nL p l e R s m args below meth c Q cells slots μ (pc + 3) lv (st)) : sx_V lay cl D cI cJ ad A nL p l e R s m args below meth c Q cells slots μ (pc) lv (.int (sx_i x) :: st) := by
  intro H locs ls hP hS hl
  obtain ⟨h1, hA, hB⟩ := h
  have h2 : sx_R 0 := ⟨by omega, by omega⟩
  exact lv_if_le C.1 C.2.1 hd ht (by rw [← sx_0]; exact fun q => kt (hA ((sx_le h1 h2).mp q)) H locs ls hP hS hl) (by rw [← sx_0]; exact fun q => kf (hB (by have z := (not_congr (sx_le h1 h2)).mp q; omega)) H locs ls hP hS hl)

theorem sx_tableIn (C : sx_C lay cl D cI cJ ad A nL own cc Ts p s m args c) {dflt lo hi off x : Int} {offs : Array Int} {len tgt : Nat} (hd : decode cc pc = .ok (.tableswitch dflt lo hi offs, len)) (hR : sx_R x) (h1 : ¬ x < lo) (h2 : ¬ hi < x) (ho : offs[(x - lo).toNat]? = some off) (ht : (pc : Int) + off = (tgt : Int)) (k : sx_V lay cl D cI cJ ad A nL p l e R s m args below meth c Q cells slots μ (tgt) lv (st)) : sx_V lay cl D cI cJ ad A nL p l e R s m args below meth c Q cells slots μ (pc) lv (.int (sx_i x) :: st) := by
  intro H locs ls hP hS hl
  exact lv_tableIn C.1 C.2.1 hd (by rw [sx_toInt hR]; exact h1) (by rw [sx_toInt hR]; exact h2) (by rw [sx_toInt hR]; exact ho) ht (k H locs ls hP hS hl)

theorem sx_tableOut (C : sx_C lay cl D cI cJ ad A nL own cc Ts p s m args c) {dflt lo hi x : Int} {offs : Array Int} {len tgt : Nat} (hd : decode cc pc = .ok (.tableswitch dflt lo hi offs, len)) (hR : sx_R x) (h : x < lo ∨ hi < x) (ht : (pc : Int) + dflt = (tgt : Int)) (k : sx_V lay cl D cI cJ ad A nL p l e R s m args below meth c Q cells slots μ (tgt) lv (st)) : sx_V lay cl D cI cJ ad A nL p l e R s m args below meth c Q cells slots μ (pc) lv (.int (sx_i x) :: st) := by
  intro H locs ls hP hS hl
  exact lv_tableOut C.1 C.2.1 hd (by rw [sx_toInt hR]; exact h) ht (k H locs ls hP hS hl)

theorem sx_geti (C : sx_C lay cl D cI cJ ad A nL own cc Ts p s m args c) {K : Int} {C0 ref : String} {T : u_T} {N ci index : Nat} {fl : List (Option Nat)} (c0 k0 : Nat) (hKK : ((k0 : Nat) : Int) = K) (hlay : lay[c0]? = some (.inl (ci, fl))) (hf : fl[k0]? = some none) (hcl : cl[ci]? = some (C0, T, N)) (hk : k0 < N) (hin : ∀ w ∈ u_ws C0 T N, w ∈ Ts) (hw : Cond.fieldLink own index ref (T k0).2.1 (T k0).2.2.1 ∈ Ts) (hr : (T k0).1 = ref) (hd : decode cc pc = .ok (.getfield index, 3)) (k : sx_V lay cl D cI cJ ad A nL p l e R s m args below meth c Q cells slots μ (pc + 3) lv (.int (sx_i (μ c0 K)) :: st)) : sx_V lay cl D cI cJ ad A nL p l e R s m args below meth c Q cells slots μ (pc) lv (.ref (ad c0) :: st) := by
  intro H locs ls hP hS hl
  subst hKK
  refine va_get (D := D) C.1 C.2.1 C.2.2.2.2.1 hin C.2.2.2.1 C.2.2.2.2.2.1 hP c0 (sx_at hlay) hcl k0 hk (C.2.2.2.2.1 _ hw) (fun _ h9 => by rw [hr] at h9; exact h9) (v := .int (sx_i (μ c0 (k0 : Nat)))) ?_ hd (k H locs ls hP hS hl)
  rw [List.getElem?_map, List.getElem?_zipIdx, hf]
  simp [sx_fv]

theorem sx_getr (C : sx_C lay cl D cI cJ ad A nL own cc Ts p s m args c) {C0 ref : String} {T : u_T} {N ci index j0 : Nat} {fl : List (Option Nat)} (c0 k0 : Nat) (hlay : lay[c0]? = some (.inl (ci, fl))) (hf : fl[k0]? = some (some j0)) (hcl : cl[ci]? = some (C0, T, N)) (hk : k0 < N) (hin : ∀ w ∈ u_ws C0 T N, w ∈ Ts) (hw : Cond.fieldLink own index ref (T k0).2.1 (T k0).2.2.1 ∈ Ts) (hr : (T k0).1 = ref) (hd : decode cc pc = .ok (.getfield index, 3)) (k : sx_V lay cl D cI cJ ad A nL p l e R s m args below meth c Q cells slots μ (pc + 3) lv (.ref (ad j0) :: st)) : sx_V lay cl D cI cJ ad A nL p l e R s m args below meth c Q cells slots μ (pc) lv (.ref (ad c0) :: st) := by
  intro H locs ls hP hS hl
  refine va_get (D := D) C.1 C.2.1 C.2.2.2.2.1 hin C.2.2.2.1 C.2.2.2.2.2.1 hP c0 (sx_at hlay) hcl k0 hk (C.2.2.2.2.1 _ hw) (fun _ h9 => by rw [hr] at h9; exact h9) (v := .ref (ad j0)) ?_ hd (k H locs ls hP hS hl)
  rw [List.getElem?_map, List.getElem?_zipIdx, hf]
  simp [sx_fv]

theorem sx_puti (C : sx_C lay cl D cI cJ ad A nL own cc Ts p s m args c) {K : Int} {C0 ref : String} {T : u_T} {N ci index : Nat} {fl : List (Option Nat)} {x : Int} {ty : FieldType} (c0 k0 : Nat) (hKK : ((k0 : Nat) : Int) = K) (hlay : lay[c0]? = some (.inl (ci, fl))) (hf : fl[k0]? = some none) (hcl : cl[ci]? = some (C0, T, N)) (hk : k0 < N) (hin : ∀ w ∈ u_ws C0 T N, w ∈ Ts) (ty0 : Nat → FieldType) (hty : ∀ k, k < N → parseFieldDescriptor (T k).2.2.1 = some (ty0 k)) (hnm : ∀ a, a < N → ∀ b, b < N → a ≠ b → (T a).2.1 ≠ (T b).2.1) (hw : Cond.fieldLink own index ref (T k0).2.1 (T k0).2.2.1 ∈ Ts) (hr : (T k0).1 = ref) (hfin : (T k0).2.2.2 = false) (hdt : parseFieldDescriptor (T k0).2.2.1 = some ty) (hnr : narrow ty (.int (sx_i x)) = .int (sx_i x)) (hft : fits ty (.int (sx_i x)) = true) (hd : decode cc pc = .ok (.putfield index, 3)) (k : sx_V lay cl D cI cJ ad A nL p l e R s m args below meth c Q cells slots (sx_up μ c0 K x) (pc + 3) lv (st)) : sx_V lay cl D cI cJ ad A nL p l e R s m args below meth c Q cells slots μ (pc) lv (.int (sx_i x) :: .ref (ad c0) :: st) := by
  intro H locs ls hP hS hl
  subst hKK
  have hD := sx_D (cI := cI) (cJ := cJ) C.2.2.2.2.2.2.2.1 C.2.2.2.2.2.2.2.2 μ
  refine va_put (D := D) C.1 C.2.1 C.2.2.2.2.1 hin ty0 hty hnm C.2.2.2.1 C.2.2.2.2.2.1 hP hD hS c0 (sx_at hlay) hcl k0 hk (C.2.2.2.2.1 _ hw) (fun _ h9 => by rw [hr] at h9; exact h9) hfin hdt hnr hft (by rw [List.length_map, List.length_zipIdx]; exact (List.getElem?_eq_some_iff.mp hf).1) hd (fun H1 locs1 hP1 hD1 hS1 => ?_)
  rw [sx_putI hlay hf] at hP1
  exact k H1 locs1 ls hP1 hS1 hl

theorem sx_iald (C : sx_C lay cl D cI cJ ad A nL own cc Ts p s m args c) {n : Nat} {N j : Int} {B : Prop} (c0 : Nat) (hlay : lay[c0]? = some (.inr (.inl n))) (hN : ((n : Nat) : Int) = N) (hn : n < 2147483648) (hd : decode cc pc = .ok (.iaload, 1)) (h : (0 ≤ j ∧ j < N) ∧ B) (k : B → sx_V lay cl D cI cJ ad A nL p l e R s m args below meth c Q cells slots μ (pc + 1) lv (.int (sx_i (μ c0 j)) :: st)) : sx_V lay cl D cI cJ ad A nL p l e R s m args below meth c Q cells slots μ (pc) lv (.int (sx_i j) :: .ref (ad c0) :: st) := by
  intro H locs ls hP hS hl
  subst hN
  obtain ⟨q1, q2, q3⟩ := sx_in hn h.1
  refine va_iald (D := D) C.1 C.2.1 C.2.2.2.2.2.1 hP c0 0 (sx_at hlay) rfl q1 hd ?_
  rw [q2, q3]
  exact k h.2 H locs ls hP hS hl

theorem sx_lald (C : sx_C lay cl D cI cJ ad A nL own cc Ts p s m args c) {n : Nat} {N j : Int} {B : Prop} (c0 : Nat) (hlay : lay[c0]? = some (.inr (.inr n))) (hN : ((n : Nat) : Int) = N) (hn : n < 2147483648) (hd : decode cc pc = .ok (.laload, 1)) (h : (0 ≤ j ∧ j < N) ∧ B) (k : B → sx_V lay cl D cI cJ ad A nL p l e R s m args below meth c Q cells slots μ (pc + 1) lv (.long (sx_j (μ c0 j)) :: st)) : sx_V lay cl D cI cJ ad A nL p l e R s m args below meth c Q cells slots μ (pc) lv (.int (sx_i j) :: .ref (ad c0) :: st) := by
  intro H locs ls hP hS hl
  subst hN
  obtain ⟨q1, q2, q3⟩ := sx_in hn h.1
  refine va_lald (D := D) C.1 C.2.1 C.2.2.2.2.2.1 hP c0 1 (sx_at hlay) rfl q1 hd ?_
  rw [q2, q3]
  exact k h.2 H locs ls hP hS hl

theorem sx_iast (C : sx_C lay cl D cI cJ ad A nL own cc Ts p s m args c) {n : Nat} {N j x : Int} {B : Prop} (c0 : Nat) (hlay : lay[c0]? = some (.inr (.inl n))) (hN : ((n : Nat) : Int) = N) (hn : n < 2147483648) (hd : decode cc pc = .ok (.iastore, 1)) (h : (0 ≤ j ∧ j < N) ∧ B) (k : B → sx_V lay cl D cI cJ ad A nL p l e R s m args below meth c Q cells slots (sx_up μ c0 j x) (pc + 1) lv (st)) : sx_V lay cl D cI cJ ad A nL p l e R s m args below meth c Q cells slots μ (pc) lv (.int (sx_i x) :: .int (sx_i j) :: .ref (ad c0) :: st) := by
  intro H locs ls hP hS hl
  subst hN
  obtain ⟨q1, q2, q3⟩ := sx_in hn h.1
  have hD := sx_D (cI := cI) (cJ := cJ) C.2.2.2.2.2.2.2.1 C.2.2.2.2.2.2.2.2 μ
  refine va_iast (D := D) C.1 C.2.1 C.2.2.2.2.2.1 hP hD hS c0 0 (sx_at hlay) rfl q1 hd (fun H1 locs1 hP1 hD1 hS1 => ?_)
  rw [q2, sx_putA hlay h.1.1] at hP1
  exact k h.2 H1 locs1 ls hP1 hS1 hl

theorem sx_last (C : sx_C lay cl D cI cJ ad A nL own cc Ts p s m args c) {n : Nat} {N j x : Int} {B : Prop} (c0 : Nat) (hlay : lay[c0]? = some (.inr (.inr n))) (hN : ((n : Nat) : Int) = N) (hn : n < 2147483648) (hd : decode cc pc = .ok (.lastore, 1)) (h : (0 ≤ j ∧ j < N) ∧ B) (k : B → sx_V lay cl D cI cJ ad A nL p l e R s m args below meth c Q cells slots (sx_up μ c0 j x) (pc + 1) lv (st)) : sx_V lay cl D cI cJ ad A nL p l e R s m args below meth c Q cells slots μ (pc) lv (.long (sx_j x) :: .int (sx_i j) :: .ref (ad c0) :: st) := by
  intro H locs ls hP hS hl
  subst hN
  obtain ⟨q1, q2, q3⟩ := sx_in hn h.1
  have hD := sx_D (cI := cI) (cJ := cJ) C.2.2.2.2.2.2.2.1 C.2.2.2.2.2.2.2.2 μ
  refine va_last (D := D) C.1 C.2.1 C.2.2.2.2.2.1 hP hD hS c0 1 (sx_at hlay) rfl q1 hd (fun H1 locs1 hP1 hD1 hS1 => ?_)
  rw [q2, sx_putL hlay h.1.1] at hP1
  exact k h.2 H1 locs1 ls hP1 hS1 hl

end SXV
end
section
/-! CONTRACTS over one memory, ends of methods, calls. QQ: what holds of the answer and the memory behind a return; XX: of the exception's class and the memory behind a throw. -/
section SXK
/-- what the machine must hold beside the tables' good words: Throwable's two statics, the texts, words that travel by rows of their own, pairs that are not castable -/
def sx_Z (A : Nat → Prop) (U : State) (H : Heap) : Prop := vx_Zq Bundle.tN "UNASSIGNED_STACK" Bundle.steD A U H ∧ vx_Zq Bundle.tN "SUPPRESSED_SENTINEL" Bundle.listD A U H ∧ (∀ q ∈ sr_strs, ∃ sa, vk_R q.1 q.2.1 q.2.2 sa U) ∧ (∀ w ∈ sr_bad, va_Nw w U) ∧ ∀ q ∈ sr_ncs, va_Nc q.1 q.2 U
theorem sx_Z.go {A B : Nat → Prop} {s U : State} {H : Heap} {locs : List Loc} (h : sx_Z A s s.heap) (hS : va_S A s.heap H locs) (hW : s.WarmedH U.vm) (hAB : ∀ q, B q → A q) : sx_Z B U H :=
  ⟨((h.1.kept hS.2.1).moved hW.alike).narrow hAB, ((h.2.1.kept hS.2.1).moved hW.alike).narrow hAB, fun q hq => by
    obtain ⟨sa, hs⟩ := h.2.2.1 q hq
    exact ⟨sa, vk_R.warm hW hs⟩, sr_bad_warm hW h.2.2.2.1, fun q hq => (h.2.2.2.2 q hq).moved hW.alike⟩
theorem sx_Z.call {A : Nat → Prop} {U : State} {g : JFrame} {mk : MethodId} {a : Array Value} (h : sx_Z A U U.heap) : sx_Z A (U.calling g mk a) U.heap :=
  ⟨h.1.moved (Vm.Alike.refl U.vm), h.2.1.moved (Vm.Alike.refl U.vm), fun q hq => by
    obtain ⟨sa, hs⟩ := h.2.2.1 q hq
    exact ⟨sa, vk_R.same (u := U) rfl hs⟩, fun w hw => va_Nw.same (sr_bad_tab w hw) (u := U) rfl (h.2.2.2.1 w hw), fun q hq => (h.2.2.2.2 q hq).moved (Vm.Alike.refl U.vm)⟩
/-- no cell came, none changed its size -/
def sx_same (H H1 : Heap) : Prop := H1.size = H.size ∧ ∀ (a : Nat) (c : Cell), H[a]? = some c → ∃ c2 : Cell, H1[a]? = some c2 ∧ c2.slots.size = c.slots.size
theorem sx_fold {H H1 : Heap} (h : sx_same H H1) : H1.foldl (fun n c => n + c.slots.size) 0 = H.foldl (fun n c => n + c.slots.size) 0 := by
  have e : H1.map (fun c => c.slots.size) = H.map (fun c => c.slots.size) := by
    apply Array.ext_getElem?
    intro i
    rw [Array.getElem?_map, Array.getElem?_map]
    cases hc : H[i]? with
    | none =>
      have h1 : H.size ≤ i := by simpa using hc
      have h2 : H1[i]? = none := by simp; rw [h.1]; exact h1
      rw [h2]
    | some c =>
      obtain ⟨c2, h1, h2⟩ := h.2 i c hc
      rw [h1]
      simp [h2]
  have f : ∀ X : Heap, X.foldl (fun n c => n + c.slots.size) 0 = (X.map (fun c => c.slots.size)).foldl (fun n k => n + k) 0 := fun X => by rw [Array.foldl_map]
  rw [f, f, e]
theorem sx_tight {p : Program} {l : Launch} {e : Env} {R : Room} {s : State} {m : MethodId} {args : Array Value} {below : List Frame} {meth : Method} {c : Code} {T T2 : State} {locs locs2 : List Loc} {cells slots cells2 slots2 : Nat}
    (X : Stand p l e R s m args below meth c T locs cells slots) (X2 : Stand p l e R s m args below meth c T2 locs2 cells2 slots2) (h : sx_same T.heap T2.heap) : Stand p l e R s m args below meth c T2 locs2 cells slots := by
  have b1 := X.book
  have b2 := X2.book
  simp only [State.slotsTrue, beq_iff_eq] at b1 b2
  have hf := sx_fold h
  obtain ⟨-, -, q3, q4, q5, -⟩ := X.same
  obtain ⟨r1, r2, r3, r4, r5, r6⟩ := X2.same
  have q3 : T.heap.size ≤ s.heap.size + cells := q3
  have q4 : T.slotsUsed = s.slotsUsed + ((T.heap.toList.drop s.heap.size).map (·.slots.size)).sum := q4
  have q5 : ((T.heap.toList.drop s.heap.size).map (·.slots.size)).sum ≤ slots := q5
  have r4' : T2.slotsUsed = s.slotsUsed + ((T2.heap.toList.drop s.heap.size).map (·.slots.size)).sum := r4
  have h1 := h.1
  refine { X2 with same := ⟨r1, r2, ?_, r4, ?_, r6⟩ }
  · show T2.heap.size ≤ s.heap.size + cells
    omega
  · show ((T2.heap.toList.drop s.heap.size).map (·.slots.size)).sum ≤ slots
    omega
/-- .. and behind a return it is said so -/
def sx_T (Qc : Array Value → State → Outcome → State → Prop) : Array Value → State → Outcome → State → Prop := fun a st o t => Qc a st o t ∧ sx_same st.heap t.heap
theorem sx_same_of {st t : State} {o : Outcome} {L : List Loc} (h : FrameEnd st o t L 0 0) : sx_same st.heap t.heap := by
  obtain ⟨-, -, -, h2, h3, -, -, h6⟩ := h
  have h2 : st.heap.size ≤ t.heap.size := h2
  have h3 : t.heap.size ≤ st.heap.size + 0 := h3
  refine ⟨by omega, fun a c hc => ?_⟩
  obtain ⟨c2, e1, -, e3, -⟩ := h6 a c hc
  exact ⟨c2, e1, e3⟩
theorem sx_ret0 {p : Program} {l : Launch} {e : Env} {R : Room} {s : State} {m : MethodId} {args : Array Value} {below : List Frame} {meth : Method} {c : Code} {H : Heap} {locs : List Loc} {cells slots mc ms : Nat} {free : Addr → Prop} {Qc : Array Value → State → Outcome → State → Prop} {XC : String → State → State → Prop} {g : JFrame}
    (k : W p l e R s m args below meth c H locs cells slots (MQ below Qc args s 0 0 free) g) : W p l e R s m args below meth c H locs cells slots (vx_MQ below (sx_T Qc) XC args s mc ms free) g := by
  intro T hT X
  obtain ⟨t, a1, o, b1, b2, b3, L, hF, hL⟩ := k T hT X
  exact ⟨t, a1, o, b1, b2, Or.inl ⟨⟨b3, sx_same_of hF⟩, L, ⟨hF.1, hF.2.1, hF.2.2.mono (Nat.zero_le _) (Nat.zero_le _)⟩, hL⟩⟩
def sx_pi (QQ : Int → sx_M → Prop) : Int32 → sx_M → Prop := fun r μ => ∃ z : Int, r = sx_i z ∧ QQ z μ
def sx_pv (QQ : Int → sx_M → Prop) : sx_M → Prop := fun μ => QQ 0 μ
def sx_B (lay : List sx_L) (cl : List vw_C) (D : va_G) (cI cJ : ClassId) (ad : Nat → Nat) : sx_M → State → Prop := fun μ t => va_P D cl (sx_W lay cI cJ ad μ) t.heap
def sx_BX (lay : List sx_L) (cl : List vw_C) (D : va_G) (cI cJ : ClassId) (ad : Nat → Nat) (XX : String → sx_M → Prop) : String → sx_M → State → Prop := fun E μ t => XX E μ ∧ va_P D cl (sx_W lay cI cJ ad μ) t.heap
def sx_Pre (lay : List sx_L) (cl : List vw_C) (D : va_G) (cI cJ : ClassId) (ad : Nat → Nat) (μ : sx_M) (sz : Nat) : State → Prop := fun U => U.heap.size = sz ∧ va_P D cl (sx_W lay cI cJ ad μ) U.heap ∧ va_K D cl [(cI, .int), (cJ, .long)] U ∧ sx_J lay ad ∧ sx_Z (sx_A lay ad sz) U U.heap
abbrev sx_QI (lay : List sx_L) (cl : List vw_C) (D : va_G) (cI cJ : ClassId) (ad : Nat → Nat) (QQ : Int → sx_M → Prop) (sz : Nat) := va_Qi (sx_pi QQ) (sx_B lay cl D cI cJ ad) (sx_A lay ad sz)
abbrev sx_QV (lay : List sx_L) (cl : List vw_C) (D : va_G) (cI cJ : ClassId) (ad : Nat → Nat) (QQ : Int → sx_M → Prop) (sz : Nat) := va_Qv (sx_pv QQ) (sx_B lay cl D cI cJ ad) (sx_A lay ad sz)
abbrev sx_XC (lay : List sx_L) (cl : List vw_C) (D : va_G) (cI cJ : ClassId) (ad : Nat → Nat) (XX : String → sx_M → Prop) (sz : Nat) := vx_X (fun _ => True) (sx_BX lay cl D cI cJ ad XX) (sx_A lay ad sz)
/-- a method that answers an int (or a boolean): behind a return no cell has come; a void method; one that may have made cells -/
def sx_MI (l : Launch) (y : MethodName) (ws : List Cond) (rm : Room) (lay : List sx_L) (cl : List vw_C) (D : va_G) (cI cJ : ClassId) (ad : Nat → Nat) (av : List Value) (μ : sx_M) (QQ : Int → sx_M → Prop) (XX : String → sx_M → Prop) (mc ms sz : Nat) : Prop :=
  vx_Met l y ws rm (va_Pc av (sx_Pre lay cl D cI cJ ad μ sz)) (sx_T (sx_QI lay cl D cI cJ ad QQ sz)) (sx_XC lay cl D cI cJ ad XX sz) mc ms (sx_A lay ad sz)
def sx_MV (l : Launch) (y : MethodName) (ws : List Cond) (rm : Room) (lay : List sx_L) (cl : List vw_C) (D : va_G) (cI cJ : ClassId) (ad : Nat → Nat) (av : List Value) (μ : sx_M) (QQ : Int → sx_M → Prop) (XX : String → sx_M → Prop) (mc ms sz : Nat) : Prop :=
  vx_Met l y ws rm (va_Pc av (sx_Pre lay cl D cI cJ ad μ sz)) (sx_T (sx_QV lay cl D cI cJ ad QQ sz)) (sx_XC lay cl D cI cJ ad XX sz) mc ms (sx_A lay ad sz)
def sx_ML (l : Launch) (y : MethodName) (ws : List Cond) (rm : Room) (lay : List sx_L) (cl : List vw_C) (D : va_G) (cI cJ : ClassId) (ad : Nat → Nat) (av : List Value) (μ : sx_M) (QQ : Int → sx_M → Prop) (mc ms sz : Nat) : Prop :=
  Met l y ws rm (va_Pc av (sx_Pre lay cl D cI cJ ad μ sz)) (sx_QI lay cl D cI cJ ad QQ sz) mc ms (sx_A lay ad sz)
variable {lay : List sx_L} {cl : List vw_C} {D : va_G} {cI cJ : ClassId} {ad : Nat → Nat} {A : Nat → Prop} {nL : Nat} {own : String} {cc : ByteArray} {Ts : List Cond} {p : Program} {l : Launch} {e : Env} {R : Room} {s : State} {m : MethodId} {args : Array Value} {below : List Frame} {meth : Method} {c : Code} {Q : State → Prop} {cells slots : Nat} {μ : sx_M} {pc : Nat} {lv : List (Nat × Value)} {st : List Value}
variable {QQ : Int → sx_M → Prop} {XX XX2 : String → sx_M → Prop} {mc ms sz : Nat} {Qc : Array Value → State → Outcome → State → Prop} {XC : String → State → State → Prop}
/-- a contract out of the walk of its body -/
theorem sx_body {y : MethodName} {ws ws' : List Cond} {rm : Room} {av : List Value} {maxL : Nat} {ret : Option FieldType} (hy : plainFor y = true) (hw : ws = Cond.code y cc maxL ret :: ws') (hav : (lg_sl av).length ≤ maxL)
    (body : ∀ (p : Program) (e : Env) (s : State) (m : MethodId) (below : List Frame) (meth : Method) (c : Code), sx_C lay cl D cI cJ ad (sx_A lay ad sz) maxL y.cls cc ws' p s m av.toArray c → sx_Z (sx_A lay ad sz) s s.heap → meth.sig.returnType = ret → meth.locks = false → (∀ x ∈ c.exceptionTable.toList, False) →
      sx_V lay cl D cI cJ ad (sx_A lay ad sz) maxL p l e rm s m av.toArray below meth c (vx_MQ below Qc XC av.toArray s mc ms (sx_A lay ad sz)) 0 0 μ 0 (lv_args 0 av) []) :
    vx_Met l y ws rm (va_Pc av (sx_Pre lay cl D cI cJ ad μ sz)) Qc XC mc ms (sx_A lay ad sz) := by
  refine MetFree.of_bodySF (code := cc) (maxLocals := maxL) (ret := ret) hy ?_ ?_
  · intro args s m h hn
    obtain ⟨meth, c, h1, h2, h3, h4, h5, h6, -, -⟩ := Cond.code_spec hn (atoms_spec (ws := ws) h _ (by rw [hw]; exact List.mem_cons_self))
    exact ⟨meth, c, h1, h2, h3, h4, h5, h6⟩
  intro p e s m args below meth c s₁ B hml hv _
  have hh0 : s₁.heap = s.heap := by rw [B.state]; rfl
  have ht : ∀ x ∈ c.exceptionTable.toList, False := by
    obtain ⟨meth9, c9, h1, h2, -, -, -, -, h7, -⟩ := Cond.code_spec B.named (atoms_spec (ws := ws) B.pre _ (by rw [hw]; exact List.mem_cons_self))
    cases Option.some.inj (h1.symm.trans B.method)
    cases Option.some.inj (h2.symm.trans (Stand.of_body B).code)
    intro x hx
    rw [Array.isEmpty_iff.mp h7] at hx
    cases hx
  obtain ⟨rfl, hsz, hP, hK, hJ, hZ⟩ := hv
  have hts := atoms_spec (ws := ws) B.pre
  have hown : s.vm.findClass y.cls = some m.cls := findClass_of_methodNamed B.named
  have key := body p e s m below meth c ⟨B.exec, B.bytes, hml, hown, fun w h => hts w (by rw [hw]; exact List.mem_cons_of_mem _ h), hK, fun q h => Or.inr (by rw [← hsz]; exact h), hJ, fun i hi => Or.inl ⟨i, hi, rfl⟩⟩ hZ B.returns B.notSynchronized ht
  have key2 := key s.heap [] _ hP va_S.rf (lv_entry av hav)
  rw [← lg_entry_eq] at key2
  obtain ⟨t, a1, o, b1, b2, b3⟩ := key2 s₁ hh0 (Stand.of_body B)
  exact ⟨t, o, a1, b1, b2, b3⟩
theorem sx_iret (C : sx_C lay cl D cI cJ ad (sx_A lay ad sz) nL own cc Ts p s m args c) {x : Int} (hr : meth.sig.returnType = some .int) (hlk : meth.locks = false) (hd : decode cc pc = .ok (.ireturn, 1)) (h : QQ x μ) :
    sx_V lay cl D cI cJ ad (sx_A lay ad sz) nL p l e R s m args below meth c (vx_MQ below (sx_T (sx_QI lay cl D cI cJ ad QQ sz)) XC args s mc ms (sx_A lay ad sz)) 0 0 μ pc lv [.int (sx_i x)] := by
  intro H locs ls hP hS hl
  refine sx_ret0 ?_
  exact W.iret C.1 C.2.1 hr (fun t ht hW => ⟨⟨sx_i x, μ, rfl, ⟨x, rfl, h⟩, by show va_P _ _ _ t.heap; rw [ht]; exact hP⟩, hS.F ht⟩) hS.2.2 hd hlk
theorem sx_iretL (C : sx_C lay cl D cI cJ ad (sx_A lay ad sz) nL own cc Ts p s m args c) {x : Int} (hr : meth.sig.returnType = some .int) (hlk : meth.locks = false) (hc : cells ≤ mc) (hs : slots ≤ ms) (hd : decode cc pc = .ok (.ireturn, 1)) (h : QQ x μ) :
    sx_V lay cl D cI cJ ad (sx_A lay ad sz) nL p l e R s m args below meth c (MQ below (sx_QI lay cl D cI cJ ad QQ sz) args s mc ms (sx_A lay ad sz)) cells slots μ pc lv [.int (sx_i x)] := by
  intro H locs ls hP hS hl
  refine W.widen hc hs ?_
  exact W.iret C.1 C.2.1 hr (fun t ht hW => ⟨⟨sx_i x, μ, rfl, ⟨x, rfl, h⟩, by show va_P _ _ _ t.heap; rw [ht]; exact hP⟩, hS.F ht⟩) hS.2.2 hd hlk
theorem sx_bool {x : Int} (h : x = 0 ∨ x = 1) : narrow .boolean (.int (sx_i x)) = .int (sx_i x) ∧ fits .boolean (.int (sx_i x)) = true := by
  rcases h with rfl | rfl <;> exact ⟨by decide +kernel, by decide +kernel⟩
theorem sx_zret (C : sx_C lay cl D cI cJ ad (sx_A lay ad sz) nL own cc Ts p s m args c) {x : Int} (hr : meth.sig.returnType = some .boolean) (hlk : meth.locks = false) (hd : decode cc pc = .ok (.ireturn, 1)) (h : (x = 0 ∨ x = 1) ∧ QQ x μ) :
    sx_V lay cl D cI cJ ad (sx_A lay ad sz) nL p l e R s m args below meth c (vx_MQ below (sx_T (sx_QI lay cl D cI cJ ad QQ sz)) XC args s mc ms (sx_A lay ad sz)) 0 0 μ pc lv [.int (sx_i x)] := by
  intro H locs ls hP hS hl
  refine sx_ret0 ?_
  exact W.zret C.1 C.2.1 hr (sx_bool h.1).1 (fun t ht hW => ⟨⟨sx_i x, μ, rfl, ⟨x, rfl, h.2⟩, by show va_P _ _ _ t.heap; rw [ht]; exact hP⟩, hS.F ht⟩) hS.2.2 hd hlk
theorem sx_vret (C : sx_C lay cl D cI cJ ad (sx_A lay ad sz) nL own cc Ts p s m args c) (hr : meth.sig.returnType = none) (hlk : meth.locks = false) (hd : decode cc pc = .ok (.return_, 1)) (h : QQ 0 μ) :
    sx_V lay cl D cI cJ ad (sx_A lay ad sz) nL p l e R s m args below meth c (vx_MQ below (sx_T (sx_QV lay cl D cI cJ ad QQ sz)) XC args s mc ms (sx_A lay ad sz)) 0 0 μ pc lv [] := by
  intro H locs ls hP hS hl
  refine sx_ret0 ?_
  exact W.vret C.1 C.2.1 hr (fun t ht hW => ⟨⟨μ, rfl, h, by show va_P _ _ _ t.heap; rw [ht]; exact hP⟩, hS.F ht⟩) hS.2.2 hd hlk
/-- throw new E("text"): it leaves the method -/
theorem sx_throw (C : sx_C lay cl D cI cJ ad (sx_A lay ad sz) nL own cc Ts p s m args c) (hlf : l.stackTraces = false) (hZ : sx_Z (sx_A lay ad sz) s s.heap) (hlk : meth.locks = false) (ht : ∀ x ∈ c.exceptionTable.toList, False) {cls text : String} {names : List String} {ik is ic : Nat}
    (hcls : Bundle.fit cls = true) (hnames : ∀ n ∈ names, Bundle.fit n = true) (hk : Cond.classLink own ik cls ∈ Ts) (hini : Cond.initialized cls ∈ Ts) (hstr : (own, is, text) ∈ sr_strs) (hat : ∀ w ∈ vx_atS own ic cls names, w ∈ Ts ∨ w ∈ sr_bad)
    (hgood : ∀ w ∈ Cond.classLink own ik cls :: Cond.initialized cls :: vx_atS own ic cls names, vx_ot w = true)
    (d0 : decode cc pc = .ok (.new ik, 3)) (d3 : decode cc (pc + 3) = .ok (.dup, 1)) (d4 : decode cc (pc + 4) = .ok (.ldc is, 2)) (d6 : decode cc (pc + 6) = .ok (.invokespecial ic, 3)) (d9 : decode cc (pc + 9) = .ok (.athrow, 1))
    (hRf : names.length + 3 < R.frames) (hRl : (st.map fun v => v.category).sum + (13 * (names.length + 1) + 43) ≤ R.locals) (hRc : cells + 1 ≤ R.cells) (hRs : slots + 6 ≤ R.slots) (hc : cells + 1 ≤ mc) (hs : slots + 6 ≤ ms) (h : XX cls μ) :
    sx_V lay cl D cI cJ ad (sx_A lay ad sz) nL p l e R s m args below meth c (vx_MQ below Qc (sx_XC lay cl D cI cJ ad XX sz) args s mc ms (sx_A lay ad sz)) cells slots μ pc lv st := by
  intro H locs ls hP hS hl
  obtain ⟨sa, hsa⟩ := hZ.2.2.1 _ hstr
  exact vx_throwS C.1 C.2.1 hlf C.2.2.2.1 hcls hnames (C.2.2.2.2.1 _ hk) (C.2.2.2.2.1 _ hini) hsa (fun w hw => (hat w hw).elim (C.2.2.2.2.1 w) (fun hb => va_Nw.use (sr_bad_tab w hb) (hZ.2.2.2.1 w hb))) hgood hZ.1 hZ.2.1 hS (hl.1.trans C.2.2.1.symm) d0 d3 d4 d6 d9 (fun x hx => (ht x hx).elim) hRf hRl hRc hRs hlk
    (fun t _ h1 h2 => ⟨μ, trivial, ⟨h, hP.kept (fun k q hq => h2 q.1 (hP k q hq).lt)⟩, Nat.le_trans hS.1 h1, fun q g1 g2 => (h2 q (Nat.lt_of_lt_of_le g1 hS.1)).trans (hS.2.1 q g1 g2)⟩) hS.2.2 hc hs
/-- where a call at pc has thrown -/
def sx_VX (lay : List sx_L) (cl : List vw_C) (D : va_G) (cI cJ : ClassId) (ad : Nat → Nat) (A : Nat → Prop) (nL : Nat) (p : Program) (l : Launch) (e : Env) (R : Room) (s : State) (m : MethodId) (args : Array Value) (below : List Frame) (meth : Method) (c : Code) (Q : State → Prop) (cells slots : Nat) (XX : String → sx_M → Prop) (pc : Nat) (lv : List (Nat × Value)) (st : List Value) : Prop :=
  ∀ (E : String) (μ : sx_M) (H : Heap) (locs : List Loc) (ls : Array Slot) (ce : Cell) (q : Addr), XX E μ → va_P D cl (sx_W lay cI cJ ad μ) H → va_S A s.heap H locs → lv_has ls nL lv → H[q]? = some ce → ce.vm = .none → s.vm.findClass E = some ce.cls → vx_W p l e R s m args below meth c H locs cells slots Q (F0 m pc ls st) q
theorem sx_noX : sx_VX lay cl D cI cJ ad A nL p l e R s m args below meth c Q cells slots (fun _ _ => False) pc lv st := fun _ _ _ _ _ _ _ h => h.elim
/-- it goes on to the caller -/
theorem sx_prop (hlk : meth.locks = false) (ht : ∀ x ∈ c.exceptionTable.toList, False) (hc : cells ≤ mc) (hs : slots ≤ ms) :
    sx_VX lay cl D cI cJ ad (sx_A lay ad sz) nL p l e R s m args below meth c (vx_MQ below Qc (sx_XC lay cl D cI cJ ad XX sz) args s mc ms (sx_A lay ad sz)) cells slots XX pc lv st := by
  intro E μ H locs ls ce q h hP hS hl h1 h2 h3
  exact vx_out (fun x hx => (ht x hx).elim) hlk h1 h2 h3 (fun t ht' hW => ⟨μ, trivial, ⟨h, by rw [ht']; exact hP⟩, hS.F ht'⟩) hS.2.2 hc hs
theorem sx_sb {H : Heap} {locs : List Loc} (C : sx_C lay cl D cI cJ ad A nL own cc Ts p s m args c) (hS : va_S A s.heap H locs) : ∀ q, sx_A lay ad H.size q → A q := by
  intro q h
  rcases h with ⟨i, hi, rfl⟩ | h
  · exact C.2.2.2.2.2.2.2.2 i hi
  · exact C.2.2.2.2.2.2.1 q (Nat.le_trans hS.1 h)
theorem sx_callI (C : sx_C lay cl D cI cJ ad A nL own cc Ts p s m args c) {a : Array Value} {rest : List Value}
    (hr : ∀ (H : Heap) (locs : List Loc) (ls : Array Slot), va_P D cl (sx_W lay cI cJ ad μ) H → va_S A s.heap H locs → lv_has ls nL lv → vx_Run p l e R s m args below meth c H locs cells slots mc ms (F0 m pc ls st) rest (sx_T (sx_QI lay cl D cI cJ ad QQ H.size) a) (sx_XC lay cl D cI cJ ad XX H.size) (sx_A lay ad H.size))
    (kx : sx_VX lay cl D cI cJ ad A nL p l e R s m args below meth c Q (cells + mc) (slots + ms) XX pc lv rest)
    (kk : ∀ (x : Int) (μ2 : sx_M), QQ x μ2 → sx_V lay cl D cI cJ ad A nL p l e R s m args below meth c Q cells slots μ2 (pc + 3) lv (.int (sx_i x) :: rest)) :
    sx_V lay cl D cI cJ ad A nL p l e R s m args below meth c Q cells slots μ pc lv st := by
  intro H locs ls hP hS hl T hT X
  have hf := sx_sb C hS
  rcases hr H locs ls hP hS hl T hT X with ⟨v, st₀, t, T', L, h0, X', hL, e1, e2, ⟨⟨⟨r, u, hv, ⟨x, hxe, hq⟩, hB⟩, hF⟩, hsm⟩, go⟩ | ⟨q, st₀, t, T', L, E, ce, h0, X', hL, e1, e2, ⟨u, -, hB, hF⟩, hce, hcv, hcl, go⟩
  · cases hv
    cases hxe
    obtain ⟨k1, k2, k3⟩ := vx_keep h0 e1 hS (fun q _ h => hf q h) hf hL hF
    have X2 := sx_tight X X' (by rw [hT, e1, ← h0]; exact hsm)
    obtain ⟨t2, a1, b1⟩ := kk x u hq T'.heap (locs ++ L) ls (by rw [e1]; exact hB) k3 hl T' rfl X2
    exact ⟨t2, go t2 a1, b1⟩
  · obtain ⟨k1, k2, k3⟩ := vx_keep h0 e1 hS (fun q _ h => hf q h) hf hL hF
    obtain ⟨t2, a1, b1⟩ := kx E u T'.heap (locs ++ L) ls ce q hB.1 (by rw [e1]; exact hB.2) k3 hl (by rw [e1]; exact hce) hcv hcl T' rfl X'
    exact ⟨t2, go.trans a1, b1⟩
theorem sx_callV (C : sx_C lay cl D cI cJ ad A nL own cc Ts p s m args c) {a : Array Value} {rest : List Value}
    (hr : ∀ (H : Heap) (locs : List Loc) (ls : Array Slot), va_P D cl (sx_W lay cI cJ ad μ) H → va_S A s.heap H locs → lv_has ls nL lv → vx_Run p l e R s m args below meth c H locs cells slots mc ms (F0 m pc ls st) rest (sx_T (sx_QV lay cl D cI cJ ad QQ H.size) a) (sx_XC lay cl D cI cJ ad XX H.size) (sx_A lay ad H.size))
    (kx : sx_VX lay cl D cI cJ ad A nL p l e R s m args below meth c Q (cells + mc) (slots + ms) XX pc lv rest)
    (kk : ∀ (x : Int) (μ2 : sx_M), QQ x μ2 → sx_V lay cl D cI cJ ad A nL p l e R s m args below meth c Q cells slots μ2 (pc + 3) lv rest) :
    sx_V lay cl D cI cJ ad A nL p l e R s m args below meth c Q cells slots μ pc lv st := by
  intro H locs ls hP hS hl T hT X
  have hf := sx_sb C hS
  rcases hr H locs ls hP hS hl T hT X with ⟨v, st₀, t, T', L, h0, X', hL, e1, e2, ⟨⟨⟨u, hv, hq, hB⟩, hF⟩, hsm⟩, go⟩ | ⟨q, st₀, t, T', L, E, ce, h0, X', hL, e1, e2, ⟨u, -, hB, hF⟩, hce, hcv, hcl, go⟩
  · cases hv
    obtain ⟨k1, k2, k3⟩ := vx_keep h0 e1 hS (fun q _ h => hf q h) hf hL hF
    have X2 := sx_tight X X' (by rw [hT, e1, ← h0]; exact hsm)
    obtain ⟨t2, a1, b1⟩ := kk 0 u hq T'.heap (locs ++ L) ls (by rw [e1]; exact hB) k3 hl T' rfl X2
    exact ⟨t2, go t2 a1, b1⟩
  · obtain ⟨k1, k2, k3⟩ := vx_keep h0 e1 hS (fun q _ h => hf q h) hf hL hF
    obtain ⟨t2, a1, b1⟩ := kx E u T'.heap (locs ++ L) ls ce q hB.1 (by rw [e1]; exact hB.2) k3 hl (by rw [e1]; exact hce) hcv hcl T' rfl X'
    exact ⟨t2, go.trans a1, b1⟩
/-- the callee's start at a call -/
theorem sx_pre (C : sx_C lay cl D cI cJ ad A nL own cc Ts p s m args c) (hZ : sx_Z A s s.heap) {H : Heap} {locs : List Loc} (hP : va_P D cl (sx_W lay cI cJ ad μ) H) (hS : va_S A s.heap H locs) (av : List Value) :
    PreS s H (va_Pc av (sx_Pre lay cl D cI cJ ad μ H.size)) av :=
  ⟨fun a U g mk q => by
    obtain ⟨q0, q1, qP, qK, qJ, qZ⟩ := q
    exact ⟨q0, q1, qP, va_K.moved (u := U) (U := U.calling g mk a) (Vm.Alike.refl U.vm) qK, qJ, sx_Z.call qZ⟩,
   fun U hU hW => ⟨rfl, by rw [hU], by rw [hU]; exact hP, va_K.moved hW.alike C.2.2.2.2.2.1, C.2.2.2.2.2.2.2.1, by rw [hU]; exact hZ.go hS hW (sx_sb C hS)⟩⟩
theorem sx_preV (C : sx_C lay cl D cI cJ ad A nL own cc Ts p s m args c) (hZ : sx_Z A s s.heap) {H : Heap} {locs : List Loc} (hP : va_P D cl (sx_W lay cI cJ ad μ) H) (hS : va_S A s.heap H locs) {c0 ci : Nat} {fl : List (Option Nat)} {q : vw_C} (hlay : lay[c0]? = some (.inl (ci, fl))) (hcl : cl[ci]? = some q) (As : List Value) :
    PreV s H q.1 (ad c0) (va_Pc (.ref (ad c0) :: As) (sx_Pre lay cl D cI cJ ad μ H.size)) As :=
  ⟨(sx_pre C hZ hP hS _).1, va_recv C.2.2.2.2.2.1 hP hcl (sx_at hlay), (sx_pre C hZ hP hS (.ref (ad c0) :: As)).2⟩
theorem sx_invI (C : sx_C lay cl D cI cJ ad A nL own cc Ts p s m args c) (hZ : sx_Z A s s.heap) {y : MethodName} {ws2 : List Cond} {rm2 : Room} {C0 : String} {T : u_T} {N ci index maxL n c0 : Nat} {fl : List (Option Nat)} {bytes : ByteArray} {ret : Option FieldType} {rest : List Value} (As : List Value)
    (hM : ∀ sz2, sx_MI l y ws2 rm2 lay cl D cI cJ ad (.ref (ad c0) :: As) μ QQ XX mc ms sz2) (cw : CallW R s args own C0 index y bytes maxL ret ws2 rm2 mc ms n) (hlay : lay[c0]? = some (.inl (ci, fl))) (hcl : cl[ci]? = some (C0, T, N))
    (hn : As.length = n) (hst : st = As.reverse ++ .ref (ad c0) :: rest) (hW : (rest.map fun v => v.category).sum ≤ 8) (hd : decode cc pc = .ok (.invokevirtual index, 3)) (hf : cells + mc ≤ R.cells ∧ slots + ms ≤ R.slots)
    (kx : sx_VX lay cl D cI cJ ad A nL p l e R s m args below meth c Q (cells + mc) (slots + ms) XX pc lv rest)
    (kk : ∀ (x : Int) (μ2 : sx_M), QQ x μ2 → sx_V lay cl D cI cJ ad A nL p l e R s m args below meth c Q cells slots μ2 (pc + 3) lv (.int (sx_i x) :: rest)) :
    sx_V lay cl D cI cJ ad A nL p l e R s m args below meth c Q cells slots μ pc lv st :=
  sx_callI C (fun H locs ls hP hS hl => vx_runV (As := As) (rest := rest) (nL := nL) ⟨C.1, C.2.1, C.2.2.1, C.2.2.2.1, C.2.2.2.2.1⟩ (hM H.size) cw (sx_preV C hZ hP hS hlay hcl As) rfl hn hl.1 hst (lv_room hW) hd hf) kx kk
theorem sx_invV (C : sx_C lay cl D cI cJ ad A nL own cc Ts p s m args c) (hZ : sx_Z A s s.heap) {y : MethodName} {ws2 : List Cond} {rm2 : Room} {C0 : String} {T : u_T} {N ci index maxL n c0 : Nat} {fl : List (Option Nat)} {bytes : ByteArray} {ret : Option FieldType} {rest : List Value} (As : List Value)
    (hM : ∀ sz2, sx_MV l y ws2 rm2 lay cl D cI cJ ad (.ref (ad c0) :: As) μ QQ XX mc ms sz2) (cw : CallW R s args own C0 index y bytes maxL ret ws2 rm2 mc ms n) (hlay : lay[c0]? = some (.inl (ci, fl))) (hcl : cl[ci]? = some (C0, T, N))
    (hn : As.length = n) (hst : st = As.reverse ++ .ref (ad c0) :: rest) (hW : (rest.map fun v => v.category).sum ≤ 8) (hd : decode cc pc = .ok (.invokevirtual index, 3)) (hf : cells + mc ≤ R.cells ∧ slots + ms ≤ R.slots)
    (kx : sx_VX lay cl D cI cJ ad A nL p l e R s m args below meth c Q (cells + mc) (slots + ms) XX pc lv rest)
    (kk : ∀ (x : Int) (μ2 : sx_M), QQ x μ2 → sx_V lay cl D cI cJ ad A nL p l e R s m args below meth c Q cells slots μ2 (pc + 3) lv (rest)) :
    sx_V lay cl D cI cJ ad A nL p l e R s m args below meth c Q cells slots μ pc lv st :=
  sx_callV C (fun H locs ls hP hS hl => vx_runV (As := As) (rest := rest) (nL := nL) ⟨C.1, C.2.1, C.2.2.1, C.2.2.2.1, C.2.2.2.2.1⟩ (hM H.size) cw (sx_preV C hZ hP hS hlay hcl As) rfl hn hl.1 hst (lv_room hW) hd hf) kx kk
theorem sx_stcI (C : sx_C lay cl D cI cJ ad A nL own cc Ts p s m args c) (hZ : sx_Z A s s.heap) {y : MethodName} {ws2 : List Cond} {rm2 : Room} {index maxL n : Nat} {bytes : ByteArray} {ret : Option FieldType} {rest : List Value} (As : List Value)
    (hM : ∀ sz2, sx_MI l y ws2 rm2 lay cl D cI cJ ad As μ QQ XX mc ms sz2) (cw : CallB R s args own index y bytes maxL ret ws2 rm2 mc ms n ∧ (Cond.static y).before args s = true)
    (hn : As.length = n) (hst : st = As.reverse ++ rest) (hW : (rest.map fun v => v.category).sum ≤ 8) (hd : decode cc pc = .ok (.invokestatic index, 3)) (hf : cells + mc ≤ R.cells ∧ slots + ms ≤ R.slots)
    (kx : sx_VX lay cl D cI cJ ad A nL p l e R s m args below meth c Q (cells + mc) (slots + ms) XX pc lv rest)
    (kk : ∀ (x : Int) (μ2 : sx_M), QQ x μ2 → sx_V lay cl D cI cJ ad A nL p l e R s m args below meth c Q cells slots μ2 (pc + 3) lv (.int (sx_i x) :: rest)) :
    sx_V lay cl D cI cJ ad A nL p l e R s m args below meth c Q cells slots μ pc lv st :=
  sx_callI C (fun H locs ls hP hS hl => vx_runS (As := As) (rest := rest) (nL := nL) ⟨C.1, C.2.1, C.2.2.1, C.2.2.2.1, C.2.2.2.2.1⟩ (hM H.size) cw (sx_pre C hZ hP hS As) rfl hn hl.1 hst (lv_room hW) hd hf) kx kk
theorem sx_stcV (C : sx_C lay cl D cI cJ ad A nL own cc Ts p s m args c) (hZ : sx_Z A s s.heap) {y : MethodName} {ws2 : List Cond} {rm2 : Room} {index maxL n : Nat} {bytes : ByteArray} {ret : Option FieldType} {rest : List Value} (As : List Value)
    (hM : ∀ sz2, sx_MV l y ws2 rm2 lay cl D cI cJ ad As μ QQ XX mc ms sz2) (cw : CallB R s args own index y bytes maxL ret ws2 rm2 mc ms n ∧ (Cond.static y).before args s = true)
    (hn : As.length = n) (hst : st = As.reverse ++ rest) (hW : (rest.map fun v => v.category).sum ≤ 8) (hd : decode cc pc = .ok (.invokestatic index, 3)) (hf : cells + mc ≤ R.cells ∧ slots + ms ≤ R.slots)
    (kx : sx_VX lay cl D cI cJ ad A nL p l e R s m args below meth c Q (cells + mc) (slots + ms) XX pc lv rest)
    (kk : ∀ (x : Int) (μ2 : sx_M), QQ x μ2 → sx_V lay cl D cI cJ ad A nL p l e R s m args below meth c Q cells slots μ2 (pc + 3) lv (rest)) :
    sx_V lay cl D cI cJ ad A nL p l e R s m args below meth c Q cells slots μ pc lv st :=
  sx_callV C (fun H locs ls hP hS hl => vx_runS (As := As) (rest := rest) (nL := nL) ⟨C.1, C.2.1, C.2.2.1, C.2.2.2.1, C.2.2.2.2.1⟩ (hM H.size) cw (sx_pre C hZ hP hS As) rfl hn hl.1 hst (lv_room hW) hd hf) kx kk
/-- a method that never throws, as the kit's plain contract -/
theorem sx_plain {y : MethodName} {ws2 : List Cond} {rm2 : Room} {av : List Value} (h : sx_MI l y ws2 rm2 lay cl D cI cJ ad av μ QQ (fun _ _ => False) mc ms sz) : Met l y ws2 rm2 (va_Pc av (sx_Pre lay cl D cI cJ ad μ sz)) (sx_T (sx_QI lay cl D cI cJ ad QQ sz)) mc ms (sx_A lay ad sz) := by
  intro p e ha hc hk s m args below hf happ hP hK
  obtain ⟨n, o, h1, h2, h3, h4⟩ := h p e ha hc hk s m args below hf happ hP hK
  refine ⟨n, o, h1, h2, h3, ?_⟩
  rcases h4 with h4 | ⟨q, rfl, E, ce, L, ⟨u, -, hu, -⟩, -⟩
  · exact h4
  · exact hu.1.elim
/-- invokestatic of a nest mate's own method that never throws -/
theorem sx_nstI (C : sx_C lay cl D cI cJ ad A nL own cc Ts p s m args c) (hZ : sx_Z A s s.heap) {y : MethodName} {host : String} {ws2 : List Cond} {rm2 : Room} {index maxL n : Nat} {bytes : ByteArray} {ret : Option FieldType} {rest : List Value} (As : List Value)
    (hM : ∀ sz2, sx_MI l y ws2 rm2 lay cl D cI cJ ad As μ QQ (fun _ _ => False) mc ms sz2) (cw : va_CN R s args own index y host bytes maxL ret ws2 rm2 mc ms n ∧ (Cond.static y).before args s = true ∧ True)
    (hn : As.length = n) (hst : st = As.reverse ++ rest) (hW : (rest.map fun v => v.category).sum ≤ 8) (hd : decode cc pc = .ok (.invokestatic index, 3)) (hf : cells + mc ≤ R.cells ∧ slots + ms ≤ R.slots)
    (kk : ∀ (x : Int) (μ2 : sx_M), QQ x μ2 → sx_V lay cl D cI cJ ad A nL p l e R s m args below meth c Q cells slots μ2 (pc + 3) lv (.int (sx_i x) :: rest)) :
    sx_V lay cl D cI cJ ad A nL p l e R s m args below meth c Q cells slots μ pc lv st := by
  intro H locs ls hP hS hl T hT X
  have hfr := sx_sb C hS
  obtain ⟨v, st₀, t, T', L, h0, X', hL, e1, e2, ⟨⟨⟨r, u, hv, ⟨x, hxe, hq⟩, hB⟩, hF⟩, hsm⟩, go⟩ := va_runSN (As := As) (rest := rest) (nL := nL) ⟨C.1, C.2.1, C.2.2.1, C.2.2.2.1, C.2.2.2.2.1⟩ (sx_plain (hM H.size)) cw (sx_pre C hZ hP hS As) rfl hn hl.1 hst (lv_room hW) hd hf T hT X
  cases hv
  cases hxe
  obtain ⟨k1, k2, k3⟩ := vx_keep h0 e1 hS (fun q _ h => hfr q h) hfr hL hF
  have X2 := sx_tight X X' (by rw [hT, e1, ← h0]; exact hsm)
  obtain ⟨t2, a1, b1⟩ := kk x u hq T'.heap (locs ++ L) ls (by rw [e1]; exact hB) k3 hl T' rfl X2
  exact ⟨t2, go t2 a1, b1⟩
/-- the words of a call out of the one list -/
theorem sx_good {w : Cond} {y : MethodName} {b : ByteArray} {n : Nat} {r : Option FieldType} (hc : Cond.code y b n r ∈ sr_ts) : GoodIn sr_ts (Cond.code y b n r :: sr_ts) := fun w h => (List.mem_cons.mp h).elim (fun q => by rw [q]; exact sr_goodIn _ hc) (sr_goodIn w)
theorem sx_cwV {index maxL n : Nat} {y : MethodName} {C0 : String} {bytes : ByteArray} {ret : Option FieldType} {rm2 : Room} (ht : ∀ w ∈ sr_ts, w.before args s = true) (hc : Cond.code y bytes maxL ret ∈ sr_ts) (h1 : Cond.methodLink own index y ∈ sr_ts) (h2 : Cond.instanceMethod y ∈ sr_ts) (h3 : Cond.selects C0 y y ∈ sr_ts) (h4 : Cond.initialized C0 ∈ sr_ts) (hrc : rm2.cells = mc) (hrs : rm2.slots = ms)
    (hd : y.cls = C0 ∧ y.cls ≠ "java/lang/invoke/MethodHandle" ∧ y.cls ≠ "java/lang/invoke/VarHandle" ∧ (parseMethodDescriptor y.desc).map (fun d => d.parameters.length) = some n) (hR : rm2.frames + 1 ≤ R.frames ∧ 8 + (maxL + 11) + rm2.locals ≤ R.locals) :
    CallW R s args own C0 index y bytes maxL ret (Cond.code y bytes maxL ret :: sr_ts) rm2 mc ms n :=
  cwV n ht (fun w h => by
    rcases List.mem_append.mp h with h | h
    · simp only [List.mem_cons, List.not_mem_nil, or_false] at h
      rcases h with rfl | rfl | rfl | rfl
      · exact sr_goodIn _ h1
      · exact sr_goodIn _ h2
      · exact sr_goodIn _ h3
      · exact sr_goodIn _ h4
    · exact sx_good (w := w) hc w h) rfl hrc hrs hd hR
theorem sx_cwS {index maxL n : Nat} {y : MethodName} {bytes : ByteArray} {ret : Option FieldType} {rm2 : Room} (ht : ∀ w ∈ sr_ts, w.before args s = true) (hc : Cond.code y bytes maxL ret ∈ sr_ts) (h1 : Cond.methodLink own index y ∈ sr_ts) (h2 : Cond.static y ∈ sr_ts) (h4 : Cond.initialized y.cls ∈ sr_ts) (hrc : rm2.cells = mc) (hrs : rm2.slots = ms)
    (hd : y.cls ≠ "java/lang/invoke/MethodHandle" ∧ y.cls ≠ "java/lang/invoke/VarHandle" ∧ (parseMethodDescriptor y.desc).map (fun d => d.parameters.length) = some n) (hR : rm2.frames + 1 ≤ R.frames ∧ 8 + (maxL + 11) + rm2.locals ≤ R.locals) :
    CallB R s args own index y bytes maxL ret (Cond.code y bytes maxL ret :: sr_ts) rm2 mc ms n ∧ (Cond.static y).before args s = true :=
  va_cwS n ht (fun w h => by
    rcases List.mem_append.mp h with h | h
    · simp only [List.mem_cons, List.not_mem_nil, or_false] at h
      rcases h with rfl | rfl | rfl
      · exact sr_goodIn _ h1
      · exact sr_goodIn _ h2
      · exact sr_goodIn _ h4
    · exact sx_good (w := w) hc w h) rfl hrc hrs hd hR
theorem sx_cwN {index maxL n : Nat} {y : MethodName} {host : String} {bytes : ByteArray} {ret : Option FieldType} {rm2 : Room} (ht : ∀ w ∈ sr_ts, w.before args s = true) (hZ : sx_Z A s s.heap) (hc : Cond.code y bytes maxL ret ∈ sr_ts) (h1 : Cond.methodLinkNest own index y host ∈ sr_bad) (h2 : Cond.static y ∈ sr_ts) (h4 : Cond.initialized y.cls ∈ sr_ts) (hrc : rm2.cells = mc) (hrs : rm2.slots = ms)
    (hd : y.cls ≠ "java/lang/invoke/MethodHandle" ∧ y.cls ≠ "java/lang/invoke/VarHandle" ∧ (parseMethodDescriptor y.desc).map (fun d => d.parameters.length) = some n) (hR : rm2.frames + 1 ≤ R.frames ∧ 8 + (maxL + 11) + rm2.locals ≤ R.locals) :
    va_CN R s args own index y host bytes maxL ret (Cond.code y bytes maxL ret :: sr_ts) rm2 mc ms n ∧ (Cond.static y).before args s = true ∧ True :=
  ⟨va_cnB n ht (fun w h => sx_good (w := w) hc w h) rfl hrc hrs (hZ.2.2.2.1 _ h1) (ht _ h4) hd hR, ht _ h2, trivial⟩
/-- Math.max, min, abs -/
theorem sx_max (C : sx_C lay cl D cI cJ ad A nL own cc Ts p s m args c) {index : Nat} {x y : Int} {B0 : Prop} (h1 : Cond.methodLink own index Lib.Math.max.name ∈ Ts) (h2 : Cond.static Lib.Math.max.name ∈ Ts) (h3 : Cond.initialized "java/lang/Math" ∈ Ts) (h4 : Cond.code Lib.Math.max.name Lib.Math.max.code 2 (some .int) ∈ Ts) (hRf : 1 ≤ R.frames) (hRl : (st.map fun v => v.category).sum + 13 ≤ R.locals) (hc : cells ≤ R.cells) (hs : slots ≤ R.slots) (hd : decode cc pc = .ok (.invokestatic index, 3)) (h : (sx_R x ∧ sx_R y) ∧ B0)
    (k : B0 → sx_V lay cl D cI cJ ad A nL p l e R s m args below meth c Q cells slots μ (pc + 3) lv (.int (sx_i (if x < y then y else x)) :: st)) : sx_V lay cl D cI cJ ad A nL p l e R s m args below meth c Q cells slots μ pc lv (.int (sx_i y) :: .int (sx_i x) :: st) := by
  intro H locs ls hP hS hl
  refine va_mmax C.1 C.2.1 (C.2.2.1.trans hl.1.symm) C.2.2.2.1 (C.2.2.2.2.1 _ h1) (C.2.2.2.2.1 _ h2) (C.2.2.2.2.1 _ h3) (C.2.2.2.2.1 _ h4) hRf hRl hc hs hd ?_
  have hq : (if sx_i x < sx_i y then sx_i y else sx_i x) = sx_i (if x < y then y else x) := by
    have := sx_lt h.1.1 h.1.2
    by_cases z : x < y
    · rw [if_pos z, if_pos (this.mpr z)]
    · rw [if_neg z, if_neg (fun w => z (this.mp w))]
  rw [hq]
  exact k h.2 H locs ls hP hS hl
theorem sx_min (C : sx_C lay cl D cI cJ ad A nL own cc Ts p s m args c) {index : Nat} {x y : Int} {B0 : Prop} (h1 : Cond.methodLink own index Lib.Math.min.name ∈ Ts) (h2 : Cond.static Lib.Math.min.name ∈ Ts) (h3 : Cond.initialized "java/lang/Math" ∈ Ts) (h4 : Cond.code Lib.Math.min.name Lib.Math.min.code 2 (some .int) ∈ Ts) (hRf : 1 ≤ R.frames) (hRl : (st.map fun v => v.category).sum + 13 ≤ R.locals) (hc : cells ≤ R.cells) (hs : slots ≤ R.slots) (hd : decode cc pc = .ok (.invokestatic index, 3)) (h : (sx_R x ∧ sx_R y) ∧ B0)
    (k : B0 → sx_V lay cl D cI cJ ad A nL p l e R s m args below meth c Q cells slots μ (pc + 3) lv (.int (sx_i (if y < x then y else x)) :: st)) : sx_V lay cl D cI cJ ad A nL p l e R s m args below meth c Q cells slots μ pc lv (.int (sx_i y) :: .int (sx_i x) :: st) := by
  intro H locs ls hP hS hl
  refine va_mmin C.1 C.2.1 (C.2.2.1.trans hl.1.symm) C.2.2.2.1 (C.2.2.2.2.1 _ h1) (C.2.2.2.2.1 _ h2) (C.2.2.2.2.1 _ h3) (C.2.2.2.2.1 _ h4) hRf hRl hc hs hd ?_
  have hq : (if sx_i y < sx_i x then sx_i y else sx_i x) = sx_i (if y < x then y else x) := by
    have := sx_lt h.1.2 h.1.1
    by_cases z : y < x
    · rw [if_pos z, if_pos (this.mpr z)]
    · rw [if_neg z, if_neg (fun w => z (this.mp w))]
  rw [hq]
  exact k h.2 H locs ls hP hS hl
theorem sx_abs (C : sx_C lay cl D cI cJ ad A nL own cc Ts p s m args c) {index : Nat} {x : Int} {B0 : Prop} (h1 : Cond.methodLink own index Lib.Math.abs.name ∈ Ts) (h2 : Cond.static Lib.Math.abs.name ∈ Ts) (h3 : Cond.initialized "java/lang/Math" ∈ Ts) (h4 : Cond.code Lib.Math.abs.name Lib.Math.abs.code 1 (some .int) ∈ Ts) (hRf : 1 ≤ R.frames) (hRl : (st.map fun v => v.category).sum + 13 ≤ R.locals) (hc : cells ≤ R.cells) (hs : slots ≤ R.slots) (hd : decode cc pc = .ok (.invokestatic index, 3)) (h : sx_R x ∧ B0)
    (k : B0 → sx_V lay cl D cI cJ ad A nL p l e R s m args below meth c Q cells slots μ (pc + 3) lv (.int (sx_i (if 0 ≤ x then x else -x)) :: st)) : sx_V lay cl D cI cJ ad A nL p l e R s m args below meth c Q cells slots μ pc lv (.int (sx_i x) :: st) := by
  intro H locs ls hP hS hl
  refine va_mabs C.1 C.2.1 (C.2.2.1.trans hl.1.symm) C.2.2.2.1 (C.2.2.2.2.1 _ h1) (C.2.2.2.2.1 _ h2) (C.2.2.2.2.1 _ h3) (C.2.2.2.2.1 _ h4) hRf hRl hc hs hd ?_
  have hq : (if 0 ≤ sx_i x then sx_i x else 0 - sx_i x) = sx_i (if 0 ≤ x then x else -x) := by
    rw [← sx_0]
    have := sx_le (a := 0) (b := x) ⟨by omega, by omega⟩ h.1
    by_cases z : 0 ≤ x
    · rw [if_pos z, if_pos (this.mpr z)]
    · rw [if_neg z, if_neg (fun w => z (this.mp w)), sx_sub]
      congr 1
      omega
  rw [hq]
  exact k h.2 H locs ls hP hS hl
end SXK
end
section
/-! Methods with a table (the law's wrappers): their bodies, catching; the law's own rows: its script, its calls of the wrappers, its end. -/
section SXH
variable {lay : List sx_L} {cl : List vw_C} {D : va_G} {cI cJ : ClassId} {ad : Nat → Nat} {A : Nat → Prop} {nL : Nat} {own : String} {cc : ByteArray} {Ts : List Cond} {p : Program} {l : Launch} {e : Env} {R : Room} {s : State} {m : MethodId} {args : Array Value} {below : List Frame} {meth : Method} {c : Code} {Q : State → Prop} {cells slots : Nat} {μ : sx_M} {pc : Nat} {lv : List (Nat × Value)} {st : List Value}
variable {QQ : Int → sx_M → Prop} {mc ms sz : Nat} {Qc : Array Value → State → Outcome → State → Prop}
theorem sx_bodyH {y : MethodName} {ws ws' : List Cond} {rm : Room} {av : List Value} {maxL : Nat} {ret : Option FieldType} {hh : List (Nat × Nat × Nat × Nat)} (hy : plainName y.cls = true) (hw : ws = Cond.codeWith y cc maxL ret hh :: ws') (hav : (lg_sl av).length ≤ maxL)
    (body : ∀ (p : Program) (e : Env) (s : State) (m : MethodId) (below : List Frame) (meth : Method) (c : Code), sx_C lay cl D cI cJ ad (sx_A lay ad sz) maxL y.cls cc ws' p s m av.toArray c → sx_Z (sx_A lay ad sz) s s.heap → meth.sig.returnType = ret → meth.locks = false → c.exceptionTable.toList = tableOf hh →
      sx_V lay cl D cI cJ ad (sx_A lay ad sz) maxL p l e rm s m av.toArray below meth c (MQ below Qc av.toArray s mc ms (sx_A lay ad sz)) 0 0 μ 0 (lv_args 0 av) []) :
    Met l y ws rm (va_Pc av (sx_Pre lay cl D cI cJ ad μ sz)) Qc mc ms (sx_A lay ad sz) := by
  refine va_MetW hy hw ?_
  intro p e s m args below meth c s₁ B hml hv
  obtain ⟨rfl, hsz, hP, hK, hJ, hZ⟩ := hv
  have hts := atoms_spec (ws := ws) B.pre
  have htb := vx_table (x := y) B (hts _ (by rw [hw]; exact List.mem_cons_self))
  have hown : s.vm.findClass y.cls = some m.cls := findClass_of_methodNamed B.named
  have key := body p e s m below meth c ⟨B.exec, B.bytes, hml, hown, fun w h => hts w (by rw [hw]; exact List.mem_cons_of_mem _ h), hK, fun q h => Or.inr (by rw [← hsz]; exact h), hJ, fun i hi => Or.inl ⟨i, hi, rfl⟩⟩ hZ B.returns B.notSynchronized htb
  rw [lg_entry_eq]
  exact key s.heap [] _ hP va_S.rf (lv_entry av hav)
/-- E is caught by the row x -/
theorem sx_catch (C : sx_C lay cl D cI cJ ad A nL own cc Ts p s m args c) (hZ : sx_Z A s s.heap) {E : String} (pre : List ExceptionTableEntry) (x : ExceptionTableEntry) (suf : List ExceptionTableEntry) (htb : c.exceptionTable.toList = pre ++ x :: suf)
    (hpass : ∀ z ∈ pre, z.catchType ≠ 0 ∧ ∃ nm : String, Cond.classLink own z.catchType nm ∈ Ts ∧ (E, nm) ∈ sr_ncs) (hx : covers x pc = true) (h0 : x.catchType ≠ 0) (hlink : Cond.classLink own x.catchType E ∈ Ts) (hcast : Cond.castable E E ∈ sr_bad)
    (k : ∀ q : Nat, sx_V lay cl D cI cJ ad A nL p l e R s m args below meth c Q cells slots μ x.handlerPc lv [.ref q])
    {H : Heap} {locs : List Loc} {ls : Array Slot} {ce : Cell} {q : Addr} (hP : va_P D cl (sx_W lay cI cJ ad μ) H) (hS : va_S A s.heap H locs) (hl : lv_has ls nL lv) (h1 : H[q]? = some ce) (h2 : ce.vm = .none) (h3 : s.vm.findClass E = some ce.cls) :
    vx_W p l e R s m args below meth c H locs cells slots Q (F0 m pc ls st) q :=
  vx_catch C.2.2.2.1 pre x suf htb (fun z hz => Or.inr ⟨(hpass z hz).1, (hpass z hz).2.choose, C.2.2.2.2.1 _ (hpass z hz).2.choose_spec.1, hZ.2.2.2.2 _ (hpass z hz).2.choose_spec.2⟩) hx h0 (C.2.2.2.2.1 _ hlink) (va_Nw.use (sr_bad_tab _ hcast) (hZ.2.2.2.1 _ hcast)) h1 h2 h3 (k q H locs ls hP hS hl)
/-- a handler that answers a number -/
theorem sx_hand (C : sx_C lay cl D cI cJ ad (sx_A lay ad sz) nL own cc Ts p s m args c) {i q : Nat} {n : Int} (hr : meth.sig.returnType = some .int) (hlk : meth.locks = false) (hc : cells ≤ mc) (hs : slots ≤ ms) (hi : i < nL) (d0 : decode cc pc = .ok (.astore i, 2)) (d2 : decode cc (pc + 2) = .ok (.iconst n, 1)) (d3 : decode cc (pc + 2 + 1) = .ok (.ireturn, 1)) (h : QQ n μ) :
    sx_V lay cl D cI cJ ad (sx_A lay ad sz) nL p l e R s m args below meth c (MQ below (sx_QI lay cl D cI cJ ad QQ sz) args s mc ms (sx_A lay ad sz)) cells slots μ pc lv [.ref q] := by
  refine sx_astore C d0 hi rfl ?_
  refine sx_iconst C d2 rfl ?_
  exact sx_iretL C hr hlk hc hs d3 h
theorem sx_handN (C : sx_C lay cl D cI cJ ad (sx_A lay ad sz) nL own cc Ts p s m args c) {i : Fin 4} {q : Nat} {n : Int} (hr : meth.sig.returnType = some .int) (hlk : meth.locks = false) (hc : cells ≤ mc) (hs : slots ≤ ms) (hi : (i : Nat) < nL) (d0 : decode cc pc = .ok (.astore_n i, 1)) (d2 : decode cc (pc + 1) = .ok (.iconst n, 1)) (d3 : decode cc (pc + 1 + 1) = .ok (.ireturn, 1)) (h : QQ n μ) :
    sx_V lay cl D cI cJ ad (sx_A lay ad sz) nL p l e R s m args below meth c (MQ below (sx_QI lay cl D cI cJ ad QQ sz) args s mc ms (sx_A lay ad sz)) cells slots μ pc lv [.ref q] := by
  refine sx_astore_n C d0 rfl hi rfl ?_
  refine sx_iconst C d2 rfl ?_
  exact sx_iretL C hr hlk hc hs d3 h
/-- the law calls a wrapper -/
theorem sx_cwL {index maxL n : Nat} {y : MethodName} {bytes : ByteArray} {ret : Option FieldType} {hh : List (Nat × Nat × Nat × Nat)} {rm2 : Room} (ht : ∀ w ∈ sr_ts, w.before args s = true) (hc : Cond.codeWith y bytes maxL ret hh ∈ sr_ts) (h1 : Cond.methodLink own index y ∈ sr_ts) (h2 : Cond.static y ∈ sr_ts) (h4 : Cond.initialized y.cls ∈ sr_ts) (hrc : rm2.cells = mc) (hrs : rm2.slots = ms)
    (hd : y.cls ≠ "java/lang/invoke/MethodHandle" ∧ y.cls ≠ "java/lang/invoke/VarHandle" ∧ (parseMethodDescriptor y.desc).map (fun d => d.parameters.length) = some n) (hR : rm2.frames + 1 ≤ R.frames ∧ 8 + (maxL + 11) + rm2.locals ≤ R.locals) :
    vx_CSW R s args own index y bytes maxL ret hh (Cond.codeWith y bytes maxL ret hh :: sr_ts) rm2 mc ms n :=
  vx_cwSW n ht (fun w h => by
    rcases List.mem_append.mp h with h | h
    · simp only [List.mem_cons, List.not_mem_nil, or_false] at h
      rcases h with rfl | rfl | rfl
      · exact sr_goodIn _ h1
      · exact sr_goodIn _ h2
      · exact sr_goodIn _ h4
    · rcases List.mem_cons.mp h with h | h
      · rw [h]; exact sr_goodIn _ hc
      · exact sr_goodIn _ h) rfl hrc hrs hd hR
theorem sx_stcL (C : sx_C lay cl D cI cJ ad A nL own cc Ts p s m args c) (hZ : sx_Z A s s.heap) {y : MethodName} {ws2 : List Cond} {rm2 : Room} {index maxL n : Nat} {bytes : ByteArray} {ret : Option FieldType} {hh : List (Nat × Nat × Nat × Nat)} {rest : List Value} (As : List Value)
    (hM : ∀ sz2, sx_ML l y ws2 rm2 lay cl D cI cJ ad As μ QQ mc ms sz2) (cw : vx_CSW R s args own index y bytes maxL ret hh ws2 rm2 mc ms n)
    (hn : As.length = n) (hst : st = As.reverse ++ rest) (hW : (rest.map fun v => v.category).sum ≤ 8) (hd : decode cc pc = .ok (.invokestatic index, 3)) (hf : cells + mc ≤ R.cells ∧ slots + ms ≤ R.slots)
    (kk : ∀ (x : Int) (μ2 : sx_M), QQ x μ2 → sx_V lay cl D cI cJ ad A nL p l e R s m args below meth c Q (cells + mc) (slots + ms) μ2 (pc + 3) lv (.int (sx_i x) :: rest)) :
    sx_V lay cl D cI cJ ad A nL p l e R s m args below meth c Q cells slots μ pc lv st := by
  intro H locs ls hP hS hl
  have hfr := sx_sb C hS
  exact va_calli (vx_runSW (As := As) (rest := rest) (nL := nL) ⟨C.1, C.2.1, C.2.2.1, C.2.2.2.1, C.2.2.2.2.1⟩ (hM H.size) cw (sx_pre C hZ hP hS As) rfl hn hl.1 hst (lv_room hW) hd hf) hS (fun q _ h => hfr q h) hfr
    (fun r u t H1 locs1 ht _ hq hB _ _ hS1 => by
      obtain ⟨x, rfl, hx⟩ := hq
      exact kk x u hx H1 locs1 ls (by rw [← ht]; exact hB) hS1 hl)
/-- the law's script -/
def sx_sc (xs : Nat → Int32) (j : Int) : Int := (xs j.toNat).toInt
theorem sx_sld (C : sx_C lay cl D cI cJ ad A nL own cc Ts p s m args c) {b L : Nat} {xs : Nat → Int32} (hX : va_X b L xs s s.heap) (hbl : b < s.heap.size) (hbA : ¬ A b) (hL : L < 2147483648) {j : Int} {B0 : Prop} (hd : decode cc pc = .ok (.iaload, 1)) (h : (0 ≤ j ∧ j < (L : Int)) ∧ B0)
    (k : B0 → sx_V lay cl D cI cJ ad A nL p l e R s m args below meth c Q cells slots μ (pc + 1) lv (.int (sx_i (sx_sc xs j)) :: st)) : sx_V lay cl D cI cJ ad A nL p l e R s m args below meth c Q cells slots μ pc lv (.int (sx_i j) :: .ref b :: st) := by
  intro H locs ls hP hS hl
  obtain ⟨q1, q2, q3⟩ := sx_in hL h.1
  refine va_sld C.1 C.2.1 hX hbl hbA hS q1 hd ?_
  rw [q2, ← sx_of (xs j.toNat)]
  exact k h.2 H locs ls hP hS hl
theorem sx_slen (C : sx_C lay cl D cI cJ ad A nL own cc Ts p s m args c) {b L : Nat} {xs : Nat → Int32} (hX : va_X b L xs s s.heap) (hbl : b < s.heap.size) (hbA : ¬ A b) (hd : decode cc pc = .ok (.arraylength, 1))
    (k : sx_V lay cl D cI cJ ad A nL p l e R s m args below meth c Q cells slots μ (pc + 1) lv (.int (sx_i (L : Int)) :: st)) : sx_V lay cl D cI cJ ad A nL p l e R s m args below meth c Q cells slots μ pc lv (.ref b :: st) := by
  intro H locs ls hP hS hl
  refine va_slen C.1 C.2.1 hX hbl hbA hS hd ?_
  rw [← Int32.ofInt_eq_ofNat]
  exact k H locs ls hP hS hl
end SXH
end
section
/-! THE CLAIM OUT OF ONE WALK OF THE LAW'S BODY. Your part is whole_start (and what it stands on); all else here is the same for every law, but numbers. -/
def R_law : String := "StoneRingsLaw"
def lw_P (b : Addr) (xs : List Int32) (args : Array Value) (s : State) : Prop := args = #[.ref b] ∧ s.IntsAt b xs ∧ xs.length ≤ 2050 ∧ (Jvm.Cond.and given_1 narrow_1).before args s = true
def lw_Q (_ : Array Value) (s : State) (o : Outcome) (t : State) : Prop := o = .returned (some (.int 1)) ∧ Framed s o t [] 1063 9541
def lw_Z (below : List Frame) (a : Array Value) (s : State) : State → Prop := fun t => ∃ o, t.status = .running ∧ Ended t below o ∧ lw_Q a s o t
/-- the law's own end, with 1 on the stack, nothing written that was there before, its room as the claim has it -/
theorem lw_ret {p : Program} {l : Launch} {e : Env} {s : State} {m : MethodId} {below : List Frame} {meth : Method} {c : Code} {b : Nat} (hx : p.tables.exec = Jvm.exec) (hb : c.code = code) (hr : meth.sig.returnType = ret) (hlocks : meth.locks = false) {pc : Nat} {H : Heap} {ls : Array Slot} (hdg : decode code pc = .ok (.ireturn, 1)) : W p l e room_1 s m #[Value.ref b] below meth c H [] 1063 9541 (lw_Z below #[Value.ref b] s) (F0 m pc ls [.int 1]) := by
  intro T hT X
  obtain ⟨fs, hret, hrun, hended, hW, hframe⟩ := X.leave (v := some (.int 1)) (hlocks := hlocks) (fun h => by rw [hr] at h; cases h)
  have hmeth' : T.vm.method? m = some meth := X.method'
  refine ⟨T.setFrames fs, ?_, .returned (some (.int 1)), hrun, hended, rfl, ⟨_, rfl⟩, hW, hframe⟩
  jvm_step X.here [X.here.top, hx, hb, hdg, hmeth', hr, ret, narrow_b1]
  (try refine ⟨rfl, ?_⟩); (try refine ⟨rfl, ?_⟩)
  first | (intro acts; rw [hret _ acts rfl rfl rfl]) | rw [hret _ _ rfl rfl rfl]
  exact Steps.refl _
/-- what holds at the law's entry: the machine, the code, the tables' words (any of lw_tbl by 'hts w (by decide +kernel)'), the script of L ints xs at the cell b, what the Statement gives of the start (any of its parts by flat_of_before) -/
def lw_At (p : Program) (s : State) (m : MethodId) (meth : Method) (c : Code) (b L : Nat) (xs : Nat → Int32) : Prop :=
  p.tables.exec = Jvm.exec ∧ c.code = code ∧ meth.sig.returnType = ret ∧ c.maxLocals = 7 ∧ s.vm.findClass R_law = some m.cls ∧ (∀ w ∈ lw_tbl, w.before #[Value.ref b] s = true) ∧ va_X b L xs s s.heap ∧ b < s.heap.size ∧ meth.locks = false ∧ (Jvm.Cond.and given_1 narrow_1).before #[Value.ref b] s = true
section SXL
variable {lay : List sx_L} {cl : List vw_C} {D : va_G} {cI cJ : ClassId} {ad : Nat → Nat} {A : Nat → Prop} {nL : Nat} {own : String} {Ts : List Cond} {p : Program} {l : Launch} {e : Env} {s : State} {m : MethodId} {below : List Frame} {meth : Method} {c : Code} {cells slots : Nat} {μ : sx_M} {pc b : Nat} {lv : List (Nat × Value)}
/-- the law's end -/
theorem sx_lret (C : sx_C lay cl D cI cJ ad A nL own code Ts p s m #[Value.ref b] c) {x : Int} (hr : meth.sig.returnType = ret) (hlk : meth.locks = false) (hA : ∀ q, A q → s.heap.size ≤ q) (hc : cells ≤ 1063) (hs : slots ≤ 9541) (hd : decode code pc = .ok (.ireturn, 1)) (h : x = 1) :
    sx_V lay cl D cI cJ ad A nL p l e room_1 s m #[Value.ref b] below meth c (lw_Z below #[Value.ref b] s) cells slots μ pc lv [.int (sx_i x)] := by
  subst h
  intro H locs ls hP hS hl
  refine va_forget (fun q hq => hA _ (hS.2.2 q hq)) ?_
  refine W.widen hc hs ?_
  exact lw_ret C.1 C.2.1 hr hlk hd
end SXL
end
section
section SXU
def sx_CU (cl : List vw_C) (D : va_G) (cI cJ : ClassId) (A : Nat → Prop) (nL : Nat) (own : String) (cc : ByteArray) (p : Program) (s : State) (m : MethodId) (args : Array Value) (c : Code) : Prop :=
  p.tables.exec = Jvm.exec ∧ c.code = cc ∧ c.maxLocals = nL ∧ s.vm.findClass own = some m.cls ∧ (∀ w ∈ sr_ts, w.before args s = true) ∧ va_K D cl [(cI, .int), (cJ, .long)] s ∧ (∀ q : Nat, s.heap.size ≤ q → A q) ∧ ∀ w ∈ sr_bad, va_Nw w s
def sx_U (cl : List vw_C) (D : va_G) (A : Nat → Prop) (nL : Nat) (p : Program) (l : Launch) (e : Env) (R : Room) (s : State) (m : MethodId) (args : Array Value) (below : List Frame) (meth : Method) (c : Code) (Q : State → Prop) (cells slots : Nat) (ws : va_W) (pc : Nat) (lv : List (Nat × Value)) (st : List Value) : Prop :=
  ∀ (H : Heap) (locs : List Loc) (ls : Array Slot), va_P D cl ws H → va_D A ws → va_S A s.heap H locs → lv_has ls nL lv → W p l e R s m args below meth c H locs cells slots Q (F0 m pc ls st)
variable {cl : List vw_C} {D : va_G} {cI cJ : ClassId} {A : Nat → Prop} {nL : Nat} {own : String} {cc : ByteArray} {p : Program} {l : Launch} {e : Env} {R : Room} {s : State} {m : MethodId} {args : Array Value} {below : List Frame} {meth : Method} {c : Code} {Q : State → Prop} {cells slots : Nat} {ws : va_W} {pc : Nat} {lv : List (Nat × Value)} {st : List Value}

theorem su_iconst (C : sx_CU cl D cI cJ A nL own cc p s m args c) {n v : Int} (hd : decode cc pc = .ok (.iconst n, 1)) (hv : n = v) (k : sx_U cl D A nL p l e R s m args below meth c Q cells slots ws (pc + 1) lv (.int (sx_i v) :: st)) : sx_U cl D A nL p l e R s m args below meth c Q cells slots ws (pc) lv (st) := by
  intro H locs ls hP hD hS hl
  subst hv
  exact lv_iconst C.1 C.2.1 hd rfl (k H locs ls hP hD hS hl)

theorem su_bipush (C : sx_CU cl D cI cJ A nL own cc p s m args c) {n v : Int} (hd : decode cc pc = .ok (.bipush n, 2)) (hv : (Int8.ofInt n).toInt32 = sx_i v) (k : sx_U cl D A nL p l e R s m args below meth c Q cells slots ws (pc + 2) lv (.int (sx_i v) :: st)) : sx_U cl D A nL p l e R s m args below meth c Q cells slots ws (pc) lv (st) := by
  intro H locs ls hP hD hS hl
  exact lv_bipush C.1 C.2.1 hd hv (k H locs ls hP hD hS hl)

theorem su_sipush (C : sx_CU cl D cI cJ A nL own cc p s m args c) {n v : Int} (hd : decode cc pc = .ok (.sipush n, 3)) (hv : (Int16.ofInt n).toInt32 = sx_i v) (k : sx_U cl D A nL p l e R s m args below meth c Q cells slots ws (pc + 3) lv (.int (sx_i v) :: st)) : sx_U cl D A nL p l e R s m args below meth c Q cells slots ws (pc) lv (st) := by
  intro H locs ls hP hD hS hl
  exact lv_sipush C.1 C.2.1 hd hv (k H locs ls hP hD hS hl)

theorem su_iload_n (C : sx_CU cl D cI cJ A nL own cc p s m args c) {q : Fin 4} {i : Nat} {x : Int} (n : Nat) (hd : decode cc pc = .ok (.iload_n q, 1)) (hi : (q : Nat) = i) (hv : lv[n]? = some (i, .int (sx_i x))) (k : sx_U cl D A nL p l e R s m args below meth c Q cells slots ws (pc + 1) lv (.int (sx_i x) :: st)) : sx_U cl D A nL p l e R s m args below meth c Q cells slots ws (pc) lv (st) := by
  intro H locs ls hP hD hS hl
  exact lv_iload_n C.1 C.2.1 hd hi (lv_at hl n hv) (k H locs ls hP hD hS hl)

theorem su_aload_n (C : sx_CU cl D cI cJ A nL own cc p s m args c) {q : Fin 4} {i a : Nat} (n : Nat) (hd : decode cc pc = .ok (.aload_n q, 1)) (hi : (q : Nat) = i) (hv : lv[n]? = some (i, .ref a)) (k : sx_U cl D A nL p l e R s m args below meth c Q cells slots ws (pc + 1) lv (.ref a :: st)) : sx_U cl D A nL p l e R s m args below meth c Q cells slots ws (pc) lv (st) := by
  intro H locs ls hP hD hS hl
  exact lv_aload_n C.1 C.2.1 hd hi (lv_at hl n hv) (k H locs ls hP hD hS hl)

theorem su_astore_n (C : sx_CU cl D cI cJ A nL own cc p s m args c) {q : Fin 4} {i a : Nat} {lu : List (Nat × Value)} (hd : decode cc pc = .ok (.astore_n q, 1)) (hi : (q : Nat) = i) (hn : i < nL) (hv : (i, Value.ref a) :: lv.filter (fun q => !(q.1 == i) && !(q.1 + 1 == i && q.2.category == 2)) = lu) (k : sx_U cl D A nL p l e R s m args below meth c Q cells slots ws (pc + 1) lu (st)) : sx_U cl D A nL p l e R s m args below meth c Q cells slots ws (pc) lv (.ref a :: st) := by
  intro H locs ls hP hD hS hl
  exact lv_astore_n C.1 C.2.1 hd hi hl hn hv (fun ls' hl' => k H locs ls' hP hD hS hl')

theorem su_istore (C : sx_CU cl D cI cJ A nL own cc p s m args c) {i : Nat} {x : Int} {lu : List (Nat × Value)} (hd : decode cc pc = .ok (.istore i, 2)) (hn : i < nL) (hv : (i, Value.int (sx_i x)) :: lv.filter (fun q => !(q.1 == i) && !(q.1 + 1 == i && q.2.category == 2)) = lu) (k : sx_U cl D A nL p l e R s m args below meth c Q cells slots ws (pc + 2) lu (st)) : sx_U cl D A nL p l e R s m args below meth c Q cells slots ws (pc) lv (.int (sx_i x) :: st) := by
  intro H locs ls hP hD hS hl
  exact lv_istore C.1 C.2.1 hd hl hn hv (fun ls' hl' => k H locs ls' hP hD hS hl')

theorem su_dup (C : sx_CU cl D cI cJ A nL own cc p s m args c) {v : Value} (hd : decode cc pc = .ok (.dup, 1)) (hc : v.category = 1) (k : sx_U cl D A nL p l e R s m args below meth c Q cells slots ws (pc + 1) lv (v :: v :: st)) : sx_U cl D A nL p l e R s m args below meth c Q cells slots ws (pc) lv (v :: st) := by
  intro H locs ls hP hD hS hl
  exact lv_dup C.1 C.2.1 hd hc (k H locs ls hP hD hS hl)

theorem su_goto (C : sx_CU cl D cI cJ A nL own cc p s m args c) {off : Int} {tgt : Nat} (hd : decode cc pc = .ok (.goto off, 3)) (ht : (pc : Int) + off = (tgt : Int)) (k : sx_U cl D A nL p l e R s m args below meth c Q cells slots ws (tgt) lv (st)) : sx_U cl D A nL p l e R s m args below meth c Q cells slots ws (pc) lv (st) := by
  intro H locs ls hP hD hS hl
  exact lv_goto C.1 C.2.1 hd ht (k H locs ls hP hD hS hl)

theorem su_icmp_ge (C : sx_CU cl D cI cJ A nL own cc p s m args c) {x y off : Int} {tgt : Nat} (hx : sx_R x) (hy : sx_R y) (hd : decode cc pc = .ok (.if_icmp .ge off, 3)) (ht : (pc : Int) + off = (tgt : Int)) (kt : y ≤ x → sx_U cl D A nL p l e R s m args below meth c Q cells slots ws (tgt) lv (st)) (kf : x < y → sx_U cl D A nL p l e R s m args below meth c Q cells slots ws (pc + 3) lv (st)) : sx_U cl D A nL p l e R s m args below meth c Q cells slots ws (pc) lv (.int (sx_i y) :: .int (sx_i x) :: st) := by
  intro H locs ls hP hD hS hl
  exact lv_icmp_ge C.1 C.2.1 hd ht (fun q => kt ((sx_le hy hx).mp q) H locs ls hP hD hS hl) (fun q => kf (by have z := (not_congr (sx_le hy hx)).mp q; omega) H locs ls hP hD hS hl)

theorem su_icmp_le (C : sx_CU cl D cI cJ A nL own cc p s m args c) {x y off : Int} {tgt : Nat} (hx : sx_R x) (hy : sx_R y) (hd : decode cc pc = .ok (.if_icmp .le off, 3)) (ht : (pc : Int) + off = (tgt : Int)) (kt : x ≤ y → sx_U cl D A nL p l e R s m args below meth c Q cells slots ws (tgt) lv (st)) (kf : y < x → sx_U cl D A nL p l e R s m args below meth c Q cells slots ws (pc + 3) lv (st)) : sx_U cl D A nL p l e R s m args below meth c Q cells slots ws (pc) lv (.int (sx_i y) :: .int (sx_i x) :: st) := by
  intro H locs ls hP hD hS hl
  exact lv_icmp_le C.1 C.2.1 hd ht (fun q => kt ((sx_le hx hy).mp q) H locs ls hP hD hS hl) (fun q => kf (by have z := (not_congr (sx_le hx hy)).mp q; omega) H locs ls hP hD hS hl)

theorem su_wide (C : sx_CU cl D cI cJ A nL own cc p s m args c) {cells2 slots2 : Nat} (h1 : cells ≤ cells2) (h2 : slots ≤ slots2) (k : sx_U cl D A nL p l e R s m args below meth c Q cells2 slots2 ws (pc) lv (st)) : sx_U cl D A nL p l e R s m args below meth c Q cells slots ws (pc) lv (st) := by
  intro H locs ls hP hD hS hl
  exact W.widen h1 h2 (k H locs ls hP hD hS hl)

theorem su_obj (C : sx_CU cl D cI cJ A nL own cc p s m args c) {idx a : Nat} (h1 : Cond.methodLink own idx Lib.objectInit ∈ sr_ts) (h2 : Cond.instanceMethod Lib.objectInit ∈ sr_ts) (h3 : Cond.code Lib.objectInit ⟨#[0xb1]⟩ 1 none ∈ sr_ts) (hf : 1 ≤ R.frames) (hlo : (st.map fun v => v.category).sum + 12 ≤ R.locals) (hd : decode cc pc = .ok (.invokespecial idx, 3)) (k : sx_U cl D A nL p l e R s m args below meth c Q cells slots ws (pc + 3) lv (st)) : sx_U cl D A nL p l e R s m args below meth c Q cells slots ws (pc) lv (.ref a :: st) := by
  intro H locs ls hP hD hS hl
  refine W.objInit C.1 C.2.1 C.2.2.2.1 (C.2.2.2.2.1 _ h1) (C.2.2.2.2.1 _ h2) (C.2.2.2.2.1 _ h3) rfl (by rw [C.2.2.1]; exact hl.1) rfl hd hf (by show 2 * 0 + _ + 12 ≤ _; omega) (k H locs ls hP hD hS hl)

theorem su_put (C : sx_CU cl D cI cJ A nL own cc p s m args c) {C0 ref : String} {T : u_T} {N ci index : Nat} {fs : List Value} {a : Nat} {v : Value} {ty : FieldType} {ws2 : va_W} (q0 k0 : Nat) (he : ws[q0]? = some (a, .inr (ci, fs))) (hcl : cl[ci]? = some (C0, T, N)) (hk : k0 < N) (hin : ∀ w ∈ u_ws C0 T N, w ∈ sr_ts) (ty0 : Nat → FieldType) (hty : ∀ k, k < N → parseFieldDescriptor (T k).2.2.1 = some (ty0 k)) (hnm : ∀ a, a < N → ∀ b, b < N → a ≠ b → (T a).2.1 ≠ (T b).2.1) (hw : Cond.fieldLink own index ref (T k0).2.1 (T k0).2.2.1 ∈ sr_ts) (hr : (T k0).1 = ref) (hfin : (T k0).2.2.2 = false) (hdt : parseFieldDescriptor (T k0).2.2.1 = some ty) (hnr : narrow ty v = v) (hft : fits ty v = true) (hl0 : k0 < fs.length) (hd : decode cc pc = .ok (.putfield index, 3)) (hw2 : ws.set q0 (a, .inr (ci, fs.set k0 v)) = ws2) (k : sx_U cl D A nL p l e R s m args below meth c Q cells slots ws2 (pc + 3) lv (st)) : sx_U cl D A nL p l e R s m args below meth c Q cells slots ws (pc) lv (v :: .ref a :: st) := by
  intro H locs ls hP hD hS hl
  subst hw2
  exact va_put (D := D) C.1 C.2.1 C.2.2.2.2.1 hin ty0 hty hnm C.2.2.2.1 C.2.2.2.2.2.1 hP hD hS q0 he hcl k0 hk (C.2.2.2.2.1 _ hw) (fun _ h9 => by rw [hr] at h9; exact h9) hfin hdt hnr hft hl0 hd (fun H1 locs1 hP1 hD1 hS1 => k H1 locs1 ls hP1 hD1 hS1 hl)

theorem su_putF (C : sx_CU cl D cI cJ A nL own cc p s m args c) {C0 ref : String} {T : u_T} {N ci index : Nat} {fs : List Value} {a : Nat} {v : Value} {ty : FieldType} {ws2 : va_W} (q0 k0 : Nat) (he : ws[q0]? = some (a, .inr (ci, fs))) (hcl : cl[ci]? = some (C0, T, N)) (hk : k0 < N) (hin : ∀ w ∈ u_ws C0 T N, w ∈ sr_ts) (ty0 : Nat → FieldType) (hty : ∀ k, k < N → parseFieldDescriptor (T k).2.2.1 = some (ty0 k)) (hnm : ∀ a, a < N → ∀ b, b < N → a ≠ b → (T a).2.1 ≠ (T b).2.1) (hw : Cond.fieldLink own index ref (T k0).2.1 (T k0).2.2.1 ∈ sr_ts) (hr : (T k0).1 = ref) (hfin : (T k0).2.2.2 = true) (hin2 : meth.name = "<init>") (hdecl : (T k0).1 = own) (hdt : parseFieldDescriptor (T k0).2.2.1 = some ty) (hnr : narrow ty v = v) (hft : fits ty v = true) (hl0 : k0 < fs.length) (hd : decode cc pc = .ok (.putfield index, 3)) (hw2 : ws.set q0 (a, .inr (ci, fs.set k0 v)) = ws2) (k : sx_U cl D A nL p l e R s m args below meth c Q cells slots ws2 (pc + 3) lv (st)) : sx_U cl D A nL p l e R s m args below meth c Q cells slots ws (pc) lv (v :: .ref a :: st) := by
  intro H locs ls hP hD hS hl
  subst hw2
  exact va_putF (D := D) C.1 C.2.1 C.2.2.2.2.1 hin ty0 hty hnm C.2.2.2.1 C.2.2.2.2.2.1 hP hD hS q0 he hcl k0 hk (C.2.2.2.2.1 _ hw) (fun _ h9 => by rw [hr] at h9; exact h9) hfin hin2 hdecl hdt hnr hft hl0 hd (fun H1 locs1 hP1 hD1 hS1 => k H1 locs1 ls hP1 hD1 hS1 hl)

theorem su_newI (C : sx_CU cl D cI cJ A nL own cc p s m args c) {v : Int} {N0 : Nat} (hv : v = (N0 : Int)) (hN : N0 < 100000) (ha : Cond.arrayClass .int ∈ sr_ts) (hc : cells + 1 ≤ R.cells) (hs : slots + N0 ≤ R.slots) (hd : decode cc pc = .ok (.newarray .int, 2)) (k : ∀ q : Nat, sx_U cl D A nL p l e R s m args below meth c Q (cells + 1) (slots + N0) (ws ++ [(q, .inl (cI, N0, .inl (fun _ => sx_i 0)))]) (pc + 2) lv (.ref q :: st)) : sx_U cl D A nL p l e R s m args below meth c Q cells slots ws (pc) lv (.int (sx_i v) :: st) := by
  intro H locs ls hP hD hS hl
  subst hv
  have hr : sx_R (N0 : Int) := ⟨by omega, by omega⟩
  refine va_newa (D := D) (atype := .int) (ty := .int) (N' := N0) (a0 := (N0, .inl (fun _ => sx_i 0))) C.1 C.2.1 (C.2.2.2.2.1 _ ha) rfl C.2.2.2.2.2.1 hP hD hS C.2.2.2.2.2.2.1 (fun _ => rfl) (by rw [← sx_0, sx_lt hr ⟨by omega, by omega⟩]; omega) ?_ (by simp [componentBytes]; omega) hc hs hd (fun q cA H1 hK1 hP1 hD1 hS1 => ?_)
  · show (Int32.ofInt (N0 : Int)).toNatClampNeg = N0
    rw [Int32.toNatClampNeg_ofInt_of_le (by omega) (by omega)]
    omega
  · have e1 : s.vm.findClass ("[" ++ (FieldType.toString .int)) = some cA := (hK1.2 2 (cA, .int) rfl).2
    have e2 : s.vm.findClass ("[" ++ (FieldType.toString .int)) = some cI := (hK1.2 0 (cI, .int) rfl).2
    cases Option.some.inj (e1.symm.trans e2)
    exact k q H1 locs ls hP1 hD1 hS1 hl

theorem su_newJ (C : sx_CU cl D cI cJ A nL own cc p s m args c) {v : Int} {N0 : Nat} (hv : v = (N0 : Int)) (hN : N0 < 100000) (ha : Cond.arrayClass .long ∈ sr_ts) (hc : cells + 1 ≤ R.cells) (hs : slots + N0 ≤ R.slots) (hd : decode cc pc = .ok (.newarray .long, 2)) (k : ∀ q : Nat, sx_U cl D A nL p l e R s m args below meth c Q (cells + 1) (slots + N0) (ws ++ [(q, .inl (cJ, N0, .inr (.inl (fun _ => sx_j 0))))]) (pc + 2) lv (.ref q :: st)) : sx_U cl D A nL p l e R s m args below meth c Q cells slots ws (pc) lv (.int (sx_i v) :: st) := by
  intro H locs ls hP hD hS hl
  subst hv
  have hr : sx_R (N0 : Int) := ⟨by omega, by omega⟩
  refine va_newa (D := D) (atype := .long) (ty := .long) (N' := N0) (a0 := (N0, .inr (.inl (fun _ => sx_j 0)))) C.1 C.2.1 (C.2.2.2.2.1 _ ha) rfl C.2.2.2.2.2.1 hP hD hS C.2.2.2.2.2.2.1 (fun _ => rfl) (by rw [← sx_0, sx_lt hr ⟨by omega, by omega⟩]; omega) ?_ (by simp [componentBytes]; omega) hc hs hd (fun q cA H1 hK1 hP1 hD1 hS1 => ?_)
  · show (Int32.ofInt (N0 : Int)).toNatClampNeg = N0
    rw [Int32.toNatClampNeg_ofInt_of_le (by omega) (by omega)]
    omega
  · have e1 : s.vm.findClass ("[" ++ (FieldType.toString .long)) = some cA := (hK1.2 2 (cA, .long) rfl).2
    have e2 : s.vm.findClass ("[" ++ (FieldType.toString .long)) = some cJ := (hK1.2 1 (cJ, .long) rfl).2
    cases Option.some.inj (e1.symm.trans e2)
    exact k q H1 locs ls hP1 hD1 hS1 hl

theorem su_new (C : sx_CU cl D cI cJ A nL own cc p s m args c) {C0 : String} {T : u_T} {N ci index : Nat} {fs : List Value} (hcl : cl[ci]? = some (C0, T, N)) (hin : ∀ w ∈ u_ws C0 T N, w ∈ sr_ts) (ty : Nat → FieldType) (hty : ∀ k, k < N → parseFieldDescriptor (T k).2.2.1 = some (ty k)) (h1 : Cond.classLink own index C0 ∈ sr_ts) (h2 : Cond.instantiable C0 N ∈ sr_ts) (h3 : Cond.initialized C0 ∈ sr_ts) (hfs : ∀ j, j < N → defaultValue (ty j) = vp_V fs j) (hc : cells + 1 ≤ R.cells) (hs : slots + N ≤ R.slots) (hd : decode cc pc = .ok (.new index, 3)) (k : ∀ q : Nat, sx_U cl D A nL p l e R s m args below meth c Q (cells + 1) (slots + N) (ws ++ [(q, .inr (ci, fs))]) (pc + 3) lv (.ref q :: st)) : sx_U cl D A nL p l e R s m args below meth c Q cells slots ws (pc) lv (st) := by
  intro H locs ls hP hD hS hl
  exact va_new (D := D) C.1 C.2.1 C.2.2.2.2.1 hin ty hty C.2.2.2.1 (C.2.2.2.2.1 _ h1) (C.2.2.2.2.1 _ h2) (C.2.2.2.2.1 _ h3) C.2.2.2.2.2.1 hP hD hS C.2.2.2.2.2.2.1 hcl hfs hc hs hd (fun q H1 hP1 hD1 hS1 => k q H1 locs ls hP1 hD1 hS1 hl)

/-- a constructor: from the cell wc to the cells that F says, for some addresses -/
def su_M (l : Launch) (y : MethodName) (wsy : List Cond) (rm : Room) (cl : List vw_C) (D : va_G) (cI cJ : ClassId) (av : List Value) (wc : va_W) (F : va_W → Prop) (mc ms sz : Nat) : Prop :=
  Met l y wsy rm (va_Pc av (fun U => U.heap.size = sz ∧ va_P D cl wc U.heap ∧ va_K D cl [(cI, .int), (cJ, .long)] U ∧ va_D (fun _ => True) wc ∧ ∀ w ∈ sr_bad, va_Nw w U)) (va_Qv (fun w : va_W => F w) (fun w t => va_P D cl w t.heap ∧ va_D (va_A wc sz) w) (va_A wc sz)) mc ms (va_A wc sz)
theorem su_body {y : MethodName} {wsy : List Cond} {rm : Room} {av : List Value} {wc : va_W} {F : va_W → Prop} {maxL mc ms sz : Nat} (hy : plainName y.cls = true) (hin : y.name = "<init>") (hw : wsy = Cond.code y cc maxL none :: sr_ts) (hav : (lg_sl av).length ≤ maxL)
    (body : ∀ (p : Program) (e : Env) (s : State) (m : MethodId) (below : List Frame) (meth : Method) (c : Code), sx_CU cl D cI cJ (va_A wc sz) maxL y.cls cc p s m av.toArray c → meth.sig.returnType = none → meth.locks = false → meth.name = "<init>" →
      sx_U cl D (va_A wc sz) maxL p l e rm s m av.toArray below meth c (MQ below (va_Qv (fun w : va_W => F w) (fun w t => va_P D cl w t.heap ∧ va_D (va_A wc sz) w) (va_A wc sz)) av.toArray s mc ms (va_A wc sz)) 0 0 wc 0 (lv_args 0 av) []) :
    su_M l y wsy rm cl D cI cJ av wc F mc ms sz := by
  refine Met.ofW hy hw ?_
  intro p e s m args below meth c s₁ B hml hv
  obtain ⟨rfl, hsz, hP, hK, hD0, hbad⟩ := hv
  have hts := atoms_spec (ws := wsy) B.pre
  have hown : s.vm.findClass y.cls = some m.cls := findClass_of_methodNamed B.named
  have key := body p e s m below meth c ⟨B.exec, B.bytes, hml, hown, fun w h => hts w (by rw [hw]; exact List.mem_cons_of_mem _ h), hK, fun q h => Or.inr (by rw [← hsz]; exact h), hbad⟩ B.returns B.notSynchronized ((name_of_methodNamed B.named B.method).1.trans hin)
  rw [lg_entry_eq]
  exact key s.heap [] _ hP (hD0.self) va_S.rf (lv_entry av hav)
theorem su_vret {F : va_W → Prop} {wc : va_W} {mc ms sz : Nat} (C : sx_CU cl D cI cJ (va_A wc sz) nL own cc p s m args c) (hr : meth.sig.returnType = none) (hlk : meth.locks = false) (hc : cells ≤ mc) (hs : slots ≤ ms) (hd : decode cc pc = .ok (.return_, 1)) (h : F ws) :
    sx_U cl D (va_A wc sz) nL p l e R s m args below meth c (MQ below (va_Qv (fun w : va_W => F w) (fun w t => va_P D cl w t.heap ∧ va_D (va_A wc sz) w) (va_A wc sz)) args s mc ms (va_A wc sz)) cells slots ws pc lv [] := by
  intro H locs ls hP hD hS hl
  refine W.widen hc hs ?_
  exact W.vret C.1 C.2.1 hr (fun t ht hW => ⟨⟨ws, rfl, h, by rw [ht]; exact hP, hD⟩, hS.F ht⟩) hS.2.2 hd hlk
/-- .. called: its cell stands at place i of the world; what came back is put behind the rest -/
theorem su_call (C : sx_CU cl D cI cJ A nL own cc p s m args c) {y : MethodName} {wsy : List Cond} {rm2 : Room} {av rest : List Value} {wc wr : va_W} {F : va_W → Prop} {mc ms : Nat} (i : Nat) (isR : List Nat) (hi : [i].map (fun i => ws[i]?) = wc.map some) (hR : isR.map (fun i => ws[i]?) = wr.map some) (hn : va_nd isR = true) (hdis : ∀ j ∈ isR, j ∉ [i])
    (hM : ∀ sz2, su_M l y wsy rm2 cl D cI cJ av wc F mc ms sz2)
    (hrun : ∀ (H : Heap) (locs : List Loc) (ls : Array Slot), lv_has ls nL lv → PreS s H (va_Pc av (fun U => U.heap.size = H.size ∧ va_P D cl wc U.heap ∧ va_K D cl [(cI, .int), (cJ, .long)] U ∧ va_D (fun _ => True) wc ∧ ∀ w ∈ sr_bad, va_Nw w U)) av → va_Run p l e R s m args below meth c H locs cells slots mc ms (F0 m pc ls st) rest (va_Qv (fun w : va_W => F w) (fun w t => va_P D cl w t.heap ∧ va_D (va_A wc H.size) w) (va_A wc H.size) av.toArray) (va_A wc H.size))
    (k : ∀ w : va_W, F w → sx_U cl D A nL p l e R s m args below meth c Q (cells + mc) (slots + ms) (wr ++ w) (pc + 3) lv rest) : sx_U cl D A nL p l e R s m args below meth c Q cells slots ws pc lv st := by
  intro H locs ls hP hD hS hl
  have hPc : va_P D cl wc H := hP.sub [i] (by
    cases wc with
    | nil => simp at hi
    | cons x t =>
      cases t with
      | cons _ _ => simp at hi
      | nil =>
        have e9 : ws[i]? = some x := by simpa using hi
        simp [e9])
  have hDc : va_D A wc := hD.sub [i] rfl hi
  have hFc := va_free (wc := wc) hD hS C.2.2.2.2.2.2.1 [i] hi
  refine va_callv (hrun H locs ls hl ⟨fun a U g mk q => by obtain ⟨q0, q1, qP, qK, qD, qB⟩ := q; exact ⟨q0, q1, qP, va_K.moved (u := U) (U := U.calling g mk a) (Vm.Alike.refl U.vm) qK, qD, fun w hw => va_Nw.same (sr_bad_tab w hw) (u := U) rfl (qB w hw)⟩, fun U hU hW => ⟨rfl, by rw [hU], by rw [hU]; exact hPc, va_K.moved hW.alike C.2.2.2.2.2.1, hDc.weaken (fun _ _ _ _ => trivial), sr_bad_warm hW C.2.2.2.2.2.2.2⟩⟩) hS (fun q _ h => hFc q h) hFc (fun u t H1 locs1 ht hvm hw hB hz1 hk1 hS1 => ?_)
  obtain ⟨hP1, hD1⟩ := hB
  rw [ht] at hP1
  obtain ⟨hP2, hD2⟩ := va_join hP hD [i] isR hi hR hn hdis hk1 hFc hP1 hD1
  exact k u hw H1 locs1 ls hP2 hD2 hS1 hl
theorem su_bodyS {y : MethodName} {wsy : List Cond} {rm : Room} {av : List Value} {wc : va_W} {F : va_W → Prop} {maxL mc ms sz : Nat} (hy : plainFor y = true) (hw : wsy = Cond.code y cc maxL none :: sr_ts) (hav : (lg_sl av).length ≤ maxL)
    (body : ∀ (p : Program) (e : Env) (s : State) (m : MethodId) (below : List Frame) (meth : Method) (c : Code), sx_CU cl D cI cJ (va_A wc sz) maxL y.cls cc p s m av.toArray c → meth.sig.returnType = none → meth.locks = false →
      sx_U cl D (va_A wc sz) maxL p l e rm s m av.toArray below meth c (MQ below (va_Qv (fun w : va_W => F w) (fun w t => va_P D cl w t.heap ∧ va_D (va_A wc sz) w) (va_A wc sz)) av.toArray s mc ms (va_A wc sz)) 0 0 wc 0 (lv_args 0 av) []) :
    su_M l y wsy rm cl D cI cJ av wc F mc ms sz := by
  refine va_MetF hy hw ?_
  intro p e s m args below meth c s₁ B hml hv
  obtain ⟨rfl, hsz, hP, hK, hD0, hbad⟩ := hv
  have hts := atoms_spec (ws := wsy) B.pre
  have hown : s.vm.findClass y.cls = some m.cls := findClass_of_methodNamed B.named
  have key := body p e s m below meth c ⟨B.exec, B.bytes, hml, hown, fun w h => hts w (by rw [hw]; exact List.mem_cons_of_mem _ h), hK, fun q h => Or.inr (by rw [← hsz]; exact h), hbad⟩ B.returns B.notSynchronized
  rw [lg_entry_eq]
  exact key s.heap [] _ hP (hD0.self) va_S.rf (lv_entry av hav)
theorem su_top {x y : Int} (h : x = y) (k : sx_U cl D A nL p l e R s m args below meth c Q cells slots ws pc lv (.int (sx_i y) :: st)) : sx_U cl D A nL p l e R s m args below meth c Q cells slots ws pc lv (.int (sx_i x) :: st) := h ▸ k
/-- a static method that answers a number and touches nothing -/
theorem su_stat (C : sx_CU cl D cI cJ A nL own cc p s m args c) {y : MethodName} {wsy : List Cond} {rm2 : Room} {As rest : List Value} {B0 : State → Prop} {v : Int} {bytes : ByteArray} {ret : Option FieldType} {index maxL n : Nat}
    (hM : Met l y wsy rm2 (va_Pc As B0) (va_Qi (fun (r : Int32) (_ : Unit) => r = sx_i v) (fun _ _ => True) (fun _ => False)) 0 0 (fun _ => False)) (cw : CallB R s args own index y bytes maxL ret wsy rm2 0 0 n ∧ (Cond.static y).before args s = true)
    (hpre : ∀ (H : Heap) (locs : List Loc), va_S A s.heap H locs → PreS s H (va_Pc As B0) As) (hn : As.length = n) (hst : st = As.reverse ++ rest) (hW : (rest.map fun v => v.category).sum ≤ 8) (hd : decode cc pc = .ok (.invokestatic index, 3)) (hf : cells + 0 ≤ R.cells ∧ slots + 0 ≤ R.slots)
    (k : sx_U cl D A nL p l e R s m args below meth c Q cells slots ws (pc + 3) lv (.int (sx_i v) :: rest)) : sx_U cl D A nL p l e R s m args below meth c Q cells slots ws pc lv st := by
  intro H locs ls hP hD hS hl
  refine va_calli (va_runS (As := As) (rest := rest) (nL := nL) ⟨C.1, C.2.1, C.2.2.1, C.2.2.2.1, C.2.2.2.2.1⟩ hM cw (hpre H locs hS) rfl hn hl.1 hst (lv_room hW) hd hf) hS (fun q _ h => h.elim) (fun q h => h.elim) (fun r u t H1 locs1 ht hvm hq hB hz hk hS1 => ?_)
  subst hq
  exact k H1 locs1 ls (hP.kept (fun k q hq => hk q.1 (hP k q hq).lt (fun h => h))) hD hS1 hl
/-- arrays' cells in an explicit world -/
theorem su_iast (C : sx_CU cl D cI cJ A nL own cc p s m args c) {a N0 : Nat} {f g : Nat → Int32} {j x : Int} {ws2 : va_W} (q0 : Nat) (he : ws[q0]? = some (a, .inl (cI, N0, .inl f))) (hj : 0 ≤ j ∧ j < (N0 : Int)) (hN : N0 < 100000) (hd : decode cc pc = .ok (.iastore, 1)) (hg : upd f j.toNat (sx_i x) = g) (hw2 : ws.set q0 (a, .inl (cI, N0, .inl g)) = ws2)
    (k : sx_U cl D A nL p l e R s m args below meth c Q cells slots ws2 (pc + 1) lv st) : sx_U cl D A nL p l e R s m args below meth c Q cells slots ws pc lv (.int (sx_i x) :: .int (sx_i j) :: .ref a :: st) := by
  intro H locs ls hP hD hS hl
  subst hw2
  subst hg
  obtain ⟨q1, q2, q3⟩ := sx_in (by omega) hj
  refine va_iast (D := D) C.1 C.2.1 C.2.2.2.2.2.1 hP hD hS q0 0 he rfl q1 hd (fun H1 locs1 hP1 hD1 hS1 => ?_)
  rw [q2] at hP1 hD1
  exact k H1 locs1 ls hP1 hD1 hS1 hl
theorem su_alen (C : sx_CU cl D cI cJ A nL own cc p s m args c) {a N0 : Nat} {f : Nat → Int32} (q0 : Nat) (he : ws[q0]? = some (a, .inl (cI, N0, .inl f))) (hd : decode cc pc = .ok (.arraylength, 1))
    (k : sx_U cl D A nL p l e R s m args below meth c Q cells slots ws (pc + 1) lv (.int (sx_i (N0 : Int)) :: st)) : sx_U cl D A nL p l e R s m args below meth c Q cells slots ws pc lv (.ref a :: st) := by
  intro H locs ls hP hD hS hl
  exact va_alen (D := D) C.1 C.2.1 C.2.2.2.2.2.1 hP q0 0 he rfl (by rw [← Int32.ofInt_eq_ofNat]; rfl) hd (k H locs ls hP hD hS hl)
theorem su_istore_n (C : sx_CU cl D cI cJ A nL own cc p s m args c) {q : Fin 4} {i : Nat} {x : Int} {lu : List (Nat × Value)} (hd : decode cc pc = .ok (.istore_n q, 1)) (hi : (q : Nat) = i) (hn : i < nL) (hv : (i, Value.int (sx_i x)) :: lv.filter (fun q => !(q.1 == i) && !(q.1 + 1 == i && q.2.category == 2)) = lu)
    (k : sx_U cl D A nL p l e R s m args below meth c Q cells slots ws (pc + 1) lu st) : sx_U cl D A nL p l e R s m args below meth c Q cells slots ws pc lv (.int (sx_i x) :: st) := by
  intro H locs ls hP hD hS hl
  exact lv_istore_n C.1 C.2.1 hd hi hl hn hv (fun ls2 hl2 => k H locs ls2 hP hD hS hl2)
theorem su_iinc (C : sx_CU cl D cI cJ A nL own cc p s m args c) {i : Nat} {n x : Int} {lu : List (Nat × Value)} (q : Nat) (hd : decode cc pc = .ok (.iinc i n, 3)) (hx : lv[q]? = some (i, .int (sx_i x))) (hn : i < nL) (hv : (i, Value.int (sx_i (x + n))) :: lv.filter (fun q => !(q.1 == i) && !(q.1 + 1 == i && q.2.category == 2)) = lu)
    (k : sx_U cl D A nL p l e R s m args below meth c Q cells slots ws (pc + 3) lu st) : sx_U cl D A nL p l e R s m args below meth c Q cells slots ws pc lv st := by
  intro H locs ls hP hD hS hl
  exact lv_iinc C.1 C.2.1 hd hl hx (sx_add x n) hn hv (fun ls2 hl2 => k H locs ls2 hP hD hS hl2)
theorem su_get (C : sx_CU cl D cI cJ A nL own cc p s m args c) {C0 ref : String} {T : u_T} {N ci index a : Nat} {fs : List Value} {v : Value} (q0 k0 : Nat) (he : ws[q0]? = some (a, .inr (ci, fs))) (hcl : cl[ci]? = some (C0, T, N)) (hk : k0 < N) (hin : ∀ w ∈ u_ws C0 T N, w ∈ sr_ts) (hw : Cond.fieldLink own index ref (T k0).2.1 (T k0).2.2.1 ∈ sr_ts) (hr : (T k0).1 = ref) (hv : fs[k0]? = some v) (hd : decode cc pc = .ok (.getfield index, 3))
    (k : sx_U cl D A nL p l e R s m args below meth c Q cells slots ws (pc + 3) lv (v :: st)) : sx_U cl D A nL p l e R s m args below meth c Q cells slots ws pc lv (.ref a :: st) := by
  intro H locs ls hP hD hS hl
  exact va_get (D := D) C.1 C.2.1 C.2.2.2.2.1 hin C.2.2.2.1 C.2.2.2.2.2.1 hP q0 he hcl k0 hk (C.2.2.2.2.1 _ hw) (fun _ h9 => by rw [hr] at h9; exact h9) hv hd (k H locs ls hP hD hS hl)
end SXU
end
section
theorem wd_0 : Jvm.Cond.initialized "StoneRingsLaw" ∈ sr_ts := sr_mem 13 (by decide +kernel) (by decide +kernel)
theorem wd_1 : Jvm.Cond.initialized "StoneRings" ∈ sr_ts := sr_mem 14 (by decide +kernel) (by decide +kernel)
theorem wd_2 : Jvm.Cond.initialized "StoneRings$Trace" ∈ sr_ts := sr_mem 15 (by decide +kernel) (by decide +kernel)
theorem wd_3 : Jvm.Cond.initialized "StoneRings$Pairing" ∈ sr_ts := sr_mem 16 (by decide +kernel) (by decide +kernel)
theorem wd_4 : Jvm.Cond.initialized "StoneRings$Readings" ∈ sr_ts := sr_mem 17 (by decide +kernel) (by decide +kernel)
theorem wd_5 : Jvm.Cond.initialized "java/util/Arrays" ∈ sr_ts := sr_mem 18 (by decide +kernel) (by decide +kernel)
theorem wd_6 : Jvm.Cond.initialized "StoneRings$Picture" ∈ sr_ts := sr_mem 19 (by decide +kernel) (by decide +kernel)
theorem wd_7 : Jvm.Cond.initialized "java/lang/Math" ∈ sr_ts := sr_mem 20 (by decide +kernel) (by decide +kernel)
theorem wd_8 : Jvm.Cond.initialized "StoneRingsModel" ∈ sr_ts := sr_mem 21 (by decide +kernel) (by decide +kernel)
theorem wd_12 : Jvm.Cond.initialized "java/lang/IndexOutOfBoundsException" ∈ sr_ts := sr_mem 25 (by decide +kernel) (by decide +kernel)
theorem wd_13 : Jvm.Cond.initialized "java/lang/IllegalArgumentException" ∈ sr_ts := sr_mem 26 (by decide +kernel) (by decide +kernel)
theorem wd_14 : Jvm.Cond.initialized "java/lang/IllegalStateException" ∈ sr_ts := sr_mem 27 (by decide +kernel) (by decide +kernel)
theorem wd_23 : Jvm.Cond.classLink "StoneRings" (16 : Nat) "StoneRings$Trace" ∈ sr_ts := sr_mem 36 (by decide +kernel) (by decide +kernel)
theorem wd_24 : Jvm.Cond.instantiable "StoneRings$Trace" (5 : Nat) ∈ sr_ts := sr_mem 37 (by decide +kernel) (by decide +kernel)
theorem wd_26 : Jvm.Cond.instanceMethod yy_T_init ∈ sr_ts := sr_mem 39 (by decide +kernel) (by decide +kernel)
theorem wd_27 : Jvm.Cond.code yy_T_init prog_5_method_1_code (1 : Nat) (Option.none : Option Jvm.ClassFile.FieldType) ∈ sr_ts := sr_mem 40 (by decide +kernel) (by decide +kernel)
theorem wd_29 : Jvm.Cond.fieldLink "StoneRings$Trace" (9 : Nat) "StoneRings$Trace" "values" "[I" ∈ sr_ts := sr_mem 42 (by decide +kernel) (by decide +kernel)
theorem wd_30 : Jvm.Cond.fieldLink "StoneRings" (112 : Nat) "StoneRings$Trace" "values" "[I" ∈ sr_ts := sr_mem 43 (by decide +kernel) (by decide +kernel)
theorem wd_31 : Jvm.Cond.fieldLink "StoneRings$Trace" (15 : Nat) "StoneRings$Trace" "evens" "[I" ∈ sr_ts := sr_mem 44 (by decide +kernel) (by decide +kernel)
theorem wd_32 : Jvm.Cond.fieldLink "StoneRings" (109 : Nat) "StoneRings$Trace" "evens" "[I" ∈ sr_ts := sr_mem 45 (by decide +kernel) (by decide +kernel)
theorem wd_33 : Jvm.Cond.fieldLink "StoneRings$Trace" (18 : Nat) "StoneRings$Trace" "places" "[I" ∈ sr_ts := sr_mem 46 (by decide +kernel) (by decide +kernel)
theorem wd_34 : Jvm.Cond.fieldLink "StoneRings$Pairing" (52 : Nat) "StoneRings$Trace" "places" "[I" ∈ sr_ts := sr_mem 47 (by decide +kernel) (by decide +kernel)
theorem wd_35 : Jvm.Cond.fieldLink "StoneRings" (118 : Nat) "StoneRings$Trace" "places" "[I" ∈ sr_ts := sr_mem 48 (by decide +kernel) (by decide +kernel)
theorem wd_36 : Jvm.Cond.fieldLink "StoneRings$Trace" (21 : Nat) "StoneRings$Trace" "length" "I" ∈ sr_ts := sr_mem 49 (by decide +kernel) (by decide +kernel)
theorem wd_37 : Jvm.Cond.fieldLink "StoneRings" (106 : Nat) "StoneRings$Trace" "length" "I" ∈ sr_ts := sr_mem 50 (by decide +kernel) (by decide +kernel)
theorem wd_38 : Jvm.Cond.fieldLink "StoneRings$Trace" (25 : Nat) "StoneRings$Trace" "found" "I" ∈ sr_ts := sr_mem 51 (by decide +kernel) (by decide +kernel)
theorem wd_39 : Jvm.Cond.fieldLink "StoneRings$Pairing" (26 : Nat) "StoneRings$Trace" "found" "I" ∈ sr_ts := sr_mem 52 (by decide +kernel) (by decide +kernel)
theorem wd_40 : Jvm.Cond.fieldLink "StoneRings" (115 : Nat) "StoneRings$Trace" "found" "I" ∈ sr_ts := sr_mem 53 (by decide +kernel) (by decide +kernel)
theorem wd_53 : Jvm.Cond.classLink "StoneRings" (26 : Nat) "StoneRings$Pairing" ∈ sr_ts := sr_mem 66 (by decide +kernel) (by decide +kernel)
theorem wd_54 : Jvm.Cond.instantiable "StoneRings$Pairing" (4 : Nat) ∈ sr_ts := sr_mem 67 (by decide +kernel) (by decide +kernel)
theorem wd_56 : Jvm.Cond.instanceMethod yy_G_init ∈ sr_ts := sr_mem 69 (by decide +kernel) (by decide +kernel)
theorem wd_57 : Jvm.Cond.code yy_G_init prog_2_method_1_code (1 : Nat) (Option.none : Option Jvm.ClassFile.FieldType) ∈ sr_ts := sr_mem 70 (by decide +kernel) (by decide +kernel)
theorem wd_59 : Jvm.Cond.fieldLink "StoneRings$Pairing" (11 : Nat) "StoneRings$Pairing" "costs" "[I" ∈ sr_ts := sr_mem 72 (by decide +kernel) (by decide +kernel)
theorem wd_60 : Jvm.Cond.fieldLink "StoneRings$Pairing" (15 : Nat) "StoneRings$Pairing" "partners" "[I" ∈ sr_ts := sr_mem 73 (by decide +kernel) (by decide +kernel)
theorem wd_61 : Jvm.Cond.fieldLink "StoneRings" (141 : Nat) "StoneRings$Pairing" "partners" "[I" ∈ sr_ts := sr_mem 74 (by decide +kernel) (by decide +kernel)
theorem wd_62 : Jvm.Cond.fieldLink "StoneRings$Pairing" (18 : Nat) "StoneRings$Pairing" "size" "I" ∈ sr_ts := sr_mem 75 (by decide +kernel) (by decide +kernel)
theorem wd_63 : Jvm.Cond.fieldLink "StoneRings" (138 : Nat) "StoneRings$Pairing" "size" "I" ∈ sr_ts := sr_mem 76 (by decide +kernel) (by decide +kernel)
theorem wd_64 : Jvm.Cond.fieldLink "StoneRings$Pairing" (22 : Nat) "StoneRings$Pairing" "made" "Z" ∈ sr_ts := sr_mem 77 (by decide +kernel) (by decide +kernel)
theorem wd_65 : Jvm.Cond.fieldLink "StoneRings" (132 : Nat) "StoneRings$Pairing" "made" "Z" ∈ sr_ts := sr_mem 78 (by decide +kernel) (by decide +kernel)
theorem wd_75 : Jvm.Cond.classLink "StoneRings" (33 : Nat) "StoneRings$Readings" ∈ sr_ts := sr_mem 88 (by decide +kernel) (by decide +kernel)
theorem wd_76 : Jvm.Cond.instantiable "StoneRings$Readings" (3 : Nat) ∈ sr_ts := sr_mem 89 (by decide +kernel) (by decide +kernel)
theorem wd_77 : Jvm.Cond.methodLink "StoneRings" (35 : Nat) yy_D_init ∈ sr_ts := sr_mem 90 (by decide +kernel) (by decide +kernel)
theorem wd_78 : Jvm.Cond.instanceMethod yy_D_init ∈ sr_ts := sr_mem 91 (by decide +kernel) (by decide +kernel)
theorem wd_79 : Jvm.Cond.code yy_D_init prog_4_method_1_code (1 : Nat) (Option.none : Option Jvm.ClassFile.FieldType) ∈ sr_ts := sr_mem 92 (by decide +kernel) (by decide +kernel)
theorem wd_81 : Jvm.Cond.methodLink "StoneRings$Readings" (22 : Nat) yy_A_fill ∈ sr_ts := sr_mem 94 (by decide +kernel) (by decide +kernel)
theorem wd_82 : Jvm.Cond.static yy_A_fill ∈ sr_ts := sr_mem 95 (by decide +kernel) (by decide +kernel)
theorem wd_83 : Jvm.Cond.code yy_A_fill prog_16_method_103_code (4 : Nat) (Option.none : Option Jvm.ClassFile.FieldType) ∈ sr_ts := sr_mem 96 (by decide +kernel) (by decide +kernel)
theorem wd_84 : Jvm.Cond.fieldLink "StoneRings$Readings" (9 : Nat) "StoneRings$Readings" "counts" "[I" ∈ sr_ts := sr_mem 97 (by decide +kernel) (by decide +kernel)
theorem wd_85 : Jvm.Cond.fieldLink "StoneRings$Readings" (15 : Nat) "StoneRings$Readings" "ranks" "[I" ∈ sr_ts := sr_mem 98 (by decide +kernel) (by decide +kernel)
theorem wd_86 : Jvm.Cond.fieldLink "StoneRings$Readings" (18 : Nat) "StoneRings$Readings" "size" "I" ∈ sr_ts := sr_mem 99 (by decide +kernel) (by decide +kernel)
theorem wd_87 : Jvm.Cond.fieldLink "StoneRings" (198 : Nat) "StoneRings$Readings" "size" "I" ∈ sr_ts := sr_mem 100 (by decide +kernel) (by decide +kernel)
theorem wd_95 : Jvm.Cond.classLink "StoneRings" (50 : Nat) "StoneRings$Picture" ∈ sr_ts := sr_mem 108 (by decide +kernel) (by decide +kernel)
theorem wd_96 : Jvm.Cond.instantiable "StoneRings$Picture" (6 : Nat) ∈ sr_ts := sr_mem 109 (by decide +kernel) (by decide +kernel)
theorem wd_97 : Jvm.Cond.methodLink "StoneRings" (52 : Nat) yy_S_nearestSide ∈ sr_ts := sr_mem 110 (by decide +kernel) (by decide +kernel)
theorem wd_98 : Jvm.Cond.static yy_S_nearestSide ∈ sr_ts := sr_mem 111 (by decide +kernel) (by decide +kernel)
theorem wd_99 : Jvm.Cond.code yy_S_nearestSide prog_1_method_28_code (1 : Nat) (Option.some Jvm.ClassFile.FieldType.int) ∈ sr_ts := sr_mem 112 (by decide +kernel) (by decide +kernel)
theorem wd_106 : Jvm.Cond.methodLink "StoneRings" (56 : Nat) yy_P_init ∈ sr_ts := sr_mem 119 (by decide +kernel) (by decide +kernel)
theorem wd_107 : Jvm.Cond.instanceMethod yy_P_init ∈ sr_ts := sr_mem 120 (by decide +kernel) (by decide +kernel)
theorem wd_108 : Jvm.Cond.code yy_P_init prog_3_method_1_code (3 : Nat) (Option.none : Option Jvm.ClassFile.FieldType) ∈ sr_ts := sr_mem 121 (by decide +kernel) (by decide +kernel)
theorem wd_110 : Jvm.Cond.fieldLink "StoneRings$Picture" (21 : Nat) "StoneRings$Picture" "width" "I" ∈ sr_ts := sr_mem 123 (by decide +kernel) (by decide +kernel)
theorem wd_111 : Jvm.Cond.fieldLink "StoneRings$Picture" (24 : Nat) "StoneRings$Picture" "height" "I" ∈ sr_ts := sr_mem 124 (by decide +kernel) (by decide +kernel)
theorem wd_112 : Jvm.Cond.fieldLink "StoneRings$Picture" (27 : Nat) "StoneRings$Picture" "pixels" "[I" ∈ sr_ts := sr_mem 125 (by decide +kernel) (by decide +kernel)
theorem wd_113 : Jvm.Cond.fieldLink "StoneRings$Picture" (9 : Nat) "StoneRings$Picture" "sum" "I" ∈ sr_ts := sr_mem 126 (by decide +kernel) (by decide +kernel)
theorem wd_114 : Jvm.Cond.fieldLink "StoneRings$Trace" (38 : Nat) "StoneRings$Picture" "sum" "I" ∈ sr_ts := sr_mem 127 (by decide +kernel) (by decide +kernel)
theorem wd_115 : Jvm.Cond.fieldLink "StoneRings" (199 : Nat) "StoneRings$Picture" "sum" "I" ∈ sr_ts := sr_mem 128 (by decide +kernel) (by decide +kernel)
theorem wd_116 : Jvm.Cond.fieldLink "StoneRings$Picture" (15 : Nat) "StoneRings$Picture" "sumX" "I" ∈ sr_ts := sr_mem 129 (by decide +kernel) (by decide +kernel)
theorem wd_117 : Jvm.Cond.fieldLink "StoneRings$Picture" (18 : Nat) "StoneRings$Picture" "sumY" "I" ∈ sr_ts := sr_mem 130 (by decide +kernel) (by decide +kernel)
theorem wd_131 : Jvm.Cond.fieldLink "StoneRings" (59 : Nat) "StoneRings" "picture" "LStoneRings$Picture;" ∈ sr_ts := sr_mem 144 (by decide +kernel) (by decide +kernel)
theorem wd_132 : Jvm.Cond.fieldLink "StoneRings" (9 : Nat) "StoneRings" "across" "[I" ∈ sr_ts := sr_mem 145 (by decide +kernel) (by decide +kernel)
theorem wd_133 : Jvm.Cond.fieldLink "StoneRings" (13 : Nat) "StoneRings" "down" "[I" ∈ sr_ts := sr_mem 146 (by decide +kernel) (by decide +kernel)
theorem wd_134 : Jvm.Cond.fieldLink "StoneRings" (19 : Nat) "StoneRings" "first" "LStoneRings$Trace;" ∈ sr_ts := sr_mem 147 (by decide +kernel) (by decide +kernel)
theorem wd_135 : Jvm.Cond.fieldLink "StoneRings" (23 : Nat) "StoneRings" "second" "LStoneRings$Trace;" ∈ sr_ts := sr_mem 148 (by decide +kernel) (by decide +kernel)
theorem wd_136 : Jvm.Cond.fieldLink "StoneRings" (29 : Nat) "StoneRings" "pairing" "LStoneRings$Pairing;" ∈ sr_ts := sr_mem 149 (by decide +kernel) (by decide +kernel)
theorem wd_137 : Jvm.Cond.fieldLink "StoneRings" (36 : Nat) "StoneRings" "readings" "LStoneRings$Readings;" ∈ sr_ts := sr_mem 150 (by decide +kernel) (by decide +kernel)
theorem wd_138 : Jvm.Cond.fieldLink "StoneRings" (40 : Nat) "StoneRings" "rayCount" "I" ∈ sr_ts := sr_mem 151 (by decide +kernel) (by decide +kernel)
theorem wd_139 : Jvm.Cond.fieldLink "StoneRings" (44 : Nat) "StoneRings" "apartRule" "I" ∈ sr_ts := sr_mem 152 (by decide +kernel) (by decide +kernel)
theorem wd_140 : Jvm.Cond.fieldLink "StoneRings" (47 : Nat) "StoneRings" "highRule" "I" ∈ sr_ts := sr_mem 153 (by decide +kernel) (by decide +kernel)
theorem wd_162 : Jvm.Cond.methodLink "StoneRingsLaw" (170 : Nat) yy_S_count ∈ sr_ts := sr_mem 175 (by decide +kernel) (by decide +kernel)
theorem wd_163 : Jvm.Cond.instanceMethod yy_S_count ∈ sr_ts := sr_mem 176 (by decide +kernel) (by decide +kernel)
theorem wd_164 : Jvm.Cond.selects "StoneRings" yy_S_count yy_S_count ∈ sr_ts := sr_mem 177 (by decide +kernel) (by decide +kernel)
theorem wd_165 : Jvm.Cond.code yy_S_count prog_1_method_23_code (2 : Nat) (Option.some Jvm.ClassFile.FieldType.int) ∈ sr_ts := sr_mem 178 (by decide +kernel) (by decide +kernel)
theorem wd_166 : Jvm.Cond.methodLink "StoneRings" (195 : Nat) yy_D_stonesWithCounts ∈ sr_ts := sr_mem 179 (by decide +kernel) (by decide +kernel)
theorem wd_167 : Jvm.Cond.instanceMethod yy_D_stonesWithCounts ∈ sr_ts := sr_mem 180 (by decide +kernel) (by decide +kernel)
theorem wd_168 : Jvm.Cond.selects "StoneRings$Readings" yy_D_stonesWithCounts yy_D_stonesWithCounts ∈ sr_ts := sr_mem 181 (by decide +kernel) (by decide +kernel)
theorem wd_169 : Jvm.Cond.code yy_D_stonesWithCounts prog_4_method_14_code (3 : Nat) (Option.some Jvm.ClassFile.FieldType.int) ∈ sr_ts := sr_mem 182 (by decide +kernel) (by decide +kernel)
theorem wd_170 : Jvm.Cond.methodLink "StoneRings$Readings" (43 : Nat) yy_D_mostTold ∈ sr_ts := sr_mem 183 (by decide +kernel) (by decide +kernel)
theorem wd_171 : Jvm.Cond.instanceMethod yy_D_mostTold ∈ sr_ts := sr_mem 184 (by decide +kernel) (by decide +kernel)
theorem wd_172 : Jvm.Cond.selects "StoneRings$Readings" yy_D_mostTold yy_D_mostTold ∈ sr_ts := sr_mem 185 (by decide +kernel) (by decide +kernel)
theorem wd_173 : Jvm.Cond.code yy_D_mostTold prog_4_method_9_code (7 : Nat) (Option.some Jvm.ClassFile.FieldType.int) ∈ sr_ts := sr_mem 186 (by decide +kernel) (by decide +kernel)
theorem wd_174 : Jvm.Cond.methodLink "StoneRings$Readings" (28 : Nat) yy_D_of ∈ sr_ts := sr_mem 187 (by decide +kernel) (by decide +kernel)
theorem wd_175 : Jvm.Cond.instanceMethod yy_D_of ∈ sr_ts := sr_mem 188 (by decide +kernel) (by decide +kernel)
theorem wd_176 : Jvm.Cond.selects "StoneRings$Readings" yy_D_of yy_D_of ∈ sr_ts := sr_mem 189 (by decide +kernel) (by decide +kernel)
theorem wd_177 : Jvm.Cond.code yy_D_of prog_4_method_2_code (3 : Nat) (Option.some Jvm.ClassFile.FieldType.int) ∈ sr_ts := sr_mem 190 (by decide +kernel) (by decide +kernel)
theorem wd_178 : Jvm.Cond.methodLink "StoneRings$Readings" (40 : Nat) yy_D_votesFor ∈ sr_ts := sr_mem 191 (by decide +kernel) (by decide +kernel)
theorem wd_179 : Jvm.Cond.instanceMethod yy_D_votesFor ∈ sr_ts := sr_mem 192 (by decide +kernel) (by decide +kernel)
theorem wd_180 : Jvm.Cond.selects "StoneRings$Readings" yy_D_votesFor yy_D_votesFor ∈ sr_ts := sr_mem 193 (by decide +kernel) (by decide +kernel)
theorem wd_181 : Jvm.Cond.code yy_D_votesFor prog_4_method_10_code (5 : Nat) (Option.some Jvm.ClassFile.FieldType.int) ∈ sr_ts := sr_mem 194 (by decide +kernel) (by decide +kernel)
theorem wd_185 : Jvm.Cond.methodLink "StoneRingsLaw" (97 : Nat) yy_L_pixel ∈ sr_ts := sr_mem 198 (by decide +kernel) (by decide +kernel)
theorem wd_186 : Jvm.Cond.static yy_L_pixel ∈ sr_ts := sr_mem 199 (by decide +kernel) (by decide +kernel)
theorem wd_187 : Jvm.Cond.codeWith yy_L_pixel method_3_code (6 : Nat) (Option.some Jvm.ClassFile.FieldType.int) [((0 : Nat), (19 : Nat), (22 : Nat), (13 : Nat)), ((0 : Nat), (19 : Nat), (26 : Nat), (15 : Nat))] ∈ sr_ts := sr_mem 200 (by decide +kernel) (by decide +kernel)
theorem wd_188 : Jvm.Cond.classLink "StoneRingsLaw" (13 : Nat) "java/lang/IndexOutOfBoundsException" ∈ sr_ts := sr_mem 201 (by decide +kernel) (by decide +kernel)
theorem wd_189 : Jvm.Cond.classLink "StoneRingsLaw" (15 : Nat) "java/lang/IllegalArgumentException" ∈ sr_ts := sr_mem 202 (by decide +kernel) (by decide +kernel)
theorem wd_190 : Jvm.Cond.methodLink "StoneRingsLaw" (7 : Nat) yy_S_pixel ∈ sr_ts := sr_mem 203 (by decide +kernel) (by decide +kernel)
theorem wd_191 : Jvm.Cond.instanceMethod yy_S_pixel ∈ sr_ts := sr_mem 204 (by decide +kernel) (by decide +kernel)
theorem wd_192 : Jvm.Cond.selects "StoneRings" yy_S_pixel yy_S_pixel ∈ sr_ts := sr_mem 205 (by decide +kernel) (by decide +kernel)
theorem wd_193 : Jvm.Cond.code yy_S_pixel prog_1_method_2_code (4 : Nat) (Option.some Jvm.ClassFile.FieldType.boolean) ∈ sr_ts := sr_mem 206 (by decide +kernel) (by decide +kernel)
theorem wd_194 : Jvm.Cond.methodLink "StoneRings" (63 : Nat) yy_P_holds ∈ sr_ts := sr_mem 207 (by decide +kernel) (by decide +kernel)
theorem wd_195 : Jvm.Cond.instanceMethod yy_P_holds ∈ sr_ts := sr_mem 208 (by decide +kernel) (by decide +kernel)
theorem wd_196 : Jvm.Cond.selects "StoneRings$Picture" yy_P_holds yy_P_holds ∈ sr_ts := sr_mem 209 (by decide +kernel) (by decide +kernel)
theorem wd_197 : Jvm.Cond.code yy_P_holds prog_3_method_2_code (3 : Nat) (Option.some Jvm.ClassFile.FieldType.boolean) ∈ sr_ts := sr_mem 210 (by decide +kernel) (by decide +kernel)
theorem wd_198 : Jvm.Cond.classLink "StoneRings" (67 : Nat) "java/lang/IndexOutOfBoundsException" ∈ sr_ts := sr_mem 211 (by decide +kernel) (by decide +kernel)
theorem wd_266 : Jvm.Cond.methodLink "StoneRings" (74 : Nat) yy_S_needNumber ∈ sr_ts := sr_mem 279 (by decide +kernel) (by decide +kernel)
theorem wd_267 : Jvm.Cond.static yy_S_needNumber ∈ sr_ts := sr_mem 280 (by decide +kernel) (by decide +kernel)
theorem wd_268 : Jvm.Cond.code yy_S_needNumber prog_1_method_26_code (3 : Nat) (Option.none : Option Jvm.ClassFile.FieldType) ∈ sr_ts := sr_mem 281 (by decide +kernel) (by decide +kernel)
theorem wd_269 : Jvm.Cond.classLink "StoneRings" (92 : Nat) "java/lang/IllegalArgumentException" ∈ sr_ts := sr_mem 282 (by decide +kernel) (by decide +kernel)
theorem wd_285 : Jvm.Cond.methodLink "StoneRings" (78 : Nat) yy_P_put ∈ sr_ts := sr_mem 298 (by decide +kernel) (by decide +kernel)
theorem wd_286 : Jvm.Cond.instanceMethod yy_P_put ∈ sr_ts := sr_mem 299 (by decide +kernel) (by decide +kernel)
theorem wd_287 : Jvm.Cond.selects "StoneRings$Picture" yy_P_put yy_P_put ∈ sr_ts := sr_mem 300 (by decide +kernel) (by decide +kernel)
theorem wd_288 : Jvm.Cond.code yy_P_put prog_3_method_4_code (5 : Nat) (Option.some Jvm.ClassFile.FieldType.boolean) ∈ sr_ts := sr_mem 301 (by decide +kernel) (by decide +kernel)
theorem wd_289 : Jvm.Cond.methodLink "StoneRings$Picture" (35 : Nat) yy_P_at ∈ sr_ts := sr_mem 302 (by decide +kernel) (by decide +kernel)
theorem wd_290 : Jvm.Cond.instanceMethod yy_P_at ∈ sr_ts := sr_mem 303 (by decide +kernel) (by decide +kernel)
theorem wd_291 : Jvm.Cond.selects "StoneRings$Picture" yy_P_at yy_P_at ∈ sr_ts := sr_mem 304 (by decide +kernel) (by decide +kernel)
theorem wd_292 : Jvm.Cond.code yy_P_at prog_3_method_3_code (3 : Nat) (Option.some Jvm.ClassFile.FieldType.int) ∈ sr_ts := sr_mem 305 (by decide +kernel) (by decide +kernel)
theorem wd_293 : Jvm.Cond.methodLink "StoneRings$Picture" (31 : Nat) yy_P_holds ∈ sr_ts := sr_mem 306 (by decide +kernel) (by decide +kernel)
theorem wd_294 : Jvm.Cond.methodLink "StoneRingsLaw" (105 : Nat) yy_L_middle ∈ sr_ts := sr_mem 307 (by decide +kernel) (by decide +kernel)
theorem wd_295 : Jvm.Cond.static yy_L_middle ∈ sr_ts := sr_mem 308 (by decide +kernel) (by decide +kernel)
theorem wd_296 : Jvm.Cond.codeWith yy_L_middle method_4_code (4 : Nat) (Option.some Jvm.ClassFile.FieldType.int) [((0 : Nat), (9 : Nat), (12 : Nat), (13 : Nat))] ∈ sr_ts := sr_mem 309 (by decide +kernel) (by decide +kernel)
theorem wd_297 : Jvm.Cond.methodLink "StoneRingsLaw" (17 : Nat) yy_S_middle ∈ sr_ts := sr_mem 310 (by decide +kernel) (by decide +kernel)
theorem wd_298 : Jvm.Cond.instanceMethod yy_S_middle ∈ sr_ts := sr_mem 311 (by decide +kernel) (by decide +kernel)
theorem wd_299 : Jvm.Cond.selects "StoneRings" yy_S_middle yy_S_middle ∈ sr_ts := sr_mem 312 (by decide +kernel) (by decide +kernel)
theorem wd_300 : Jvm.Cond.code yy_S_middle prog_1_method_3_code (2 : Nat) (Option.some Jvm.ClassFile.FieldType.int) ∈ sr_ts := sr_mem 313 (by decide +kernel) (by decide +kernel)
theorem wd_301 : Jvm.Cond.methodLink "StoneRings" (82 : Nat) yy_S_needPlace ∈ sr_ts := sr_mem 314 (by decide +kernel) (by decide +kernel)
theorem wd_302 : Jvm.Cond.static yy_S_needPlace ∈ sr_ts := sr_mem 315 (by decide +kernel) (by decide +kernel)
theorem wd_303 : Jvm.Cond.code yy_S_needPlace prog_1_method_25_code (2 : Nat) (Option.none : Option Jvm.ClassFile.FieldType) ∈ sr_ts := sr_mem 316 (by decide +kernel) (by decide +kernel)
theorem wd_305 : Jvm.Cond.methodLink "StoneRings" (85 : Nat) yy_P_centreX ∈ sr_ts := sr_mem 318 (by decide +kernel) (by decide +kernel)
theorem wd_306 : Jvm.Cond.instanceMethod yy_P_centreX ∈ sr_ts := sr_mem 319 (by decide +kernel) (by decide +kernel)
theorem wd_307 : Jvm.Cond.selects "StoneRings$Picture" yy_P_centreX yy_P_centreX ∈ sr_ts := sr_mem 320 (by decide +kernel) (by decide +kernel)
theorem wd_308 : Jvm.Cond.code yy_P_centreX prog_3_method_5_code (1 : Nat) (Option.some Jvm.ClassFile.FieldType.int) ∈ sr_ts := sr_mem 321 (by decide +kernel) (by decide +kernel)
theorem wd_310 : Jvm.Cond.static yy_S_floorOf ∈ sr_ts := sr_mem 323 (by decide +kernel) (by decide +kernel)
theorem wd_311 : Jvm.Cond.code yy_S_floorOf prog_1_method_29_code (2 : Nat) (Option.some Jvm.ClassFile.FieldType.int) ∈ sr_ts := sr_mem 324 (by decide +kernel) (by decide +kernel)
theorem wd_312 : Jvm.Cond.methodLink "StoneRings" (219 : Nat) yy_H_floorDiv ∈ sr_ts := sr_mem 325 (by decide +kernel) (by decide +kernel)
theorem wd_313 : Jvm.Cond.static yy_H_floorDiv ∈ sr_ts := sr_mem 326 (by decide +kernel) (by decide +kernel)
theorem wd_314 : Jvm.Cond.code yy_H_floorDiv prog_12_method_47_code (3 : Nat) (Option.some Jvm.ClassFile.FieldType.int) ∈ sr_ts := sr_mem 327 (by decide +kernel) (by decide +kernel)
theorem wd_315 : Jvm.Cond.methodLink "StoneRings" (89 : Nat) yy_P_centreY ∈ sr_ts := sr_mem 328 (by decide +kernel) (by decide +kernel)
theorem wd_316 : Jvm.Cond.instanceMethod yy_P_centreY ∈ sr_ts := sr_mem 329 (by decide +kernel) (by decide +kernel)
theorem wd_317 : Jvm.Cond.selects "StoneRings$Picture" yy_P_centreY yy_P_centreY ∈ sr_ts := sr_mem 330 (by decide +kernel) (by decide +kernel)
theorem wd_318 : Jvm.Cond.code yy_P_centreY prog_3_method_6_code (1 : Nat) (Option.some Jvm.ClassFile.FieldType.int) ∈ sr_ts := sr_mem 331 (by decide +kernel) (by decide +kernel)
theorem wd_319 : Jvm.Cond.methodLink "StoneRingsLaw" (109 : Nat) yy_L_ray ∈ sr_ts := sr_mem 332 (by decide +kernel) (by decide +kernel)
theorem wd_320 : Jvm.Cond.static yy_L_ray ∈ sr_ts := sr_mem 333 (by decide +kernel) (by decide +kernel)
theorem wd_321 : Jvm.Cond.codeWith yy_L_ray method_5_code (5 : Nat) (Option.some Jvm.ClassFile.FieldType.int) [((0 : Nat), (10 : Nat), (13 : Nat), (15 : Nat)), ((0 : Nat), (10 : Nat), (17 : Nat), (25 : Nat))] ∈ sr_ts := sr_mem 334 (by decide +kernel) (by decide +kernel)
theorem wd_322 : Jvm.Cond.classLink "StoneRingsLaw" (25 : Nat) "java/lang/IllegalStateException" ∈ sr_ts := sr_mem 335 (by decide +kernel) (by decide +kernel)
theorem wd_323 : Jvm.Cond.methodLink "StoneRingsLaw" (21 : Nat) yy_S_ray ∈ sr_ts := sr_mem 336 (by decide +kernel) (by decide +kernel)
theorem wd_324 : Jvm.Cond.instanceMethod yy_S_ray ∈ sr_ts := sr_mem 337 (by decide +kernel) (by decide +kernel)
theorem wd_325 : Jvm.Cond.selects "StoneRings" yy_S_ray yy_S_ray ∈ sr_ts := sr_mem 338 (by decide +kernel) (by decide +kernel)
theorem wd_326 : Jvm.Cond.code yy_S_ray prog_1_method_4_code (3 : Nat) (Option.some Jvm.ClassFile.FieldType.int) ∈ sr_ts := sr_mem 339 (by decide +kernel) (by decide +kernel)
theorem wd_328 : Jvm.Cond.classLink "StoneRings" (97 : Nat) "java/lang/IllegalStateException" ∈ sr_ts := sr_mem 341 (by decide +kernel) (by decide +kernel)
theorem wd_344 : Jvm.Cond.methodLink "StoneRingsLaw" (113 : Nat) yy_L_samples ∈ sr_ts := sr_mem 357 (by decide +kernel) (by decide +kernel)
theorem wd_345 : Jvm.Cond.static yy_L_samples ∈ sr_ts := sr_mem 358 (by decide +kernel) (by decide +kernel)
theorem wd_346 : Jvm.Cond.codeWith yy_L_samples method_6_code (4 : Nat) (Option.some Jvm.ClassFile.FieldType.int) [((0 : Nat), (9 : Nat), (12 : Nat), (13 : Nat))] ∈ sr_ts := sr_mem 359 (by decide +kernel) (by decide +kernel)
theorem wd_347 : Jvm.Cond.methodLink "StoneRingsLaw" (27 : Nat) yy_S_samples ∈ sr_ts := sr_mem 360 (by decide +kernel) (by decide +kernel)
theorem wd_348 : Jvm.Cond.instanceMethod yy_S_samples ∈ sr_ts := sr_mem 361 (by decide +kernel) (by decide +kernel)
theorem wd_349 : Jvm.Cond.selects "StoneRings" yy_S_samples yy_S_samples ∈ sr_ts := sr_mem 362 (by decide +kernel) (by decide +kernel)
theorem wd_350 : Jvm.Cond.code yy_S_samples prog_1_method_5_code (2 : Nat) (Option.some Jvm.ClassFile.FieldType.int) ∈ sr_ts := sr_mem 363 (by decide +kernel) (by decide +kernel)
theorem wd_351 : Jvm.Cond.methodLink "StoneRings" (102 : Nat) yy_S_follow ∈ sr_ts := sr_mem 364 (by decide +kernel) (by decide +kernel)
theorem wd_353 : Jvm.Cond.instanceMethod yy_S_follow ∈ sr_ts := sr_mem 366 (by decide +kernel) (by decide +kernel)
theorem wd_354 : Jvm.Cond.code yy_S_follow prog_1_method_24_code (3 : Nat) (Option.none : Option Jvm.ClassFile.FieldType) ∈ sr_ts := sr_mem 367 (by decide +kernel) (by decide +kernel)
theorem wd_355 : Jvm.Cond.methodLink "StoneRings" (202 : Nat) yy_T_walk ∈ sr_ts := sr_mem 368 (by decide +kernel) (by decide +kernel)
theorem wd_356 : Jvm.Cond.instanceMethod yy_T_walk ∈ sr_ts := sr_mem 369 (by decide +kernel) (by decide +kernel)
theorem wd_357 : Jvm.Cond.selects "StoneRings$Trace" yy_T_walk yy_T_walk ∈ sr_ts := sr_mem 370 (by decide +kernel) (by decide +kernel)
theorem wd_358 : Jvm.Cond.code yy_T_walk prog_5_method_2_code (10 : Nat) (Option.none : Option Jvm.ClassFile.FieldType) ∈ sr_ts := sr_mem 371 (by decide +kernel) (by decide +kernel)
theorem wd_363 : Jvm.Cond.methodLink "StoneRings$Trace" (43 : Nat) yy_P_centreX ∈ sr_ts := sr_mem 376 (by decide +kernel) (by decide +kernel)
theorem wd_364 : Jvm.Cond.methodLink "StoneRings$Trace" (47 : Nat) yy_P_centreY ∈ sr_ts := sr_mem 377 (by decide +kernel) (by decide +kernel)
theorem wd_366 : Jvm.Cond.methodLink "StoneRings$Trace" (53 : Nat) yy_P_holds ∈ sr_ts := sr_mem 379 (by decide +kernel) (by decide +kernel)
theorem wd_367 : Jvm.Cond.methodLink "StoneRings$Trace" (57 : Nat) yy_P_at ∈ sr_ts := sr_mem 380 (by decide +kernel) (by decide +kernel)
theorem wd_368 : Jvm.Cond.methodLink "StoneRings" (206 : Nat) yy_T_evenOut ∈ sr_ts := sr_mem 381 (by decide +kernel) (by decide +kernel)
theorem wd_369 : Jvm.Cond.instanceMethod yy_T_evenOut ∈ sr_ts := sr_mem 382 (by decide +kernel) (by decide +kernel)
theorem wd_370 : Jvm.Cond.selects "StoneRings$Trace" yy_T_evenOut yy_T_evenOut ∈ sr_ts := sr_mem 383 (by decide +kernel) (by decide +kernel)
theorem wd_371 : Jvm.Cond.code yy_T_evenOut prog_5_method_3_code (4 : Nat) (Option.none : Option Jvm.ClassFile.FieldType) ∈ sr_ts := sr_mem 384 (by decide +kernel) (by decide +kernel)
theorem wd_372 : Jvm.Cond.methodLink "StoneRings" (209 : Nat) yy_T_findRings ∈ sr_ts := sr_mem 385 (by decide +kernel) (by decide +kernel)
theorem wd_373 : Jvm.Cond.instanceMethod yy_T_findRings ∈ sr_ts := sr_mem 386 (by decide +kernel) (by decide +kernel)
theorem wd_374 : Jvm.Cond.selects "StoneRings$Trace" yy_T_findRings yy_T_findRings ∈ sr_ts := sr_mem 387 (by decide +kernel) (by decide +kernel)
theorem wd_375 : Jvm.Cond.code yy_T_findRings prog_5_method_4_code (7 : Nat) (Option.none : Option Jvm.ClassFile.FieldType) ∈ sr_ts := sr_mem 388 (by decide +kernel) (by decide +kernel)
theorem wd_377 : Jvm.Cond.methodLink "StoneRingsLaw" (116 : Nat) yy_L_sample ∈ sr_ts := sr_mem 390 (by decide +kernel) (by decide +kernel)
theorem wd_378 : Jvm.Cond.static yy_L_sample ∈ sr_ts := sr_mem 391 (by decide +kernel) (by decide +kernel)
theorem wd_379 : Jvm.Cond.codeWith yy_L_sample method_7_code (6 : Nat) (Option.some Jvm.ClassFile.FieldType.int) [((0 : Nat), (12 : Nat), (15 : Nat), (13 : Nat))] ∈ sr_ts := sr_mem 392 (by decide +kernel) (by decide +kernel)
theorem wd_380 : Jvm.Cond.methodLink "StoneRingsLaw" (30 : Nat) yy_S_sample ∈ sr_ts := sr_mem 393 (by decide +kernel) (by decide +kernel)
theorem wd_381 : Jvm.Cond.instanceMethod yy_S_sample ∈ sr_ts := sr_mem 394 (by decide +kernel) (by decide +kernel)
theorem wd_382 : Jvm.Cond.selects "StoneRings" yy_S_sample yy_S_sample ∈ sr_ts := sr_mem 395 (by decide +kernel) (by decide +kernel)
theorem wd_383 : Jvm.Cond.code yy_S_sample prog_1_method_6_code (4 : Nat) (Option.some Jvm.ClassFile.FieldType.int) ∈ sr_ts := sr_mem 396 (by decide +kernel) (by decide +kernel)
theorem wd_384 : Jvm.Cond.methodLink "StoneRingsLaw" (120 : Nat) yy_L_rule ∈ sr_ts := sr_mem 397 (by decide +kernel) (by decide +kernel)
theorem wd_385 : Jvm.Cond.static yy_L_rule ∈ sr_ts := sr_mem 398 (by decide +kernel) (by decide +kernel)
theorem wd_386 : Jvm.Cond.codeWith yy_L_rule method_8_code (4 : Nat) (Option.some Jvm.ClassFile.FieldType.int) [((0 : Nat), (6 : Nat), (9 : Nat), (15 : Nat))] ∈ sr_ts := sr_mem 399 (by decide +kernel) (by decide +kernel)
theorem wd_387 : Jvm.Cond.methodLink "StoneRingsLaw" (34 : Nat) yy_S_rule ∈ sr_ts := sr_mem 400 (by decide +kernel) (by decide +kernel)
theorem wd_388 : Jvm.Cond.instanceMethod yy_S_rule ∈ sr_ts := sr_mem 401 (by decide +kernel) (by decide +kernel)
theorem wd_389 : Jvm.Cond.selects "StoneRings" yy_S_rule yy_S_rule ∈ sr_ts := sr_mem 402 (by decide +kernel) (by decide +kernel)
theorem wd_390 : Jvm.Cond.code yy_S_rule prog_1_method_7_code (3 : Nat) (Option.none : Option Jvm.ClassFile.FieldType) ∈ sr_ts := sr_mem 403 (by decide +kernel) (by decide +kernel)
theorem wd_391 : Jvm.Cond.methodLink "StoneRingsLaw" (124 : Nat) yy_L_rings ∈ sr_ts := sr_mem 404 (by decide +kernel) (by decide +kernel)
theorem wd_392 : Jvm.Cond.static yy_L_rings ∈ sr_ts := sr_mem 405 (by decide +kernel) (by decide +kernel)
theorem wd_393 : Jvm.Cond.codeWith yy_L_rings method_9_code (4 : Nat) (Option.some Jvm.ClassFile.FieldType.int) [((0 : Nat), (9 : Nat), (12 : Nat), (13 : Nat))] ∈ sr_ts := sr_mem 406 (by decide +kernel) (by decide +kernel)
theorem wd_394 : Jvm.Cond.methodLink "StoneRingsLaw" (38 : Nat) yy_S_rings ∈ sr_ts := sr_mem 407 (by decide +kernel) (by decide +kernel)
theorem wd_395 : Jvm.Cond.instanceMethod yy_S_rings ∈ sr_ts := sr_mem 408 (by decide +kernel) (by decide +kernel)
theorem wd_396 : Jvm.Cond.selects "StoneRings" yy_S_rings yy_S_rings ∈ sr_ts := sr_mem 409 (by decide +kernel) (by decide +kernel)
theorem wd_397 : Jvm.Cond.code yy_S_rings prog_1_method_8_code (2 : Nat) (Option.some Jvm.ClassFile.FieldType.int) ∈ sr_ts := sr_mem 410 (by decide +kernel) (by decide +kernel)
theorem wd_398 : Jvm.Cond.methodLink "StoneRingsLaw" (127 : Nat) yy_L_ring ∈ sr_ts := sr_mem 411 (by decide +kernel) (by decide +kernel)
theorem wd_399 : Jvm.Cond.static yy_L_ring ∈ sr_ts := sr_mem 412 (by decide +kernel) (by decide +kernel)
theorem wd_400 : Jvm.Cond.codeWith yy_L_ring method_10_code (6 : Nat) (Option.some Jvm.ClassFile.FieldType.int) [((0 : Nat), (12 : Nat), (15 : Nat), (13 : Nat))] ∈ sr_ts := sr_mem 413 (by decide +kernel) (by decide +kernel)
theorem wd_401 : Jvm.Cond.methodLink "StoneRingsLaw" (41 : Nat) yy_S_ring ∈ sr_ts := sr_mem 414 (by decide +kernel) (by decide +kernel)
theorem wd_402 : Jvm.Cond.instanceMethod yy_S_ring ∈ sr_ts := sr_mem 415 (by decide +kernel) (by decide +kernel)
theorem wd_403 : Jvm.Cond.selects "StoneRings" yy_S_ring yy_S_ring ∈ sr_ts := sr_mem 416 (by decide +kernel) (by decide +kernel)
theorem wd_404 : Jvm.Cond.code yy_S_ring prog_1_method_9_code (4 : Nat) (Option.some Jvm.ClassFile.FieldType.int) ∈ sr_ts := sr_mem 417 (by decide +kernel) (by decide +kernel)
theorem wd_405 : Jvm.Cond.methodLink "StoneRings" (121 : Nat) yy_T_widthOf ∈ sr_ts := sr_mem 418 (by decide +kernel) (by decide +kernel)
theorem wd_406 : Jvm.Cond.instanceMethod yy_T_widthOf ∈ sr_ts := sr_mem 419 (by decide +kernel) (by decide +kernel)
theorem wd_407 : Jvm.Cond.selects "StoneRings$Trace" yy_T_widthOf yy_T_widthOf ∈ sr_ts := sr_mem 420 (by decide +kernel) (by decide +kernel)
theorem wd_408 : Jvm.Cond.code yy_T_widthOf prog_5_method_5_code (2 : Nat) (Option.some Jvm.ClassFile.FieldType.int) ∈ sr_ts := sr_mem 421 (by decide +kernel) (by decide +kernel)
theorem wd_409 : Jvm.Cond.methodLink "StoneRings" (124 : Nat) yy_T_isFalse ∈ sr_ts := sr_mem 422 (by decide +kernel) (by decide +kernel)
theorem wd_410 : Jvm.Cond.instanceMethod yy_T_isFalse ∈ sr_ts := sr_mem 423 (by decide +kernel) (by decide +kernel)
theorem wd_411 : Jvm.Cond.selects "StoneRings$Trace" yy_T_isFalse yy_T_isFalse ∈ sr_ts := sr_mem 424 (by decide +kernel) (by decide +kernel)
theorem wd_412 : Jvm.Cond.code yy_T_isFalse prog_5_method_6_code (3 : Nat) (Option.some Jvm.ClassFile.FieldType.boolean) ∈ sr_ts := sr_mem 425 (by decide +kernel) (by decide +kernel)
theorem wd_413 : Jvm.Cond.methodLink "StoneRings$Trace" (63 : Nat) yy_T_widthOf ∈ sr_ts := sr_mem 426 (by decide +kernel) (by decide +kernel)
theorem wd_414 : Jvm.Cond.methodLink "StoneRingsLaw" (130 : Nat) yy_L_join ∈ sr_ts := sr_mem 427 (by decide +kernel) (by decide +kernel)
theorem wd_415 : Jvm.Cond.static yy_L_join ∈ sr_ts := sr_mem 428 (by decide +kernel) (by decide +kernel)
theorem wd_416 : Jvm.Cond.codeWith yy_L_join method_11_code (6 : Nat) (Option.some Jvm.ClassFile.FieldType.int) [((0 : Nat), (12 : Nat), (15 : Nat), (13 : Nat)), ((0 : Nat), (12 : Nat), (19 : Nat), (15 : Nat))] ∈ sr_ts := sr_mem 429 (by decide +kernel) (by decide +kernel)
theorem wd_417 : Jvm.Cond.methodLink "StoneRingsLaw" (45 : Nat) yy_S_join ∈ sr_ts := sr_mem 430 (by decide +kernel) (by decide +kernel)
theorem wd_418 : Jvm.Cond.instanceMethod yy_S_join ∈ sr_ts := sr_mem 431 (by decide +kernel) (by decide +kernel)
theorem wd_419 : Jvm.Cond.selects "StoneRings" yy_S_join yy_S_join ∈ sr_ts := sr_mem 432 (by decide +kernel) (by decide +kernel)
theorem wd_420 : Jvm.Cond.code yy_S_join prog_1_method_10_code (4 : Nat) (Option.some Jvm.ClassFile.FieldType.int) ∈ sr_ts := sr_mem 433 (by decide +kernel) (by decide +kernel)
theorem wd_421 : Jvm.Cond.methodLink "StoneRings" (128 : Nat) yy_G_pair ∈ sr_ts := sr_mem 434 (by decide +kernel) (by decide +kernel)
theorem wd_422 : Jvm.Cond.instanceMethod yy_G_pair ∈ sr_ts := sr_mem 435 (by decide +kernel) (by decide +kernel)
theorem wd_423 : Jvm.Cond.selects "StoneRings$Pairing" yy_G_pair yy_G_pair ∈ sr_ts := sr_mem 436 (by decide +kernel) (by decide +kernel)
theorem wd_424 : Jvm.Cond.code yy_G_pair prog_2_method_2_code (4 : Nat) (Option.some Jvm.ClassFile.FieldType.int) ∈ sr_ts := sr_mem 437 (by decide +kernel) (by decide +kernel)
theorem wd_425 : Jvm.Cond.methodLink "StoneRings$Pairing" (31 : Nat) yy_G_fillCosts ∈ sr_ts := sr_mem 438 (by decide +kernel) (by decide +kernel)
theorem wd_426 : Jvm.Cond.instanceMethod yy_G_fillCosts ∈ sr_ts := sr_mem 439 (by decide +kernel) (by decide +kernel)
theorem wd_427 : Jvm.Cond.selects "StoneRings$Pairing" yy_G_fillCosts yy_G_fillCosts ∈ sr_ts := sr_mem 440 (by decide +kernel) (by decide +kernel)
theorem wd_428 : Jvm.Cond.code yy_G_fillCosts prog_2_method_3_code (6 : Nat) (Option.none : Option Jvm.ClassFile.FieldType) ∈ sr_ts := sr_mem 441 (by decide +kernel) (by decide +kernel)
theorem wd_429 : Jvm.Cond.methodLink "StoneRings$Pairing" (38 : Nat) yy_G_leastFrom ∈ sr_ts := sr_mem 442 (by decide +kernel) (by decide +kernel)
theorem wd_430 : Jvm.Cond.instanceMethod yy_G_leastFrom ∈ sr_ts := sr_mem 443 (by decide +kernel) (by decide +kernel)
theorem wd_431 : Jvm.Cond.selects "StoneRings$Pairing" yy_G_leastFrom yy_G_leastFrom ∈ sr_ts := sr_mem 444 (by decide +kernel) (by decide +kernel)
theorem wd_432 : Jvm.Cond.code yy_G_leastFrom prog_2_method_4_code (7 : Nat) (Option.some Jvm.ClassFile.FieldType.int) ∈ sr_ts := sr_mem 445 (by decide +kernel) (by decide +kernel)
theorem wd_434 : Jvm.Cond.methodLink "StoneRings$Pairing" (48 : Nat) yy_G_together ∈ sr_ts := sr_mem 447 (by decide +kernel) (by decide +kernel)
theorem wd_435 : Jvm.Cond.instanceMethod yy_G_together ∈ sr_ts := sr_mem 448 (by decide +kernel) (by decide +kernel)
theorem wd_436 : Jvm.Cond.selects "StoneRings$Pairing" yy_G_together yy_G_together ∈ sr_ts := sr_mem 449 (by decide +kernel) (by decide +kernel)
theorem wd_437 : Jvm.Cond.code yy_G_together prog_2_method_5_code (5 : Nat) (Option.some Jvm.ClassFile.FieldType.int) ∈ sr_ts := sr_mem 450 (by decide +kernel) (by decide +kernel)
theorem wd_439 : Jvm.Cond.methodLink "StoneRings$Pairing" (35 : Nat) yy_G_choosePartners ∈ sr_ts := sr_mem 452 (by decide +kernel) (by decide +kernel)
theorem wd_440 : Jvm.Cond.instanceMethod yy_G_choosePartners ∈ sr_ts := sr_mem 453 (by decide +kernel) (by decide +kernel)
theorem wd_441 : Jvm.Cond.selects "StoneRings$Pairing" yy_G_choosePartners yy_G_choosePartners ∈ sr_ts := sr_mem 454 (by decide +kernel) (by decide +kernel)
theorem wd_442 : Jvm.Cond.code yy_G_choosePartners prog_2_method_6_code (8 : Nat) (Option.none : Option Jvm.ClassFile.FieldType) ∈ sr_ts := sr_mem 455 (by decide +kernel) (by decide +kernel)
theorem wd_443 : Jvm.Cond.methodLink "StoneRingsLaw" (133 : Nat) yy_L_joined ∈ sr_ts := sr_mem 456 (by decide +kernel) (by decide +kernel)
theorem wd_444 : Jvm.Cond.static yy_L_joined ∈ sr_ts := sr_mem 457 (by decide +kernel) (by decide +kernel)
theorem wd_445 : Jvm.Cond.codeWith yy_L_joined method_12_code (4 : Nat) (Option.some Jvm.ClassFile.FieldType.int) [((0 : Nat), (9 : Nat), (12 : Nat), (25 : Nat)), ((0 : Nat), (9 : Nat), (15 : Nat), (13 : Nat))] ∈ sr_ts := sr_mem 458 (by decide +kernel) (by decide +kernel)
theorem wd_446 : Jvm.Cond.methodLink "StoneRingsLaw" (48 : Nat) yy_S_joined ∈ sr_ts := sr_mem 459 (by decide +kernel) (by decide +kernel)
theorem wd_447 : Jvm.Cond.instanceMethod yy_S_joined ∈ sr_ts := sr_mem 460 (by decide +kernel) (by decide +kernel)
theorem wd_448 : Jvm.Cond.selects "StoneRings" yy_S_joined yy_S_joined ∈ sr_ts := sr_mem 461 (by decide +kernel) (by decide +kernel)
theorem wd_449 : Jvm.Cond.code yy_S_joined prog_1_method_11_code (2 : Nat) (Option.some Jvm.ClassFile.FieldType.int) ∈ sr_ts := sr_mem 462 (by decide +kernel) (by decide +kernel)
theorem wd_451 : Jvm.Cond.methodLink "StoneRingsLaw" (136 : Nat) yy_L_back ∈ sr_ts := sr_mem 464 (by decide +kernel) (by decide +kernel)
theorem wd_452 : Jvm.Cond.static yy_L_back ∈ sr_ts := sr_mem 465 (by decide +kernel) (by decide +kernel)
theorem wd_453 : Jvm.Cond.codeWith yy_L_back method_13_code (6 : Nat) (Option.some Jvm.ClassFile.FieldType.int) [((0 : Nat), (12 : Nat), (15 : Nat), (13 : Nat)), ((0 : Nat), (12 : Nat), (19 : Nat), (15 : Nat))] ∈ sr_ts := sr_mem 466 (by decide +kernel) (by decide +kernel)
theorem wd_454 : Jvm.Cond.methodLink "StoneRingsLaw" (51 : Nat) yy_S_back ∈ sr_ts := sr_mem 467 (by decide +kernel) (by decide +kernel)
theorem wd_455 : Jvm.Cond.instanceMethod yy_S_back ∈ sr_ts := sr_mem 468 (by decide +kernel) (by decide +kernel)
theorem wd_456 : Jvm.Cond.selects "StoneRings" yy_S_back yy_S_back ∈ sr_ts := sr_mem 469 (by decide +kernel) (by decide +kernel)
theorem wd_457 : Jvm.Cond.code yy_S_back prog_1_method_12_code (4 : Nat) (Option.some Jvm.ClassFile.FieldType.int) ∈ sr_ts := sr_mem 470 (by decide +kernel) (by decide +kernel)
theorem wd_458 : Jvm.Cond.constant "StoneRings" (144 : Nat) (100000 : Int32) ∈ sr_ts := sr_mem 471 (by decide +kernel) (by decide +kernel)
theorem wd_459 : Jvm.Cond.methodLink "StoneRings" (145 : Nat) yy_S_floorOf ∈ sr_ts := sr_mem 472 (by decide +kernel) (by decide +kernel)
theorem wd_460 : Jvm.Cond.methodLink "StoneRingsLaw" (139 : Nat) yy_L_tell ∈ sr_ts := sr_mem 473 (by decide +kernel) (by decide +kernel)
theorem wd_461 : Jvm.Cond.static yy_L_tell ∈ sr_ts := sr_mem 474 (by decide +kernel) (by decide +kernel)
theorem wd_462 : Jvm.Cond.codeWith yy_L_tell method_14_code (5 : Nat) (Option.some Jvm.ClassFile.FieldType.int) [((0 : Nat), (7 : Nat), (10 : Nat), (13 : Nat)), ((0 : Nat), (7 : Nat), (14 : Nat), (15 : Nat)), ((0 : Nat), (7 : Nat), (18 : Nat), (25 : Nat))] ∈ sr_ts := sr_mem 475 (by decide +kernel) (by decide +kernel)
theorem wd_463 : Jvm.Cond.methodLink "StoneRingsLaw" (54 : Nat) yy_S_tell ∈ sr_ts := sr_mem 476 (by decide +kernel) (by decide +kernel)
theorem wd_464 : Jvm.Cond.instanceMethod yy_S_tell ∈ sr_ts := sr_mem 477 (by decide +kernel) (by decide +kernel)
theorem wd_465 : Jvm.Cond.selects "StoneRings" yy_S_tell yy_S_tell ∈ sr_ts := sr_mem 478 (by decide +kernel) (by decide +kernel)
theorem wd_466 : Jvm.Cond.code yy_S_tell prog_1_method_13_code (4 : Nat) (Option.none : Option Jvm.ClassFile.FieldType) ∈ sr_ts := sr_mem 479 (by decide +kernel) (by decide +kernel)
theorem wd_467 : Jvm.Cond.methodLink "StoneRings" (149 : Nat) yy_D_has ∈ sr_ts := sr_mem 480 (by decide +kernel) (by decide +kernel)
theorem wd_468 : Jvm.Cond.instanceMethod yy_D_has ∈ sr_ts := sr_mem 481 (by decide +kernel) (by decide +kernel)
theorem wd_469 : Jvm.Cond.selects "StoneRings$Readings" yy_D_has yy_D_has ∈ sr_ts := sr_mem 482 (by decide +kernel) (by decide +kernel)
theorem wd_470 : Jvm.Cond.code yy_D_has prog_4_method_3_code (3 : Nat) (Option.some Jvm.ClassFile.FieldType.boolean) ∈ sr_ts := sr_mem 483 (by decide +kernel) (by decide +kernel)
theorem wd_472 : Jvm.Cond.methodLink "StoneRings" (154 : Nat) yy_D_put ∈ sr_ts := sr_mem 485 (by decide +kernel) (by decide +kernel)
theorem wd_473 : Jvm.Cond.instanceMethod yy_D_put ∈ sr_ts := sr_mem 486 (by decide +kernel) (by decide +kernel)
theorem wd_474 : Jvm.Cond.selects "StoneRings$Readings" yy_D_put yy_D_put ∈ sr_ts := sr_mem 487 (by decide +kernel) (by decide +kernel)
theorem wd_475 : Jvm.Cond.code yy_D_put prog_4_method_4_code (4 : Nat) (Option.none : Option Jvm.ClassFile.FieldType) ∈ sr_ts := sr_mem 488 (by decide +kernel) (by decide +kernel)
theorem wd_476 : Jvm.Cond.methodLink "StoneRingsLaw" (143 : Nat) yy_L_may ∈ sr_ts := sr_mem 489 (by decide +kernel) (by decide +kernel)
theorem wd_477 : Jvm.Cond.static yy_L_may ∈ sr_ts := sr_mem 490 (by decide +kernel) (by decide +kernel)
theorem wd_478 : Jvm.Cond.codeWith yy_L_may method_15_code (5 : Nat) (Option.some Jvm.ClassFile.FieldType.int) [((0 : Nat), (17 : Nat), (20 : Nat), (13 : Nat))] ∈ sr_ts := sr_mem 491 (by decide +kernel) (by decide +kernel)
theorem wd_479 : Jvm.Cond.methodLink "StoneRingsLaw" (58 : Nat) yy_S_may ∈ sr_ts := sr_mem 492 (by decide +kernel) (by decide +kernel)
theorem wd_480 : Jvm.Cond.instanceMethod yy_S_may ∈ sr_ts := sr_mem 493 (by decide +kernel) (by decide +kernel)
theorem wd_481 : Jvm.Cond.selects "StoneRings" yy_S_may yy_S_may ∈ sr_ts := sr_mem 494 (by decide +kernel) (by decide +kernel)
theorem wd_482 : Jvm.Cond.code yy_S_may prog_1_method_14_code (3 : Nat) (Option.some Jvm.ClassFile.FieldType.boolean) ∈ sr_ts := sr_mem 495 (by decide +kernel) (by decide +kernel)
theorem wd_483 : Jvm.Cond.methodLink "StoneRingsLaw" (146 : Nat) yy_L_seen ∈ sr_ts := sr_mem 496 (by decide +kernel) (by decide +kernel)
theorem wd_484 : Jvm.Cond.static yy_L_seen ∈ sr_ts := sr_mem 497 (by decide +kernel) (by decide +kernel)
theorem wd_485 : Jvm.Cond.codeWith yy_L_seen method_16_code (6 : Nat) (Option.some Jvm.ClassFile.FieldType.int) [((0 : Nat), (12 : Nat), (15 : Nat), (13 : Nat)), ((0 : Nat), (12 : Nat), (19 : Nat), (25 : Nat))] ∈ sr_ts := sr_mem 498 (by decide +kernel) (by decide +kernel)
theorem wd_486 : Jvm.Cond.methodLink "StoneRingsLaw" (62 : Nat) yy_S_seen ∈ sr_ts := sr_mem 499 (by decide +kernel) (by decide +kernel)
theorem wd_487 : Jvm.Cond.instanceMethod yy_S_seen ∈ sr_ts := sr_mem 500 (by decide +kernel) (by decide +kernel)
theorem wd_488 : Jvm.Cond.selects "StoneRings" yy_S_seen yy_S_seen ∈ sr_ts := sr_mem 501 (by decide +kernel) (by decide +kernel)
theorem wd_489 : Jvm.Cond.code yy_S_seen prog_1_method_15_code (4 : Nat) (Option.some Jvm.ClassFile.FieldType.int) ∈ sr_ts := sr_mem 502 (by decide +kernel) (by decide +kernel)
theorem wd_491 : Jvm.Cond.methodLink "StoneRings" (158 : Nat) yy_D_of ∈ sr_ts := sr_mem 504 (by decide +kernel) (by decide +kernel)
theorem wd_492 : Jvm.Cond.methodLink "StoneRingsLaw" (149 : Nat) yy_L_agree ∈ sr_ts := sr_mem 505 (by decide +kernel) (by decide +kernel)
theorem wd_493 : Jvm.Cond.static yy_L_agree ∈ sr_ts := sr_mem 506 (by decide +kernel) (by decide +kernel)
theorem wd_494 : Jvm.Cond.codeWith yy_L_agree method_17_code (6 : Nat) (Option.some Jvm.ClassFile.FieldType.int) [((0 : Nat), (12 : Nat), (15 : Nat), (13 : Nat))] ∈ sr_ts := sr_mem 507 (by decide +kernel) (by decide +kernel)
theorem wd_495 : Jvm.Cond.methodLink "StoneRingsLaw" (65 : Nat) yy_S_agree ∈ sr_ts := sr_mem 508 (by decide +kernel) (by decide +kernel)
theorem wd_496 : Jvm.Cond.instanceMethod yy_S_agree ∈ sr_ts := sr_mem 509 (by decide +kernel) (by decide +kernel)
theorem wd_497 : Jvm.Cond.selects "StoneRings" yy_S_agree yy_S_agree ∈ sr_ts := sr_mem 510 (by decide +kernel) (by decide +kernel)
theorem wd_498 : Jvm.Cond.code yy_S_agree prog_1_method_16_code (4 : Nat) (Option.some Jvm.ClassFile.FieldType.int) ∈ sr_ts := sr_mem 511 (by decide +kernel) (by decide +kernel)
theorem wd_499 : Jvm.Cond.methodLink "StoneRings" (161 : Nat) yy_S_needPair ∈ sr_ts := sr_mem 512 (by decide +kernel) (by decide +kernel)
theorem wd_500 : Jvm.Cond.static yy_S_needPair ∈ sr_ts := sr_mem 513 (by decide +kernel) (by decide +kernel)
theorem wd_501 : Jvm.Cond.code yy_S_needPair prog_1_method_27_code (3 : Nat) (Option.none : Option Jvm.ClassFile.FieldType) ∈ sr_ts := sr_mem 514 (by decide +kernel) (by decide +kernel)
theorem wd_502 : Jvm.Cond.methodLink "StoneRings" (164 : Nat) yy_D_alike ∈ sr_ts := sr_mem 515 (by decide +kernel) (by decide +kernel)
theorem wd_503 : Jvm.Cond.instanceMethod yy_D_alike ∈ sr_ts := sr_mem 516 (by decide +kernel) (by decide +kernel)
theorem wd_504 : Jvm.Cond.selects "StoneRings$Readings" yy_D_alike yy_D_alike ∈ sr_ts := sr_mem 517 (by decide +kernel) (by decide +kernel)
theorem wd_505 : Jvm.Cond.code yy_D_alike prog_4_method_7_code (5 : Nat) (Option.some Jvm.ClassFile.FieldType.int) ∈ sr_ts := sr_mem 518 (by decide +kernel) (by decide +kernel)
theorem wd_506 : Jvm.Cond.methodLink "StoneRings$Readings" (36 : Nat) yy_D_bothTold ∈ sr_ts := sr_mem 519 (by decide +kernel) (by decide +kernel)
theorem wd_507 : Jvm.Cond.instanceMethod yy_D_bothTold ∈ sr_ts := sr_mem 520 (by decide +kernel) (by decide +kernel)
theorem wd_508 : Jvm.Cond.selects "StoneRings$Readings" yy_D_bothTold yy_D_bothTold ∈ sr_ts := sr_mem 521 (by decide +kernel) (by decide +kernel)
theorem wd_509 : Jvm.Cond.code yy_D_bothTold prog_4_method_5_code (4 : Nat) (Option.some Jvm.ClassFile.FieldType.boolean) ∈ sr_ts := sr_mem 522 (by decide +kernel) (by decide +kernel)
theorem wd_510 : Jvm.Cond.methodLink "StoneRings$Readings" (32 : Nat) yy_D_has ∈ sr_ts := sr_mem 523 (by decide +kernel) (by decide +kernel)
theorem wd_511 : Jvm.Cond.methodLink "StoneRings" (167 : Nat) yy_D_shared ∈ sr_ts := sr_mem 524 (by decide +kernel) (by decide +kernel)
theorem wd_512 : Jvm.Cond.instanceMethod yy_D_shared ∈ sr_ts := sr_mem 525 (by decide +kernel) (by decide +kernel)
theorem wd_513 : Jvm.Cond.selects "StoneRings$Readings" yy_D_shared yy_D_shared ∈ sr_ts := sr_mem 526 (by decide +kernel) (by decide +kernel)
theorem wd_514 : Jvm.Cond.code yy_D_shared prog_4_method_6_code (5 : Nat) (Option.some Jvm.ClassFile.FieldType.int) ∈ sr_ts := sr_mem 527 (by decide +kernel) (by decide +kernel)
theorem wd_515 : Jvm.Cond.methodLink "StoneRings" (170 : Nat) yy_S_fractionPart ∈ sr_ts := sr_mem 528 (by decide +kernel) (by decide +kernel)
theorem wd_516 : Jvm.Cond.static yy_S_fractionPart ∈ sr_ts := sr_mem 529 (by decide +kernel) (by decide +kernel)
theorem wd_517 : Jvm.Cond.code yy_S_fractionPart prog_1_method_30_code (5 : Nat) (Option.some Jvm.ClassFile.FieldType.int) ∈ sr_ts := sr_mem 530 (by decide +kernel) (by decide +kernel)
theorem wd_519 : Jvm.Cond.methodLink "StoneRings" (225 : Nat) yy_S_commonDivisor ∈ sr_ts := sr_mem 532 (by decide +kernel) (by decide +kernel)
theorem wd_520 : Jvm.Cond.static yy_S_commonDivisor ∈ sr_ts := sr_mem 533 (by decide +kernel) (by decide +kernel)
theorem wd_521 : Jvm.Cond.code yy_S_commonDivisor prog_1_method_31_code (6 : Nat) (Option.some Jvm.ClassFile.FieldType.int) ∈ sr_ts := sr_mem 534 (by decide +kernel) (by decide +kernel)
theorem wd_522 : Jvm.Cond.methodLink "StoneRingsLaw" (152 : Nat) yy_L_bias ∈ sr_ts := sr_mem 535 (by decide +kernel) (by decide +kernel)
theorem wd_523 : Jvm.Cond.static yy_L_bias ∈ sr_ts := sr_mem 536 (by decide +kernel) (by decide +kernel)
theorem wd_524 : Jvm.Cond.codeWith yy_L_bias method_18_code (6 : Nat) (Option.some Jvm.ClassFile.FieldType.int) [((0 : Nat), (12 : Nat), (15 : Nat), (13 : Nat))] ∈ sr_ts := sr_mem 537 (by decide +kernel) (by decide +kernel)
theorem wd_525 : Jvm.Cond.methodLink "StoneRingsLaw" (68 : Nat) yy_S_bias ∈ sr_ts := sr_mem 538 (by decide +kernel) (by decide +kernel)
theorem wd_526 : Jvm.Cond.instanceMethod yy_S_bias ∈ sr_ts := sr_mem 539 (by decide +kernel) (by decide +kernel)
theorem wd_527 : Jvm.Cond.selects "StoneRings" yy_S_bias yy_S_bias ∈ sr_ts := sr_mem 540 (by decide +kernel) (by decide +kernel)
theorem wd_528 : Jvm.Cond.code yy_S_bias prog_1_method_17_code (4 : Nat) (Option.some Jvm.ClassFile.FieldType.int) ∈ sr_ts := sr_mem 541 (by decide +kernel) (by decide +kernel)
theorem wd_529 : Jvm.Cond.methodLink "StoneRings" (174 : Nat) yy_D_excess ∈ sr_ts := sr_mem 542 (by decide +kernel) (by decide +kernel)
theorem wd_530 : Jvm.Cond.instanceMethod yy_D_excess ∈ sr_ts := sr_mem 543 (by decide +kernel) (by decide +kernel)
theorem wd_531 : Jvm.Cond.selects "StoneRings$Readings" yy_D_excess yy_D_excess ∈ sr_ts := sr_mem 544 (by decide +kernel) (by decide +kernel)
theorem wd_532 : Jvm.Cond.code yy_D_excess prog_4_method_8_code (5 : Nat) (Option.some Jvm.ClassFile.FieldType.int) ∈ sr_ts := sr_mem 545 (by decide +kernel) (by decide +kernel)
theorem wd_533 : Jvm.Cond.methodLink "StoneRingsLaw" (155 : Nat) yy_L_told ∈ sr_ts := sr_mem 546 (by decide +kernel) (by decide +kernel)
theorem wd_534 : Jvm.Cond.static yy_L_told ∈ sr_ts := sr_mem 547 (by decide +kernel) (by decide +kernel)
theorem wd_535 : Jvm.Cond.codeWith yy_L_told method_19_code (4 : Nat) (Option.some Jvm.ClassFile.FieldType.int) [((0 : Nat), (9 : Nat), (12 : Nat), (13 : Nat))] ∈ sr_ts := sr_mem 548 (by decide +kernel) (by decide +kernel)
theorem wd_536 : Jvm.Cond.methodLink "StoneRingsLaw" (71 : Nat) yy_S_told ∈ sr_ts := sr_mem 549 (by decide +kernel) (by decide +kernel)
theorem wd_537 : Jvm.Cond.instanceMethod yy_S_told ∈ sr_ts := sr_mem 550 (by decide +kernel) (by decide +kernel)
theorem wd_538 : Jvm.Cond.selects "StoneRings" yy_S_told yy_S_told ∈ sr_ts := sr_mem 551 (by decide +kernel) (by decide +kernel)
theorem wd_539 : Jvm.Cond.code yy_S_told prog_1_method_18_code (2 : Nat) (Option.some Jvm.ClassFile.FieldType.int) ∈ sr_ts := sr_mem 552 (by decide +kernel) (by decide +kernel)
theorem wd_540 : Jvm.Cond.methodLink "StoneRings" (177 : Nat) yy_D_mostTold ∈ sr_ts := sr_mem 553 (by decide +kernel) (by decide +kernel)
theorem wd_541 : Jvm.Cond.methodLink "StoneRingsLaw" (158 : Nat) yy_L_right ∈ sr_ts := sr_mem 554 (by decide +kernel) (by decide +kernel)
theorem wd_542 : Jvm.Cond.static yy_L_right ∈ sr_ts := sr_mem 555 (by decide +kernel) (by decide +kernel)
theorem wd_543 : Jvm.Cond.codeWith yy_L_right method_20_code (4 : Nat) (Option.some Jvm.ClassFile.FieldType.int) [((0 : Nat), (9 : Nat), (12 : Nat), (13 : Nat))] ∈ sr_ts := sr_mem 556 (by decide +kernel) (by decide +kernel)
theorem wd_544 : Jvm.Cond.methodLink "StoneRingsLaw" (74 : Nat) yy_S_right ∈ sr_ts := sr_mem 557 (by decide +kernel) (by decide +kernel)
theorem wd_545 : Jvm.Cond.instanceMethod yy_S_right ∈ sr_ts := sr_mem 558 (by decide +kernel) (by decide +kernel)
theorem wd_546 : Jvm.Cond.selects "StoneRings" yy_S_right yy_S_right ∈ sr_ts := sr_mem 559 (by decide +kernel) (by decide +kernel)
theorem wd_547 : Jvm.Cond.code yy_S_right prog_1_method_19_code (2 : Nat) (Option.some Jvm.ClassFile.FieldType.int) ∈ sr_ts := sr_mem 560 (by decide +kernel) (by decide +kernel)
theorem wd_548 : Jvm.Cond.methodLink "StoneRings" (180 : Nat) yy_D_hits ∈ sr_ts := sr_mem 561 (by decide +kernel) (by decide +kernel)
theorem wd_549 : Jvm.Cond.instanceMethod yy_D_hits ∈ sr_ts := sr_mem 562 (by decide +kernel) (by decide +kernel)
theorem wd_550 : Jvm.Cond.selects "StoneRings$Readings" yy_D_hits yy_D_hits ∈ sr_ts := sr_mem 563 (by decide +kernel) (by decide +kernel)
theorem wd_551 : Jvm.Cond.code yy_D_hits prog_4_method_11_code (4 : Nat) (Option.some Jvm.ClassFile.FieldType.int) ∈ sr_ts := sr_mem 564 (by decide +kernel) (by decide +kernel)
theorem wd_552 : Jvm.Cond.methodLink "StoneRingsLaw" (161 : Nat) yy_L_best ∈ sr_ts := sr_mem 565 (by decide +kernel) (by decide +kernel)
theorem wd_553 : Jvm.Cond.static yy_L_best ∈ sr_ts := sr_mem 566 (by decide +kernel) (by decide +kernel)
theorem wd_554 : Jvm.Cond.codeWith yy_L_best method_21_code (4 : Nat) (Option.some Jvm.ClassFile.FieldType.int) [((0 : Nat), (9 : Nat), (12 : Nat), (13 : Nat))] ∈ sr_ts := sr_mem 567 (by decide +kernel) (by decide +kernel)
theorem wd_555 : Jvm.Cond.methodLink "StoneRingsLaw" (77 : Nat) yy_S_best ∈ sr_ts := sr_mem 568 (by decide +kernel) (by decide +kernel)
theorem wd_556 : Jvm.Cond.instanceMethod yy_S_best ∈ sr_ts := sr_mem 569 (by decide +kernel) (by decide +kernel)
theorem wd_557 : Jvm.Cond.selects "StoneRings" yy_S_best yy_S_best ∈ sr_ts := sr_mem 570 (by decide +kernel) (by decide +kernel)
theorem wd_558 : Jvm.Cond.code yy_S_best prog_1_method_20_code (2 : Nat) (Option.some Jvm.ClassFile.FieldType.int) ∈ sr_ts := sr_mem 571 (by decide +kernel) (by decide +kernel)
theorem wd_559 : Jvm.Cond.methodLink "StoneRings" (183 : Nat) yy_D_readerAt ∈ sr_ts := sr_mem 572 (by decide +kernel) (by decide +kernel)
theorem wd_560 : Jvm.Cond.instanceMethod yy_D_readerAt ∈ sr_ts := sr_mem 573 (by decide +kernel) (by decide +kernel)
theorem wd_561 : Jvm.Cond.selects "StoneRings$Readings" yy_D_readerAt yy_D_readerAt ∈ sr_ts := sr_mem 574 (by decide +kernel) (by decide +kernel)
theorem wd_562 : Jvm.Cond.code yy_D_readerAt prog_4_method_12_code (3 : Nat) (Option.some Jvm.ClassFile.FieldType.int) ∈ sr_ts := sr_mem 575 (by decide +kernel) (by decide +kernel)
theorem wd_563 : Jvm.Cond.methodLink "StoneRings$Readings" (47 : Nat) yy_D_hits ∈ sr_ts := sr_mem 576 (by decide +kernel) (by decide +kernel)
theorem wd_564 : Jvm.Cond.methodLink "StoneRings$Readings" (50 : Nat) yy_D_readersBefore ∈ sr_ts := sr_mem 577 (by decide +kernel) (by decide +kernel)
theorem wd_565 : Jvm.Cond.instanceMethod yy_D_readersBefore ∈ sr_ts := sr_mem 578 (by decide +kernel) (by decide +kernel)
theorem wd_566 : Jvm.Cond.selects "StoneRings$Readings" yy_D_readersBefore yy_D_readersBefore ∈ sr_ts := sr_mem 579 (by decide +kernel) (by decide +kernel)
theorem wd_567 : Jvm.Cond.code yy_D_readersBefore prog_4_method_13_code (4 : Nat) (Option.some Jvm.ClassFile.FieldType.int) ∈ sr_ts := sr_mem 580 (by decide +kernel) (by decide +kernel)
theorem wd_568 : Jvm.Cond.methodLink "StoneRingsLaw" (164 : Nat) yy_L_age ∈ sr_ts := sr_mem 581 (by decide +kernel) (by decide +kernel)
theorem wd_569 : Jvm.Cond.static yy_L_age ∈ sr_ts := sr_mem 582 (by decide +kernel) (by decide +kernel)
theorem wd_570 : Jvm.Cond.codeWith yy_L_age method_22_code (6 : Nat) (Option.some Jvm.ClassFile.FieldType.int) [((0 : Nat), (12 : Nat), (15 : Nat), (13 : Nat)), ((0 : Nat), (12 : Nat), (19 : Nat), (15 : Nat))] ∈ sr_ts := sr_mem 583 (by decide +kernel) (by decide +kernel)
theorem wd_571 : Jvm.Cond.methodLink "StoneRingsLaw" (80 : Nat) yy_S_age ∈ sr_ts := sr_mem 584 (by decide +kernel) (by decide +kernel)
theorem wd_572 : Jvm.Cond.instanceMethod yy_S_age ∈ sr_ts := sr_mem 585 (by decide +kernel) (by decide +kernel)
theorem wd_573 : Jvm.Cond.selects "StoneRings" yy_S_age yy_S_age ∈ sr_ts := sr_mem 586 (by decide +kernel) (by decide +kernel)
theorem wd_574 : Jvm.Cond.code yy_S_age prog_1_method_21_code (5 : Nat) (Option.some Jvm.ClassFile.FieldType.int) ∈ sr_ts := sr_mem 587 (by decide +kernel) (by decide +kernel)
theorem wd_575 : Jvm.Cond.methodLink "StoneRingsLaw" (167 : Nat) yy_L_twin ∈ sr_ts := sr_mem 588 (by decide +kernel) (by decide +kernel)
theorem wd_576 : Jvm.Cond.static yy_L_twin ∈ sr_ts := sr_mem 589 (by decide +kernel) (by decide +kernel)
theorem wd_577 : Jvm.Cond.codeWith yy_L_twin method_23_code (5 : Nat) (Option.some Jvm.ClassFile.FieldType.int) [((0 : Nat), (17 : Nat), (20 : Nat), (13 : Nat))] ∈ sr_ts := sr_mem 590 (by decide +kernel) (by decide +kernel)
theorem wd_578 : Jvm.Cond.methodLink "StoneRingsLaw" (83 : Nat) yy_S_twin ∈ sr_ts := sr_mem 591 (by decide +kernel) (by decide +kernel)
theorem wd_579 : Jvm.Cond.instanceMethod yy_S_twin ∈ sr_ts := sr_mem 592 (by decide +kernel) (by decide +kernel)
theorem wd_580 : Jvm.Cond.selects "StoneRings" yy_S_twin yy_S_twin ∈ sr_ts := sr_mem 593 (by decide +kernel) (by decide +kernel)
theorem wd_581 : Jvm.Cond.code yy_S_twin prog_1_method_22_code (3 : Nat) (Option.some Jvm.ClassFile.FieldType.boolean) ∈ sr_ts := sr_mem 594 (by decide +kernel) (by decide +kernel)
theorem wd_582 : Jvm.Cond.methodLink "StoneRings" (191 : Nat) yy_T_sameValues ∈ sr_ts := sr_mem 595 (by decide +kernel) (by decide +kernel)
theorem wd_583 : Jvm.Cond.instanceMethod yy_T_sameValues ∈ sr_ts := sr_mem 596 (by decide +kernel) (by decide +kernel)
theorem wd_584 : Jvm.Cond.selects "StoneRings$Trace" yy_T_sameValues yy_T_sameValues ∈ sr_ts := sr_mem 597 (by decide +kernel) (by decide +kernel)
theorem wd_585 : Jvm.Cond.code yy_T_sameValues prog_5_method_7_code (3 : Nat) (Option.some Jvm.ClassFile.FieldType.boolean) ∈ sr_ts := sr_mem 598 (by decide +kernel) (by decide +kernel)
theorem wd_592 : Jvm.Cond.fieldLink "StoneRingsModel" (53 : Nat) "StoneRingsModel" "thrown" "I" ∈ sr_ts := sr_mem 605 (by decide +kernel) (by decide +kernel)
theorem wd_593 : Jvm.Cond.fieldLink "StoneRingsModel" (47 : Nat) "StoneRingsModel" "wide" "I" ∈ sr_ts := sr_mem 606 (by decide +kernel) (by decide +kernel)
theorem wd_594 : Jvm.Cond.fieldLink "StoneRingsModel" (50 : Nat) "StoneRingsModel" "high" "I" ∈ sr_ts := sr_mem 607 (by decide +kernel) (by decide +kernel)
theorem wd_595 : Jvm.Cond.fieldLink "StoneRingsModel" (7 : Nat) "StoneRingsModel" "pixels" "[I" ∈ sr_ts := sr_mem 608 (by decide +kernel) (by decide +kernel)
theorem wd_596 : Jvm.Cond.fieldLink "StoneRingsModel" (71 : Nat) "StoneRingsModel" "rays" "I" ∈ sr_ts := sr_mem 609 (by decide +kernel) (by decide +kernel)
theorem wd_597 : Jvm.Cond.fieldLink "StoneRingsModel" (13 : Nat) "StoneRingsModel" "dxs" "[I" ∈ sr_ts := sr_mem 610 (by decide +kernel) (by decide +kernel)
theorem wd_598 : Jvm.Cond.fieldLink "StoneRingsModel" (16 : Nat) "StoneRingsModel" "dys" "[I" ∈ sr_ts := sr_mem 611 (by decide +kernel) (by decide +kernel)
theorem wd_599 : Jvm.Cond.fieldLink "StoneRingsModel" (19 : Nat) "StoneRingsModel" "apart" "I" ∈ sr_ts := sr_mem 612 (by decide +kernel) (by decide +kernel)
theorem wd_600 : Jvm.Cond.fieldLink "StoneRingsModel" (23 : Nat) "StoneRingsModel" "more" "I" ∈ sr_ts := sr_mem 613 (by decide +kernel) (by decide +kernel)
theorem wd_601 : Jvm.Cond.fieldLink "StoneRingsModel" (77 : Nat) "StoneRingsModel" "many" "I" ∈ sr_ts := sr_mem 614 (by decide +kernel) (by decide +kernel)
theorem wd_602 : Jvm.Cond.fieldLink "StoneRingsModel" (26 : Nat) "StoneRingsModel" "row" "[I" ∈ sr_ts := sr_mem 615 (by decide +kernel) (by decide +kernel)
theorem wd_603 : Jvm.Cond.fieldLink "StoneRingsModel" (29 : Nat) "StoneRingsModel" "even" "[I" ∈ sr_ts := sr_mem 616 (by decide +kernel) (by decide +kernel)
theorem wd_604 : Jvm.Cond.fieldLink "StoneRingsModel" (84 : Nat) "StoneRingsModel" "rings" "I" ∈ sr_ts := sr_mem 617 (by decide +kernel) (by decide +kernel)
theorem wd_605 : Jvm.Cond.fieldLink "StoneRingsModel" (32 : Nat) "StoneRingsModel" "places" "[I" ∈ sr_ts := sr_mem 618 (by decide +kernel) (by decide +kernel)
theorem wd_606 : Jvm.Cond.fieldLink "StoneRingsModel" (103 : Nat) "StoneRingsModel" "others" "I" ∈ sr_ts := sr_mem 619 (by decide +kernel) (by decide +kernel)
theorem wd_607 : Jvm.Cond.fieldLink "StoneRingsModel" (35 : Nat) "StoneRingsModel" "otherPlaces" "[I" ∈ sr_ts := sr_mem 620 (by decide +kernel) (by decide +kernel)
theorem wd_608 : Jvm.Cond.fieldLink "StoneRingsModel" (38 : Nat) "StoneRingsModel" "costs" "[I" ∈ sr_ts := sr_mem 621 (by decide +kernel) (by decide +kernel)
theorem wd_609 : Jvm.Cond.fieldLink "StoneRingsModel" (110 : Nat) "StoneRingsModel" "hasJoined" "Z" ∈ sr_ts := sr_mem 622 (by decide +kernel) (by decide +kernel)
theorem wd_610 : Jvm.Cond.fieldLink "StoneRingsModel" (114 : Nat) "StoneRingsModel" "joinedMany" "I" ∈ sr_ts := sr_mem 623 (by decide +kernel) (by decide +kernel)
theorem wd_611 : Jvm.Cond.fieldLink "StoneRingsModel" (41 : Nat) "StoneRingsModel" "partners" "[I" ∈ sr_ts := sr_mem 624 (by decide +kernel) (by decide +kernel)
theorem wd_612 : Jvm.Cond.fieldLink "StoneRingsModel" (44 : Nat) "StoneRingsModel" "counts" "[I" ∈ sr_ts := sr_mem 625 (by decide +kernel) (by decide +kernel)
theorem wd_656 : Jvm.Cond.methodLink "StoneRingsLaw" (101 : Nat) yy_M_thrown ∈ sr_ts := sr_mem 669 (by decide +kernel) (by decide +kernel)
theorem wd_657 : Jvm.Cond.instanceMethod yy_M_thrown ∈ sr_ts := sr_mem 670 (by decide +kernel) (by decide +kernel)
theorem wd_658 : Jvm.Cond.selects "StoneRingsModel" yy_M_thrown yy_M_thrown ∈ sr_ts := sr_mem 671 (by decide +kernel) (by decide +kernel)
theorem wd_659 : Jvm.Cond.code yy_M_thrown prog_7_method_2_code (1 : Nat) (Option.some Jvm.ClassFile.FieldType.int) ∈ sr_ts := sr_mem 672 (by decide +kernel) (by decide +kernel)
theorem wd_660 : Jvm.Cond.methodLink "StoneRingsLaw" (100 : Nat) yy_M_pixel ∈ sr_ts := sr_mem 673 (by decide +kernel) (by decide +kernel)
theorem wd_661 : Jvm.Cond.instanceMethod yy_M_pixel ∈ sr_ts := sr_mem 674 (by decide +kernel) (by decide +kernel)
theorem wd_662 : Jvm.Cond.selects "StoneRingsModel" yy_M_pixel yy_M_pixel ∈ sr_ts := sr_mem 675 (by decide +kernel) (by decide +kernel)
theorem wd_663 : Jvm.Cond.code yy_M_pixel prog_7_method_5_code (5 : Nat) (Option.some Jvm.ClassFile.FieldType.boolean) ∈ sr_ts := sr_mem 676 (by decide +kernel) (by decide +kernel)
theorem wd_664 : Jvm.Cond.methodLink "StoneRingsModel" (60 : Nat) yy_M_isThere ∈ sr_ts := sr_mem 677 (by decide +kernel) (by decide +kernel)
theorem wd_666 : Jvm.Cond.instanceMethod yy_M_isThere ∈ sr_ts := sr_mem 679 (by decide +kernel) (by decide +kernel)
theorem wd_667 : Jvm.Cond.code yy_M_isThere prog_7_method_4_code (3 : Nat) (Option.some Jvm.ClassFile.FieldType.boolean) ∈ sr_ts := sr_mem 680 (by decide +kernel) (by decide +kernel)
theorem wd_668 : Jvm.Cond.methodLink "StoneRingsModel" (56 : Nat) yy_M_isIn ∈ sr_ts := sr_mem 681 (by decide +kernel) (by decide +kernel)
theorem wd_669 : Jvm.Cond.static yy_M_isIn ∈ sr_ts := sr_mem 682 (by decide +kernel) (by decide +kernel)
theorem wd_670 : Jvm.Cond.code yy_M_isIn prog_7_method_3_code (3 : Nat) (Option.some Jvm.ClassFile.FieldType.boolean) ∈ sr_ts := sr_mem 683 (by decide +kernel) (by decide +kernel)
theorem wd_671 : Jvm.Cond.methodLink "StoneRingsLaw" (108 : Nat) yy_M_middle ∈ sr_ts := sr_mem 684 (by decide +kernel) (by decide +kernel)
theorem wd_672 : Jvm.Cond.instanceMethod yy_M_middle ∈ sr_ts := sr_mem 685 (by decide +kernel) (by decide +kernel)
theorem wd_673 : Jvm.Cond.selects "StoneRingsModel" yy_M_middle yy_M_middle ∈ sr_ts := sr_mem 686 (by decide +kernel) (by decide +kernel)
theorem wd_674 : Jvm.Cond.code yy_M_middle prog_7_method_8_code (2 : Nat) (Option.some Jvm.ClassFile.FieldType.int) ∈ sr_ts := sr_mem 687 (by decide +kernel) (by decide +kernel)
theorem wd_675 : Jvm.Cond.methodLink "StoneRingsModel" (68 : Nat) yy_M_middleOf ∈ sr_ts := sr_mem 688 (by decide +kernel) (by decide +kernel)
theorem wd_677 : Jvm.Cond.instanceMethod yy_M_middleOf ∈ sr_ts := sr_mem 690 (by decide +kernel) (by decide +kernel)
theorem wd_678 : Jvm.Cond.code yy_M_middleOf prog_7_method_7_code (3 : Nat) (Option.some Jvm.ClassFile.FieldType.int) ∈ sr_ts := sr_mem 691 (by decide +kernel) (by decide +kernel)
theorem wd_679 : Jvm.Cond.methodLink "StoneRingsModel" (64 : Nat) yy_M_sumOf ∈ sr_ts := sr_mem 692 (by decide +kernel) (by decide +kernel)
theorem wd_681 : Jvm.Cond.instanceMethod yy_M_sumOf ∈ sr_ts := sr_mem 694 (by decide +kernel) (by decide +kernel)
theorem wd_682 : Jvm.Cond.code yy_M_sumOf prog_7_method_6_code (4 : Nat) (Option.some Jvm.ClassFile.FieldType.int) ∈ sr_ts := sr_mem 695 (by decide +kernel) (by decide +kernel)
theorem wd_683 : Jvm.Cond.methodLink "StoneRingsLaw" (112 : Nat) yy_M_ray ∈ sr_ts := sr_mem 696 (by decide +kernel) (by decide +kernel)
theorem wd_684 : Jvm.Cond.instanceMethod yy_M_ray ∈ sr_ts := sr_mem 697 (by decide +kernel) (by decide +kernel)
theorem wd_685 : Jvm.Cond.selects "StoneRingsModel" yy_M_ray yy_M_ray ∈ sr_ts := sr_mem 698 (by decide +kernel) (by decide +kernel)
theorem wd_686 : Jvm.Cond.code yy_M_ray prog_7_method_9_code (3 : Nat) (Option.some Jvm.ClassFile.FieldType.int) ∈ sr_ts := sr_mem 699 (by decide +kernel) (by decide +kernel)
theorem wd_687 : Jvm.Cond.methodLink "StoneRingsLaw" (115 : Nat) yy_M_samples ∈ sr_ts := sr_mem 700 (by decide +kernel) (by decide +kernel)
theorem wd_688 : Jvm.Cond.instanceMethod yy_M_samples ∈ sr_ts := sr_mem 701 (by decide +kernel) (by decide +kernel)
theorem wd_689 : Jvm.Cond.selects "StoneRingsModel" yy_M_samples yy_M_samples ∈ sr_ts := sr_mem 702 (by decide +kernel) (by decide +kernel)
theorem wd_690 : Jvm.Cond.code yy_M_samples prog_7_method_14_code (2 : Nat) (Option.some Jvm.ClassFile.FieldType.int) ∈ sr_ts := sr_mem 703 (by decide +kernel) (by decide +kernel)
theorem wd_691 : Jvm.Cond.methodLink "StoneRingsModel" (87 : Nat) yy_M_noRay ∈ sr_ts := sr_mem 704 (by decide +kernel) (by decide +kernel)
theorem wd_693 : Jvm.Cond.instanceMethod yy_M_noRay ∈ sr_ts := sr_mem 706 (by decide +kernel) (by decide +kernel)
theorem wd_694 : Jvm.Cond.code yy_M_noRay prog_7_method_13_code (2 : Nat) (Option.some Jvm.ClassFile.FieldType.boolean) ∈ sr_ts := sr_mem 707 (by decide +kernel) (by decide +kernel)
theorem wd_695 : Jvm.Cond.methodLink "StoneRingsModel" (91 : Nat) yy_M_lay ∈ sr_ts := sr_mem 708 (by decide +kernel) (by decide +kernel)
theorem wd_697 : Jvm.Cond.instanceMethod yy_M_lay ∈ sr_ts := sr_mem 710 (by decide +kernel) (by decide +kernel)
theorem wd_698 : Jvm.Cond.code yy_M_lay prog_7_method_12_code (9 : Nat) (Option.none : Option Jvm.ClassFile.FieldType) ∈ sr_ts := sr_mem 711 (by decide +kernel) (by decide +kernel)
theorem wd_699 : Jvm.Cond.methodLink "StoneRingsModel" (74 : Nat) yy_M_size ∈ sr_ts := sr_mem 712 (by decide +kernel) (by decide +kernel)
theorem wd_700 : Jvm.Cond.static yy_M_size ∈ sr_ts := sr_mem 713 (by decide +kernel) (by decide +kernel)
theorem wd_701 : Jvm.Cond.code yy_M_size prog_7_method_10_code (1 : Nat) (Option.some Jvm.ClassFile.FieldType.int) ∈ sr_ts := sr_mem 714 (by decide +kernel) (by decide +kernel)
theorem wd_702 : Jvm.Cond.methodLink "StoneRingsModel" (80 : Nat) yy_M_down ∈ sr_ts := sr_mem 715 (by decide +kernel) (by decide +kernel)
theorem wd_703 : Jvm.Cond.static yy_M_down ∈ sr_ts := sr_mem 716 (by decide +kernel) (by decide +kernel)
theorem wd_704 : Jvm.Cond.code yy_M_down prog_7_method_11_code (3 : Nat) (Option.some Jvm.ClassFile.FieldType.int) ∈ sr_ts := sr_mem 717 (by decide +kernel) (by decide +kernel)
theorem wd_705 : Jvm.Cond.methodLink "StoneRingsLaw" (119 : Nat) yy_M_sample ∈ sr_ts := sr_mem 718 (by decide +kernel) (by decide +kernel)
theorem wd_706 : Jvm.Cond.instanceMethod yy_M_sample ∈ sr_ts := sr_mem 719 (by decide +kernel) (by decide +kernel)
theorem wd_707 : Jvm.Cond.selects "StoneRingsModel" yy_M_sample yy_M_sample ∈ sr_ts := sr_mem 720 (by decide +kernel) (by decide +kernel)
theorem wd_708 : Jvm.Cond.code yy_M_sample prog_7_method_15_code (5 : Nat) (Option.some Jvm.ClassFile.FieldType.int) ∈ sr_ts := sr_mem 721 (by decide +kernel) (by decide +kernel)
theorem wd_709 : Jvm.Cond.methodLink "StoneRingsModel" (95 : Nat) yy_M_samples ∈ sr_ts := sr_mem 722 (by decide +kernel) (by decide +kernel)
theorem wd_710 : Jvm.Cond.methodLink "StoneRingsLaw" (123 : Nat) yy_M_rule ∈ sr_ts := sr_mem 723 (by decide +kernel) (by decide +kernel)
theorem wd_711 : Jvm.Cond.instanceMethod yy_M_rule ∈ sr_ts := sr_mem 724 (by decide +kernel) (by decide +kernel)
theorem wd_712 : Jvm.Cond.selects "StoneRingsModel" yy_M_rule yy_M_rule ∈ sr_ts := sr_mem 725 (by decide +kernel) (by decide +kernel)
theorem wd_713 : Jvm.Cond.code yy_M_rule prog_7_method_16_code (3 : Nat) (Option.none : Option Jvm.ClassFile.FieldType) ∈ sr_ts := sr_mem 726 (by decide +kernel) (by decide +kernel)
theorem wd_714 : Jvm.Cond.methodLink "StoneRingsLaw" (126 : Nat) yy_M_rings ∈ sr_ts := sr_mem 727 (by decide +kernel) (by decide +kernel)
theorem wd_715 : Jvm.Cond.instanceMethod yy_M_rings ∈ sr_ts := sr_mem 728 (by decide +kernel) (by decide +kernel)
theorem wd_716 : Jvm.Cond.selects "StoneRingsModel" yy_M_rings yy_M_rings ∈ sr_ts := sr_mem 729 (by decide +kernel) (by decide +kernel)
theorem wd_717 : Jvm.Cond.code yy_M_rings prog_7_method_17_code (3 : Nat) (Option.some Jvm.ClassFile.FieldType.int) ∈ sr_ts := sr_mem 730 (by decide +kernel) (by decide +kernel)
theorem wd_718 : Jvm.Cond.methodLink "StoneRingsLaw" (129 : Nat) yy_M_ring ∈ sr_ts := sr_mem 731 (by decide +kernel) (by decide +kernel)
theorem wd_719 : Jvm.Cond.instanceMethod yy_M_ring ∈ sr_ts := sr_mem 732 (by decide +kernel) (by decide +kernel)
theorem wd_720 : Jvm.Cond.selects "StoneRingsModel" yy_M_ring yy_M_ring ∈ sr_ts := sr_mem 733 (by decide +kernel) (by decide +kernel)
theorem wd_721 : Jvm.Cond.code yy_M_ring prog_7_method_19_code (6 : Nat) (Option.some Jvm.ClassFile.FieldType.int) ∈ sr_ts := sr_mem 734 (by decide +kernel) (by decide +kernel)
theorem wd_722 : Jvm.Cond.methodLink "StoneRingsModel" (98 : Nat) yy_M_rings ∈ sr_ts := sr_mem 735 (by decide +kernel) (by decide +kernel)
theorem wd_723 : Jvm.Cond.methodLink "StoneRingsModel" (100 : Nat) yy_M_widthOf ∈ sr_ts := sr_mem 736 (by decide +kernel) (by decide +kernel)
theorem wd_725 : Jvm.Cond.instanceMethod yy_M_widthOf ∈ sr_ts := sr_mem 738 (by decide +kernel) (by decide +kernel)
theorem wd_726 : Jvm.Cond.code yy_M_widthOf prog_7_method_18_code (2 : Nat) (Option.some Jvm.ClassFile.FieldType.int) ∈ sr_ts := sr_mem 739 (by decide +kernel) (by decide +kernel)
theorem wd_727 : Jvm.Cond.methodLink "StoneRingsLaw" (132 : Nat) yy_M_join ∈ sr_ts := sr_mem 740 (by decide +kernel) (by decide +kernel)
theorem wd_728 : Jvm.Cond.instanceMethod yy_M_join ∈ sr_ts := sr_mem 741 (by decide +kernel) (by decide +kernel)
theorem wd_729 : Jvm.Cond.selects "StoneRingsModel" yy_M_join yy_M_join ∈ sr_ts := sr_mem 742 (by decide +kernel) (by decide +kernel)
theorem wd_730 : Jvm.Cond.code yy_M_join prog_7_method_21_code (7 : Nat) (Option.some Jvm.ClassFile.FieldType.int) ∈ sr_ts := sr_mem 743 (by decide +kernel) (by decide +kernel)
theorem wd_731 : Jvm.Cond.constant "StoneRingsModel" (106 : Nat) (1000000 : Int32) ∈ sr_ts := sr_mem 744 (by decide +kernel) (by decide +kernel)
theorem wd_732 : Jvm.Cond.methodLink "StoneRingsModel" (107 : Nat) yy_M_together ∈ sr_ts := sr_mem 745 (by decide +kernel) (by decide +kernel)
theorem wd_734 : Jvm.Cond.instanceMethod yy_M_together ∈ sr_ts := sr_mem 747 (by decide +kernel) (by decide +kernel)
theorem wd_735 : Jvm.Cond.code yy_M_together prog_7_method_20_code (3 : Nat) (Option.some Jvm.ClassFile.FieldType.int) ∈ sr_ts := sr_mem 748 (by decide +kernel) (by decide +kernel)
theorem wd_736 : Jvm.Cond.methodLink "StoneRingsLaw" (135 : Nat) yy_M_joined ∈ sr_ts := sr_mem 749 (by decide +kernel) (by decide +kernel)
theorem wd_737 : Jvm.Cond.instanceMethod yy_M_joined ∈ sr_ts := sr_mem 750 (by decide +kernel) (by decide +kernel)
theorem wd_738 : Jvm.Cond.selects "StoneRingsModel" yy_M_joined yy_M_joined ∈ sr_ts := sr_mem 751 (by decide +kernel) (by decide +kernel)
theorem wd_739 : Jvm.Cond.code yy_M_joined prog_7_method_22_code (2 : Nat) (Option.some Jvm.ClassFile.FieldType.int) ∈ sr_ts := sr_mem 752 (by decide +kernel) (by decide +kernel)
theorem wd_740 : Jvm.Cond.methodLink "StoneRingsLaw" (138 : Nat) yy_M_back ∈ sr_ts := sr_mem 753 (by decide +kernel) (by decide +kernel)
theorem wd_741 : Jvm.Cond.instanceMethod yy_M_back ∈ sr_ts := sr_mem 754 (by decide +kernel) (by decide +kernel)
theorem wd_742 : Jvm.Cond.selects "StoneRingsModel" yy_M_back yy_M_back ∈ sr_ts := sr_mem 755 (by decide +kernel) (by decide +kernel)
theorem wd_743 : Jvm.Cond.code yy_M_back prog_7_method_23_code (5 : Nat) (Option.some Jvm.ClassFile.FieldType.int) ∈ sr_ts := sr_mem 756 (by decide +kernel) (by decide +kernel)
theorem wd_744 : Jvm.Cond.constant "StoneRingsModel" (117 : Nat) (100000 : Int32) ∈ sr_ts := sr_mem 757 (by decide +kernel) (by decide +kernel)
theorem wd_745 : Jvm.Cond.methodLink "StoneRingsLaw" (142 : Nat) yy_M_tell ∈ sr_ts := sr_mem 758 (by decide +kernel) (by decide +kernel)
theorem wd_746 : Jvm.Cond.instanceMethod yy_M_tell ∈ sr_ts := sr_mem 759 (by decide +kernel) (by decide +kernel)
theorem wd_747 : Jvm.Cond.selects "StoneRingsModel" yy_M_tell yy_M_tell ∈ sr_ts := sr_mem 760 (by decide +kernel) (by decide +kernel)
theorem wd_748 : Jvm.Cond.code yy_M_tell prog_7_method_25_code (4 : Nat) (Option.none : Option Jvm.ClassFile.FieldType) ∈ sr_ts := sr_mem 761 (by decide +kernel) (by decide +kernel)
theorem wd_749 : Jvm.Cond.methodLink "StoneRingsModel" (118 : Nat) yy_M_noOne ∈ sr_ts := sr_mem 762 (by decide +kernel) (by decide +kernel)
theorem wd_750 : Jvm.Cond.static yy_M_noOne ∈ sr_ts := sr_mem 763 (by decide +kernel) (by decide +kernel)
theorem wd_751 : Jvm.Cond.code yy_M_noOne prog_7_method_24_code (2 : Nat) (Option.some Jvm.ClassFile.FieldType.boolean) ∈ sr_ts := sr_mem 764 (by decide +kernel) (by decide +kernel)
theorem wd_752 : Jvm.Cond.methodLink "StoneRingsLaw" (145 : Nat) yy_M_may ∈ sr_ts := sr_mem 765 (by decide +kernel) (by decide +kernel)
theorem wd_753 : Jvm.Cond.instanceMethod yy_M_may ∈ sr_ts := sr_mem 766 (by decide +kernel) (by decide +kernel)
theorem wd_754 : Jvm.Cond.selects "StoneRingsModel" yy_M_may yy_M_may ∈ sr_ts := sr_mem 767 (by decide +kernel) (by decide +kernel)
theorem wd_755 : Jvm.Cond.code yy_M_may prog_7_method_26_code (3 : Nat) (Option.some Jvm.ClassFile.FieldType.boolean) ∈ sr_ts := sr_mem 768 (by decide +kernel) (by decide +kernel)
theorem wd_756 : Jvm.Cond.methodLink "StoneRingsLaw" (148 : Nat) yy_M_seen ∈ sr_ts := sr_mem 769 (by decide +kernel) (by decide +kernel)
theorem wd_757 : Jvm.Cond.instanceMethod yy_M_seen ∈ sr_ts := sr_mem 770 (by decide +kernel) (by decide +kernel)
theorem wd_758 : Jvm.Cond.selects "StoneRingsModel" yy_M_seen yy_M_seen ∈ sr_ts := sr_mem 771 (by decide +kernel) (by decide +kernel)
theorem wd_759 : Jvm.Cond.code yy_M_seen prog_7_method_27_code (4 : Nat) (Option.some Jvm.ClassFile.FieldType.int) ∈ sr_ts := sr_mem 772 (by decide +kernel) (by decide +kernel)
theorem wd_760 : Jvm.Cond.methodLink "StoneRingsLaw" (151 : Nat) yy_M_agree ∈ sr_ts := sr_mem 773 (by decide +kernel) (by decide +kernel)
theorem wd_761 : Jvm.Cond.instanceMethod yy_M_agree ∈ sr_ts := sr_mem 774 (by decide +kernel) (by decide +kernel)
theorem wd_762 : Jvm.Cond.selects "StoneRingsModel" yy_M_agree yy_M_agree ∈ sr_ts := sr_mem 775 (by decide +kernel) (by decide +kernel)
theorem wd_763 : Jvm.Cond.code yy_M_agree prog_7_method_31_code (8 : Nat) (Option.some Jvm.ClassFile.FieldType.int) ∈ sr_ts := sr_mem 776 (by decide +kernel) (by decide +kernel)
theorem wd_764 : Jvm.Cond.methodLink "StoneRingsModel" (121 : Nat) yy_M_noTwo ∈ sr_ts := sr_mem 777 (by decide +kernel) (by decide +kernel)
theorem wd_766 : Jvm.Cond.instanceMethod yy_M_noTwo ∈ sr_ts := sr_mem 779 (by decide +kernel) (by decide +kernel)
theorem wd_767 : Jvm.Cond.code yy_M_noTwo prog_7_method_29_code (4 : Nat) (Option.some Jvm.ClassFile.FieldType.boolean) ∈ sr_ts := sr_mem 780 (by decide +kernel) (by decide +kernel)
theorem wd_768 : Jvm.Cond.methodLink "StoneRingsModel" (124 : Nat) yy_M_both ∈ sr_ts := sr_mem 781 (by decide +kernel) (by decide +kernel)
theorem wd_770 : Jvm.Cond.instanceMethod yy_M_both ∈ sr_ts := sr_mem 783 (by decide +kernel) (by decide +kernel)
theorem wd_771 : Jvm.Cond.code yy_M_both prog_7_method_30_code (4 : Nat) (Option.some Jvm.ClassFile.FieldType.boolean) ∈ sr_ts := sr_mem 784 (by decide +kernel) (by decide +kernel)
theorem wd_772 : Jvm.Cond.methodLink "StoneRingsModel" (127 : Nat) yy_M_part ∈ sr_ts := sr_mem 785 (by decide +kernel) (by decide +kernel)
theorem wd_773 : Jvm.Cond.static yy_M_part ∈ sr_ts := sr_mem 786 (by decide +kernel) (by decide +kernel)
theorem wd_774 : Jvm.Cond.code yy_M_part prog_7_method_28_code (6 : Nat) (Option.some Jvm.ClassFile.FieldType.int) ∈ sr_ts := sr_mem 787 (by decide +kernel) (by decide +kernel)
theorem wd_775 : Jvm.Cond.methodLink "StoneRingsLaw" (154 : Nat) yy_M_bias ∈ sr_ts := sr_mem 788 (by decide +kernel) (by decide +kernel)
theorem wd_776 : Jvm.Cond.instanceMethod yy_M_bias ∈ sr_ts := sr_mem 789 (by decide +kernel) (by decide +kernel)
theorem wd_777 : Jvm.Cond.selects "StoneRingsModel" yy_M_bias yy_M_bias ∈ sr_ts := sr_mem 790 (by decide +kernel) (by decide +kernel)
theorem wd_778 : Jvm.Cond.code yy_M_bias prog_7_method_32_code (8 : Nat) (Option.some Jvm.ClassFile.FieldType.int) ∈ sr_ts := sr_mem 791 (by decide +kernel) (by decide +kernel)
theorem wd_779 : Jvm.Cond.methodLink "StoneRingsLaw" (157 : Nat) yy_M_told ∈ sr_ts := sr_mem 792 (by decide +kernel) (by decide +kernel)
theorem wd_780 : Jvm.Cond.instanceMethod yy_M_told ∈ sr_ts := sr_mem 793 (by decide +kernel) (by decide +kernel)
theorem wd_781 : Jvm.Cond.selects "StoneRingsModel" yy_M_told yy_M_told ∈ sr_ts := sr_mem 794 (by decide +kernel) (by decide +kernel)
theorem wd_782 : Jvm.Cond.code yy_M_told prog_7_method_34_code (2 : Nat) (Option.some Jvm.ClassFile.FieldType.int) ∈ sr_ts := sr_mem 795 (by decide +kernel) (by decide +kernel)
theorem wd_783 : Jvm.Cond.methodLink "StoneRingsModel" (131 : Nat) yy_M_toldOf ∈ sr_ts := sr_mem 796 (by decide +kernel) (by decide +kernel)
theorem wd_785 : Jvm.Cond.instanceMethod yy_M_toldOf ∈ sr_ts := sr_mem 798 (by decide +kernel) (by decide +kernel)
theorem wd_786 : Jvm.Cond.code yy_M_toldOf prog_7_method_33_code (7 : Nat) (Option.some Jvm.ClassFile.FieldType.int) ∈ sr_ts := sr_mem 799 (by decide +kernel) (by decide +kernel)
theorem wd_787 : Jvm.Cond.methodLink "StoneRingsLaw" (160 : Nat) yy_M_right ∈ sr_ts := sr_mem 800 (by decide +kernel) (by decide +kernel)
theorem wd_788 : Jvm.Cond.instanceMethod yy_M_right ∈ sr_ts := sr_mem 801 (by decide +kernel) (by decide +kernel)
theorem wd_789 : Jvm.Cond.selects "StoneRingsModel" yy_M_right yy_M_right ∈ sr_ts := sr_mem 802 (by decide +kernel) (by decide +kernel)
theorem wd_790 : Jvm.Cond.code yy_M_right prog_7_method_36_code (2 : Nat) (Option.some Jvm.ClassFile.FieldType.int) ∈ sr_ts := sr_mem 803 (by decide +kernel) (by decide +kernel)
theorem wd_791 : Jvm.Cond.methodLink "StoneRingsModel" (134 : Nat) yy_M_rightOf ∈ sr_ts := sr_mem 804 (by decide +kernel) (by decide +kernel)
theorem wd_793 : Jvm.Cond.instanceMethod yy_M_rightOf ∈ sr_ts := sr_mem 806 (by decide +kernel) (by decide +kernel)
theorem wd_794 : Jvm.Cond.code yy_M_rightOf prog_7_method_35_code (5 : Nat) (Option.some Jvm.ClassFile.FieldType.int) ∈ sr_ts := sr_mem 807 (by decide +kernel) (by decide +kernel)
theorem wd_795 : Jvm.Cond.methodLink "StoneRingsLaw" (163 : Nat) yy_M_best ∈ sr_ts := sr_mem 808 (by decide +kernel) (by decide +kernel)
theorem wd_796 : Jvm.Cond.instanceMethod yy_M_best ∈ sr_ts := sr_mem 809 (by decide +kernel) (by decide +kernel)
theorem wd_797 : Jvm.Cond.selects "StoneRingsModel" yy_M_best yy_M_best ∈ sr_ts := sr_mem 810 (by decide +kernel) (by decide +kernel)
theorem wd_798 : Jvm.Cond.code yy_M_best prog_7_method_37_code (5 : Nat) (Option.some Jvm.ClassFile.FieldType.int) ∈ sr_ts := sr_mem 811 (by decide +kernel) (by decide +kernel)
theorem wd_799 : Jvm.Cond.methodLink "StoneRingsLaw" (166 : Nat) yy_M_age ∈ sr_ts := sr_mem 812 (by decide +kernel) (by decide +kernel)
theorem wd_800 : Jvm.Cond.instanceMethod yy_M_age ∈ sr_ts := sr_mem 813 (by decide +kernel) (by decide +kernel)
theorem wd_801 : Jvm.Cond.selects "StoneRingsModel" yy_M_age yy_M_age ∈ sr_ts := sr_mem 814 (by decide +kernel) (by decide +kernel)
theorem wd_802 : Jvm.Cond.code yy_M_age prog_7_method_38_code (5 : Nat) (Option.some Jvm.ClassFile.FieldType.int) ∈ sr_ts := sr_mem 815 (by decide +kernel) (by decide +kernel)
theorem wd_803 : Jvm.Cond.methodLink "StoneRingsLaw" (169 : Nat) yy_M_twin ∈ sr_ts := sr_mem 816 (by decide +kernel) (by decide +kernel)
theorem wd_804 : Jvm.Cond.instanceMethod yy_M_twin ∈ sr_ts := sr_mem 817 (by decide +kernel) (by decide +kernel)
theorem wd_805 : Jvm.Cond.selects "StoneRingsModel" yy_M_twin yy_M_twin ∈ sr_ts := sr_mem 818 (by decide +kernel) (by decide +kernel)
theorem wd_806 : Jvm.Cond.code yy_M_twin prog_7_method_39_code (6 : Nat) (Option.some Jvm.ClassFile.FieldType.boolean) ∈ sr_ts := sr_mem 819 (by decide +kernel) (by decide +kernel)
theorem wd_807 : Jvm.Cond.methodLink "StoneRingsLaw" (173 : Nat) yy_M_count ∈ sr_ts := sr_mem 820 (by decide +kernel) (by decide +kernel)
theorem wd_808 : Jvm.Cond.instanceMethod yy_M_count ∈ sr_ts := sr_mem 821 (by decide +kernel) (by decide +kernel)
theorem wd_809 : Jvm.Cond.selects "StoneRingsModel" yy_M_count yy_M_count ∈ sr_ts := sr_mem 822 (by decide +kernel) (by decide +kernel)
theorem wd_810 : Jvm.Cond.code yy_M_count prog_7_method_40_code (6 : Nat) (Option.some Jvm.ClassFile.FieldType.int) ∈ sr_ts := sr_mem 823 (by decide +kernel) (by decide +kernel)
theorem wp_S_follow : Cond.selects "StoneRings" yy_S_follow yy_S_follow ∈ sr_ts := sr_mem 1 (by decide +kernel) (by decide +kernel)
theorem wp_M_both : Cond.selects "StoneRingsModel" yy_M_both yy_M_both ∈ sr_ts := sr_mem 10 (by decide +kernel) (by decide +kernel)
theorem wp_M_isThere : Cond.selects "StoneRingsModel" yy_M_isThere yy_M_isThere ∈ sr_ts := sr_mem 2 (by decide +kernel) (by decide +kernel)
theorem wp_M_lay : Cond.selects "StoneRingsModel" yy_M_lay yy_M_lay ∈ sr_ts := sr_mem 6 (by decide +kernel) (by decide +kernel)
theorem wp_M_middleOf : Cond.selects "StoneRingsModel" yy_M_middleOf yy_M_middleOf ∈ sr_ts := sr_mem 3 (by decide +kernel) (by decide +kernel)
theorem wp_M_noRay : Cond.selects "StoneRingsModel" yy_M_noRay yy_M_noRay ∈ sr_ts := sr_mem 5 (by decide +kernel) (by decide +kernel)
theorem wp_M_noTwo : Cond.selects "StoneRingsModel" yy_M_noTwo yy_M_noTwo ∈ sr_ts := sr_mem 9 (by decide +kernel) (by decide +kernel)
theorem wp_M_rightOf : Cond.selects "StoneRingsModel" yy_M_rightOf yy_M_rightOf ∈ sr_ts := sr_mem 12 (by decide +kernel) (by decide +kernel)
theorem wp_M_sumOf : Cond.selects "StoneRingsModel" yy_M_sumOf yy_M_sumOf ∈ sr_ts := sr_mem 4 (by decide +kernel) (by decide +kernel)
theorem wp_M_together : Cond.selects "StoneRingsModel" yy_M_together yy_M_together ∈ sr_ts := sr_mem 8 (by decide +kernel) (by decide +kernel)
theorem wp_M_toldOf : Cond.selects "StoneRingsModel" yy_M_toldOf yy_M_toldOf ∈ sr_ts := sr_mem 11 (by decide +kernel) (by decide +kernel)
theorem wp_M_widthOf : Cond.selects "StoneRingsModel" yy_M_widthOf yy_M_widthOf ∈ sr_ts := sr_mem 7 (by decide +kernel) (by decide +kernel)
theorem at_S_71 : ∀ w ∈ vx_atS "StoneRings" 71 "java/lang/IndexOutOfBoundsException" ["java/lang/RuntimeException", "java/lang/Exception"], w ∈ sr_ts ∨ w ∈ sr_bad := by decide +kernel
theorem gd_S_67_71 : ∀ w ∈ Cond.classLink "StoneRings" 67 "java/lang/IndexOutOfBoundsException" :: Cond.initialized "java/lang/IndexOutOfBoundsException" :: vx_atS "StoneRings" 71 "java/lang/IndexOutOfBoundsException" ["java/lang/RuntimeException", "java/lang/Exception"], vx_ot w = true := by decide +kernel
theorem at_S_96 : ∀ w ∈ vx_atS "StoneRings" 96 "java/lang/IllegalArgumentException" ["java/lang/RuntimeException", "java/lang/Exception"], w ∈ sr_ts ∨ w ∈ sr_bad := by decide +kernel
theorem gd_S_92_96 : ∀ w ∈ Cond.classLink "StoneRings" 92 "java/lang/IllegalArgumentException" :: Cond.initialized "java/lang/IllegalArgumentException" :: vx_atS "StoneRings" 96 "java/lang/IllegalArgumentException" ["java/lang/RuntimeException", "java/lang/Exception"], vx_ot w = true := by decide +kernel
theorem at_S_101 : ∀ w ∈ vx_atS "StoneRings" 101 "java/lang/IllegalStateException" ["java/lang/RuntimeException", "java/lang/Exception"], w ∈ sr_ts ∨ w ∈ sr_bad := by decide +kernel
theorem gd_S_97_101 : ∀ w ∈ Cond.classLink "StoneRings" 97 "java/lang/IllegalStateException" :: Cond.initialized "java/lang/IllegalStateException" :: vx_atS "StoneRings" 101 "java/lang/IllegalStateException" ["java/lang/RuntimeException", "java/lang/Exception"], vx_ot w = true := by decide +kernel
theorem wm_max_s : Cond.static Lib.Math.max.name ∈ sr_ts := sr_mem 117 (by decide +kernel) (by decide +kernel)
theorem wm_max_c : Cond.code Lib.Math.max.name Lib.Math.max.code 2 (some .int) ∈ sr_ts := sr_mem 118 (by decide +kernel) (by decide +kernel)
theorem wm_min_s : Cond.static Lib.Math.min.name ∈ sr_ts := sr_mem 114 (by decide +kernel) (by decide +kernel)
theorem wm_min_c : Cond.code Lib.Math.min.name Lib.Math.min.code 2 (some .int) ∈ sr_ts := sr_mem 115 (by decide +kernel) (by decide +kernel)
theorem wm_abs_s : Cond.static Lib.Math.abs.name ∈ sr_ts := sr_mem 373 (by decide +kernel) (by decide +kernel)
theorem wm_abs_c : Cond.code Lib.Math.abs.name Lib.Math.abs.code 1 (some .int) ∈ sr_ts := sr_mem 374 (by decide +kernel) (by decide +kernel)
theorem wl_S_186 : Cond.methodLink "StoneRings" 186 Lib.Math.max.name ∈ sr_ts := sr_mem 116 (by decide +kernel) (by decide +kernel)
theorem wl_S_216 : Cond.methodLink "StoneRings" 216 Lib.Math.min.name ∈ sr_ts := sr_mem 113 (by decide +kernel) (by decide +kernel)
theorem wl_S_222 : Cond.methodLink "StoneRings" 222 Lib.Math.abs.name ∈ sr_ts := sr_mem 531 (by decide +kernel) (by decide +kernel)
theorem wl_G_42 : Cond.methodLink "StoneRings$Pairing" 42 Lib.Math.min.name ∈ sr_ts := sr_mem 446 (by decide +kernel) (by decide +kernel)
theorem wl_G_55 : Cond.methodLink "StoneRings$Pairing" 55 Lib.Math.abs.name ∈ sr_ts := sr_mem 451 (by decide +kernel) (by decide +kernel)
theorem wl_T_28 : Cond.methodLink "StoneRings$Trace" 28 Lib.Math.abs.name ∈ sr_ts := sr_mem 372 (by decide +kernel) (by decide +kernel)
theorem wl_T_34 : Cond.methodLink "StoneRings$Trace" 34 Lib.Math.max.name ∈ sr_ts := sr_mem 375 (by decide +kernel) (by decide +kernel)
theorem wl_T_60 : Cond.methodLink "StoneRings$Trace" 60 Lib.Math.min.name ∈ sr_ts := sr_mem 389 (by decide +kernel) (by decide +kernel)
end
section
theorem wo_S : Cond.methodLink "StoneRings" 3 Lib.objectInit ∈ sr_ts := sr_mem 33 (by decide +kernel) (by decide +kernel)
theorem wo_G : Cond.methodLink "StoneRings$Pairing" 3 Lib.objectInit ∈ sr_ts := sr_mem 71 (by decide +kernel) (by decide +kernel)
theorem wo_P : Cond.methodLink "StoneRings$Picture" 3 Lib.objectInit ∈ sr_ts := sr_mem 122 (by decide +kernel) (by decide +kernel)
theorem wo_D : Cond.methodLink "StoneRings$Readings" 3 Lib.objectInit ∈ sr_ts := sr_mem 93 (by decide +kernel) (by decide +kernel)
theorem wo_T : Cond.methodLink "StoneRings$Trace" 3 Lib.objectInit ∈ sr_ts := sr_mem 41 (by decide +kernel) (by decide +kernel)
theorem wo_M : Cond.methodLink "StoneRingsModel" 1 Lib.objectInit ∈ sr_ts := sr_mem 604 (by decide +kernel) (by decide +kernel)
theorem wo_i : Cond.instanceMethod Lib.objectInit ∈ sr_ts := sr_mem 34 (by decide +kernel) (by decide +kernel)
theorem wo_c : Cond.code Lib.objectInit ⟨#[0xb1]⟩ 1 none ∈ sr_ts := sr_mem 35 (by decide +kernel) (by decide +kernel)
theorem w_arrI : Cond.arrayClass .int ∈ sr_ts := sr_mem 65 (by decide +kernel) (by decide +kernel)
theorem w_arrJ : Cond.arrayClass .long ∈ sr_ts := sr_mem 824 (by decide +kernel) (by decide +kernel)
/-! Constructors. -/
def sr_near (a : Int) : Int := if a < 1 then 1 else if 16 < a then 16 else a
def rm_near : Room := { frames := 1, cells := 0, slots := 0, locals := 21 }
set_option maxHeartbeats 4000000 in
set_option maxRecDepth 100000 in
theorem sc_near {l : Launch} {a : Int} (ha : sx_R a) : Met l yy_S_nearestSide (Cond.code yy_S_nearestSide prog_1_method_28_code 1 (some .int) :: sr_ts) rm_near (va_Pc [.int (sx_i a)] (fun _ => True)) (va_Qi (fun (r : Int32) (_ : Unit) => r = sx_i (sr_near a)) (fun _ _ => True) (fun _ => False)) 0 0 (fun _ => False) := by
  refine Met.ofW (cc := prog_1_method_28_code) (maxL := 1) (ret := some .int) (by decide +kernel) rfl ?_
  intro p e s m args below meth c s₁ B hml hv
  obtain ⟨rfl, -⟩ := hv
  have hx := B.exec
  have hb := B.bytes
  have hr := B.returns
  have hts0 := atoms_spec (ws := (Cond.code yy_S_nearestSide prog_1_method_28_code 1 (some .int) :: sr_ts)) B.pre
  have hts : ∀ w ∈ sr_ts, w.before [Value.int (sx_i a)].toArray s = true := fun w h => hts0 w (List.mem_cons_of_mem _ h)
  have hown : s.vm.findClass "StoneRings" = some m.cls := findClass_of_methodNamed B.named
  have hlocks := B.notSynchronized
  have hl := lv_entry ([.int (sx_i a)]) (n := 1) (Nat.le_of_ble_eq_true rfl)
  rw [lg_entry_eq]
  generalize (lg_sl ([.int (sx_i a)]) ++ List.replicate (1 - (lg_sl ([.int (sx_i a)])).length) Slot.unset).toArray = ls at hl ⊢
  have hl : lv_has ls 1 [(0, .int (sx_i a))] := hl
  refine lv_iconst (v := sx_i 1) hx hb dd_S_nearestSide_0 rfl ?_
  refine lv_iload_n hx hb dd_S_nearestSide_1 rfl (lv_at hl 0 rfl) ?_
  refine lv_bipush (v := sx_i 16) hx hb dd_S_nearestSide_2 (by decide +kernel) ?_
  refine va_mmin hx hb (hml.trans hl.1.symm) hown (hts _ wl_S_216) (hts _ wm_min_s) (hts _ wd_7) (hts _ wm_min_c) (Nat.le_of_ble_eq_true rfl) (Nat.le_of_ble_eq_true rfl) (Nat.le_of_ble_eq_true rfl) (Nat.le_of_ble_eq_true rfl) dd_S_nearestSide_4 ?_
  refine va_mmax hx hb (hml.trans hl.1.symm) hown (hts _ wl_S_186) (hts _ wm_max_s) (hts _ wd_7) (hts _ wm_max_c) (Nat.le_of_ble_eq_true rfl) (Nat.le_of_ble_eq_true rfl) (Nat.le_of_ble_eq_true rfl) (Nat.le_of_ble_eq_true rfl) dd_S_nearestSide_7 ?_
  have e : (if sx_i 1 < (if sx_i 16 < sx_i a then sx_i 16 else sx_i a) then (if sx_i 16 < sx_i a then sx_i 16 else sx_i a) else sx_i 1) = sx_i (sr_near a) := by
    have h1 := sx_lt (a := 16) (b := a) ⟨by omega, by omega⟩ ha
    have h2 := sx_lt (a := 1) (b := a) ⟨by omega, by omega⟩ ha
    have h3 := sx_lt (a := 1) (b := 16) ⟨by omega, by omega⟩ ⟨by omega, by omega⟩
    unfold sr_near
    by_cases c1 : 16 < a
    · rw [if_pos (h1.mpr c1), if_pos (h3.mpr (by omega)), if_neg (by omega), if_pos c1]
    · rw [if_neg (fun z => c1 (h1.mp z))]
      by_cases c2 : 1 < a
      · rw [if_pos (h2.mpr c2), if_neg (by omega), if_neg c1]
      · rw [if_neg (fun z => c2 (h2.mp z))]
        by_cases c3 : a < 1
        · rw [if_pos c3]
        · rw [if_neg c3, if_neg c1, show a = 1 by omega]
  exact W.iret hx hb hr (fun t ht hW => ⟨⟨_, (), rfl, e, trivial⟩, by rw [ht]; exact Nat.le_refl _, fun q _ _ => by rw [ht]⟩) (fun _ h => nomatch h) dd_S_nearestSide_10
def rm_fill : Room := { frames := 0, cells := 0, slots := 0, locals := 0 }
def su_f (k : Nat) : Nat → Int32 := fun j => sx_i (if j < k then -1 else 0)
set_option maxHeartbeats 4000000 in
set_option maxRecDepth 100000 in
theorem sc_fill_5 {cI cJ : ClassId} {D : va_G} {A : Nat → Prop} {p : Program} {l : Launch} {e : Env} {s : State} {m : MethodId} {args : Array Value} {below : List Frame} {meth : Method} {c : Code} {Q : State → Prop} {q : Nat} (C : sx_CU sr_cl D cI cJ A 4 "java/util/Arrays" prog_16_method_103_code p s m args c)
    (hend : ∀ lv : List (Nat × Value), sx_U sr_cl D A 4 p l e rm_fill s m args below meth c Q 0 0 [(q, .inl (cI, 80, .inl (su_f 80)))] 20 lv []) :
    ∀ n k : Nat, k + n = 80 → ∀ lv : List (Nat × Value), sx_U sr_cl D A 4 p l e rm_fill s m args below meth c Q 0 0 [(q, .inl (cI, 80, .inl (su_f k)))] 5 [(2, .int (sx_i (k : Int))), (3, .int (sx_i 80)), (0, .ref q), (1, .int (sx_i (-1)))] [] := by
  intro n
  induction n with
  | zero =>
    intro k hk _
    refine su_iload_n C 0 dd_A_fill_5 rfl rfl ?_
    refine su_iload_n C 1 dd_A_fill_6 rfl rfl ?_
    refine su_icmp_ge (tgt := 20) C ⟨by omega, by omega⟩ ⟨by omega, by omega⟩ dd_A_fill_7 (by decide) (fun c1 => ?_) (fun c1 => ?_)
    · rw [show k = 80 by omega]
      exact hend _
    · exfalso
      omega
  | succ n ih =>
    intro k hk _
    refine su_iload_n C 0 dd_A_fill_5 rfl rfl ?_
    refine su_iload_n C 1 dd_A_fill_6 rfl rfl ?_
    refine su_icmp_ge (tgt := 20) C ⟨by omega, by omega⟩ ⟨by omega, by omega⟩ dd_A_fill_7 (by decide) (fun c1 => ?_) (fun c1 => ?_)
    · exfalso
      omega
    · refine su_aload_n C 2 dd_A_fill_10 rfl rfl ?_
      refine su_iload_n C 0 dd_A_fill_11 rfl rfl ?_
      refine su_iload_n C 3 dd_A_fill_12 rfl rfl ?_
      refine su_iast (N0 := 80) (g := su_f (k + 1)) (ws2 := [(q, .inl (cI, 80, .inl (su_f (k + 1))))]) C 0 rfl ⟨by omega, by omega⟩ (by decide) dd_A_fill_13 ?_ rfl ?_
      · funext j
        show (if j = ((k : Int)).toNat then sx_i (-1) else su_f k j) = su_f (k + 1) j
        have h0 : ((k : Int)).toNat = k := by omega
        rw [h0]
        unfold su_f
        by_cases c2 : j = k
        · rw [if_pos c2, if_pos (by omega)]
        · rw [if_neg c2]
          by_cases c3 : j < k
          · rw [if_pos c3, if_pos (by omega)]
          · rw [if_neg c3, if_neg (by omega)]
      · refine su_iinc (lu := [(2, .int (sx_i ((k : Int) + 1))), (3, .int (sx_i 80)), (0, .ref q), (1, .int (sx_i (-1)))]) C 0 dd_A_fill_14 rfl (by decide) rfl ?_
        refine su_goto (tgt := 5) C dd_A_fill_17 (by decide) ?_
        exact ih (k + 1) (by omega) []
set_option maxHeartbeats 4000000 in
set_option maxRecDepth 100000 in
theorem sc_fill0 {l : Launch} {D : va_G} {cI cJ : ClassId} {q : Nat} (sz : Nat) : su_M l yy_A_fill (Cond.code yy_A_fill prog_16_method_103_code 4 none :: sr_ts) rm_fill sr_cl D cI cJ [.ref q, .int (sx_i (-1))] [(q, .inl (cI, 80, .inl (su_f 0)))] (fun w : va_W => w = [(q, .inl (cI, 80, .inl (su_f 80)))]) 0 0 sz := by
  refine su_bodyS (by decide +kernel) rfl (Nat.le_of_ble_eq_true rfl) ?_
  intro p e s m below meth c C hr hlk
  show sx_U sr_cl D _ _ _ _ _ _ _ _ _ _ _ _ _ _ _ [(q, .inl (cI, 80, .inl (su_f 0)))] 0 [(0, .ref q), (1, .int (sx_i (-1)))] []
  refine su_iconst C dd_A_fill_0 rfl ?_
  refine su_istore_n (lu := [(2, .int (sx_i 0)), (0, .ref q), (1, .int (sx_i (-1)))]) C dd_A_fill_1 rfl (by decide) rfl ?_
  refine su_aload_n C 1 dd_A_fill_2 rfl rfl ?_
  refine su_alen C 0 rfl dd_A_fill_3 ?_
  refine su_istore_n (lu := [(3, .int (sx_i 80)), (2, .int (sx_i 0)), (0, .ref q), (1, .int (sx_i (-1)))]) C dd_A_fill_4 rfl (by decide) rfl ?_
  intro H locs ls hP hD hS hl
  exact sc_fill_5 C (fun lv => su_vret (F := fun w : va_W => w = [(q, .inl (cI, 80, .inl (su_f 80)))]) C hr hlk (Nat.le_refl _) (Nat.le_refl _) dd_A_fill_20 rfl) 80 0 rfl [] H locs ls hP hD hS (lv_sub hl [1, 0, 2, 3] rfl)
theorem sc_fill {l : Launch} {D : va_G} {cI cJ : ClassId} {q : Nat} (sz : Nat) : su_M l yy_A_fill (Cond.code yy_A_fill prog_16_method_103_code 4 none :: sr_ts) rm_fill sr_cl D cI cJ [.ref q, .int (sx_i (-1))] [(q, .inl (cI, 80, .inl (fun _ => sx_i 0)))] (fun w : va_W => w = [(q, .inl (cI, 80, .inl (fun j => sx_i (if (j : Int) < 80 then -1 else 0))))]) 0 0 sz := by
  have e0 : (fun _ => sx_i 0 : Nat → Int32) = su_f 0 := by
    funext j
    unfold su_f
    rw [if_neg (by omega)]
  have e1 : (fun j => sx_i (if (j : Int) < 80 then -1 else 0) : Nat → Int32) = su_f 80 := by
    funext j
    unfold su_f
    by_cases c2 : j < 80
    · rw [if_pos c2, if_pos (by omega)]
    · rw [if_neg c2, if_neg (by omega)]
  have h := sc_fill0 (l := l) (D := D) (cI := cI) (cJ := cJ) (q := q) sz
  rw [← e0, ← e1] at h
  exact h
def rm_T_init : Room := { frames := 1, cells := 3, slots := 40, locals := 12 }
set_option maxHeartbeats 4000000 in
set_option maxRecDepth 100000 in
theorem sc_T_init {l : Launch} {D : va_G} {cI cJ : ClassId} {h0 : Nat} (sz : Nat) : su_M l yy_T_init (Cond.code yy_T_init prog_5_method_1_code 1 none :: sr_ts) rm_T_init sr_cl D cI cJ [.ref h0] [(h0, .inr (3, [.null, .null, .null, .int (sx_i 0), .int (sx_i 0)]))] (fun w : va_W => ∃ q7 q15 q23 : Nat, w = [(h0, .inr (3, [.ref q7, .ref q15, .ref q23, .int (sx_i 0), .int (sx_i 0)])), (q7, .inl (cI, 16, .inl (fun _ => sx_i 0))), (q15, .inl (cI, 16, .inl (fun _ => sx_i 0))), (q23, .inl (cI, 8, .inl (fun _ => sx_i 0)))]) 3 40 sz := by
  refine su_body (by decide +kernel) rfl rfl (Nat.le_of_ble_eq_true rfl) ?_
  intro p e s m below meth c C hr hlk hin
  show sx_U sr_cl D _ _ _ _ _ _ _ _ _ _ _ _ _ _ _ [(h0, .inr (3, [.null, .null, .null, .int (sx_i 0), .int (sx_i 0)]))] 0 [(0, .ref h0)] []
  refine su_aload_n C 0 dd_T_init_0 rfl rfl ?_
  refine su_obj C wo_T wo_i wo_c (Nat.le_of_ble_eq_true rfl) (Nat.le_of_ble_eq_true rfl) dd_T_init_1 ?_
  refine su_aload_n C 0 dd_T_init_4 rfl rfl ?_
  refine su_bipush (v := 16) C dd_T_init_5 (by decide +kernel) ?_
  refine su_newI (N0 := 16) C rfl (by decide) w_arrI (Nat.le_of_ble_eq_true rfl) (Nat.le_of_ble_eq_true rfl) dd_T_init_7 (fun q7 => ?_)
  show sx_U sr_cl D _ _ _ _ _ _ _ _ _ _ _ _ _ _ _ [(h0, .inr (3, [.null, .null, .null, .int (sx_i 0), .int (sx_i 0)])), (q7, .inl (cI, 16, .inl (fun _ => sx_i 0)))] _ _ _
  refine su_putF (ref := "StoneRings$Trace") (ty := .array .int) (ws2 := [(h0, .inr (3, [.ref q7, .null, .null, .int (sx_i 0), .int (sx_i 0)])), (q7, .inl (cI, 16, .inl (fun _ => sx_i 0)))]) C 0 0 rfl (rfl : sr_cl[3]? = some ("StoneRings$Trace", tt_T, 5)) (by decide) in_T ty_T tyk_T nm_T wd_29 rfl rfl hin rfl (by decide +kernel) rfl rfl (Nat.le_of_ble_eq_true rfl) dd_T_init_9 rfl ?_
  refine su_aload_n C 0 dd_T_init_12 rfl rfl ?_
  refine su_bipush (v := 16) C dd_T_init_13 (by decide +kernel) ?_
  refine su_newI (N0 := 16) C rfl (by decide) w_arrI (Nat.le_of_ble_eq_true rfl) (Nat.le_of_ble_eq_true rfl) dd_T_init_15 (fun q15 => ?_)
  show sx_U sr_cl D _ _ _ _ _ _ _ _ _ _ _ _ _ _ _ [(h0, .inr (3, [.ref q7, .null, .null, .int (sx_i 0), .int (sx_i 0)])), (q7, .inl (cI, 16, .inl (fun _ => sx_i 0))), (q15, .inl (cI, 16, .inl (fun _ => sx_i 0)))] _ _ _
  refine su_putF (ref := "StoneRings$Trace") (ty := .array .int) (ws2 := [(h0, .inr (3, [.ref q7, .ref q15, .null, .int (sx_i 0), .int (sx_i 0)])), (q7, .inl (cI, 16, .inl (fun _ => sx_i 0))), (q15, .inl (cI, 16, .inl (fun _ => sx_i 0)))]) C 0 1 rfl (rfl : sr_cl[3]? = some ("StoneRings$Trace", tt_T, 5)) (by decide) in_T ty_T tyk_T nm_T wd_31 rfl rfl hin rfl (by decide +kernel) rfl rfl (Nat.le_of_ble_eq_true rfl) dd_T_init_17 rfl ?_
  refine su_aload_n C 0 dd_T_init_20 rfl rfl ?_
  refine su_bipush (v := 8) C dd_T_init_21 (by decide +kernel) ?_
  refine su_newI (N0 := 8) C rfl (by decide) w_arrI (Nat.le_of_ble_eq_true rfl) (Nat.le_of_ble_eq_true rfl) dd_T_init_23 (fun q23 => ?_)
  show sx_U sr_cl D _ _ _ _ _ _ _ _ _ _ _ _ _ _ _ [(h0, .inr (3, [.ref q7, .ref q15, .null, .int (sx_i 0), .int (sx_i 0)])), (q7, .inl (cI, 16, .inl (fun _ => sx_i 0))), (q15, .inl (cI, 16, .inl (fun _ => sx_i 0))), (q23, .inl (cI, 8, .inl (fun _ => sx_i 0)))] _ _ _
  refine su_putF (ref := "StoneRings$Trace") (ty := .array .int) (ws2 := [(h0, .inr (3, [.ref q7, .ref q15, .ref q23, .int (sx_i 0), .int (sx_i 0)])), (q7, .inl (cI, 16, .inl (fun _ => sx_i 0))), (q15, .inl (cI, 16, .inl (fun _ => sx_i 0))), (q23, .inl (cI, 8, .inl (fun _ => sx_i 0)))]) C 0 2 rfl (rfl : sr_cl[3]? = some ("StoneRings$Trace", tt_T, 5)) (by decide) in_T ty_T tyk_T nm_T wd_33 rfl rfl hin rfl (by decide +kernel) rfl rfl (Nat.le_of_ble_eq_true rfl) dd_T_init_25 rfl ?_
  refine su_aload_n C 0 dd_T_init_28 rfl rfl ?_
  refine su_iconst C dd_T_init_29 rfl ?_
  refine su_put (ref := "StoneRings$Trace") (ty := .int) (ws2 := [(h0, .inr (3, [.ref q7, .ref q15, .ref q23, .int (sx_i 0), .int (sx_i 0)])), (q7, .inl (cI, 16, .inl (fun _ => sx_i 0))), (q15, .inl (cI, 16, .inl (fun _ => sx_i 0))), (q23, .inl (cI, 8, .inl (fun _ => sx_i 0)))]) C 0 3 rfl (rfl : sr_cl[3]? = some ("StoneRings$Trace", tt_T, 5)) (by decide) in_T ty_T tyk_T nm_T wd_36 rfl rfl (by decide +kernel) rfl rfl (Nat.le_of_ble_eq_true rfl) dd_T_init_30 rfl ?_
  refine su_aload_n C 0 dd_T_init_33 rfl rfl ?_
  refine su_iconst C dd_T_init_34 rfl ?_
  refine su_put (ref := "StoneRings$Trace") (ty := .int) (ws2 := [(h0, .inr (3, [.ref q7, .ref q15, .ref q23, .int (sx_i 0), .int (sx_i 0)])), (q7, .inl (cI, 16, .inl (fun _ => sx_i 0))), (q15, .inl (cI, 16, .inl (fun _ => sx_i 0))), (q23, .inl (cI, 8, .inl (fun _ => sx_i 0)))]) C 0 4 rfl (rfl : sr_cl[3]? = some ("StoneRings$Trace", tt_T, 5)) (by decide) in_T ty_T tyk_T nm_T wd_38 rfl rfl (by decide +kernel) rfl rfl (Nat.le_of_ble_eq_true rfl) dd_T_init_35 rfl ?_
  exact su_vret C hr hlk (Nat.le_of_ble_eq_true rfl) (Nat.le_of_ble_eq_true rfl) dd_T_init_38 ⟨q7, q15, q23, rfl⟩
def rm_G_init : Room := { frames := 1, cells := 2, slots := 89, locals := 12 }
set_option maxHeartbeats 4000000 in
set_option maxRecDepth 100000 in
theorem sc_G_init {l : Launch} {D : va_G} {cI cJ : ClassId} {h0 : Nat} (sz : Nat) : su_M l yy_G_init (Cond.code yy_G_init prog_2_method_1_code 1 none :: sr_ts) rm_G_init sr_cl D cI cJ [.ref h0] [(h0, .inr (0, [.null, .null, .int (sx_i 0), .int (sx_i 0)]))] (fun w : va_W => ∃ q7 q15 : Nat, w = [(h0, .inr (0, [.ref q7, .ref q15, .int (sx_i 0), .int (sx_i 0)])), (q7, .inl (cI, 81, .inl (fun _ => sx_i 0))), (q15, .inl (cI, 8, .inl (fun _ => sx_i 0)))]) 2 89 sz := by
  refine su_body (by decide +kernel) rfl rfl (Nat.le_of_ble_eq_true rfl) ?_
  intro p e s m below meth c C hr hlk hin
  show sx_U sr_cl D _ _ _ _ _ _ _ _ _ _ _ _ _ _ _ [(h0, .inr (0, [.null, .null, .int (sx_i 0), .int (sx_i 0)]))] 0 [(0, .ref h0)] []
  refine su_aload_n C 0 dd_G_init_0 rfl rfl ?_
  refine su_obj C wo_G wo_i wo_c (Nat.le_of_ble_eq_true rfl) (Nat.le_of_ble_eq_true rfl) dd_G_init_1 ?_
  refine su_aload_n C 0 dd_G_init_4 rfl rfl ?_
  refine su_bipush (v := 81) C dd_G_init_5 (by decide +kernel) ?_
  refine su_newI (N0 := 81) C rfl (by decide) w_arrI (Nat.le_of_ble_eq_true rfl) (Nat.le_of_ble_eq_true rfl) dd_G_init_7 (fun q7 => ?_)
  show sx_U sr_cl D _ _ _ _ _ _ _ _ _ _ _ _ _ _ _ [(h0, .inr (0, [.null, .null, .int (sx_i 0), .int (sx_i 0)])), (q7, .inl (cI, 81, .inl (fun _ => sx_i 0)))] _ _ _
  refine su_putF (ref := "StoneRings$Pairing") (ty := .array .int) (ws2 := [(h0, .inr (0, [.ref q7, .null, .int (sx_i 0), .int (sx_i 0)])), (q7, .inl (cI, 81, .inl (fun _ => sx_i 0)))]) C 0 0 rfl (rfl : sr_cl[0]? = some ("StoneRings$Pairing", tt_G, 4)) (by decide) in_G ty_G tyk_G nm_G wd_59 rfl rfl hin rfl (by decide +kernel) rfl rfl (Nat.le_of_ble_eq_true rfl) dd_G_init_9 rfl ?_
  refine su_aload_n C 0 dd_G_init_12 rfl rfl ?_
  refine su_bipush (v := 8) C dd_G_init_13 (by decide +kernel) ?_
  refine su_newI (N0 := 8) C rfl (by decide) w_arrI (Nat.le_of_ble_eq_true rfl) (Nat.le_of_ble_eq_true rfl) dd_G_init_15 (fun q15 => ?_)
  show sx_U sr_cl D _ _ _ _ _ _ _ _ _ _ _ _ _ _ _ [(h0, .inr (0, [.ref q7, .null, .int (sx_i 0), .int (sx_i 0)])), (q7, .inl (cI, 81, .inl (fun _ => sx_i 0))), (q15, .inl (cI, 8, .inl (fun _ => sx_i 0)))] _ _ _
  refine su_putF (ref := "StoneRings$Pairing") (ty := .array .int) (ws2 := [(h0, .inr (0, [.ref q7, .ref q15, .int (sx_i 0), .int (sx_i 0)])), (q7, .inl (cI, 81, .inl (fun _ => sx_i 0))), (q15, .inl (cI, 8, .inl (fun _ => sx_i 0)))]) C 0 1 rfl (rfl : sr_cl[0]? = some ("StoneRings$Pairing", tt_G, 4)) (by decide) in_G ty_G tyk_G nm_G wd_60 rfl rfl hin rfl (by decide +kernel) rfl rfl (Nat.le_of_ble_eq_true rfl) dd_G_init_17 rfl ?_
  refine su_aload_n C 0 dd_G_init_20 rfl rfl ?_
  refine su_iconst C dd_G_init_21 rfl ?_
  refine su_put (ref := "StoneRings$Pairing") (ty := .int) (ws2 := [(h0, .inr (0, [.ref q7, .ref q15, .int (sx_i 0), .int (sx_i 0)])), (q7, .inl (cI, 81, .inl (fun _ => sx_i 0))), (q15, .inl (cI, 8, .inl (fun _ => sx_i 0)))]) C 0 2 rfl (rfl : sr_cl[0]? = some ("StoneRings$Pairing", tt_G, 4)) (by decide) in_G ty_G tyk_G nm_G wd_62 rfl rfl (by decide +kernel) rfl rfl (Nat.le_of_ble_eq_true rfl) dd_G_init_22 rfl ?_
  refine su_aload_n C 0 dd_G_init_25 rfl rfl ?_
  refine su_iconst C dd_G_init_26 rfl ?_
  refine su_put (ref := "StoneRings$Pairing") (ty := .boolean) (ws2 := [(h0, .inr (0, [.ref q7, .ref q15, .int (sx_i 0), .int (sx_i 0)])), (q7, .inl (cI, 81, .inl (fun _ => sx_i 0))), (q15, .inl (cI, 8, .inl (fun _ => sx_i 0)))]) C 0 3 rfl (rfl : sr_cl[0]? = some ("StoneRings$Pairing", tt_G, 4)) (by decide) in_G ty_G tyk_G nm_G wd_64 rfl rfl (by decide +kernel) (sx_bool (Or.inl rfl)).1 (sx_bool (Or.inl rfl)).2 (Nat.le_of_ble_eq_true rfl) dd_G_init_27 rfl ?_
  exact su_vret C hr hlk (Nat.le_of_ble_eq_true rfl) (Nat.le_of_ble_eq_true rfl) dd_G_init_30 ⟨q7, q15, rfl⟩
def rm_P_init : Room := { frames := 1, cells := 1, slots := 256, locals := 12 }
set_option maxHeartbeats 4000000 in
set_option maxRecDepth 100000 in
theorem sc_P_init {l : Launch} {D : va_G} {cI cJ : ClassId} {h0 : Nat} {a1 a2 : Int} (sz : Nat) : su_M l yy_P_init (Cond.code yy_P_init prog_3_method_1_code 3 none :: sr_ts) rm_P_init sr_cl D cI cJ [.ref h0, .int (sx_i a1), .int (sx_i a2)] [(h0, .inr (1, [.int (sx_i 0), .int (sx_i 0), .null, .int (sx_i 0), .int (sx_i 0), .int (sx_i 0)]))] (fun w : va_W => ∃ q33 : Nat, w = [(h0, .inr (1, [.int (sx_i a1), .int (sx_i a2), .ref q33, .int (sx_i 0), .int (sx_i 0), .int (sx_i 0)])), (q33, .inl (cI, 256, .inl (fun _ => sx_i 0)))]) 1 256 sz := by
  refine su_body (by decide +kernel) rfl rfl (Nat.le_of_ble_eq_true rfl) ?_
  intro p e s m below meth c C hr hlk hin
  show sx_U sr_cl D _ _ _ _ _ _ _ _ _ _ _ _ _ _ _ [(h0, .inr (1, [.int (sx_i 0), .int (sx_i 0), .null, .int (sx_i 0), .int (sx_i 0), .int (sx_i 0)]))] 0 [(0, .ref h0), (1, .int (sx_i a1)), (2, .int (sx_i a2))] []
  refine su_aload_n C 0 dd_P_init_0 rfl rfl ?_
  refine su_obj C wo_P wo_i wo_c (Nat.le_of_ble_eq_true rfl) (Nat.le_of_ble_eq_true rfl) dd_P_init_1 ?_
  refine su_aload_n C 0 dd_P_init_4 rfl rfl ?_
  refine su_iconst C dd_P_init_5 rfl ?_
  refine su_put (ref := "StoneRings$Picture") (ty := .int) (ws2 := [(h0, .inr (1, [.int (sx_i 0), .int (sx_i 0), .null, .int (sx_i 0), .int (sx_i 0), .int (sx_i 0)]))]) C 0 3 rfl (rfl : sr_cl[1]? = some ("StoneRings$Picture", tt_P, 6)) (by decide) in_P ty_P tyk_P nm_P wd_113 rfl rfl (by decide +kernel) rfl rfl (Nat.le_of_ble_eq_true rfl) dd_P_init_6 rfl ?_
  refine su_aload_n C 0 dd_P_init_9 rfl rfl ?_
  refine su_iconst C dd_P_init_10 rfl ?_
  refine su_put (ref := "StoneRings$Picture") (ty := .int) (ws2 := [(h0, .inr (1, [.int (sx_i 0), .int (sx_i 0), .null, .int (sx_i 0), .int (sx_i 0), .int (sx_i 0)]))]) C 0 4 rfl (rfl : sr_cl[1]? = some ("StoneRings$Picture", tt_P, 6)) (by decide) in_P ty_P tyk_P nm_P wd_116 rfl rfl (by decide +kernel) rfl rfl (Nat.le_of_ble_eq_true rfl) dd_P_init_11 rfl ?_
  refine su_aload_n C 0 dd_P_init_14 rfl rfl ?_
  refine su_iconst C dd_P_init_15 rfl ?_
  refine su_put (ref := "StoneRings$Picture") (ty := .int) (ws2 := [(h0, .inr (1, [.int (sx_i 0), .int (sx_i 0), .null, .int (sx_i 0), .int (sx_i 0), .int (sx_i 0)]))]) C 0 5 rfl (rfl : sr_cl[1]? = some ("StoneRings$Picture", tt_P, 6)) (by decide) in_P ty_P tyk_P nm_P wd_117 rfl rfl (by decide +kernel) rfl rfl (Nat.le_of_ble_eq_true rfl) dd_P_init_16 rfl ?_
  refine su_aload_n C 0 dd_P_init_19 rfl rfl ?_
  refine su_iload_n C 1 dd_P_init_20 rfl rfl ?_
  refine su_putF (ref := "StoneRings$Picture") (ty := .int) (ws2 := [(h0, .inr (1, [.int (sx_i a1), .int (sx_i 0), .null, .int (sx_i 0), .int (sx_i 0), .int (sx_i 0)]))]) C 0 0 rfl (rfl : sr_cl[1]? = some ("StoneRings$Picture", tt_P, 6)) (by decide) in_P ty_P tyk_P nm_P wd_110 rfl rfl hin rfl (by decide +kernel) rfl rfl (Nat.le_of_ble_eq_true rfl) dd_P_init_21 rfl ?_
  refine su_aload_n C 0 dd_P_init_24 rfl rfl ?_
  refine su_iload_n C 2 dd_P_init_25 rfl rfl ?_
  refine su_putF (ref := "StoneRings$Picture") (ty := .int) (ws2 := [(h0, .inr (1, [.int (sx_i a1), .int (sx_i a2), .null, .int (sx_i 0), .int (sx_i 0), .int (sx_i 0)]))]) C 0 1 rfl (rfl : sr_cl[1]? = some ("StoneRings$Picture", tt_P, 6)) (by decide) in_P ty_P tyk_P nm_P wd_111 rfl rfl hin rfl (by decide +kernel) rfl rfl (Nat.le_of_ble_eq_true rfl) dd_P_init_26 rfl ?_
  refine su_aload_n C 0 dd_P_init_29 rfl rfl ?_
  refine su_sipush (v := 256) C dd_P_init_30 (by decide +kernel) ?_
  refine su_newI (N0 := 256) C rfl (by decide) w_arrI (Nat.le_of_ble_eq_true rfl) (Nat.le_of_ble_eq_true rfl) dd_P_init_33 (fun q33 => ?_)
  show sx_U sr_cl D _ _ _ _ _ _ _ _ _ _ _ _ _ _ _ [(h0, .inr (1, [.int (sx_i a1), .int (sx_i a2), .null, .int (sx_i 0), .int (sx_i 0), .int (sx_i 0)])), (q33, .inl (cI, 256, .inl (fun _ => sx_i 0)))] _ _ _
  refine su_putF (ref := "StoneRings$Picture") (ty := .array .int) (ws2 := [(h0, .inr (1, [.int (sx_i a1), .int (sx_i a2), .ref q33, .int (sx_i 0), .int (sx_i 0), .int (sx_i 0)])), (q33, .inl (cI, 256, .inl (fun _ => sx_i 0)))]) C 0 2 rfl (rfl : sr_cl[1]? = some ("StoneRings$Picture", tt_P, 6)) (by decide) in_P ty_P tyk_P nm_P wd_112 rfl rfl hin rfl (by decide +kernel) rfl rfl (Nat.le_of_ble_eq_true rfl) dd_P_init_35 rfl ?_
  exact su_vret C hr hlk (Nat.le_of_ble_eq_true rfl) (Nat.le_of_ble_eq_true rfl) dd_P_init_38 ⟨q33, rfl⟩
def rm_D_init : Room := { frames := 1, cells := 2, slots := 84, locals := 23 }
set_option maxHeartbeats 4000000 in
set_option maxRecDepth 100000 in
theorem sc_D_init {l : Launch} {D : va_G} {cI cJ : ClassId} {h0 : Nat} (sz : Nat) : su_M l yy_D_init (Cond.code yy_D_init prog_4_method_1_code 1 none :: sr_ts) rm_D_init sr_cl D cI cJ [.ref h0] [(h0, .inr (2, [.null, .null, .int (sx_i 0)]))] (fun w : va_W => ∃ q14 q7 : Nat, w = [(h0, .inr (2, [.ref q7, .ref q14, .int (sx_i 0)])), (q14, .inl (cI, 4, .inl (fun _ => sx_i 0))), (q7, .inl (cI, 80, .inl (fun j => sx_i (if (j : Int) < 80 then -1 else 0))))]) 2 84 sz := by
  refine su_body (by decide +kernel) rfl rfl (Nat.le_of_ble_eq_true rfl) ?_
  intro p e s m below meth c C hr hlk hin
  show sx_U sr_cl D _ _ _ _ _ _ _ _ _ _ _ _ _ _ _ [(h0, .inr (2, [.null, .null, .int (sx_i 0)]))] 0 [(0, .ref h0)] []
  refine su_aload_n C 0 dd_D_init_0 rfl rfl ?_
  refine su_obj C wo_D wo_i wo_c (Nat.le_of_ble_eq_true rfl) (Nat.le_of_ble_eq_true rfl) dd_D_init_1 ?_
  refine su_aload_n C 0 dd_D_init_4 rfl rfl ?_
  refine su_bipush (v := 80) C dd_D_init_5 (by decide +kernel) ?_
  refine su_newI (N0 := 80) C rfl (by decide) w_arrI (Nat.le_of_ble_eq_true rfl) (Nat.le_of_ble_eq_true rfl) dd_D_init_7 (fun q7 => ?_)
  show sx_U sr_cl D _ _ _ _ _ _ _ _ _ _ _ _ _ _ _ [(h0, .inr (2, [.null, .null, .int (sx_i 0)])), (q7, .inl (cI, 80, .inl (fun _ => sx_i 0)))] _ _ _
  refine su_putF (ref := "StoneRings$Readings") (ty := .array .int) (ws2 := [(h0, .inr (2, [.ref q7, .null, .int (sx_i 0)])), (q7, .inl (cI, 80, .inl (fun _ => sx_i 0)))]) C 0 0 rfl (rfl : sr_cl[2]? = some ("StoneRings$Readings", tt_D, 3)) (by decide) in_D ty_D tyk_D nm_D wd_84 rfl rfl hin rfl (by decide +kernel) rfl rfl (Nat.le_of_ble_eq_true rfl) dd_D_init_9 rfl ?_
  refine su_aload_n C 0 dd_D_init_12 rfl rfl ?_
  refine su_iconst C dd_D_init_13 rfl ?_
  refine su_newI (N0 := 4) C rfl (by decide) w_arrI (Nat.le_of_ble_eq_true rfl) (Nat.le_of_ble_eq_true rfl) dd_D_init_14 (fun q14 => ?_)
  show sx_U sr_cl D _ _ _ _ _ _ _ _ _ _ _ _ _ _ _ [(h0, .inr (2, [.ref q7, .null, .int (sx_i 0)])), (q7, .inl (cI, 80, .inl (fun _ => sx_i 0))), (q14, .inl (cI, 4, .inl (fun _ => sx_i 0)))] _ _ _
  refine su_putF (ref := "StoneRings$Readings") (ty := .array .int) (ws2 := [(h0, .inr (2, [.ref q7, .ref q14, .int (sx_i 0)])), (q7, .inl (cI, 80, .inl (fun _ => sx_i 0))), (q14, .inl (cI, 4, .inl (fun _ => sx_i 0)))]) C 0 1 rfl (rfl : sr_cl[2]? = some ("StoneRings$Readings", tt_D, 3)) (by decide) in_D ty_D tyk_D nm_D wd_85 rfl rfl hin rfl (by decide +kernel) rfl rfl (Nat.le_of_ble_eq_true rfl) dd_D_init_16 rfl ?_
  refine su_aload_n C 0 dd_D_init_19 rfl rfl ?_
  refine su_iconst C dd_D_init_20 rfl ?_
  refine su_put (ref := "StoneRings$Readings") (ty := .int) (ws2 := [(h0, .inr (2, [.ref q7, .ref q14, .int (sx_i 0)])), (q7, .inl (cI, 80, .inl (fun _ => sx_i 0))), (q14, .inl (cI, 4, .inl (fun _ => sx_i 0)))]) C 0 2 rfl (rfl : sr_cl[2]? = some ("StoneRings$Readings", tt_D, 3)) (by decide) in_D ty_D tyk_D nm_D wd_86 rfl rfl (by decide +kernel) rfl rfl (Nat.le_of_ble_eq_true rfl) dd_D_init_21 rfl ?_
  refine su_aload_n C 0 dd_D_init_24 rfl rfl ?_
  refine su_get (ref := "StoneRings$Readings") C 0 0 rfl (rfl : sr_cl[2]? = some ("StoneRings$Readings", tt_D, 3)) (by decide) in_D wd_84 rfl rfl dd_D_init_25 ?_
  refine su_iconst C dd_D_init_28 rfl ?_
  refine su_call (wr := [(h0, .inr (2, [.ref q7, .ref q14, .int (sx_i 0)])), (q14, .inl (cI, 4, .inl (fun _ => sx_i 0)))]) C 1 [0, 2] rfl rfl (by decide) (by decide) (fun sz2 => sc_fill sz2) (fun H locs ls hl hp => va_runS (As := [.ref q7, .int (sx_i (-1))]) (rest := []) ⟨C.1, C.2.1, C.2.2.1, C.2.2.2.1, C.2.2.2.2.1⟩ (sc_fill _) (sx_cwS (n := 2) C.2.2.2.2.1 wd_83 wd_81 wd_82 wd_5 rfl rfl (by decide +kernel) ⟨by decide, by decide⟩) hp rfl rfl hl.1 rfl (lv_room (Nat.le_of_ble_eq_true rfl)) dd_D_init_29 ⟨(Nat.le_of_ble_eq_true rfl), (Nat.le_of_ble_eq_true rfl)⟩) (fun w hw => ?_)
  subst hw
  show sx_U sr_cl D _ _ _ _ _ _ _ _ _ _ _ _ _ _ _ [(h0, .inr (2, [.ref q7, .ref q14, .int (sx_i 0)])), (q14, .inl (cI, 4, .inl (fun _ => sx_i 0))), (q7, .inl (cI, 80, .inl (fun j => sx_i (if (j : Int) < 80 then -1 else 0))))] _ _ _
  exact su_vret C hr hlk (Nat.le_of_ble_eq_true rfl) (Nat.le_of_ble_eq_true rfl) dd_D_init_32 ⟨q14, q7, rfl⟩
def rm_M_init : Room := { frames := 1, cells := 10, slots := 721, locals := 12 }
set_option maxHeartbeats 4000000 in
set_option maxRecDepth 100000 in
theorem sc_M_init {l : Launch} {D : va_G} {cI cJ : ClassId} {h0 : Nat} {a1 a2 : Int} (ha1 : sx_R a1) (ha2 : sx_R a2) (sz : Nat) : su_M l yy_M_init (Cond.code yy_M_init prog_7_method_1_code 3 none :: sr_ts) rm_M_init sr_cl D cI cJ [.ref h0, .int (sx_i a1), .int (sx_i a2)] [(h0, .inr (5, [.int (sx_i 0), .int (sx_i 0), .int (sx_i 0), .null, .int (sx_i 0), .null, .null, .int (sx_i 0), .int (sx_i 0), .int (sx_i 0), .null, .null, .int (sx_i 0), .null, .int (sx_i 0), .null, .null, .int (sx_i 0), .int (sx_i 0), .null, .null]))] (fun w : va_W => ∃ q8 q16 q24 q42 q50 q58 q66 q75 q83 q91 : Nat, w = [(h0, .inr (5, [.int (sx_i 0), .int (sx_i (sr_near a1)), .int (sx_i (sr_near a2)), .ref q8, .int (sx_i 0), .ref q16, .ref q24, .int (sx_i 2), .int (sx_i 5), .int (sx_i 0), .ref q42, .ref q50, .int (sx_i 0), .ref q58, .int (sx_i 0), .ref q66, .ref q75, .int (sx_i 0), .int (sx_i 0), .ref q83, .ref q91])), (q8, .inl (cI, 256, .inl (fun _ => sx_i 0))), (q16, .inl (cI, 8, .inl (fun _ => sx_i 0))), (q24, .inl (cI, 8, .inl (fun _ => sx_i 0))), (q42, .inl (cI, 16, .inl (fun _ => sx_i 0))), (q50, .inl (cI, 16, .inl (fun _ => sx_i 0))), (q58, .inl (cI, 16, .inl (fun _ => sx_i 0))), (q66, .inl (cI, 16, .inl (fun _ => sx_i 0))), (q75, .inl (cI, 289, .inl (fun _ => sx_i 0))), (q83, .inl (cI, 16, .inl (fun _ => sx_i 0))), (q91, .inl (cI, 80, .inl (fun _ => sx_i 0)))]) 10 721 sz := by
  refine su_body (by decide +kernel) rfl rfl (Nat.le_of_ble_eq_true rfl) ?_
  intro p e s m below meth c C hr hlk hin
  show sx_U sr_cl D _ _ _ _ _ _ _ _ _ _ _ _ _ _ _ [(h0, .inr (5, [.int (sx_i 0), .int (sx_i 0), .int (sx_i 0), .null, .int (sx_i 0), .null, .null, .int (sx_i 0), .int (sx_i 0), .int (sx_i 0), .null, .null, .int (sx_i 0), .null, .int (sx_i 0), .null, .null, .int (sx_i 0), .int (sx_i 0), .null, .null]))] 0 [(0, .ref h0), (1, .int (sx_i a1)), (2, .int (sx_i a2))] []
  refine su_aload_n C 0 dd_M_init_0 rfl rfl ?_
  refine su_obj C wo_M wo_i wo_c (Nat.le_of_ble_eq_true rfl) (Nat.le_of_ble_eq_true rfl) dd_M_init_1 ?_
  refine su_aload_n C 0 dd_M_init_4 rfl rfl ?_
  refine su_sipush (v := 256) C dd_M_init_5 (by decide +kernel) ?_
  refine su_newI (N0 := 256) C rfl (by decide) w_arrI (Nat.le_of_ble_eq_true rfl) (Nat.le_of_ble_eq_true rfl) dd_M_init_8 (fun q8 => ?_)
  show sx_U sr_cl D _ _ _ _ _ _ _ _ _ _ _ _ _ _ _ [(h0, .inr (5, [.int (sx_i 0), .int (sx_i 0), .int (sx_i 0), .null, .int (sx_i 0), .null, .null, .int (sx_i 0), .int (sx_i 0), .int (sx_i 0), .null, .null, .int (sx_i 0), .null, .int (sx_i 0), .null, .null, .int (sx_i 0), .int (sx_i 0), .null, .null])), (q8, .inl (cI, 256, .inl (fun _ => sx_i 0)))] _ _ _
  refine su_putF (ref := "StoneRingsModel") (ty := .array .int) (ws2 := [(h0, .inr (5, [.int (sx_i 0), .int (sx_i 0), .int (sx_i 0), .ref q8, .int (sx_i 0), .null, .null, .int (sx_i 0), .int (sx_i 0), .int (sx_i 0), .null, .null, .int (sx_i 0), .null, .int (sx_i 0), .null, .null, .int (sx_i 0), .int (sx_i 0), .null, .null])), (q8, .inl (cI, 256, .inl (fun _ => sx_i 0)))]) C 0 3 rfl (rfl : sr_cl[5]? = some ("StoneRingsModel", tt_M, 21)) (by decide) in_M ty_M tyk_M nm_M wd_595 rfl rfl hin rfl (by decide +kernel) rfl rfl (Nat.le_of_ble_eq_true rfl) dd_M_init_10 rfl ?_
  refine su_aload_n C 0 dd_M_init_13 rfl rfl ?_
  refine su_bipush (v := 8) C dd_M_init_14 (by decide +kernel) ?_
  refine su_newI (N0 := 8) C rfl (by decide) w_arrI (Nat.le_of_ble_eq_true rfl) (Nat.le_of_ble_eq_true rfl) dd_M_init_16 (fun q16 => ?_)
  show sx_U sr_cl D _ _ _ _ _ _ _ _ _ _ _ _ _ _ _ [(h0, .inr (5, [.int (sx_i 0), .int (sx_i 0), .int (sx_i 0), .ref q8, .int (sx_i 0), .null, .null, .int (sx_i 0), .int (sx_i 0), .int (sx_i 0), .null, .null, .int (sx_i 0), .null, .int (sx_i 0), .null, .null, .int (sx_i 0), .int (sx_i 0), .null, .null])), (q8, .inl (cI, 256, .inl (fun _ => sx_i 0))), (q16, .inl (cI, 8, .inl (fun _ => sx_i 0)))] _ _ _
  refine su_putF (ref := "StoneRingsModel") (ty := .array .int) (ws2 := [(h0, .inr (5, [.int (sx_i 0), .int (sx_i 0), .int (sx_i 0), .ref q8, .int (sx_i 0), .ref q16, .null, .int (sx_i 0), .int (sx_i 0), .int (sx_i 0), .null, .null, .int (sx_i 0), .null, .int (sx_i 0), .null, .null, .int (sx_i 0), .int (sx_i 0), .null, .null])), (q8, .inl (cI, 256, .inl (fun _ => sx_i 0))), (q16, .inl (cI, 8, .inl (fun _ => sx_i 0)))]) C 0 5 rfl (rfl : sr_cl[5]? = some ("StoneRingsModel", tt_M, 21)) (by decide) in_M ty_M tyk_M nm_M wd_597 rfl rfl hin rfl (by decide +kernel) rfl rfl (Nat.le_of_ble_eq_true rfl) dd_M_init_18 rfl ?_
  refine su_aload_n C 0 dd_M_init_21 rfl rfl ?_
  refine su_bipush (v := 8) C dd_M_init_22 (by decide +kernel) ?_
  refine su_newI (N0 := 8) C rfl (by decide) w_arrI (Nat.le_of_ble_eq_true rfl) (Nat.le_of_ble_eq_true rfl) dd_M_init_24 (fun q24 => ?_)
  show sx_U sr_cl D _ _ _ _ _ _ _ _ _ _ _ _ _ _ _ [(h0, .inr (5, [.int (sx_i 0), .int (sx_i 0), .int (sx_i 0), .ref q8, .int (sx_i 0), .ref q16, .null, .int (sx_i 0), .int (sx_i 0), .int (sx_i 0), .null, .null, .int (sx_i 0), .null, .int (sx_i 0), .null, .null, .int (sx_i 0), .int (sx_i 0), .null, .null])), (q8, .inl (cI, 256, .inl (fun _ => sx_i 0))), (q16, .inl (cI, 8, .inl (fun _ => sx_i 0))), (q24, .inl (cI, 8, .inl (fun _ => sx_i 0)))] _ _ _
  refine su_putF (ref := "StoneRingsModel") (ty := .array .int) (ws2 := [(h0, .inr (5, [.int (sx_i 0), .int (sx_i 0), .int (sx_i 0), .ref q8, .int (sx_i 0), .ref q16, .ref q24, .int (sx_i 0), .int (sx_i 0), .int (sx_i 0), .null, .null, .int (sx_i 0), .null, .int (sx_i 0), .null, .null, .int (sx_i 0), .int (sx_i 0), .null, .null])), (q8, .inl (cI, 256, .inl (fun _ => sx_i 0))), (q16, .inl (cI, 8, .inl (fun _ => sx_i 0))), (q24, .inl (cI, 8, .inl (fun _ => sx_i 0)))]) C 0 6 rfl (rfl : sr_cl[5]? = some ("StoneRingsModel", tt_M, 21)) (by decide) in_M ty_M tyk_M nm_M wd_598 rfl rfl hin rfl (by decide +kernel) rfl rfl (Nat.le_of_ble_eq_true rfl) dd_M_init_26 rfl ?_
  refine su_aload_n C 0 dd_M_init_29 rfl rfl ?_
  refine su_iconst C dd_M_init_30 rfl ?_
  refine su_put (ref := "StoneRingsModel") (ty := .int) (ws2 := [(h0, .inr (5, [.int (sx_i 0), .int (sx_i 0), .int (sx_i 0), .ref q8, .int (sx_i 0), .ref q16, .ref q24, .int (sx_i 2), .int (sx_i 0), .int (sx_i 0), .null, .null, .int (sx_i 0), .null, .int (sx_i 0), .null, .null, .int (sx_i 0), .int (sx_i 0), .null, .null])), (q8, .inl (cI, 256, .inl (fun _ => sx_i 0))), (q16, .inl (cI, 8, .inl (fun _ => sx_i 0))), (q24, .inl (cI, 8, .inl (fun _ => sx_i 0)))]) C 0 7 rfl (rfl : sr_cl[5]? = some ("StoneRingsModel", tt_M, 21)) (by decide) in_M ty_M tyk_M nm_M wd_599 rfl rfl (by decide +kernel) rfl rfl (Nat.le_of_ble_eq_true rfl) dd_M_init_31 rfl ?_
  refine su_aload_n C 0 dd_M_init_34 rfl rfl ?_
  refine su_iconst C dd_M_init_35 rfl ?_
  refine su_put (ref := "StoneRingsModel") (ty := .int) (ws2 := [(h0, .inr (5, [.int (sx_i 0), .int (sx_i 0), .int (sx_i 0), .ref q8, .int (sx_i 0), .ref q16, .ref q24, .int (sx_i 2), .int (sx_i 5), .int (sx_i 0), .null, .null, .int (sx_i 0), .null, .int (sx_i 0), .null, .null, .int (sx_i 0), .int (sx_i 0), .null, .null])), (q8, .inl (cI, 256, .inl (fun _ => sx_i 0))), (q16, .inl (cI, 8, .inl (fun _ => sx_i 0))), (q24, .inl (cI, 8, .inl (fun _ => sx_i 0)))]) C 0 8 rfl (rfl : sr_cl[5]? = some ("StoneRingsModel", tt_M, 21)) (by decide) in_M ty_M tyk_M nm_M wd_600 rfl rfl (by decide +kernel) rfl rfl (Nat.le_of_ble_eq_true rfl) dd_M_init_36 rfl ?_
  refine su_aload_n C 0 dd_M_init_39 rfl rfl ?_
  refine su_bipush (v := 16) C dd_M_init_40 (by decide +kernel) ?_
  refine su_newI (N0 := 16) C rfl (by decide) w_arrI (Nat.le_of_ble_eq_true rfl) (Nat.le_of_ble_eq_true rfl) dd_M_init_42 (fun q42 => ?_)
  show sx_U sr_cl D _ _ _ _ _ _ _ _ _ _ _ _ _ _ _ [(h0, .inr (5, [.int (sx_i 0), .int (sx_i 0), .int (sx_i 0), .ref q8, .int (sx_i 0), .ref q16, .ref q24, .int (sx_i 2), .int (sx_i 5), .int (sx_i 0), .null, .null, .int (sx_i 0), .null, .int (sx_i 0), .null, .null, .int (sx_i 0), .int (sx_i 0), .null, .null])), (q8, .inl (cI, 256, .inl (fun _ => sx_i 0))), (q16, .inl (cI, 8, .inl (fun _ => sx_i 0))), (q24, .inl (cI, 8, .inl (fun _ => sx_i 0))), (q42, .inl (cI, 16, .inl (fun _ => sx_i 0)))] _ _ _
  refine su_putF (ref := "StoneRingsModel") (ty := .array .int) (ws2 := [(h0, .inr (5, [.int (sx_i 0), .int (sx_i 0), .int (sx_i 0), .ref q8, .int (sx_i 0), .ref q16, .ref q24, .int (sx_i 2), .int (sx_i 5), .int (sx_i 0), .ref q42, .null, .int (sx_i 0), .null, .int (sx_i 0), .null, .null, .int (sx_i 0), .int (sx_i 0), .null, .null])), (q8, .inl (cI, 256, .inl (fun _ => sx_i 0))), (q16, .inl (cI, 8, .inl (fun _ => sx_i 0))), (q24, .inl (cI, 8, .inl (fun _ => sx_i 0))), (q42, .inl (cI, 16, .inl (fun _ => sx_i 0)))]) C 0 10 rfl (rfl : sr_cl[5]? = some ("StoneRingsModel", tt_M, 21)) (by decide) in_M ty_M tyk_M nm_M wd_602 rfl rfl hin rfl (by decide +kernel) rfl rfl (Nat.le_of_ble_eq_true rfl) dd_M_init_44 rfl ?_
  refine su_aload_n C 0 dd_M_init_47 rfl rfl ?_
  refine su_bipush (v := 16) C dd_M_init_48 (by decide +kernel) ?_
  refine su_newI (N0 := 16) C rfl (by decide) w_arrI (Nat.le_of_ble_eq_true rfl) (Nat.le_of_ble_eq_true rfl) dd_M_init_50 (fun q50 => ?_)
  show sx_U sr_cl D _ _ _ _ _ _ _ _ _ _ _ _ _ _ _ [(h0, .inr (5, [.int (sx_i 0), .int (sx_i 0), .int (sx_i 0), .ref q8, .int (sx_i 0), .ref q16, .ref q24, .int (sx_i 2), .int (sx_i 5), .int (sx_i 0), .ref q42, .null, .int (sx_i 0), .null, .int (sx_i 0), .null, .null, .int (sx_i 0), .int (sx_i 0), .null, .null])), (q8, .inl (cI, 256, .inl (fun _ => sx_i 0))), (q16, .inl (cI, 8, .inl (fun _ => sx_i 0))), (q24, .inl (cI, 8, .inl (fun _ => sx_i 0))), (q42, .inl (cI, 16, .inl (fun _ => sx_i 0))), (q50, .inl (cI, 16, .inl (fun _ => sx_i 0)))] _ _ _
  refine su_putF (ref := "StoneRingsModel") (ty := .array .int) (ws2 := [(h0, .inr (5, [.int (sx_i 0), .int (sx_i 0), .int (sx_i 0), .ref q8, .int (sx_i 0), .ref q16, .ref q24, .int (sx_i 2), .int (sx_i 5), .int (sx_i 0), .ref q42, .ref q50, .int (sx_i 0), .null, .int (sx_i 0), .null, .null, .int (sx_i 0), .int (sx_i 0), .null, .null])), (q8, .inl (cI, 256, .inl (fun _ => sx_i 0))), (q16, .inl (cI, 8, .inl (fun _ => sx_i 0))), (q24, .inl (cI, 8, .inl (fun _ => sx_i 0))), (q42, .inl (cI, 16, .inl (fun _ => sx_i 0))), (q50, .inl (cI, 16, .inl (fun _ => sx_i 0)))]) C 0 11 rfl (rfl : sr_cl[5]? = some ("StoneRingsModel", tt_M, 21)) (by decide) in_M ty_M tyk_M nm_M wd_603 rfl rfl hin rfl (by decide +kernel) rfl rfl (Nat.le_of_ble_eq_true rfl) dd_M_init_52 rfl ?_
  refine su_aload_n C 0 dd_M_init_55 rfl rfl ?_
  refine su_bipush (v := 16) C dd_M_init_56 (by decide +kernel) ?_
  refine su_newI (N0 := 16) C rfl (by decide) w_arrI (Nat.le_of_ble_eq_true rfl) (Nat.le_of_ble_eq_true rfl) dd_M_init_58 (fun q58 => ?_)
  show sx_U sr_cl D _ _ _ _ _ _ _ _ _ _ _ _ _ _ _ [(h0, .inr (5, [.int (sx_i 0), .int (sx_i 0), .int (sx_i 0), .ref q8, .int (sx_i 0), .ref q16, .ref q24, .int (sx_i 2), .int (sx_i 5), .int (sx_i 0), .ref q42, .ref q50, .int (sx_i 0), .null, .int (sx_i 0), .null, .null, .int (sx_i 0), .int (sx_i 0), .null, .null])), (q8, .inl (cI, 256, .inl (fun _ => sx_i 0))), (q16, .inl (cI, 8, .inl (fun _ => sx_i 0))), (q24, .inl (cI, 8, .inl (fun _ => sx_i 0))), (q42, .inl (cI, 16, .inl (fun _ => sx_i 0))), (q50, .inl (cI, 16, .inl (fun _ => sx_i 0))), (q58, .inl (cI, 16, .inl (fun _ => sx_i 0)))] _ _ _
  refine su_putF (ref := "StoneRingsModel") (ty := .array .int) (ws2 := [(h0, .inr (5, [.int (sx_i 0), .int (sx_i 0), .int (sx_i 0), .ref q8, .int (sx_i 0), .ref q16, .ref q24, .int (sx_i 2), .int (sx_i 5), .int (sx_i 0), .ref q42, .ref q50, .int (sx_i 0), .ref q58, .int (sx_i 0), .null, .null, .int (sx_i 0), .int (sx_i 0), .null, .null])), (q8, .inl (cI, 256, .inl (fun _ => sx_i 0))), (q16, .inl (cI, 8, .inl (fun _ => sx_i 0))), (q24, .inl (cI, 8, .inl (fun _ => sx_i 0))), (q42, .inl (cI, 16, .inl (fun _ => sx_i 0))), (q50, .inl (cI, 16, .inl (fun _ => sx_i 0))), (q58, .inl (cI, 16, .inl (fun _ => sx_i 0)))]) C 0 13 rfl (rfl : sr_cl[5]? = some ("StoneRingsModel", tt_M, 21)) (by decide) in_M ty_M tyk_M nm_M wd_605 rfl rfl hin rfl (by decide +kernel) rfl rfl (Nat.le_of_ble_eq_true rfl) dd_M_init_60 rfl ?_
  refine su_aload_n C 0 dd_M_init_63 rfl rfl ?_
  refine su_bipush (v := 16) C dd_M_init_64 (by decide +kernel) ?_
  refine su_newI (N0 := 16) C rfl (by decide) w_arrI (Nat.le_of_ble_eq_true rfl) (Nat.le_of_ble_eq_true rfl) dd_M_init_66 (fun q66 => ?_)
  show sx_U sr_cl D _ _ _ _ _ _ _ _ _ _ _ _ _ _ _ [(h0, .inr (5, [.int (sx_i 0), .int (sx_i 0), .int (sx_i 0), .ref q8, .int (sx_i 0), .ref q16, .ref q24, .int (sx_i 2), .int (sx_i 5), .int (sx_i 0), .ref q42, .ref q50, .int (sx_i 0), .ref q58, .int (sx_i 0), .null, .null, .int (sx_i 0), .int (sx_i 0), .null, .null])), (q8, .inl (cI, 256, .inl (fun _ => sx_i 0))), (q16, .inl (cI, 8, .inl (fun _ => sx_i 0))), (q24, .inl (cI, 8, .inl (fun _ => sx_i 0))), (q42, .inl (cI, 16, .inl (fun _ => sx_i 0))), (q50, .inl (cI, 16, .inl (fun _ => sx_i 0))), (q58, .inl (cI, 16, .inl (fun _ => sx_i 0))), (q66, .inl (cI, 16, .inl (fun _ => sx_i 0)))] _ _ _
  refine su_putF (ref := "StoneRingsModel") (ty := .array .int) (ws2 := [(h0, .inr (5, [.int (sx_i 0), .int (sx_i 0), .int (sx_i 0), .ref q8, .int (sx_i 0), .ref q16, .ref q24, .int (sx_i 2), .int (sx_i 5), .int (sx_i 0), .ref q42, .ref q50, .int (sx_i 0), .ref q58, .int (sx_i 0), .ref q66, .null, .int (sx_i 0), .int (sx_i 0), .null, .null])), (q8, .inl (cI, 256, .inl (fun _ => sx_i 0))), (q16, .inl (cI, 8, .inl (fun _ => sx_i 0))), (q24, .inl (cI, 8, .inl (fun _ => sx_i 0))), (q42, .inl (cI, 16, .inl (fun _ => sx_i 0))), (q50, .inl (cI, 16, .inl (fun _ => sx_i 0))), (q58, .inl (cI, 16, .inl (fun _ => sx_i 0))), (q66, .inl (cI, 16, .inl (fun _ => sx_i 0)))]) C 0 15 rfl (rfl : sr_cl[5]? = some ("StoneRingsModel", tt_M, 21)) (by decide) in_M ty_M tyk_M nm_M wd_607 rfl rfl hin rfl (by decide +kernel) rfl rfl (Nat.le_of_ble_eq_true rfl) dd_M_init_68 rfl ?_
  refine su_aload_n C 0 dd_M_init_71 rfl rfl ?_
  refine su_sipush (v := 289) C dd_M_init_72 (by decide +kernel) ?_
  refine su_newI (N0 := 289) C rfl (by decide) w_arrI (Nat.le_of_ble_eq_true rfl) (Nat.le_of_ble_eq_true rfl) dd_M_init_75 (fun q75 => ?_)
  show sx_U sr_cl D _ _ _ _ _ _ _ _ _ _ _ _ _ _ _ [(h0, .inr (5, [.int (sx_i 0), .int (sx_i 0), .int (sx_i 0), .ref q8, .int (sx_i 0), .ref q16, .ref q24, .int (sx_i 2), .int (sx_i 5), .int (sx_i 0), .ref q42, .ref q50, .int (sx_i 0), .ref q58, .int (sx_i 0), .ref q66, .null, .int (sx_i 0), .int (sx_i 0), .null, .null])), (q8, .inl (cI, 256, .inl (fun _ => sx_i 0))), (q16, .inl (cI, 8, .inl (fun _ => sx_i 0))), (q24, .inl (cI, 8, .inl (fun _ => sx_i 0))), (q42, .inl (cI, 16, .inl (fun _ => sx_i 0))), (q50, .inl (cI, 16, .inl (fun _ => sx_i 0))), (q58, .inl (cI, 16, .inl (fun _ => sx_i 0))), (q66, .inl (cI, 16, .inl (fun _ => sx_i 0))), (q75, .inl (cI, 289, .inl (fun _ => sx_i 0)))] _ _ _
  refine su_putF (ref := "StoneRingsModel") (ty := .array .int) (ws2 := [(h0, .inr (5, [.int (sx_i 0), .int (sx_i 0), .int (sx_i 0), .ref q8, .int (sx_i 0), .ref q16, .ref q24, .int (sx_i 2), .int (sx_i 5), .int (sx_i 0), .ref q42, .ref q50, .int (sx_i 0), .ref q58, .int (sx_i 0), .ref q66, .ref q75, .int (sx_i 0), .int (sx_i 0), .null, .null])), (q8, .inl (cI, 256, .inl (fun _ => sx_i 0))), (q16, .inl (cI, 8, .inl (fun _ => sx_i 0))), (q24, .inl (cI, 8, .inl (fun _ => sx_i 0))), (q42, .inl (cI, 16, .inl (fun _ => sx_i 0))), (q50, .inl (cI, 16, .inl (fun _ => sx_i 0))), (q58, .inl (cI, 16, .inl (fun _ => sx_i 0))), (q66, .inl (cI, 16, .inl (fun _ => sx_i 0))), (q75, .inl (cI, 289, .inl (fun _ => sx_i 0)))]) C 0 16 rfl (rfl : sr_cl[5]? = some ("StoneRingsModel", tt_M, 21)) (by decide) in_M ty_M tyk_M nm_M wd_608 rfl rfl hin rfl (by decide +kernel) rfl rfl (Nat.le_of_ble_eq_true rfl) dd_M_init_77 rfl ?_
  refine su_aload_n C 0 dd_M_init_80 rfl rfl ?_
  refine su_bipush (v := 16) C dd_M_init_81 (by decide +kernel) ?_
  refine su_newI (N0 := 16) C rfl (by decide) w_arrI (Nat.le_of_ble_eq_true rfl) (Nat.le_of_ble_eq_true rfl) dd_M_init_83 (fun q83 => ?_)
  show sx_U sr_cl D _ _ _ _ _ _ _ _ _ _ _ _ _ _ _ [(h0, .inr (5, [.int (sx_i 0), .int (sx_i 0), .int (sx_i 0), .ref q8, .int (sx_i 0), .ref q16, .ref q24, .int (sx_i 2), .int (sx_i 5), .int (sx_i 0), .ref q42, .ref q50, .int (sx_i 0), .ref q58, .int (sx_i 0), .ref q66, .ref q75, .int (sx_i 0), .int (sx_i 0), .null, .null])), (q8, .inl (cI, 256, .inl (fun _ => sx_i 0))), (q16, .inl (cI, 8, .inl (fun _ => sx_i 0))), (q24, .inl (cI, 8, .inl (fun _ => sx_i 0))), (q42, .inl (cI, 16, .inl (fun _ => sx_i 0))), (q50, .inl (cI, 16, .inl (fun _ => sx_i 0))), (q58, .inl (cI, 16, .inl (fun _ => sx_i 0))), (q66, .inl (cI, 16, .inl (fun _ => sx_i 0))), (q75, .inl (cI, 289, .inl (fun _ => sx_i 0))), (q83, .inl (cI, 16, .inl (fun _ => sx_i 0)))] _ _ _
  refine su_putF (ref := "StoneRingsModel") (ty := .array .int) (ws2 := [(h0, .inr (5, [.int (sx_i 0), .int (sx_i 0), .int (sx_i 0), .ref q8, .int (sx_i 0), .ref q16, .ref q24, .int (sx_i 2), .int (sx_i 5), .int (sx_i 0), .ref q42, .ref q50, .int (sx_i 0), .ref q58, .int (sx_i 0), .ref q66, .ref q75, .int (sx_i 0), .int (sx_i 0), .ref q83, .null])), (q8, .inl (cI, 256, .inl (fun _ => sx_i 0))), (q16, .inl (cI, 8, .inl (fun _ => sx_i 0))), (q24, .inl (cI, 8, .inl (fun _ => sx_i 0))), (q42, .inl (cI, 16, .inl (fun _ => sx_i 0))), (q50, .inl (cI, 16, .inl (fun _ => sx_i 0))), (q58, .inl (cI, 16, .inl (fun _ => sx_i 0))), (q66, .inl (cI, 16, .inl (fun _ => sx_i 0))), (q75, .inl (cI, 289, .inl (fun _ => sx_i 0))), (q83, .inl (cI, 16, .inl (fun _ => sx_i 0)))]) C 0 19 rfl (rfl : sr_cl[5]? = some ("StoneRingsModel", tt_M, 21)) (by decide) in_M ty_M tyk_M nm_M wd_611 rfl rfl hin rfl (by decide +kernel) rfl rfl (Nat.le_of_ble_eq_true rfl) dd_M_init_85 rfl ?_
  refine su_aload_n C 0 dd_M_init_88 rfl rfl ?_
  refine su_bipush (v := 80) C dd_M_init_89 (by decide +kernel) ?_
  refine su_newI (N0 := 80) C rfl (by decide) w_arrI (Nat.le_of_ble_eq_true rfl) (Nat.le_of_ble_eq_true rfl) dd_M_init_91 (fun q91 => ?_)
  show sx_U sr_cl D _ _ _ _ _ _ _ _ _ _ _ _ _ _ _ [(h0, .inr (5, [.int (sx_i 0), .int (sx_i 0), .int (sx_i 0), .ref q8, .int (sx_i 0), .ref q16, .ref q24, .int (sx_i 2), .int (sx_i 5), .int (sx_i 0), .ref q42, .ref q50, .int (sx_i 0), .ref q58, .int (sx_i 0), .ref q66, .ref q75, .int (sx_i 0), .int (sx_i 0), .ref q83, .null])), (q8, .inl (cI, 256, .inl (fun _ => sx_i 0))), (q16, .inl (cI, 8, .inl (fun _ => sx_i 0))), (q24, .inl (cI, 8, .inl (fun _ => sx_i 0))), (q42, .inl (cI, 16, .inl (fun _ => sx_i 0))), (q50, .inl (cI, 16, .inl (fun _ => sx_i 0))), (q58, .inl (cI, 16, .inl (fun _ => sx_i 0))), (q66, .inl (cI, 16, .inl (fun _ => sx_i 0))), (q75, .inl (cI, 289, .inl (fun _ => sx_i 0))), (q83, .inl (cI, 16, .inl (fun _ => sx_i 0))), (q91, .inl (cI, 80, .inl (fun _ => sx_i 0)))] _ _ _
  refine su_putF (ref := "StoneRingsModel") (ty := .array .int) (ws2 := [(h0, .inr (5, [.int (sx_i 0), .int (sx_i 0), .int (sx_i 0), .ref q8, .int (sx_i 0), .ref q16, .ref q24, .int (sx_i 2), .int (sx_i 5), .int (sx_i 0), .ref q42, .ref q50, .int (sx_i 0), .ref q58, .int (sx_i 0), .ref q66, .ref q75, .int (sx_i 0), .int (sx_i 0), .ref q83, .ref q91])), (q8, .inl (cI, 256, .inl (fun _ => sx_i 0))), (q16, .inl (cI, 8, .inl (fun _ => sx_i 0))), (q24, .inl (cI, 8, .inl (fun _ => sx_i 0))), (q42, .inl (cI, 16, .inl (fun _ => sx_i 0))), (q50, .inl (cI, 16, .inl (fun _ => sx_i 0))), (q58, .inl (cI, 16, .inl (fun _ => sx_i 0))), (q66, .inl (cI, 16, .inl (fun _ => sx_i 0))), (q75, .inl (cI, 289, .inl (fun _ => sx_i 0))), (q83, .inl (cI, 16, .inl (fun _ => sx_i 0))), (q91, .inl (cI, 80, .inl (fun _ => sx_i 0)))]) C 0 20 rfl (rfl : sr_cl[5]? = some ("StoneRingsModel", tt_M, 21)) (by decide) in_M ty_M tyk_M nm_M wd_612 rfl rfl hin rfl (by decide +kernel) rfl rfl (Nat.le_of_ble_eq_true rfl) dd_M_init_93 rfl ?_
  refine su_aload_n C 0 dd_M_init_96 rfl rfl ?_
  refine su_iload_n C 1 dd_M_init_97 rfl rfl ?_
  refine su_iconst C dd_M_init_98 rfl ?_
  suffices K118 : sx_U sr_cl D (va_A [(h0, .inr (5, [.int (sx_i 0), .int (sx_i 0), .int (sx_i 0), .null, .int (sx_i 0), .null, .null, .int (sx_i 0), .int (sx_i 0), .int (sx_i 0), .null, .null, .int (sx_i 0), .null, .int (sx_i 0), .null, .null, .int (sx_i 0), .int (sx_i 0), .null, .null]))] sz) 3 p l e rm_M_init s m [Value.ref h0, Value.int (sx_i a1), Value.int (sx_i a2)].toArray below meth c (MQ below (va_Qv (fun w : va_W => ∃ q8 q16 q24 q42 q50 q58 q66 q75 q83 q91 : Nat, w = [(h0, .inr (5, [.int (sx_i 0), .int (sx_i (sr_near a1)), .int (sx_i (sr_near a2)), .ref q8, .int (sx_i 0), .ref q16, .ref q24, .int (sx_i 2), .int (sx_i 5), .int (sx_i 0), .ref q42, .ref q50, .int (sx_i 0), .ref q58, .int (sx_i 0), .ref q66, .ref q75, .int (sx_i 0), .int (sx_i 0), .ref q83, .ref q91])), (q8, .inl (cI, 256, .inl (fun _ => sx_i 0))), (q16, .inl (cI, 8, .inl (fun _ => sx_i 0))), (q24, .inl (cI, 8, .inl (fun _ => sx_i 0))), (q42, .inl (cI, 16, .inl (fun _ => sx_i 0))), (q50, .inl (cI, 16, .inl (fun _ => sx_i 0))), (q58, .inl (cI, 16, .inl (fun _ => sx_i 0))), (q66, .inl (cI, 16, .inl (fun _ => sx_i 0))), (q75, .inl (cI, 289, .inl (fun _ => sx_i 0))), (q83, .inl (cI, 16, .inl (fun _ => sx_i 0))), (q91, .inl (cI, 80, .inl (fun _ => sx_i 0)))]) (fun w t => va_P D sr_cl w t.heap ∧ va_D (va_A [(h0, .inr (5, [.int (sx_i 0), .int (sx_i 0), .int (sx_i 0), .null, .int (sx_i 0), .null, .null, .int (sx_i 0), .int (sx_i 0), .int (sx_i 0), .null, .null, .int (sx_i 0), .null, .int (sx_i 0), .null, .null, .int (sx_i 0), .int (sx_i 0), .null, .null]))] sz) w) (va_A [(h0, .inr (5, [.int (sx_i 0), .int (sx_i 0), .int (sx_i 0), .null, .int (sx_i 0), .null, .null, .int (sx_i 0), .int (sx_i 0), .int (sx_i 0), .null, .null, .int (sx_i 0), .null, .int (sx_i 0), .null, .null, .int (sx_i 0), .int (sx_i 0), .null, .null]))] sz)) [Value.ref h0, Value.int (sx_i a1), Value.int (sx_i a2)].toArray s 10 721 (va_A [(h0, .inr (5, [.int (sx_i 0), .int (sx_i 0), .int (sx_i 0), .null, .int (sx_i 0), .null, .null, .int (sx_i 0), .int (sx_i 0), .int (sx_i 0), .null, .null, .int (sx_i 0), .null, .int (sx_i 0), .null, .null, .int (sx_i 0), .int (sx_i 0), .null, .null]))] sz)) 10 721 [(h0, .inr (5, [.int (sx_i 0), .int (sx_i 0), .int (sx_i 0), .ref q8, .int (sx_i 0), .ref q16, .ref q24, .int (sx_i 2), .int (sx_i 5), .int (sx_i 0), .ref q42, .ref q50, .int (sx_i 0), .ref q58, .int (sx_i 0), .ref q66, .ref q75, .int (sx_i 0), .int (sx_i 0), .ref q83, .ref q91])), (q8, .inl (cI, 256, .inl (fun _ => sx_i 0))), (q16, .inl (cI, 8, .inl (fun _ => sx_i 0))), (q24, .inl (cI, 8, .inl (fun _ => sx_i 0))), (q42, .inl (cI, 16, .inl (fun _ => sx_i 0))), (q50, .inl (cI, 16, .inl (fun _ => sx_i 0))), (q58, .inl (cI, 16, .inl (fun _ => sx_i 0))), (q66, .inl (cI, 16, .inl (fun _ => sx_i 0))), (q75, .inl (cI, 289, .inl (fun _ => sx_i 0))), (q83, .inl (cI, 16, .inl (fun _ => sx_i 0))), (q91, .inl (cI, 80, .inl (fun _ => sx_i 0)))] 118 [(0, .ref h0), (1, .int (sx_i a1)), (2, .int (sx_i a2))] [.int (sx_i (sr_near a1)), .ref h0] by
    refine su_icmp_ge (tgt := 106) C ha1 ⟨by omega, by omega⟩ dd_M_init_99 (by decide) (fun c1 => ?_) (fun c1 => ?_)
    · refine su_iload_n C 1 dd_M_init_106 rfl rfl ?_
      refine su_bipush (v := 16) C dd_M_init_107 (by decide +kernel) ?_
      refine su_icmp_le (tgt := 117) C ha1 ⟨by omega, by omega⟩ dd_M_init_109 (by decide) (fun c2 => ?_) (fun c2 => ?_)
      · refine su_iload_n C 1 dd_M_init_117 rfl rfl ?_
        have e9 : a1 = sr_near a1 := by unfold sr_near; rw [if_neg (by omega), if_neg (by omega)]
        exact su_top e9 K118
      · refine su_bipush (v := 16) C dd_M_init_112 (by decide +kernel) ?_
        refine su_goto (tgt := 118) C dd_M_init_114 (by decide) ?_
        have e9 : 16 = sr_near a1 := by unfold sr_near; rw [if_neg (by omega), if_pos (by omega)]
        exact su_top e9 K118
    · refine su_iconst C dd_M_init_102 rfl ?_
      refine su_goto (tgt := 118) C dd_M_init_103 (by decide) ?_
      have e9 : 1 = sr_near a1 := by unfold sr_near; rw [if_pos (by omega)]
      exact su_top e9 K118
  refine su_putF (ref := "StoneRingsModel") (ty := .int) (ws2 := [(h0, .inr (5, [.int (sx_i 0), .int (sx_i (sr_near a1)), .int (sx_i 0), .ref q8, .int (sx_i 0), .ref q16, .ref q24, .int (sx_i 2), .int (sx_i 5), .int (sx_i 0), .ref q42, .ref q50, .int (sx_i 0), .ref q58, .int (sx_i 0), .ref q66, .ref q75, .int (sx_i 0), .int (sx_i 0), .ref q83, .ref q91])), (q8, .inl (cI, 256, .inl (fun _ => sx_i 0))), (q16, .inl (cI, 8, .inl (fun _ => sx_i 0))), (q24, .inl (cI, 8, .inl (fun _ => sx_i 0))), (q42, .inl (cI, 16, .inl (fun _ => sx_i 0))), (q50, .inl (cI, 16, .inl (fun _ => sx_i 0))), (q58, .inl (cI, 16, .inl (fun _ => sx_i 0))), (q66, .inl (cI, 16, .inl (fun _ => sx_i 0))), (q75, .inl (cI, 289, .inl (fun _ => sx_i 0))), (q83, .inl (cI, 16, .inl (fun _ => sx_i 0))), (q91, .inl (cI, 80, .inl (fun _ => sx_i 0)))]) C 0 1 rfl (rfl : sr_cl[5]? = some ("StoneRingsModel", tt_M, 21)) (by decide) in_M ty_M tyk_M nm_M wd_593 rfl rfl hin rfl (by decide +kernel) rfl rfl (Nat.le_of_ble_eq_true rfl) dd_M_init_118 rfl ?_
  refine su_aload_n C 0 dd_M_init_121 rfl rfl ?_
  refine su_iload_n C 2 dd_M_init_122 rfl rfl ?_
  refine su_iconst C dd_M_init_123 rfl ?_
  suffices K143 : sx_U sr_cl D (va_A [(h0, .inr (5, [.int (sx_i 0), .int (sx_i 0), .int (sx_i 0), .null, .int (sx_i 0), .null, .null, .int (sx_i 0), .int (sx_i 0), .int (sx_i 0), .null, .null, .int (sx_i 0), .null, .int (sx_i 0), .null, .null, .int (sx_i 0), .int (sx_i 0), .null, .null]))] sz) 3 p l e rm_M_init s m [Value.ref h0, Value.int (sx_i a1), Value.int (sx_i a2)].toArray below meth c (MQ below (va_Qv (fun w : va_W => ∃ q8 q16 q24 q42 q50 q58 q66 q75 q83 q91 : Nat, w = [(h0, .inr (5, [.int (sx_i 0), .int (sx_i (sr_near a1)), .int (sx_i (sr_near a2)), .ref q8, .int (sx_i 0), .ref q16, .ref q24, .int (sx_i 2), .int (sx_i 5), .int (sx_i 0), .ref q42, .ref q50, .int (sx_i 0), .ref q58, .int (sx_i 0), .ref q66, .ref q75, .int (sx_i 0), .int (sx_i 0), .ref q83, .ref q91])), (q8, .inl (cI, 256, .inl (fun _ => sx_i 0))), (q16, .inl (cI, 8, .inl (fun _ => sx_i 0))), (q24, .inl (cI, 8, .inl (fun _ => sx_i 0))), (q42, .inl (cI, 16, .inl (fun _ => sx_i 0))), (q50, .inl (cI, 16, .inl (fun _ => sx_i 0))), (q58, .inl (cI, 16, .inl (fun _ => sx_i 0))), (q66, .inl (cI, 16, .inl (fun _ => sx_i 0))), (q75, .inl (cI, 289, .inl (fun _ => sx_i 0))), (q83, .inl (cI, 16, .inl (fun _ => sx_i 0))), (q91, .inl (cI, 80, .inl (fun _ => sx_i 0)))]) (fun w t => va_P D sr_cl w t.heap ∧ va_D (va_A [(h0, .inr (5, [.int (sx_i 0), .int (sx_i 0), .int (sx_i 0), .null, .int (sx_i 0), .null, .null, .int (sx_i 0), .int (sx_i 0), .int (sx_i 0), .null, .null, .int (sx_i 0), .null, .int (sx_i 0), .null, .null, .int (sx_i 0), .int (sx_i 0), .null, .null]))] sz) w) (va_A [(h0, .inr (5, [.int (sx_i 0), .int (sx_i 0), .int (sx_i 0), .null, .int (sx_i 0), .null, .null, .int (sx_i 0), .int (sx_i 0), .int (sx_i 0), .null, .null, .int (sx_i 0), .null, .int (sx_i 0), .null, .null, .int (sx_i 0), .int (sx_i 0), .null, .null]))] sz)) [Value.ref h0, Value.int (sx_i a1), Value.int (sx_i a2)].toArray s 10 721 (va_A [(h0, .inr (5, [.int (sx_i 0), .int (sx_i 0), .int (sx_i 0), .null, .int (sx_i 0), .null, .null, .int (sx_i 0), .int (sx_i 0), .int (sx_i 0), .null, .null, .int (sx_i 0), .null, .int (sx_i 0), .null, .null, .int (sx_i 0), .int (sx_i 0), .null, .null]))] sz)) 10 721 [(h0, .inr (5, [.int (sx_i 0), .int (sx_i (sr_near a1)), .int (sx_i 0), .ref q8, .int (sx_i 0), .ref q16, .ref q24, .int (sx_i 2), .int (sx_i 5), .int (sx_i 0), .ref q42, .ref q50, .int (sx_i 0), .ref q58, .int (sx_i 0), .ref q66, .ref q75, .int (sx_i 0), .int (sx_i 0), .ref q83, .ref q91])), (q8, .inl (cI, 256, .inl (fun _ => sx_i 0))), (q16, .inl (cI, 8, .inl (fun _ => sx_i 0))), (q24, .inl (cI, 8, .inl (fun _ => sx_i 0))), (q42, .inl (cI, 16, .inl (fun _ => sx_i 0))), (q50, .inl (cI, 16, .inl (fun _ => sx_i 0))), (q58, .inl (cI, 16, .inl (fun _ => sx_i 0))), (q66, .inl (cI, 16, .inl (fun _ => sx_i 0))), (q75, .inl (cI, 289, .inl (fun _ => sx_i 0))), (q83, .inl (cI, 16, .inl (fun _ => sx_i 0))), (q91, .inl (cI, 80, .inl (fun _ => sx_i 0)))] 143 [(0, .ref h0), (1, .int (sx_i a1)), (2, .int (sx_i a2))] [.int (sx_i (sr_near a2)), .ref h0] by
    refine su_icmp_ge (tgt := 131) C ha2 ⟨by omega, by omega⟩ dd_M_init_124 (by decide) (fun c1 => ?_) (fun c1 => ?_)
    · refine su_iload_n C 2 dd_M_init_131 rfl rfl ?_
      refine su_bipush (v := 16) C dd_M_init_132 (by decide +kernel) ?_
      refine su_icmp_le (tgt := 142) C ha2 ⟨by omega, by omega⟩ dd_M_init_134 (by decide) (fun c2 => ?_) (fun c2 => ?_)
      · refine su_iload_n C 2 dd_M_init_142 rfl rfl ?_
        have e9 : a2 = sr_near a2 := by unfold sr_near; rw [if_neg (by omega), if_neg (by omega)]
        exact su_top e9 K143
      · refine su_bipush (v := 16) C dd_M_init_137 (by decide +kernel) ?_
        refine su_goto (tgt := 143) C dd_M_init_139 (by decide) ?_
        have e9 : 16 = sr_near a2 := by unfold sr_near; rw [if_neg (by omega), if_pos (by omega)]
        exact su_top e9 K143
    · refine su_iconst C dd_M_init_127 rfl ?_
      refine su_goto (tgt := 143) C dd_M_init_128 (by decide) ?_
      have e9 : 1 = sr_near a2 := by unfold sr_near; rw [if_pos (by omega)]
      exact su_top e9 K143
  refine su_putF (ref := "StoneRingsModel") (ty := .int) (ws2 := [(h0, .inr (5, [.int (sx_i 0), .int (sx_i (sr_near a1)), .int (sx_i (sr_near a2)), .ref q8, .int (sx_i 0), .ref q16, .ref q24, .int (sx_i 2), .int (sx_i 5), .int (sx_i 0), .ref q42, .ref q50, .int (sx_i 0), .ref q58, .int (sx_i 0), .ref q66, .ref q75, .int (sx_i 0), .int (sx_i 0), .ref q83, .ref q91])), (q8, .inl (cI, 256, .inl (fun _ => sx_i 0))), (q16, .inl (cI, 8, .inl (fun _ => sx_i 0))), (q24, .inl (cI, 8, .inl (fun _ => sx_i 0))), (q42, .inl (cI, 16, .inl (fun _ => sx_i 0))), (q50, .inl (cI, 16, .inl (fun _ => sx_i 0))), (q58, .inl (cI, 16, .inl (fun _ => sx_i 0))), (q66, .inl (cI, 16, .inl (fun _ => sx_i 0))), (q75, .inl (cI, 289, .inl (fun _ => sx_i 0))), (q83, .inl (cI, 16, .inl (fun _ => sx_i 0))), (q91, .inl (cI, 80, .inl (fun _ => sx_i 0)))]) C 0 2 rfl (rfl : sr_cl[5]? = some ("StoneRingsModel", tt_M, 21)) (by decide) in_M ty_M tyk_M nm_M wd_594 rfl rfl hin rfl (by decide +kernel) rfl rfl (Nat.le_of_ble_eq_true rfl) dd_M_init_143 rfl ?_
  exact su_vret C hr hlk (Nat.le_of_ble_eq_true rfl) (Nat.le_of_ble_eq_true rfl) dd_M_init_146 ⟨q8, q16, q24, q42, q50, q58, q66, q75, q83, q91, rfl⟩
def rm_S_init : Room := { frames := 2, cells := 18, slots := 548, locals := 43 }
set_option maxHeartbeats 4000000 in
set_option maxRecDepth 100000 in
theorem sc_S_init {l : Launch} {D : va_G} {cI cJ : ClassId} {h0 : Nat} {a1 a2 : Int} (ha1 : sx_R a1) (ha2 : sx_R a2) (sz : Nat) : su_M l yy_S_init (Cond.code yy_S_init prog_1_method_1_code 3 none :: sr_ts) rm_S_init sr_cl D cI cJ [.ref h0, .int (sx_i a1), .int (sx_i a2)] [(h0, .inr (4, [.null, .null, .null, .null, .null, .null, .null, .int (sx_i 0), .int (sx_i 0), .int (sx_i 0)]))] (fun w : va_W => ∃ q7 q15 q21 p25_0 p25_1 p25_2 q32 p36_0 p36_1 p36_2 q43 p47_0 p47_1 q54 p58_0 p58_1 q80 p92_0 : Nat, w = [(h0, .inr (4, [.ref q80, .ref q7, .ref q15, .ref q21, .ref q32, .ref q43, .ref q54, .int (sx_i 0), .int (sx_i 2), .int (sx_i 5)])), (q7, .inl (cI, 8, .inl (fun _ => sx_i 0))), (q15, .inl (cI, 8, .inl (fun _ => sx_i 0))), (q21, .inr (3, [.ref p25_0, .ref p25_1, .ref p25_2, .int (sx_i 0), .int (sx_i 0)])), (p25_0, .inl (cI, 16, .inl (fun _ => sx_i 0))), (p25_1, .inl (cI, 16, .inl (fun _ => sx_i 0))), (p25_2, .inl (cI, 8, .inl (fun _ => sx_i 0))), (q32, .inr (3, [.ref p36_0, .ref p36_1, .ref p36_2, .int (sx_i 0), .int (sx_i 0)])), (p36_0, .inl (cI, 16, .inl (fun _ => sx_i 0))), (p36_1, .inl (cI, 16, .inl (fun _ => sx_i 0))), (p36_2, .inl (cI, 8, .inl (fun _ => sx_i 0))), (q43, .inr (0, [.ref p47_0, .ref p47_1, .int (sx_i 0), .int (sx_i 0)])), (p47_0, .inl (cI, 81, .inl (fun _ => sx_i 0))), (p47_1, .inl (cI, 8, .inl (fun _ => sx_i 0))), (q54, .inr (2, [.ref p58_1, .ref p58_0, .int (sx_i 0)])), (p58_0, .inl (cI, 4, .inl (fun _ => sx_i 0))), (p58_1, .inl (cI, 80, .inl (fun j => sx_i (if (j : Int) < 80 then -1 else 0)))), (q80, .inr (1, [.int (sx_i (sr_near a1)), .int (sx_i (sr_near a2)), .ref p92_0, .int (sx_i 0), .int (sx_i 0), .int (sx_i 0)])), (p92_0, .inl (cI, 256, .inl (fun _ => sx_i 0)))]) 18 548 sz := by
  refine su_body (by decide +kernel) rfl rfl (Nat.le_of_ble_eq_true rfl) ?_
  intro p e s m below meth c C hr hlk hin
  show sx_U sr_cl D _ _ _ _ _ _ _ _ _ _ _ _ _ _ _ [(h0, .inr (4, [.null, .null, .null, .null, .null, .null, .null, .int (sx_i 0), .int (sx_i 0), .int (sx_i 0)]))] 0 [(0, .ref h0), (1, .int (sx_i a1)), (2, .int (sx_i a2))] []
  refine su_aload_n C 0 dd_S_init_0 rfl rfl ?_
  refine su_obj C wo_S wo_i wo_c (Nat.le_of_ble_eq_true rfl) (Nat.le_of_ble_eq_true rfl) dd_S_init_1 ?_
  refine su_aload_n C 0 dd_S_init_4 rfl rfl ?_
  refine su_bipush (v := 8) C dd_S_init_5 (by decide +kernel) ?_
  refine su_newI (N0 := 8) C rfl (by decide) w_arrI (Nat.le_of_ble_eq_true rfl) (Nat.le_of_ble_eq_true rfl) dd_S_init_7 (fun q7 => ?_)
  show sx_U sr_cl D _ _ _ _ _ _ _ _ _ _ _ _ _ _ _ [(h0, .inr (4, [.null, .null, .null, .null, .null, .null, .null, .int (sx_i 0), .int (sx_i 0), .int (sx_i 0)])), (q7, .inl (cI, 8, .inl (fun _ => sx_i 0)))] _ _ _
  refine su_putF (ref := "StoneRings") (ty := .array .int) (ws2 := [(h0, .inr (4, [.null, .ref q7, .null, .null, .null, .null, .null, .int (sx_i 0), .int (sx_i 0), .int (sx_i 0)])), (q7, .inl (cI, 8, .inl (fun _ => sx_i 0)))]) C 0 1 rfl (rfl : sr_cl[4]? = some ("StoneRings", tt_S, 10)) (by decide) in_S ty_S tyk_S nm_S wd_132 rfl rfl hin rfl (by decide +kernel) rfl rfl (Nat.le_of_ble_eq_true rfl) dd_S_init_9 rfl ?_
  refine su_aload_n C 0 dd_S_init_12 rfl rfl ?_
  refine su_bipush (v := 8) C dd_S_init_13 (by decide +kernel) ?_
  refine su_newI (N0 := 8) C rfl (by decide) w_arrI (Nat.le_of_ble_eq_true rfl) (Nat.le_of_ble_eq_true rfl) dd_S_init_15 (fun q15 => ?_)
  show sx_U sr_cl D _ _ _ _ _ _ _ _ _ _ _ _ _ _ _ [(h0, .inr (4, [.null, .ref q7, .null, .null, .null, .null, .null, .int (sx_i 0), .int (sx_i 0), .int (sx_i 0)])), (q7, .inl (cI, 8, .inl (fun _ => sx_i 0))), (q15, .inl (cI, 8, .inl (fun _ => sx_i 0)))] _ _ _
  refine su_putF (ref := "StoneRings") (ty := .array .int) (ws2 := [(h0, .inr (4, [.null, .ref q7, .ref q15, .null, .null, .null, .null, .int (sx_i 0), .int (sx_i 0), .int (sx_i 0)])), (q7, .inl (cI, 8, .inl (fun _ => sx_i 0))), (q15, .inl (cI, 8, .inl (fun _ => sx_i 0)))]) C 0 2 rfl (rfl : sr_cl[4]? = some ("StoneRings", tt_S, 10)) (by decide) in_S ty_S tyk_S nm_S wd_133 rfl rfl hin rfl (by decide +kernel) rfl rfl (Nat.le_of_ble_eq_true rfl) dd_S_init_17 rfl ?_
  refine su_aload_n C 0 dd_S_init_20 rfl rfl ?_
  refine su_new (fs := [.null, .null, .null, .int (sx_i 0), .int (sx_i 0)]) C (rfl : sr_cl[3]? = some ("StoneRings$Trace", tt_T, 5)) in_T ty_T tyk_T wd_23 wd_24 wd_2 (by intro j hj; rcases (show j = 0 ∨ j = 1 ∨ j = 2 ∨ j = 3 ∨ j = 4 by omega) with rfl | rfl | rfl | rfl | rfl <;> rfl) (Nat.le_of_ble_eq_true rfl) (Nat.le_of_ble_eq_true rfl) dd_S_init_21 (fun q21 => ?_)
  show sx_U sr_cl D _ _ _ _ _ _ _ _ _ _ _ _ _ _ _ [(h0, .inr (4, [.null, .ref q7, .ref q15, .null, .null, .null, .null, .int (sx_i 0), .int (sx_i 0), .int (sx_i 0)])), (q7, .inl (cI, 8, .inl (fun _ => sx_i 0))), (q15, .inl (cI, 8, .inl (fun _ => sx_i 0))), (q21, .inr (3, [.null, .null, .null, .int (sx_i 0), .int (sx_i 0)]))] _ _ _
  refine su_dup C dd_S_init_24 rfl ?_
  refine su_call (wr := [(h0, .inr (4, [.null, .ref q7, .ref q15, .null, .null, .null, .null, .int (sx_i 0), .int (sx_i 0), .int (sx_i 0)])), (q7, .inl (cI, 8, .inl (fun _ => sx_i 0))), (q15, .inl (cI, 8, .inl (fun _ => sx_i 0)))]) C 3 [0, 1, 2] rfl rfl (by decide) (by decide) (fun sz2 => sc_T_init sz2) (fun H locs ls hl hp => va_runIN (As := []) (rest := [.ref q21, .ref h0]) ⟨C.1, C.2.1, C.2.2.1, C.2.2.2.1, C.2.2.2.2.1⟩ (sc_T_init _) ⟨va_cnB 0 C.2.2.2.2.1 (fun w h => sx_good (w := w) wd_27 w h) rfl rfl rfl (C.2.2.2.2.2.2.2 _ (List.mem_of_getElem? (i := 0) rfl)) (C.2.2.2.2.1 _ wd_2) (by decide +kernel) ⟨by decide, by decide⟩, rfl, C.2.2.2.2.1 _ wd_26⟩ hp rfl rfl hl.1 rfl (lv_room (Nat.le_of_ble_eq_true rfl)) dd_S_init_25 ⟨(Nat.le_of_ble_eq_true rfl), (Nat.le_of_ble_eq_true rfl)⟩) (fun w hw => ?_)
  obtain ⟨p25_0, p25_1, p25_2, rfl⟩ := hw
  show sx_U sr_cl D _ _ _ _ _ _ _ _ _ _ _ _ _ _ _ [(h0, .inr (4, [.null, .ref q7, .ref q15, .null, .null, .null, .null, .int (sx_i 0), .int (sx_i 0), .int (sx_i 0)])), (q7, .inl (cI, 8, .inl (fun _ => sx_i 0))), (q15, .inl (cI, 8, .inl (fun _ => sx_i 0))), (q21, .inr (3, [.ref p25_0, .ref p25_1, .ref p25_2, .int (sx_i 0), .int (sx_i 0)])), (p25_0, .inl (cI, 16, .inl (fun _ => sx_i 0))), (p25_1, .inl (cI, 16, .inl (fun _ => sx_i 0))), (p25_2, .inl (cI, 8, .inl (fun _ => sx_i 0)))] _ _ _
  refine su_putF (ref := "StoneRings") (ty := .object "StoneRings$Trace") (ws2 := [(h0, .inr (4, [.null, .ref q7, .ref q15, .ref q21, .null, .null, .null, .int (sx_i 0), .int (sx_i 0), .int (sx_i 0)])), (q7, .inl (cI, 8, .inl (fun _ => sx_i 0))), (q15, .inl (cI, 8, .inl (fun _ => sx_i 0))), (q21, .inr (3, [.ref p25_0, .ref p25_1, .ref p25_2, .int (sx_i 0), .int (sx_i 0)])), (p25_0, .inl (cI, 16, .inl (fun _ => sx_i 0))), (p25_1, .inl (cI, 16, .inl (fun _ => sx_i 0))), (p25_2, .inl (cI, 8, .inl (fun _ => sx_i 0)))]) C 0 3 rfl (rfl : sr_cl[4]? = some ("StoneRings", tt_S, 10)) (by decide) in_S ty_S tyk_S nm_S wd_134 rfl rfl hin rfl (by decide +kernel) rfl rfl (Nat.le_of_ble_eq_true rfl) dd_S_init_28 rfl ?_
  refine su_aload_n C 0 dd_S_init_31 rfl rfl ?_
  refine su_new (fs := [.null, .null, .null, .int (sx_i 0), .int (sx_i 0)]) C (rfl : sr_cl[3]? = some ("StoneRings$Trace", tt_T, 5)) in_T ty_T tyk_T wd_23 wd_24 wd_2 (by intro j hj; rcases (show j = 0 ∨ j = 1 ∨ j = 2 ∨ j = 3 ∨ j = 4 by omega) with rfl | rfl | rfl | rfl | rfl <;> rfl) (Nat.le_of_ble_eq_true rfl) (Nat.le_of_ble_eq_true rfl) dd_S_init_32 (fun q32 => ?_)
  show sx_U sr_cl D _ _ _ _ _ _ _ _ _ _ _ _ _ _ _ [(h0, .inr (4, [.null, .ref q7, .ref q15, .ref q21, .null, .null, .null, .int (sx_i 0), .int (sx_i 0), .int (sx_i 0)])), (q7, .inl (cI, 8, .inl (fun _ => sx_i 0))), (q15, .inl (cI, 8, .inl (fun _ => sx_i 0))), (q21, .inr (3, [.ref p25_0, .ref p25_1, .ref p25_2, .int (sx_i 0), .int (sx_i 0)])), (p25_0, .inl (cI, 16, .inl (fun _ => sx_i 0))), (p25_1, .inl (cI, 16, .inl (fun _ => sx_i 0))), (p25_2, .inl (cI, 8, .inl (fun _ => sx_i 0))), (q32, .inr (3, [.null, .null, .null, .int (sx_i 0), .int (sx_i 0)]))] _ _ _
  refine su_dup C dd_S_init_35 rfl ?_
  refine su_call (wr := [(h0, .inr (4, [.null, .ref q7, .ref q15, .ref q21, .null, .null, .null, .int (sx_i 0), .int (sx_i 0), .int (sx_i 0)])), (q7, .inl (cI, 8, .inl (fun _ => sx_i 0))), (q15, .inl (cI, 8, .inl (fun _ => sx_i 0))), (q21, .inr (3, [.ref p25_0, .ref p25_1, .ref p25_2, .int (sx_i 0), .int (sx_i 0)])), (p25_0, .inl (cI, 16, .inl (fun _ => sx_i 0))), (p25_1, .inl (cI, 16, .inl (fun _ => sx_i 0))), (p25_2, .inl (cI, 8, .inl (fun _ => sx_i 0)))]) C 7 [0, 1, 2, 3, 4, 5, 6] rfl rfl (by decide) (by decide) (fun sz2 => sc_T_init sz2) (fun H locs ls hl hp => va_runIN (As := []) (rest := [.ref q32, .ref h0]) ⟨C.1, C.2.1, C.2.2.1, C.2.2.2.1, C.2.2.2.2.1⟩ (sc_T_init _) ⟨va_cnB 0 C.2.2.2.2.1 (fun w h => sx_good (w := w) wd_27 w h) rfl rfl rfl (C.2.2.2.2.2.2.2 _ (List.mem_of_getElem? (i := 0) rfl)) (C.2.2.2.2.1 _ wd_2) (by decide +kernel) ⟨by decide, by decide⟩, rfl, C.2.2.2.2.1 _ wd_26⟩ hp rfl rfl hl.1 rfl (lv_room (Nat.le_of_ble_eq_true rfl)) dd_S_init_36 ⟨(Nat.le_of_ble_eq_true rfl), (Nat.le_of_ble_eq_true rfl)⟩) (fun w hw => ?_)
  obtain ⟨p36_0, p36_1, p36_2, rfl⟩ := hw
  show sx_U sr_cl D _ _ _ _ _ _ _ _ _ _ _ _ _ _ _ [(h0, .inr (4, [.null, .ref q7, .ref q15, .ref q21, .null, .null, .null, .int (sx_i 0), .int (sx_i 0), .int (sx_i 0)])), (q7, .inl (cI, 8, .inl (fun _ => sx_i 0))), (q15, .inl (cI, 8, .inl (fun _ => sx_i 0))), (q21, .inr (3, [.ref p25_0, .ref p25_1, .ref p25_2, .int (sx_i 0), .int (sx_i 0)])), (p25_0, .inl (cI, 16, .inl (fun _ => sx_i 0))), (p25_1, .inl (cI, 16, .inl (fun _ => sx_i 0))), (p25_2, .inl (cI, 8, .inl (fun _ => sx_i 0))), (q32, .inr (3, [.ref p36_0, .ref p36_1, .ref p36_2, .int (sx_i 0), .int (sx_i 0)])), (p36_0, .inl (cI, 16, .inl (fun _ => sx_i 0))), (p36_1, .inl (cI, 16, .inl (fun _ => sx_i 0))), (p36_2, .inl (cI, 8, .inl (fun _ => sx_i 0)))] _ _ _
  refine su_putF (ref := "StoneRings") (ty := .object "StoneRings$Trace") (ws2 := [(h0, .inr (4, [.null, .ref q7, .ref q15, .ref q21, .ref q32, .null, .null, .int (sx_i 0), .int (sx_i 0), .int (sx_i 0)])), (q7, .inl (cI, 8, .inl (fun _ => sx_i 0))), (q15, .inl (cI, 8, .inl (fun _ => sx_i 0))), (q21, .inr (3, [.ref p25_0, .ref p25_1, .ref p25_2, .int (sx_i 0), .int (sx_i 0)])), (p25_0, .inl (cI, 16, .inl (fun _ => sx_i 0))), (p25_1, .inl (cI, 16, .inl (fun _ => sx_i 0))), (p25_2, .inl (cI, 8, .inl (fun _ => sx_i 0))), (q32, .inr (3, [.ref p36_0, .ref p36_1, .ref p36_2, .int (sx_i 0), .int (sx_i 0)])), (p36_0, .inl (cI, 16, .inl (fun _ => sx_i 0))), (p36_1, .inl (cI, 16, .inl (fun _ => sx_i 0))), (p36_2, .inl (cI, 8, .inl (fun _ => sx_i 0)))]) C 0 4 rfl (rfl : sr_cl[4]? = some ("StoneRings", tt_S, 10)) (by decide) in_S ty_S tyk_S nm_S wd_135 rfl rfl hin rfl (by decide +kernel) rfl rfl (Nat.le_of_ble_eq_true rfl) dd_S_init_39 rfl ?_
  refine su_aload_n C 0 dd_S_init_42 rfl rfl ?_
  refine su_new (fs := [.null, .null, .int (sx_i 0), .int (sx_i 0)]) C (rfl : sr_cl[0]? = some ("StoneRings$Pairing", tt_G, 4)) in_G ty_G tyk_G wd_53 wd_54 wd_3 (by intro j hj; rcases (show j = 0 ∨ j = 1 ∨ j = 2 ∨ j = 3 by omega) with rfl | rfl | rfl | rfl <;> rfl) (Nat.le_of_ble_eq_true rfl) (Nat.le_of_ble_eq_true rfl) dd_S_init_43 (fun q43 => ?_)
  show sx_U sr_cl D _ _ _ _ _ _ _ _ _ _ _ _ _ _ _ [(h0, .inr (4, [.null, .ref q7, .ref q15, .ref q21, .ref q32, .null, .null, .int (sx_i 0), .int (sx_i 0), .int (sx_i 0)])), (q7, .inl (cI, 8, .inl (fun _ => sx_i 0))), (q15, .inl (cI, 8, .inl (fun _ => sx_i 0))), (q21, .inr (3, [.ref p25_0, .ref p25_1, .ref p25_2, .int (sx_i 0), .int (sx_i 0)])), (p25_0, .inl (cI, 16, .inl (fun _ => sx_i 0))), (p25_1, .inl (cI, 16, .inl (fun _ => sx_i 0))), (p25_2, .inl (cI, 8, .inl (fun _ => sx_i 0))), (q32, .inr (3, [.ref p36_0, .ref p36_1, .ref p36_2, .int (sx_i 0), .int (sx_i 0)])), (p36_0, .inl (cI, 16, .inl (fun _ => sx_i 0))), (p36_1, .inl (cI, 16, .inl (fun _ => sx_i 0))), (p36_2, .inl (cI, 8, .inl (fun _ => sx_i 0))), (q43, .inr (0, [.null, .null, .int (sx_i 0), .int (sx_i 0)]))] _ _ _
  refine su_dup C dd_S_init_46 rfl ?_
  refine su_call (wr := [(h0, .inr (4, [.null, .ref q7, .ref q15, .ref q21, .ref q32, .null, .null, .int (sx_i 0), .int (sx_i 0), .int (sx_i 0)])), (q7, .inl (cI, 8, .inl (fun _ => sx_i 0))), (q15, .inl (cI, 8, .inl (fun _ => sx_i 0))), (q21, .inr (3, [.ref p25_0, .ref p25_1, .ref p25_2, .int (sx_i 0), .int (sx_i 0)])), (p25_0, .inl (cI, 16, .inl (fun _ => sx_i 0))), (p25_1, .inl (cI, 16, .inl (fun _ => sx_i 0))), (p25_2, .inl (cI, 8, .inl (fun _ => sx_i 0))), (q32, .inr (3, [.ref p36_0, .ref p36_1, .ref p36_2, .int (sx_i 0), .int (sx_i 0)])), (p36_0, .inl (cI, 16, .inl (fun _ => sx_i 0))), (p36_1, .inl (cI, 16, .inl (fun _ => sx_i 0))), (p36_2, .inl (cI, 8, .inl (fun _ => sx_i 0)))]) C 11 [0, 1, 2, 3, 4, 5, 6, 7, 8, 9, 10] rfl rfl (by decide) (by decide) (fun sz2 => sc_G_init sz2) (fun H locs ls hl hp => va_runIN (As := []) (rest := [.ref q43, .ref h0]) ⟨C.1, C.2.1, C.2.2.1, C.2.2.2.1, C.2.2.2.2.1⟩ (sc_G_init _) ⟨va_cnB 0 C.2.2.2.2.1 (fun w h => sx_good (w := w) wd_57 w h) rfl rfl rfl (C.2.2.2.2.2.2.2 _ (List.mem_of_getElem? (i := 1) rfl)) (C.2.2.2.2.1 _ wd_3) (by decide +kernel) ⟨by decide, by decide⟩, rfl, C.2.2.2.2.1 _ wd_56⟩ hp rfl rfl hl.1 rfl (lv_room (Nat.le_of_ble_eq_true rfl)) dd_S_init_47 ⟨(Nat.le_of_ble_eq_true rfl), (Nat.le_of_ble_eq_true rfl)⟩) (fun w hw => ?_)
  obtain ⟨p47_0, p47_1, rfl⟩ := hw
  show sx_U sr_cl D _ _ _ _ _ _ _ _ _ _ _ _ _ _ _ [(h0, .inr (4, [.null, .ref q7, .ref q15, .ref q21, .ref q32, .null, .null, .int (sx_i 0), .int (sx_i 0), .int (sx_i 0)])), (q7, .inl (cI, 8, .inl (fun _ => sx_i 0))), (q15, .inl (cI, 8, .inl (fun _ => sx_i 0))), (q21, .inr (3, [.ref p25_0, .ref p25_1, .ref p25_2, .int (sx_i 0), .int (sx_i 0)])), (p25_0, .inl (cI, 16, .inl (fun _ => sx_i 0))), (p25_1, .inl (cI, 16, .inl (fun _ => sx_i 0))), (p25_2, .inl (cI, 8, .inl (fun _ => sx_i 0))), (q32, .inr (3, [.ref p36_0, .ref p36_1, .ref p36_2, .int (sx_i 0), .int (sx_i 0)])), (p36_0, .inl (cI, 16, .inl (fun _ => sx_i 0))), (p36_1, .inl (cI, 16, .inl (fun _ => sx_i 0))), (p36_2, .inl (cI, 8, .inl (fun _ => sx_i 0))), (q43, .inr (0, [.ref p47_0, .ref p47_1, .int (sx_i 0), .int (sx_i 0)])), (p47_0, .inl (cI, 81, .inl (fun _ => sx_i 0))), (p47_1, .inl (cI, 8, .inl (fun _ => sx_i 0)))] _ _ _
  refine su_putF (ref := "StoneRings") (ty := .object "StoneRings$Pairing") (ws2 := [(h0, .inr (4, [.null, .ref q7, .ref q15, .ref q21, .ref q32, .ref q43, .null, .int (sx_i 0), .int (sx_i 0), .int (sx_i 0)])), (q7, .inl (cI, 8, .inl (fun _ => sx_i 0))), (q15, .inl (cI, 8, .inl (fun _ => sx_i 0))), (q21, .inr (3, [.ref p25_0, .ref p25_1, .ref p25_2, .int (sx_i 0), .int (sx_i 0)])), (p25_0, .inl (cI, 16, .inl (fun _ => sx_i 0))), (p25_1, .inl (cI, 16, .inl (fun _ => sx_i 0))), (p25_2, .inl (cI, 8, .inl (fun _ => sx_i 0))), (q32, .inr (3, [.ref p36_0, .ref p36_1, .ref p36_2, .int (sx_i 0), .int (sx_i 0)])), (p36_0, .inl (cI, 16, .inl (fun _ => sx_i 0))), (p36_1, .inl (cI, 16, .inl (fun _ => sx_i 0))), (p36_2, .inl (cI, 8, .inl (fun _ => sx_i 0))), (q43, .inr (0, [.ref p47_0, .ref p47_1, .int (sx_i 0), .int (sx_i 0)])), (p47_0, .inl (cI, 81, .inl (fun _ => sx_i 0))), (p47_1, .inl (cI, 8, .inl (fun _ => sx_i 0)))]) C 0 5 rfl (rfl : sr_cl[4]? = some ("StoneRings", tt_S, 10)) (by decide) in_S ty_S tyk_S nm_S wd_136 rfl rfl hin rfl (by decide +kernel) rfl rfl (Nat.le_of_ble_eq_true rfl) dd_S_init_50 rfl ?_
  refine su_aload_n C 0 dd_S_init_53 rfl rfl ?_
  refine su_new (fs := [.null, .null, .int (sx_i 0)]) C (rfl : sr_cl[2]? = some ("StoneRings$Readings", tt_D, 3)) in_D ty_D tyk_D wd_75 wd_76 wd_4 (by intro j hj; rcases (show j = 0 ∨ j = 1 ∨ j = 2 by omega) with rfl | rfl | rfl <;> rfl) (Nat.le_of_ble_eq_true rfl) (Nat.le_of_ble_eq_true rfl) dd_S_init_54 (fun q54 => ?_)
  show sx_U sr_cl D _ _ _ _ _ _ _ _ _ _ _ _ _ _ _ [(h0, .inr (4, [.null, .ref q7, .ref q15, .ref q21, .ref q32, .ref q43, .null, .int (sx_i 0), .int (sx_i 0), .int (sx_i 0)])), (q7, .inl (cI, 8, .inl (fun _ => sx_i 0))), (q15, .inl (cI, 8, .inl (fun _ => sx_i 0))), (q21, .inr (3, [.ref p25_0, .ref p25_1, .ref p25_2, .int (sx_i 0), .int (sx_i 0)])), (p25_0, .inl (cI, 16, .inl (fun _ => sx_i 0))), (p25_1, .inl (cI, 16, .inl (fun _ => sx_i 0))), (p25_2, .inl (cI, 8, .inl (fun _ => sx_i 0))), (q32, .inr (3, [.ref p36_0, .ref p36_1, .ref p36_2, .int (sx_i 0), .int (sx_i 0)])), (p36_0, .inl (cI, 16, .inl (fun _ => sx_i 0))), (p36_1, .inl (cI, 16, .inl (fun _ => sx_i 0))), (p36_2, .inl (cI, 8, .inl (fun _ => sx_i 0))), (q43, .inr (0, [.ref p47_0, .ref p47_1, .int (sx_i 0), .int (sx_i 0)])), (p47_0, .inl (cI, 81, .inl (fun _ => sx_i 0))), (p47_1, .inl (cI, 8, .inl (fun _ => sx_i 0))), (q54, .inr (2, [.null, .null, .int (sx_i 0)]))] _ _ _
  refine su_dup C dd_S_init_57 rfl ?_
  refine su_call (wr := [(h0, .inr (4, [.null, .ref q7, .ref q15, .ref q21, .ref q32, .ref q43, .null, .int (sx_i 0), .int (sx_i 0), .int (sx_i 0)])), (q7, .inl (cI, 8, .inl (fun _ => sx_i 0))), (q15, .inl (cI, 8, .inl (fun _ => sx_i 0))), (q21, .inr (3, [.ref p25_0, .ref p25_1, .ref p25_2, .int (sx_i 0), .int (sx_i 0)])), (p25_0, .inl (cI, 16, .inl (fun _ => sx_i 0))), (p25_1, .inl (cI, 16, .inl (fun _ => sx_i 0))), (p25_2, .inl (cI, 8, .inl (fun _ => sx_i 0))), (q32, .inr (3, [.ref p36_0, .ref p36_1, .ref p36_2, .int (sx_i 0), .int (sx_i 0)])), (p36_0, .inl (cI, 16, .inl (fun _ => sx_i 0))), (p36_1, .inl (cI, 16, .inl (fun _ => sx_i 0))), (p36_2, .inl (cI, 8, .inl (fun _ => sx_i 0))), (q43, .inr (0, [.ref p47_0, .ref p47_1, .int (sx_i 0), .int (sx_i 0)])), (p47_0, .inl (cI, 81, .inl (fun _ => sx_i 0))), (p47_1, .inl (cI, 8, .inl (fun _ => sx_i 0)))]) C 14 [0, 1, 2, 3, 4, 5, 6, 7, 8, 9, 10, 11, 12, 13] rfl rfl (by decide) (by decide) (fun sz2 => sc_D_init sz2) (fun H locs ls hl hp => va_runI (As := []) (rest := [.ref q54, .ref h0]) ⟨C.1, C.2.1, C.2.2.1, C.2.2.2.1, C.2.2.2.2.1⟩ (sc_D_init _) (cwI 0 C.2.2.2.2.1 (fun w h => sx_good (w := w) wd_79 w h) rfl rfl rfl (C.2.2.2.2.1 _ wd_4) (C.2.2.2.2.1 _ wd_77) (C.2.2.2.2.1 _ wd_78) rfl (by decide +kernel) ⟨by decide, by decide⟩) hp rfl rfl hl.1 rfl (lv_room (Nat.le_of_ble_eq_true rfl)) dd_S_init_58 ⟨(Nat.le_of_ble_eq_true rfl), (Nat.le_of_ble_eq_true rfl)⟩) (fun w hw => ?_)
  obtain ⟨p58_0, p58_1, rfl⟩ := hw
  show sx_U sr_cl D _ _ _ _ _ _ _ _ _ _ _ _ _ _ _ [(h0, .inr (4, [.null, .ref q7, .ref q15, .ref q21, .ref q32, .ref q43, .null, .int (sx_i 0), .int (sx_i 0), .int (sx_i 0)])), (q7, .inl (cI, 8, .inl (fun _ => sx_i 0))), (q15, .inl (cI, 8, .inl (fun _ => sx_i 0))), (q21, .inr (3, [.ref p25_0, .ref p25_1, .ref p25_2, .int (sx_i 0), .int (sx_i 0)])), (p25_0, .inl (cI, 16, .inl (fun _ => sx_i 0))), (p25_1, .inl (cI, 16, .inl (fun _ => sx_i 0))), (p25_2, .inl (cI, 8, .inl (fun _ => sx_i 0))), (q32, .inr (3, [.ref p36_0, .ref p36_1, .ref p36_2, .int (sx_i 0), .int (sx_i 0)])), (p36_0, .inl (cI, 16, .inl (fun _ => sx_i 0))), (p36_1, .inl (cI, 16, .inl (fun _ => sx_i 0))), (p36_2, .inl (cI, 8, .inl (fun _ => sx_i 0))), (q43, .inr (0, [.ref p47_0, .ref p47_1, .int (sx_i 0), .int (sx_i 0)])), (p47_0, .inl (cI, 81, .inl (fun _ => sx_i 0))), (p47_1, .inl (cI, 8, .inl (fun _ => sx_i 0))), (q54, .inr (2, [.ref p58_1, .ref p58_0, .int (sx_i 0)])), (p58_0, .inl (cI, 4, .inl (fun _ => sx_i 0))), (p58_1, .inl (cI, 80, .inl (fun j => sx_i (if (j : Int) < 80 then -1 else 0))))] _ _ _
  refine su_putF (ref := "StoneRings") (ty := .object "StoneRings$Readings") (ws2 := [(h0, .inr (4, [.null, .ref q7, .ref q15, .ref q21, .ref q32, .ref q43, .ref q54, .int (sx_i 0), .int (sx_i 0), .int (sx_i 0)])), (q7, .inl (cI, 8, .inl (fun _ => sx_i 0))), (q15, .inl (cI, 8, .inl (fun _ => sx_i 0))), (q21, .inr (3, [.ref p25_0, .ref p25_1, .ref p25_2, .int (sx_i 0), .int (sx_i 0)])), (p25_0, .inl (cI, 16, .inl (fun _ => sx_i 0))), (p25_1, .inl (cI, 16, .inl (fun _ => sx_i 0))), (p25_2, .inl (cI, 8, .inl (fun _ => sx_i 0))), (q32, .inr (3, [.ref p36_0, .ref p36_1, .ref p36_2, .int (sx_i 0), .int (sx_i 0)])), (p36_0, .inl (cI, 16, .inl (fun _ => sx_i 0))), (p36_1, .inl (cI, 16, .inl (fun _ => sx_i 0))), (p36_2, .inl (cI, 8, .inl (fun _ => sx_i 0))), (q43, .inr (0, [.ref p47_0, .ref p47_1, .int (sx_i 0), .int (sx_i 0)])), (p47_0, .inl (cI, 81, .inl (fun _ => sx_i 0))), (p47_1, .inl (cI, 8, .inl (fun _ => sx_i 0))), (q54, .inr (2, [.ref p58_1, .ref p58_0, .int (sx_i 0)])), (p58_0, .inl (cI, 4, .inl (fun _ => sx_i 0))), (p58_1, .inl (cI, 80, .inl (fun j => sx_i (if (j : Int) < 80 then -1 else 0))))]) C 0 6 rfl (rfl : sr_cl[4]? = some ("StoneRings", tt_S, 10)) (by decide) in_S ty_S tyk_S nm_S wd_137 rfl rfl hin rfl (by decide +kernel) rfl rfl (Nat.le_of_ble_eq_true rfl) dd_S_init_61 rfl ?_
  refine su_aload_n C 0 dd_S_init_64 rfl rfl ?_
  refine su_iconst C dd_S_init_65 rfl ?_
  refine su_put (ref := "StoneRings") (ty := .int) (ws2 := [(h0, .inr (4, [.null, .ref q7, .ref q15, .ref q21, .ref q32, .ref q43, .ref q54, .int (sx_i 0), .int (sx_i 0), .int (sx_i 0)])), (q7, .inl (cI, 8, .inl (fun _ => sx_i 0))), (q15, .inl (cI, 8, .inl (fun _ => sx_i 0))), (q21, .inr (3, [.ref p25_0, .ref p25_1, .ref p25_2, .int (sx_i 0), .int (sx_i 0)])), (p25_0, .inl (cI, 16, .inl (fun _ => sx_i 0))), (p25_1, .inl (cI, 16, .inl (fun _ => sx_i 0))), (p25_2, .inl (cI, 8, .inl (fun _ => sx_i 0))), (q32, .inr (3, [.ref p36_0, .ref p36_1, .ref p36_2, .int (sx_i 0), .int (sx_i 0)])), (p36_0, .inl (cI, 16, .inl (fun _ => sx_i 0))), (p36_1, .inl (cI, 16, .inl (fun _ => sx_i 0))), (p36_2, .inl (cI, 8, .inl (fun _ => sx_i 0))), (q43, .inr (0, [.ref p47_0, .ref p47_1, .int (sx_i 0), .int (sx_i 0)])), (p47_0, .inl (cI, 81, .inl (fun _ => sx_i 0))), (p47_1, .inl (cI, 8, .inl (fun _ => sx_i 0))), (q54, .inr (2, [.ref p58_1, .ref p58_0, .int (sx_i 0)])), (p58_0, .inl (cI, 4, .inl (fun _ => sx_i 0))), (p58_1, .inl (cI, 80, .inl (fun j => sx_i (if (j : Int) < 80 then -1 else 0))))]) C 0 7 rfl (rfl : sr_cl[4]? = some ("StoneRings", tt_S, 10)) (by decide) in_S ty_S tyk_S nm_S wd_138 rfl rfl (by decide +kernel) rfl rfl (Nat.le_of_ble_eq_true rfl) dd_S_init_66 rfl ?_
  refine su_aload_n C 0 dd_S_init_69 rfl rfl ?_
  refine su_iconst C dd_S_init_70 rfl ?_
  refine su_put (ref := "StoneRings") (ty := .int) (ws2 := [(h0, .inr (4, [.null, .ref q7, .ref q15, .ref q21, .ref q32, .ref q43, .ref q54, .int (sx_i 0), .int (sx_i 2), .int (sx_i 0)])), (q7, .inl (cI, 8, .inl (fun _ => sx_i 0))), (q15, .inl (cI, 8, .inl (fun _ => sx_i 0))), (q21, .inr (3, [.ref p25_0, .ref p25_1, .ref p25_2, .int (sx_i 0), .int (sx_i 0)])), (p25_0, .inl (cI, 16, .inl (fun _ => sx_i 0))), (p25_1, .inl (cI, 16, .inl (fun _ => sx_i 0))), (p25_2, .inl (cI, 8, .inl (fun _ => sx_i 0))), (q32, .inr (3, [.ref p36_0, .ref p36_1, .ref p36_2, .int (sx_i 0), .int (sx_i 0)])), (p36_0, .inl (cI, 16, .inl (fun _ => sx_i 0))), (p36_1, .inl (cI, 16, .inl (fun _ => sx_i 0))), (p36_2, .inl (cI, 8, .inl (fun _ => sx_i 0))), (q43, .inr (0, [.ref p47_0, .ref p47_1, .int (sx_i 0), .int (sx_i 0)])), (p47_0, .inl (cI, 81, .inl (fun _ => sx_i 0))), (p47_1, .inl (cI, 8, .inl (fun _ => sx_i 0))), (q54, .inr (2, [.ref p58_1, .ref p58_0, .int (sx_i 0)])), (p58_0, .inl (cI, 4, .inl (fun _ => sx_i 0))), (p58_1, .inl (cI, 80, .inl (fun j => sx_i (if (j : Int) < 80 then -1 else 0))))]) C 0 8 rfl (rfl : sr_cl[4]? = some ("StoneRings", tt_S, 10)) (by decide) in_S ty_S tyk_S nm_S wd_139 rfl rfl (by decide +kernel) rfl rfl (Nat.le_of_ble_eq_true rfl) dd_S_init_71 rfl ?_
  refine su_aload_n C 0 dd_S_init_74 rfl rfl ?_
  refine su_iconst C dd_S_init_75 rfl ?_
  refine su_put (ref := "StoneRings") (ty := .int) (ws2 := [(h0, .inr (4, [.null, .ref q7, .ref q15, .ref q21, .ref q32, .ref q43, .ref q54, .int (sx_i 0), .int (sx_i 2), .int (sx_i 5)])), (q7, .inl (cI, 8, .inl (fun _ => sx_i 0))), (q15, .inl (cI, 8, .inl (fun _ => sx_i 0))), (q21, .inr (3, [.ref p25_0, .ref p25_1, .ref p25_2, .int (sx_i 0), .int (sx_i 0)])), (p25_0, .inl (cI, 16, .inl (fun _ => sx_i 0))), (p25_1, .inl (cI, 16, .inl (fun _ => sx_i 0))), (p25_2, .inl (cI, 8, .inl (fun _ => sx_i 0))), (q32, .inr (3, [.ref p36_0, .ref p36_1, .ref p36_2, .int (sx_i 0), .int (sx_i 0)])), (p36_0, .inl (cI, 16, .inl (fun _ => sx_i 0))), (p36_1, .inl (cI, 16, .inl (fun _ => sx_i 0))), (p36_2, .inl (cI, 8, .inl (fun _ => sx_i 0))), (q43, .inr (0, [.ref p47_0, .ref p47_1, .int (sx_i 0), .int (sx_i 0)])), (p47_0, .inl (cI, 81, .inl (fun _ => sx_i 0))), (p47_1, .inl (cI, 8, .inl (fun _ => sx_i 0))), (q54, .inr (2, [.ref p58_1, .ref p58_0, .int (sx_i 0)])), (p58_0, .inl (cI, 4, .inl (fun _ => sx_i 0))), (p58_1, .inl (cI, 80, .inl (fun j => sx_i (if (j : Int) < 80 then -1 else 0))))]) C 0 9 rfl (rfl : sr_cl[4]? = some ("StoneRings", tt_S, 10)) (by decide) in_S ty_S tyk_S nm_S wd_140 rfl rfl (by decide +kernel) rfl rfl (Nat.le_of_ble_eq_true rfl) dd_S_init_76 rfl ?_
  refine su_aload_n C 0 dd_S_init_79 rfl rfl ?_
  refine su_new (fs := [.int (sx_i 0), .int (sx_i 0), .null, .int (sx_i 0), .int (sx_i 0), .int (sx_i 0)]) C (rfl : sr_cl[1]? = some ("StoneRings$Picture", tt_P, 6)) in_P ty_P tyk_P wd_95 wd_96 wd_6 (by intro j hj; rcases (show j = 0 ∨ j = 1 ∨ j = 2 ∨ j = 3 ∨ j = 4 ∨ j = 5 by omega) with rfl | rfl | rfl | rfl | rfl | rfl <;> rfl) (Nat.le_of_ble_eq_true rfl) (Nat.le_of_ble_eq_true rfl) dd_S_init_80 (fun q80 => ?_)
  show sx_U sr_cl D _ _ _ _ _ _ _ _ _ _ _ _ _ _ _ [(h0, .inr (4, [.null, .ref q7, .ref q15, .ref q21, .ref q32, .ref q43, .ref q54, .int (sx_i 0), .int (sx_i 2), .int (sx_i 5)])), (q7, .inl (cI, 8, .inl (fun _ => sx_i 0))), (q15, .inl (cI, 8, .inl (fun _ => sx_i 0))), (q21, .inr (3, [.ref p25_0, .ref p25_1, .ref p25_2, .int (sx_i 0), .int (sx_i 0)])), (p25_0, .inl (cI, 16, .inl (fun _ => sx_i 0))), (p25_1, .inl (cI, 16, .inl (fun _ => sx_i 0))), (p25_2, .inl (cI, 8, .inl (fun _ => sx_i 0))), (q32, .inr (3, [.ref p36_0, .ref p36_1, .ref p36_2, .int (sx_i 0), .int (sx_i 0)])), (p36_0, .inl (cI, 16, .inl (fun _ => sx_i 0))), (p36_1, .inl (cI, 16, .inl (fun _ => sx_i 0))), (p36_2, .inl (cI, 8, .inl (fun _ => sx_i 0))), (q43, .inr (0, [.ref p47_0, .ref p47_1, .int (sx_i 0), .int (sx_i 0)])), (p47_0, .inl (cI, 81, .inl (fun _ => sx_i 0))), (p47_1, .inl (cI, 8, .inl (fun _ => sx_i 0))), (q54, .inr (2, [.ref p58_1, .ref p58_0, .int (sx_i 0)])), (p58_0, .inl (cI, 4, .inl (fun _ => sx_i 0))), (p58_1, .inl (cI, 80, .inl (fun j => sx_i (if (j : Int) < 80 then -1 else 0)))), (q80, .inr (1, [.int (sx_i 0), .int (sx_i 0), .null, .int (sx_i 0), .int (sx_i 0), .int (sx_i 0)]))] _ _ _
  refine su_dup C dd_S_init_83 rfl ?_
  refine su_iload_n C 1 dd_S_init_84 rfl rfl ?_
  refine su_stat (As := [.int (sx_i a1)]) (rest := [.ref q80, .ref q80, .ref h0]) C (sc_near ha1) (sx_cwS (n := 1) C.2.2.2.2.1 wd_99 wd_97 wd_98 wd_1 rfl rfl (by decide +kernel) ⟨by decide, by decide⟩) (fun H locs hS => ⟨fun a U g mk q => q, fun U hU hW => ⟨rfl, trivial⟩⟩) rfl rfl (Nat.le_of_ble_eq_true rfl) dd_S_init_85 ⟨(Nat.le_of_ble_eq_true rfl), (Nat.le_of_ble_eq_true rfl)⟩ ?_
  refine su_iload_n C 2 dd_S_init_88 rfl rfl ?_
  refine su_stat (As := [.int (sx_i a2)]) (rest := [.int (sx_i (sr_near a1)), .ref q80, .ref q80, .ref h0]) C (sc_near ha2) (sx_cwS (n := 1) C.2.2.2.2.1 wd_99 wd_97 wd_98 wd_1 rfl rfl (by decide +kernel) ⟨by decide, by decide⟩) (fun H locs hS => ⟨fun a U g mk q => q, fun U hU hW => ⟨rfl, trivial⟩⟩) rfl rfl (Nat.le_of_ble_eq_true rfl) dd_S_init_89 ⟨(Nat.le_of_ble_eq_true rfl), (Nat.le_of_ble_eq_true rfl)⟩ ?_
  refine su_call (wr := [(h0, .inr (4, [.null, .ref q7, .ref q15, .ref q21, .ref q32, .ref q43, .ref q54, .int (sx_i 0), .int (sx_i 2), .int (sx_i 5)])), (q7, .inl (cI, 8, .inl (fun _ => sx_i 0))), (q15, .inl (cI, 8, .inl (fun _ => sx_i 0))), (q21, .inr (3, [.ref p25_0, .ref p25_1, .ref p25_2, .int (sx_i 0), .int (sx_i 0)])), (p25_0, .inl (cI, 16, .inl (fun _ => sx_i 0))), (p25_1, .inl (cI, 16, .inl (fun _ => sx_i 0))), (p25_2, .inl (cI, 8, .inl (fun _ => sx_i 0))), (q32, .inr (3, [.ref p36_0, .ref p36_1, .ref p36_2, .int (sx_i 0), .int (sx_i 0)])), (p36_0, .inl (cI, 16, .inl (fun _ => sx_i 0))), (p36_1, .inl (cI, 16, .inl (fun _ => sx_i 0))), (p36_2, .inl (cI, 8, .inl (fun _ => sx_i 0))), (q43, .inr (0, [.ref p47_0, .ref p47_1, .int (sx_i 0), .int (sx_i 0)])), (p47_0, .inl (cI, 81, .inl (fun _ => sx_i 0))), (p47_1, .inl (cI, 8, .inl (fun _ => sx_i 0))), (q54, .inr (2, [.ref p58_1, .ref p58_0, .int (sx_i 0)])), (p58_0, .inl (cI, 4, .inl (fun _ => sx_i 0))), (p58_1, .inl (cI, 80, .inl (fun j => sx_i (if (j : Int) < 80 then -1 else 0))))]) C 17 [0, 1, 2, 3, 4, 5, 6, 7, 8, 9, 10, 11, 12, 13, 14, 15, 16] rfl rfl (by decide) (by decide) (fun sz2 => sc_P_init sz2) (fun H locs ls hl hp => va_runI (As := [.int (sx_i (sr_near a1)), .int (sx_i (sr_near a2))]) (rest := [.ref q80, .ref h0]) ⟨C.1, C.2.1, C.2.2.1, C.2.2.2.1, C.2.2.2.2.1⟩ (sc_P_init _) (cwI 2 C.2.2.2.2.1 (fun w h => sx_good (w := w) wd_108 w h) rfl rfl rfl (C.2.2.2.2.1 _ wd_6) (C.2.2.2.2.1 _ wd_106) (C.2.2.2.2.1 _ wd_107) rfl (by decide +kernel) ⟨by decide, by decide⟩) hp rfl rfl hl.1 rfl (lv_room (Nat.le_of_ble_eq_true rfl)) dd_S_init_92 ⟨(Nat.le_of_ble_eq_true rfl), (Nat.le_of_ble_eq_true rfl)⟩) (fun w hw => ?_)
  obtain ⟨p92_0, rfl⟩ := hw
  show sx_U sr_cl D _ _ _ _ _ _ _ _ _ _ _ _ _ _ _ [(h0, .inr (4, [.null, .ref q7, .ref q15, .ref q21, .ref q32, .ref q43, .ref q54, .int (sx_i 0), .int (sx_i 2), .int (sx_i 5)])), (q7, .inl (cI, 8, .inl (fun _ => sx_i 0))), (q15, .inl (cI, 8, .inl (fun _ => sx_i 0))), (q21, .inr (3, [.ref p25_0, .ref p25_1, .ref p25_2, .int (sx_i 0), .int (sx_i 0)])), (p25_0, .inl (cI, 16, .inl (fun _ => sx_i 0))), (p25_1, .inl (cI, 16, .inl (fun _ => sx_i 0))), (p25_2, .inl (cI, 8, .inl (fun _ => sx_i 0))), (q32, .inr (3, [.ref p36_0, .ref p36_1, .ref p36_2, .int (sx_i 0), .int (sx_i 0)])), (p36_0, .inl (cI, 16, .inl (fun _ => sx_i 0))), (p36_1, .inl (cI, 16, .inl (fun _ => sx_i 0))), (p36_2, .inl (cI, 8, .inl (fun _ => sx_i 0))), (q43, .inr (0, [.ref p47_0, .ref p47_1, .int (sx_i 0), .int (sx_i 0)])), (p47_0, .inl (cI, 81, .inl (fun _ => sx_i 0))), (p47_1, .inl (cI, 8, .inl (fun _ => sx_i 0))), (q54, .inr (2, [.ref p58_1, .ref p58_0, .int (sx_i 0)])), (p58_0, .inl (cI, 4, .inl (fun _ => sx_i 0))), (p58_1, .inl (cI, 80, .inl (fun j => sx_i (if (j : Int) < 80 then -1 else 0)))), (q80, .inr (1, [.int (sx_i (sr_near a1)), .int (sx_i (sr_near a2)), .ref p92_0, .int (sx_i 0), .int (sx_i 0), .int (sx_i 0)])), (p92_0, .inl (cI, 256, .inl (fun _ => sx_i 0)))] _ _ _
  refine su_putF (ref := "StoneRings") (ty := .object "StoneRings$Picture") (ws2 := [(h0, .inr (4, [.ref q80, .ref q7, .ref q15, .ref q21, .ref q32, .ref q43, .ref q54, .int (sx_i 0), .int (sx_i 2), .int (sx_i 5)])), (q7, .inl (cI, 8, .inl (fun _ => sx_i 0))), (q15, .inl (cI, 8, .inl (fun _ => sx_i 0))), (q21, .inr (3, [.ref p25_0, .ref p25_1, .ref p25_2, .int (sx_i 0), .int (sx_i 0)])), (p25_0, .inl (cI, 16, .inl (fun _ => sx_i 0))), (p25_1, .inl (cI, 16, .inl (fun _ => sx_i 0))), (p25_2, .inl (cI, 8, .inl (fun _ => sx_i 0))), (q32, .inr (3, [.ref p36_0, .ref p36_1, .ref p36_2, .int (sx_i 0), .int (sx_i 0)])), (p36_0, .inl (cI, 16, .inl (fun _ => sx_i 0))), (p36_1, .inl (cI, 16, .inl (fun _ => sx_i 0))), (p36_2, .inl (cI, 8, .inl (fun _ => sx_i 0))), (q43, .inr (0, [.ref p47_0, .ref p47_1, .int (sx_i 0), .int (sx_i 0)])), (p47_0, .inl (cI, 81, .inl (fun _ => sx_i 0))), (p47_1, .inl (cI, 8, .inl (fun _ => sx_i 0))), (q54, .inr (2, [.ref p58_1, .ref p58_0, .int (sx_i 0)])), (p58_0, .inl (cI, 4, .inl (fun _ => sx_i 0))), (p58_1, .inl (cI, 80, .inl (fun j => sx_i (if (j : Int) < 80 then -1 else 0)))), (q80, .inr (1, [.int (sx_i (sr_near a1)), .int (sx_i (sr_near a2)), .ref p92_0, .int (sx_i 0), .int (sx_i 0), .int (sx_i 0)])), (p92_0, .inl (cI, 256, .inl (fun _ => sx_i 0)))]) C 0 0 rfl (rfl : sr_cl[4]? = some ("StoneRings", tt_S, 10)) (by decide) in_S ty_S tyk_S nm_S wd_131 rfl rfl hin rfl (by decide +kernel) rfl rfl (Nat.le_of_ble_eq_true rfl) dd_S_init_95 rfl ?_
  exact su_vret C hr hlk (Nat.le_of_ble_eq_true rfl) (Nat.le_of_ble_eq_true rfl) dd_S_init_98 ⟨q7, q15, q21, p25_0, p25_1, p25_2, q32, p36_0, p36_1, p36_2, q43, p47_0, p47_1, q54, p58_0, p58_1, q80, p92_0, rfl⟩
end
