theorem dd_D_of_0 : decode prog_4_method_2_code 0 = .ok (.aload_n 0, 1) := by decide +kernel
theorem dd_D_of_1 : decode prog_4_method_2_code 1 = .ok (.getfield 9, 3) := by decide +kernel
theorem dd_D_of_4 : decode prog_4_method_2_code 4 = .ok (.iload_n 1, 1) := by decide +kernel
theorem dd_D_of_5 : decode prog_4_method_2_code 5 = .ok (.bipush 20, 2) := by decide +kernel
theorem dd_D_of_7 : decode prog_4_method_2_code 7 = .ok (.imul, 1) := by decide +kernel
theorem dd_D_of_8 : decode prog_4_method_2_code 8 = .ok (.iload_n 2, 1) := by decide +kernel
theorem dd_D_of_9 : decode prog_4_method_2_code 9 = .ok (.iadd, 1) := by decide +kernel
theorem dd_D_of_10 : decode prog_4_method_2_code 10 = .ok (.iaload, 1) := by decide +kernel
theorem dd_D_of_11 : decode prog_4_method_2_code 11 = .ok (.ireturn, 1) := by decide +kernel
theorem dd_D_votesFor_0 : decode prog_4_method_10_code 0 = .ok (.iconst 0, 1) := by decide +kernel
theorem dd_D_votesFor_1 : decode prog_4_method_10_code 1 = .ok (.istore_n 3, 1) := by decide +kernel
theorem dd_D_votesFor_2 : decode prog_4_method_10_code 2 = .ok (.iconst 0, 1) := by decide +kernel
theorem dd_D_votesFor_3 : decode prog_4_method_10_code 3 = .ok (.istore 4, 2) := by decide +kernel
theorem dd_D_votesFor_5 : decode prog_4_method_10_code 5 = .ok (.iload 4, 2) := by decide +kernel
theorem dd_D_votesFor_7 : decode prog_4_method_10_code 7 = .ok (.iconst 4, 1) := by decide +kernel
theorem dd_D_votesFor_8 : decode prog_4_method_10_code 8 = .ok (.if_icmp .ge 23, 3) := by decide +kernel
theorem dd_D_votesFor_11 : decode prog_4_method_10_code 11 = .ok (.aload_n 0, 1) := by decide +kernel
theorem dd_D_votesFor_12 : decode prog_4_method_10_code 12 = .ok (.iload 4, 2) := by decide +kernel
theorem dd_D_votesFor_14 : decode prog_4_method_10_code 14 = .ok (.iload_n 1, 1) := by decide +kernel
theorem dd_D_votesFor_15 : decode prog_4_method_10_code 15 = .ok (.invokevirtual 28, 3) := by decide +kernel
theorem dd_D_votesFor_18 : decode prog_4_method_10_code 18 = .ok (.iload_n 2, 1) := by decide +kernel
theorem dd_D_votesFor_19 : decode prog_4_method_10_code 19 = .ok (.if_icmp .ne 6, 3) := by decide +kernel
theorem dd_D_votesFor_22 : decode prog_4_method_10_code 22 = .ok (.iinc 3 1, 3) := by decide +kernel
theorem dd_D_votesFor_25 : decode prog_4_method_10_code 25 = .ok (.iinc 4 1, 3) := by decide +kernel
theorem dd_D_votesFor_28 : decode prog_4_method_10_code 28 = .ok (.goto (-23), 3) := by decide +kernel
theorem dd_D_votesFor_31 : decode prog_4_method_10_code 31 = .ok (.iload_n 3, 1) := by decide +kernel
theorem dd_D_votesFor_32 : decode prog_4_method_10_code 32 = .ok (.ireturn, 1) := by decide +kernel
theorem dd_D_mostTold_0 : decode prog_4_method_9_code 0 = .ok (.iconst (-1), 1) := by decide +kernel
theorem dd_D_mostTold_1 : decode prog_4_method_9_code 1 = .ok (.istore_n 2, 1) := by decide +kernel
theorem dd_D_mostTold_2 : decode prog_4_method_9_code 2 = .ok (.iconst 0, 1) := by decide +kernel
theorem dd_D_mostTold_3 : decode prog_4_method_9_code 3 = .ok (.istore_n 3, 1) := by decide +kernel
theorem dd_D_mostTold_4 : decode prog_4_method_9_code 4 = .ok (.iconst 0, 1) := by decide +kernel
theorem dd_D_mostTold_5 : decode prog_4_method_9_code 5 = .ok (.istore 4, 2) := by decide +kernel
theorem dd_D_mostTold_7 : decode prog_4_method_9_code 7 = .ok (.iload 4, 2) := by decide +kernel
theorem dd_D_mostTold_9 : decode prog_4_method_9_code 9 = .ok (.iconst 4, 1) := by decide +kernel
theorem dd_D_mostTold_10 : decode prog_4_method_9_code 10 = .ok (.if_icmp .ge 66, 3) := by decide +kernel
theorem dd_D_mostTold_13 : decode prog_4_method_9_code 13 = .ok (.aload_n 0, 1) := by decide +kernel
theorem dd_D_mostTold_14 : decode prog_4_method_9_code 14 = .ok (.iload 4, 2) := by decide +kernel
theorem dd_D_mostTold_16 : decode prog_4_method_9_code 16 = .ok (.iload_n 1, 1) := by decide +kernel
theorem dd_D_mostTold_17 : decode prog_4_method_9_code 17 = .ok (.invokevirtual 28, 3) := by decide +kernel
theorem dd_D_mostTold_20 : decode prog_4_method_9_code 20 = .ok (.istore 5, 2) := by decide +kernel
theorem dd_D_mostTold_22 : decode prog_4_method_9_code 22 = .ok (.iload 5, 2) := by decide +kernel
theorem dd_D_mostTold_24 : decode prog_4_method_9_code 24 = .ok (.iconst (-1), 1) := by decide +kernel
theorem dd_D_mostTold_25 : decode prog_4_method_9_code 25 = .ok (.if_icmp .ne 7, 3) := by decide +kernel
theorem dd_D_mostTold_28 : decode prog_4_method_9_code 28 = .ok (.iconst 0, 1) := by decide +kernel
theorem dd_D_mostTold_29 : decode prog_4_method_9_code 29 = .ok (.goto 10, 3) := by decide +kernel
theorem dd_D_mostTold_32 : decode prog_4_method_9_code 32 = .ok (.aload_n 0, 1) := by decide +kernel
theorem dd_D_mostTold_33 : decode prog_4_method_9_code 33 = .ok (.iload_n 1, 1) := by decide +kernel
theorem dd_D_mostTold_34 : decode prog_4_method_9_code 34 = .ok (.iload 5, 2) := by decide +kernel
theorem dd_D_mostTold_36 : decode prog_4_method_9_code 36 = .ok (.invokevirtual 40, 3) := by decide +kernel
theorem dd_D_mostTold_39 : decode prog_4_method_9_code 39 = .ok (.istore 6, 2) := by decide +kernel
theorem dd_D_mostTold_41 : decode prog_4_method_9_code 41 = .ok (.iload 6, 2) := by decide +kernel
theorem dd_D_mostTold_43 : decode prog_4_method_9_code 43 = .ok (.iload_n 3, 1) := by decide +kernel
theorem dd_D_mostTold_44 : decode prog_4_method_9_code 44 = .ok (.if_icmp .gt 20, 3) := by decide +kernel
theorem dd_D_mostTold_47 : decode prog_4_method_9_code 47 = .ok (.iload 6, 2) := by decide +kernel
theorem dd_D_mostTold_49 : decode prog_4_method_9_code 49 = .ok (.ifCond .le 21, 3) := by decide +kernel
theorem dd_D_mostTold_52 : decode prog_4_method_9_code 52 = .ok (.iload 6, 2) := by decide +kernel
theorem dd_D_mostTold_54 : decode prog_4_method_9_code 54 = .ok (.iload_n 3, 1) := by decide +kernel
theorem dd_D_mostTold_55 : decode prog_4_method_9_code 55 = .ok (.if_icmp .ne 15, 3) := by decide +kernel
theorem dd_D_mostTold_58 : decode prog_4_method_9_code 58 = .ok (.iload 5, 2) := by decide +kernel
theorem dd_D_mostTold_60 : decode prog_4_method_9_code 60 = .ok (.iload_n 2, 1) := by decide +kernel
theorem dd_D_mostTold_61 : decode prog_4_method_9_code 61 = .ok (.if_icmp .ge 9, 3) := by decide +kernel
theorem dd_D_mostTold_64 : decode prog_4_method_9_code 64 = .ok (.iload 5, 2) := by decide +kernel
theorem dd_D_mostTold_66 : decode prog_4_method_9_code 66 = .ok (.istore_n 2, 1) := by decide +kernel
theorem dd_D_mostTold_67 : decode prog_4_method_9_code 67 = .ok (.iload 6, 2) := by decide +kernel
theorem dd_D_mostTold_69 : decode prog_4_method_9_code 69 = .ok (.istore_n 3, 1) := by decide +kernel
theorem dd_D_mostTold_70 : decode prog_4_method_9_code 70 = .ok (.iinc 4 1, 3) := by decide +kernel
theorem dd_D_mostTold_73 : decode prog_4_method_9_code 73 = .ok (.goto (-66), 3) := by decide +kernel
theorem dd_D_mostTold_76 : decode prog_4_method_9_code 76 = .ok (.iload_n 2, 1) := by decide +kernel
theorem dd_D_mostTold_77 : decode prog_4_method_9_code 77 = .ok (.ireturn, 1) := by decide +kernel
theorem dd_D_stonesWithCounts_0 : decode prog_4_method_14_code 0 = .ok (.iconst 0, 1) := by decide +kernel
theorem dd_D_stonesWithCounts_1 : decode prog_4_method_14_code 1 = .ok (.istore_n 1, 1) := by decide +kernel
theorem dd_D_stonesWithCounts_2 : decode prog_4_method_14_code 2 = .ok (.iconst 0, 1) := by decide +kernel
theorem dd_D_stonesWithCounts_3 : decode prog_4_method_14_code 3 = .ok (.istore_n 2, 1) := by decide +kernel
theorem dd_D_stonesWithCounts_4 : decode prog_4_method_14_code 4 = .ok (.iload_n 2, 1) := by decide +kernel
theorem dd_D_stonesWithCounts_5 : decode prog_4_method_14_code 5 = .ok (.bipush 20, 2) := by decide +kernel
theorem dd_D_stonesWithCounts_7 : decode prog_4_method_14_code 7 = .ok (.if_icmp .ge 21, 3) := by decide +kernel
theorem dd_D_stonesWithCounts_10 : decode prog_4_method_14_code 10 = .ok (.aload_n 0, 1) := by decide +kernel
theorem dd_D_stonesWithCounts_11 : decode prog_4_method_14_code 11 = .ok (.iload_n 2, 1) := by decide +kernel
theorem dd_D_stonesWithCounts_12 : decode prog_4_method_14_code 12 = .ok (.invokevirtual 43, 3) := by decide +kernel
theorem dd_D_stonesWithCounts_15 : decode prog_4_method_14_code 15 = .ok (.iconst (-1), 1) := by decide +kernel
theorem dd_D_stonesWithCounts_16 : decode prog_4_method_14_code 16 = .ok (.if_icmp .eq 6, 3) := by decide +kernel
theorem dd_D_stonesWithCounts_19 : decode prog_4_method_14_code 19 = .ok (.iinc 1 1, 3) := by decide +kernel
theorem dd_D_stonesWithCounts_22 : decode prog_4_method_14_code 22 = .ok (.iinc 2 1, 3) := by decide +kernel
theorem dd_D_stonesWithCounts_25 : decode prog_4_method_14_code 25 = .ok (.goto (-21), 3) := by decide +kernel
theorem dd_D_stonesWithCounts_28 : decode prog_4_method_14_code 28 = .ok (.iload_n 1, 1) := by decide +kernel
theorem dd_D_stonesWithCounts_29 : decode prog_4_method_14_code 29 = .ok (.ireturn, 1) := by decide +kernel
theorem dd_S_count_0 : decode prog_1_method_23_code 0 = .ok (.iload_n 1, 1) := by decide +kernel
theorem dd_S_count_1 : decode prog_1_method_23_code 1 = .ok (.tableswitch 60 0 3 #[31, 36, 44, 52], 31) := by decide +kernel
theorem dd_S_count_32 : decode prog_1_method_23_code 32 = .ok (.aload_n 0, 1) := by decide +kernel
theorem dd_S_count_33 : decode prog_1_method_23_code 33 = .ok (.getfield 40, 3) := by decide +kernel
theorem dd_S_count_36 : decode prog_1_method_23_code 36 = .ok (.ireturn, 1) := by decide +kernel
theorem dd_S_count_37 : decode prog_1_method_23_code 37 = .ok (.aload_n 0, 1) := by decide +kernel
theorem dd_S_count_38 : decode prog_1_method_23_code 38 = .ok (.getfield 36, 3) := by decide +kernel
theorem dd_S_count_41 : decode prog_1_method_23_code 41 = .ok (.invokevirtual 195, 3) := by decide +kernel
theorem dd_S_count_44 : decode prog_1_method_23_code 44 = .ok (.ireturn, 1) := by decide +kernel
theorem dd_S_count_45 : decode prog_1_method_23_code 45 = .ok (.aload_n 0, 1) := by decide +kernel
theorem dd_S_count_46 : decode prog_1_method_23_code 46 = .ok (.getfield 36, 3) := by decide +kernel
theorem dd_S_count_49 : decode prog_1_method_23_code 49 = .ok (.getfield 198, 3) := by decide +kernel
theorem dd_S_count_52 : decode prog_1_method_23_code 52 = .ok (.ireturn, 1) := by decide +kernel
theorem dd_S_count_53 : decode prog_1_method_23_code 53 = .ok (.aload_n 0, 1) := by decide +kernel
theorem dd_S_count_54 : decode prog_1_method_23_code 54 = .ok (.getfield 59, 3) := by decide +kernel
theorem dd_S_count_57 : decode prog_1_method_23_code 57 = .ok (.getfield 199, 3) := by decide +kernel
theorem dd_S_count_60 : decode prog_1_method_23_code 60 = .ok (.ireturn, 1) := by decide +kernel
theorem dd_S_count_61 : decode prog_1_method_23_code 61 = .ok (.iconst (-1), 1) := by decide +kernel
theorem dd_S_count_62 : decode prog_1_method_23_code 62 = .ok (.ireturn, 1) := by decide +kernel
theorem dd_P_holds_0 : decode prog_3_method_2_code 0 = .ok (.iload_n 1, 1) := by decide +kernel
theorem dd_P_holds_1 : decode prog_3_method_2_code 1 = .ok (.ifCond .lt 27, 3) := by decide +kernel
theorem dd_P_holds_4 : decode prog_3_method_2_code 4 = .ok (.iload_n 1, 1) := by decide +kernel
theorem dd_P_holds_5 : decode prog_3_method_2_code 5 = .ok (.aload_n 0, 1) := by decide +kernel
theorem dd_P_holds_6 : decode prog_3_method_2_code 6 = .ok (.getfield 21, 3) := by decide +kernel
theorem dd_P_holds_9 : decode prog_3_method_2_code 9 = .ok (.if_icmp .ge 19, 3) := by decide +kernel
theorem dd_P_holds_12 : decode prog_3_method_2_code 12 = .ok (.iload_n 2, 1) := by decide +kernel
theorem dd_P_holds_13 : decode prog_3_method_2_code 13 = .ok (.ifCond .lt 15, 3) := by decide +kernel
theorem dd_P_holds_16 : decode prog_3_method_2_code 16 = .ok (.iload_n 2, 1) := by decide +kernel
theorem dd_P_holds_17 : decode prog_3_method_2_code 17 = .ok (.aload_n 0, 1) := by decide +kernel
theorem dd_P_holds_18 : decode prog_3_method_2_code 18 = .ok (.getfield 24, 3) := by decide +kernel
theorem dd_P_holds_21 : decode prog_3_method_2_code 21 = .ok (.if_icmp .ge 7, 3) := by decide +kernel
theorem dd_P_holds_24 : decode prog_3_method_2_code 24 = .ok (.iconst 1, 1) := by decide +kernel
theorem dd_P_holds_25 : decode prog_3_method_2_code 25 = .ok (.goto 4, 3) := by decide +kernel
theorem dd_P_holds_28 : decode prog_3_method_2_code 28 = .ok (.iconst 0, 1) := by decide +kernel
theorem dd_P_holds_29 : decode prog_3_method_2_code 29 = .ok (.ireturn, 1) := by decide +kernel
theorem dd_S_needNumber_0 : decode prog_1_method_26_code 0 = .ok (.iload_n 0, 1) := by decide +kernel
theorem dd_S_needNumber_1 : decode prog_1_method_26_code 1 = .ok (.iload_n 1, 1) := by decide +kernel
theorem dd_S_needNumber_2 : decode prog_1_method_26_code 2 = .ok (.if_icmp .lt 8, 3) := by decide +kernel
theorem dd_S_needNumber_5 : decode prog_1_method_26_code 5 = .ok (.iload_n 0, 1) := by decide +kernel
theorem dd_S_needNumber_6 : decode prog_1_method_26_code 6 = .ok (.iload_n 2, 1) := by decide +kernel
theorem dd_S_needNumber_7 : decode prog_1_method_26_code 7 = .ok (.if_icmp .le 13, 3) := by decide +kernel
theorem dd_S_needNumber_10 : decode prog_1_method_26_code 10 = .ok (.new 92, 3) := by decide +kernel
theorem dd_S_needNumber_13 : decode prog_1_method_26_code 13 = .ok (.dup, 1) := by decide +kernel
theorem dd_S_needNumber_14 : decode prog_1_method_26_code 14 = .ok (.ldc 214, 2) := by decide +kernel
theorem dd_S_needNumber_16 : decode prog_1_method_26_code 16 = .ok (.invokespecial 96, 3) := by decide +kernel
theorem dd_S_needNumber_19 : decode prog_1_method_26_code 19 = .ok (.athrow, 1) := by decide +kernel
theorem dd_S_needNumber_20 : decode prog_1_method_26_code 20 = .ok (.return_, 1) := by decide +kernel
theorem dd_P_at_0 : decode prog_3_method_3_code 0 = .ok (.aload_n 0, 1) := by decide +kernel
theorem dd_P_at_1 : decode prog_3_method_3_code 1 = .ok (.iload_n 1, 1) := by decide +kernel
theorem dd_P_at_2 : decode prog_3_method_3_code 2 = .ok (.iload_n 2, 1) := by decide +kernel
theorem dd_P_at_3 : decode prog_3_method_3_code 3 = .ok (.invokevirtual 31, 3) := by decide +kernel
theorem dd_P_at_6 : decode prog_3_method_3_code 6 = .ok (.ifCond .eq 17, 3) := by decide +kernel
theorem dd_P_at_9 : decode prog_3_method_3_code 9 = .ok (.aload_n 0, 1) := by decide +kernel
theorem dd_P_at_10 : decode prog_3_method_3_code 10 = .ok (.getfield 27, 3) := by decide +kernel
theorem dd_P_at_13 : decode prog_3_method_3_code 13 = .ok (.iload_n 2, 1) := by decide +kernel
theorem dd_P_at_14 : decode prog_3_method_3_code 14 = .ok (.bipush 16, 2) := by decide +kernel
theorem dd_P_at_16 : decode prog_3_method_3_code 16 = .ok (.imul, 1) := by decide +kernel
theorem dd_P_at_17 : decode prog_3_method_3_code 17 = .ok (.iload_n 1, 1) := by decide +kernel
theorem dd_P_at_18 : decode prog_3_method_3_code 18 = .ok (.iadd, 1) := by decide +kernel
theorem dd_P_at_19 : decode prog_3_method_3_code 19 = .ok (.iaload, 1) := by decide +kernel
theorem dd_P_at_20 : decode prog_3_method_3_code 20 = .ok (.goto 4, 3) := by decide +kernel
theorem dd_P_at_23 : decode prog_3_method_3_code 23 = .ok (.iconst 0, 1) := by decide +kernel
theorem dd_P_at_24 : decode prog_3_method_3_code 24 = .ok (.ireturn, 1) := by decide +kernel
theorem dd_P_put_0 : decode prog_3_method_4_code 0 = .ok (.iload_n 3, 1) := by decide +kernel
theorem dd_P_put_1 : decode prog_3_method_4_code 1 = .ok (.aload_n 0, 1) := by decide +kernel
theorem dd_P_put_2 : decode prog_3_method_4_code 2 = .ok (.iload_n 1, 1) := by decide +kernel
theorem dd_P_put_3 : decode prog_3_method_4_code 3 = .ok (.iload_n 2, 1) := by decide +kernel
theorem dd_P_put_4 : decode prog_3_method_4_code 4 = .ok (.invokevirtual 35, 3) := by decide +kernel
theorem dd_P_put_7 : decode prog_3_method_4_code 7 = .ok (.isub, 1) := by decide +kernel
theorem dd_P_put_8 : decode prog_3_method_4_code 8 = .ok (.istore 4, 2) := by decide +kernel
theorem dd_P_put_10 : decode prog_3_method_4_code 10 = .ok (.iload 4, 2) := by decide +kernel
theorem dd_P_put_12 : decode prog_3_method_4_code 12 = .ok (.ifCond .eq 12, 3) := by decide +kernel
theorem dd_P_put_15 : decode prog_3_method_4_code 15 = .ok (.aload_n 0, 1) := by decide +kernel
theorem dd_P_put_16 : decode prog_3_method_4_code 16 = .ok (.iload_n 1, 1) := by decide +kernel
theorem dd_P_put_17 : decode prog_3_method_4_code 17 = .ok (.iload_n 2, 1) := by decide +kernel
theorem dd_P_put_18 : decode prog_3_method_4_code 18 = .ok (.invokevirtual 31, 3) := by decide +kernel
theorem dd_P_put_21 : decode prog_3_method_4_code 21 = .ok (.ifCond .ne 5, 3) := by decide +kernel
theorem dd_P_put_24 : decode prog_3_method_4_code 24 = .ok (.iconst 0, 1) := by decide +kernel
theorem dd_P_put_25 : decode prog_3_method_4_code 25 = .ok (.ireturn, 1) := by decide +kernel
theorem dd_P_put_26 : decode prog_3_method_4_code 26 = .ok (.aload_n 0, 1) := by decide +kernel
theorem dd_P_put_27 : decode prog_3_method_4_code 27 = .ok (.getfield 27, 3) := by decide +kernel
theorem dd_P_put_30 : decode prog_3_method_4_code 30 = .ok (.iload_n 2, 1) := by decide +kernel
theorem dd_P_put_31 : decode prog_3_method_4_code 31 = .ok (.bipush 16, 2) := by decide +kernel
theorem dd_P_put_33 : decode prog_3_method_4_code 33 = .ok (.imul, 1) := by decide +kernel
theorem dd_P_put_34 : decode prog_3_method_4_code 34 = .ok (.iload_n 1, 1) := by decide +kernel
theorem dd_P_put_35 : decode prog_3_method_4_code 35 = .ok (.iadd, 1) := by decide +kernel
theorem dd_P_put_36 : decode prog_3_method_4_code 36 = .ok (.iload_n 3, 1) := by decide +kernel
theorem dd_P_put_37 : decode prog_3_method_4_code 37 = .ok (.iastore, 1) := by decide +kernel
theorem dd_P_put_38 : decode prog_3_method_4_code 38 = .ok (.aload_n 0, 1) := by decide +kernel
theorem dd_P_put_39 : decode prog_3_method_4_code 39 = .ok (.dup, 1) := by decide +kernel
theorem dd_P_put_40 : decode prog_3_method_4_code 40 = .ok (.getfield 9, 3) := by decide +kernel
theorem dd_P_put_43 : decode prog_3_method_4_code 43 = .ok (.iload 4, 2) := by decide +kernel
theorem dd_P_put_45 : decode prog_3_method_4_code 45 = .ok (.iadd, 1) := by decide +kernel
theorem dd_P_put_46 : decode prog_3_method_4_code 46 = .ok (.putfield 9, 3) := by decide +kernel
theorem dd_P_put_49 : decode prog_3_method_4_code 49 = .ok (.aload_n 0, 1) := by decide +kernel
theorem dd_P_put_50 : decode prog_3_method_4_code 50 = .ok (.dup, 1) := by decide +kernel
theorem dd_P_put_51 : decode prog_3_method_4_code 51 = .ok (.getfield 15, 3) := by decide +kernel
theorem dd_P_put_54 : decode prog_3_method_4_code 54 = .ok (.iload_n 1, 1) := by decide +kernel
theorem dd_P_put_55 : decode prog_3_method_4_code 55 = .ok (.iload 4, 2) := by decide +kernel
theorem dd_P_put_57 : decode prog_3_method_4_code 57 = .ok (.imul, 1) := by decide +kernel
theorem dd_P_put_58 : decode prog_3_method_4_code 58 = .ok (.iadd, 1) := by decide +kernel
theorem dd_P_put_59 : decode prog_3_method_4_code 59 = .ok (.putfield 15, 3) := by decide +kernel
theorem dd_P_put_62 : decode prog_3_method_4_code 62 = .ok (.aload_n 0, 1) := by decide +kernel
theorem dd_P_put_63 : decode prog_3_method_4_code 63 = .ok (.dup, 1) := by decide +kernel
theorem dd_P_put_64 : decode prog_3_method_4_code 64 = .ok (.getfield 18, 3) := by decide +kernel
theorem dd_P_put_67 : decode prog_3_method_4_code 67 = .ok (.iload_n 2, 1) := by decide +kernel
theorem dd_P_put_68 : decode prog_3_method_4_code 68 = .ok (.iload 4, 2) := by decide +kernel
theorem dd_P_put_70 : decode prog_3_method_4_code 70 = .ok (.imul, 1) := by decide +kernel
theorem dd_P_put_71 : decode prog_3_method_4_code 71 = .ok (.iadd, 1) := by decide +kernel
theorem dd_P_put_72 : decode prog_3_method_4_code 72 = .ok (.putfield 18, 3) := by decide +kernel
theorem dd_P_put_75 : decode prog_3_method_4_code 75 = .ok (.iconst 1, 1) := by decide +kernel
theorem dd_P_put_76 : decode prog_3_method_4_code 76 = .ok (.ireturn, 1) := by decide +kernel
theorem dd_S_pixel_0 : decode prog_1_method_2_code 0 = .ok (.aload_n 0, 1) := by decide +kernel
theorem dd_S_pixel_1 : decode prog_1_method_2_code 1 = .ok (.getfield 59, 3) := by decide +kernel
theorem dd_S_pixel_4 : decode prog_1_method_2_code 4 = .ok (.iload_n 1, 1) := by decide +kernel
theorem dd_S_pixel_5 : decode prog_1_method_2_code 5 = .ok (.iload_n 2, 1) := by decide +kernel
theorem dd_S_pixel_6 : decode prog_1_method_2_code 6 = .ok (.invokevirtual 63, 3) := by decide +kernel
theorem dd_S_pixel_9 : decode prog_1_method_2_code 9 = .ok (.ifCond .ne 13, 3) := by decide +kernel
theorem dd_S_pixel_12 : decode prog_1_method_2_code 12 = .ok (.new 67, 3) := by decide +kernel
theorem dd_S_pixel_15 : decode prog_1_method_2_code 15 = .ok (.dup, 1) := by decide +kernel
theorem dd_S_pixel_16 : decode prog_1_method_2_code 16 = .ok (.ldc 69, 2) := by decide +kernel
theorem dd_S_pixel_18 : decode prog_1_method_2_code 18 = .ok (.invokespecial 71, 3) := by decide +kernel
theorem dd_S_pixel_21 : decode prog_1_method_2_code 21 = .ok (.athrow, 1) := by decide +kernel
theorem dd_S_pixel_22 : decode prog_1_method_2_code 22 = .ok (.iload_n 3, 1) := by decide +kernel
theorem dd_S_pixel_23 : decode prog_1_method_2_code 23 = .ok (.iconst 0, 1) := by decide +kernel
theorem dd_S_pixel_24 : decode prog_1_method_2_code 24 = .ok (.sipush 255, 3) := by decide +kernel
theorem dd_S_pixel_27 : decode prog_1_method_2_code 27 = .ok (.invokestatic 74, 3) := by decide +kernel
theorem dd_S_pixel_30 : decode prog_1_method_2_code 30 = .ok (.aload_n 0, 1) := by decide +kernel
theorem dd_S_pixel_31 : decode prog_1_method_2_code 31 = .ok (.getfield 59, 3) := by decide +kernel
theorem dd_S_pixel_34 : decode prog_1_method_2_code 34 = .ok (.iload_n 1, 1) := by decide +kernel
theorem dd_S_pixel_35 : decode prog_1_method_2_code 35 = .ok (.iload_n 2, 1) := by decide +kernel
theorem dd_S_pixel_36 : decode prog_1_method_2_code 36 = .ok (.iload_n 3, 1) := by decide +kernel
theorem dd_S_pixel_37 : decode prog_1_method_2_code 37 = .ok (.invokevirtual 78, 3) := by decide +kernel
theorem dd_S_pixel_40 : decode prog_1_method_2_code 40 = .ok (.ireturn, 1) := by decide +kernel
theorem dd_S_needPlace_0 : decode prog_1_method_25_code 0 = .ok (.iload_n 0, 1) := by decide +kernel
theorem dd_S_needPlace_1 : decode prog_1_method_25_code 1 = .ok (.ifCond .lt 8, 3) := by decide +kernel
theorem dd_S_needPlace_4 : decode prog_1_method_25_code 4 = .ok (.iload_n 0, 1) := by decide +kernel
theorem dd_S_needPlace_5 : decode prog_1_method_25_code 5 = .ok (.iload_n 1, 1) := by decide +kernel
theorem dd_S_needPlace_6 : decode prog_1_method_25_code 6 = .ok (.if_icmp .lt 13, 3) := by decide +kernel
theorem dd_S_needPlace_9 : decode prog_1_method_25_code 9 = .ok (.new 67, 3) := by decide +kernel
theorem dd_S_needPlace_12 : decode prog_1_method_25_code 12 = .ok (.dup, 1) := by decide +kernel
theorem dd_S_needPlace_13 : decode prog_1_method_25_code 13 = .ok (.ldc 212, 2) := by decide +kernel
theorem dd_S_needPlace_15 : decode prog_1_method_25_code 15 = .ok (.invokespecial 71, 3) := by decide +kernel
theorem dd_S_needPlace_18 : decode prog_1_method_25_code 18 = .ok (.athrow, 1) := by decide +kernel
theorem dd_S_needPlace_19 : decode prog_1_method_25_code 19 = .ok (.return_, 1) := by decide +kernel
theorem dd_H_floorDiv_0 : decode prog_12_method_47_code 0 = .ok (.iload_n 0, 1) := by decide +kernel
theorem dd_H_floorDiv_1 : decode prog_12_method_47_code 1 = .ok (.iload_n 1, 1) := by decide +kernel
theorem dd_H_floorDiv_2 : decode prog_12_method_47_code 2 = .ok (.idiv, 1) := by decide +kernel
theorem dd_H_floorDiv_3 : decode prog_12_method_47_code 3 = .ok (.istore_n 2, 1) := by decide +kernel
theorem dd_H_floorDiv_4 : decode prog_12_method_47_code 4 = .ok (.iload_n 0, 1) := by decide +kernel
theorem dd_H_floorDiv_5 : decode prog_12_method_47_code 5 = .ok (.iload_n 1, 1) := by decide +kernel
theorem dd_H_floorDiv_6 : decode prog_12_method_47_code 6 = .ok (.ixor, 1) := by decide +kernel
theorem dd_H_floorDiv_7 : decode prog_12_method_47_code 7 = .ok (.ifCond .ge 14, 3) := by decide +kernel
theorem dd_H_floorDiv_10 : decode prog_12_method_47_code 10 = .ok (.iload_n 2, 1) := by decide +kernel
theorem dd_H_floorDiv_11 : decode prog_12_method_47_code 11 = .ok (.iload_n 1, 1) := by decide +kernel
theorem dd_H_floorDiv_12 : decode prog_12_method_47_code 12 = .ok (.imul, 1) := by decide +kernel
theorem dd_H_floorDiv_13 : decode prog_12_method_47_code 13 = .ok (.iload_n 0, 1) := by decide +kernel
theorem dd_H_floorDiv_14 : decode prog_12_method_47_code 14 = .ok (.if_icmp .eq 7, 3) := by decide +kernel
theorem dd_H_floorDiv_17 : decode prog_12_method_47_code 17 = .ok (.iload_n 2, 1) := by decide +kernel
theorem dd_H_floorDiv_18 : decode prog_12_method_47_code 18 = .ok (.iconst 1, 1) := by decide +kernel
theorem dd_H_floorDiv_19 : decode prog_12_method_47_code 19 = .ok (.isub, 1) := by decide +kernel
theorem dd_H_floorDiv_20 : decode prog_12_method_47_code 20 = .ok (.ireturn, 1) := by decide +kernel
theorem dd_H_floorDiv_21 : decode prog_12_method_47_code 21 = .ok (.iload_n 2, 1) := by decide +kernel
theorem dd_H_floorDiv_22 : decode prog_12_method_47_code 22 = .ok (.ireturn, 1) := by decide +kernel
theorem dd_S_floorOf_0 : decode prog_1_method_29_code 0 = .ok (.iload_n 1, 1) := by decide +kernel
theorem dd_S_floorOf_1 : decode prog_1_method_29_code 1 = .ok (.iconst 1, 1) := by decide +kernel
theorem dd_S_floorOf_2 : decode prog_1_method_29_code 2 = .ok (.if_icmp .ge 7, 3) := by decide +kernel
theorem dd_S_floorOf_5 : decode prog_1_method_29_code 5 = .ok (.iconst 0, 1) := by decide +kernel
theorem dd_S_floorOf_6 : decode prog_1_method_29_code 6 = .ok (.goto 8, 3) := by decide +kernel
theorem dd_S_floorOf_9 : decode prog_1_method_29_code 9 = .ok (.iload_n 0, 1) := by decide +kernel
theorem dd_S_floorOf_10 : decode prog_1_method_29_code 10 = .ok (.iload_n 1, 1) := by decide +kernel
theorem dd_S_floorOf_11 : decode prog_1_method_29_code 11 = .ok (.invokestatic 219, 3) := by decide +kernel
theorem dd_S_floorOf_14 : decode prog_1_method_29_code 14 = .ok (.ireturn, 1) := by decide +kernel
theorem dd_P_centreX_0 : decode prog_3_method_5_code 0 = .ok (.aload_n 0, 1) := by decide +kernel
theorem dd_P_centreX_1 : decode prog_3_method_5_code 1 = .ok (.getfield 9, 3) := by decide +kernel
theorem dd_P_centreX_4 : decode prog_3_method_5_code 4 = .ok (.iconst 1, 1) := by decide +kernel
theorem dd_P_centreX_5 : decode prog_3_method_5_code 5 = .ok (.if_icmp .ge 7, 3) := by decide +kernel
theorem dd_P_centreX_8 : decode prog_3_method_5_code 8 = .ok (.iconst (-1), 1) := by decide +kernel
theorem dd_P_centreX_9 : decode prog_3_method_5_code 9 = .ok (.goto 14, 3) := by decide +kernel
theorem dd_P_centreX_12 : decode prog_3_method_5_code 12 = .ok (.aload_n 0, 1) := by decide +kernel
theorem dd_P_centreX_13 : decode prog_3_method_5_code 13 = .ok (.getfield 15, 3) := by decide +kernel
theorem dd_P_centreX_16 : decode prog_3_method_5_code 16 = .ok (.aload_n 0, 1) := by decide +kernel
theorem dd_P_centreX_17 : decode prog_3_method_5_code 17 = .ok (.getfield 9, 3) := by decide +kernel
theorem dd_P_centreX_20 : decode prog_3_method_5_code 20 = .ok (.invokestatic 39, 3) := by decide +kernel
theorem dd_P_centreX_23 : decode prog_3_method_5_code 23 = .ok (.ireturn, 1) := by decide +kernel
theorem dd_P_centreY_0 : decode prog_3_method_6_code 0 = .ok (.aload_n 0, 1) := by decide +kernel
theorem dd_P_centreY_1 : decode prog_3_method_6_code 1 = .ok (.getfield 9, 3) := by decide +kernel
theorem dd_P_centreY_4 : decode prog_3_method_6_code 4 = .ok (.iconst 1, 1) := by decide +kernel
theorem dd_P_centreY_5 : decode prog_3_method_6_code 5 = .ok (.if_icmp .ge 7, 3) := by decide +kernel
theorem dd_P_centreY_8 : decode prog_3_method_6_code 8 = .ok (.iconst (-1), 1) := by decide +kernel
theorem dd_P_centreY_9 : decode prog_3_method_6_code 9 = .ok (.goto 14, 3) := by decide +kernel
theorem dd_P_centreY_12 : decode prog_3_method_6_code 12 = .ok (.aload_n 0, 1) := by decide +kernel
theorem dd_P_centreY_13 : decode prog_3_method_6_code 13 = .ok (.getfield 18, 3) := by decide +kernel
theorem dd_P_centreY_16 : decode prog_3_method_6_code 16 = .ok (.aload_n 0, 1) := by decide +kernel
theorem dd_P_centreY_17 : decode prog_3_method_6_code 17 = .ok (.getfield 9, 3) := by decide +kernel
theorem dd_P_centreY_20 : decode prog_3_method_6_code 20 = .ok (.invokestatic 39, 3) := by decide +kernel
theorem dd_P_centreY_23 : decode prog_3_method_6_code 23 = .ok (.ireturn, 1) := by decide +kernel
theorem dd_S_middle_0 : decode prog_1_method_3_code 0 = .ok (.iload_n 1, 1) := by decide +kernel
theorem dd_S_middle_1 : decode prog_1_method_3_code 1 = .ok (.iconst 2, 1) := by decide +kernel
theorem dd_S_middle_2 : decode prog_1_method_3_code 2 = .ok (.invokestatic 82, 3) := by decide +kernel
theorem dd_S_middle_5 : decode prog_1_method_3_code 5 = .ok (.iload_n 1, 1) := by decide +kernel
theorem dd_S_middle_6 : decode prog_1_method_3_code 6 = .ok (.ifCond .ne 13, 3) := by decide +kernel
theorem dd_S_middle_9 : decode prog_1_method_3_code 9 = .ok (.aload_n 0, 1) := by decide +kernel
theorem dd_S_middle_10 : decode prog_1_method_3_code 10 = .ok (.getfield 59, 3) := by decide +kernel
theorem dd_S_middle_13 : decode prog_1_method_3_code 13 = .ok (.invokevirtual 85, 3) := by decide +kernel
theorem dd_S_middle_16 : decode prog_1_method_3_code 16 = .ok (.goto 10, 3) := by decide +kernel
theorem dd_S_middle_19 : decode prog_1_method_3_code 19 = .ok (.aload_n 0, 1) := by decide +kernel
theorem dd_S_middle_20 : decode prog_1_method_3_code 20 = .ok (.getfield 59, 3) := by decide +kernel
theorem dd_S_middle_23 : decode prog_1_method_3_code 23 = .ok (.invokevirtual 89, 3) := by decide +kernel
theorem dd_S_middle_26 : decode prog_1_method_3_code 26 = .ok (.ireturn, 1) := by decide +kernel
theorem dd_S_ray_0 : decode prog_1_method_4_code 0 = .ok (.iload_n 1, 1) := by decide +kernel
theorem dd_S_ray_1 : decode prog_1_method_4_code 1 = .ok (.bipush (-5), 2) := by decide +kernel
theorem dd_S_ray_3 : decode prog_1_method_4_code 3 = .ok (.iconst 5, 1) := by decide +kernel
theorem dd_S_ray_4 : decode prog_1_method_4_code 4 = .ok (.invokestatic 74, 3) := by decide +kernel
theorem dd_S_ray_7 : decode prog_1_method_4_code 7 = .ok (.iload_n 2, 1) := by decide +kernel
theorem dd_S_ray_8 : decode prog_1_method_4_code 8 = .ok (.bipush (-5), 2) := by decide +kernel
theorem dd_S_ray_10 : decode prog_1_method_4_code 10 = .ok (.iconst 5, 1) := by decide +kernel
theorem dd_S_ray_11 : decode prog_1_method_4_code 11 = .ok (.invokestatic 74, 3) := by decide +kernel
theorem dd_S_ray_14 : decode prog_1_method_4_code 14 = .ok (.iload_n 1, 1) := by decide +kernel
theorem dd_S_ray_15 : decode prog_1_method_4_code 15 = .ok (.ifCond .ne 17, 3) := by decide +kernel
theorem dd_S_ray_18 : decode prog_1_method_4_code 18 = .ok (.iload_n 2, 1) := by decide +kernel
theorem dd_S_ray_19 : decode prog_1_method_4_code 19 = .ok (.ifCond .ne 13, 3) := by decide +kernel
theorem dd_S_ray_22 : decode prog_1_method_4_code 22 = .ok (.new 92, 3) := by decide +kernel
theorem dd_S_ray_25 : decode prog_1_method_4_code 25 = .ok (.dup, 1) := by decide +kernel
theorem dd_S_ray_26 : decode prog_1_method_4_code 26 = .ok (.ldc 94, 2) := by decide +kernel
theorem dd_S_ray_28 : decode prog_1_method_4_code 28 = .ok (.invokespecial 96, 3) := by decide +kernel
theorem dd_S_ray_31 : decode prog_1_method_4_code 31 = .ok (.athrow, 1) := by decide +kernel
theorem dd_S_ray_32 : decode prog_1_method_4_code 32 = .ok (.aload_n 0, 1) := by decide +kernel
theorem dd_S_ray_33 : decode prog_1_method_4_code 33 = .ok (.getfield 40, 3) := by decide +kernel
theorem dd_S_ray_36 : decode prog_1_method_4_code 36 = .ok (.bipush 8, 2) := by decide +kernel
theorem dd_S_ray_38 : decode prog_1_method_4_code 38 = .ok (.if_icmp .lt 13, 3) := by decide +kernel
theorem dd_S_ray_41 : decode prog_1_method_4_code 41 = .ok (.new 97, 3) := by decide +kernel
theorem dd_S_ray_44 : decode prog_1_method_4_code 44 = .ok (.dup, 1) := by decide +kernel
theorem dd_S_ray_45 : decode prog_1_method_4_code 45 = .ok (.ldc 99, 2) := by decide +kernel
theorem dd_S_ray_47 : decode prog_1_method_4_code 47 = .ok (.invokespecial 101, 3) := by decide +kernel
theorem dd_S_ray_50 : decode prog_1_method_4_code 50 = .ok (.athrow, 1) := by decide +kernel
theorem dd_S_ray_51 : decode prog_1_method_4_code 51 = .ok (.aload_n 0, 1) := by decide +kernel
theorem dd_S_ray_52 : decode prog_1_method_4_code 52 = .ok (.getfield 9, 3) := by decide +kernel
theorem dd_S_ray_55 : decode prog_1_method_4_code 55 = .ok (.aload_n 0, 1) := by decide +kernel
theorem dd_S_ray_56 : decode prog_1_method_4_code 56 = .ok (.getfield 40, 3) := by decide +kernel
theorem dd_S_ray_59 : decode prog_1_method_4_code 59 = .ok (.iload_n 1, 1) := by decide +kernel
theorem dd_S_ray_60 : decode prog_1_method_4_code 60 = .ok (.iastore, 1) := by decide +kernel
theorem dd_S_ray_61 : decode prog_1_method_4_code 61 = .ok (.aload_n 0, 1) := by decide +kernel
theorem dd_S_ray_62 : decode prog_1_method_4_code 62 = .ok (.getfield 13, 3) := by decide +kernel
theorem dd_S_ray_65 : decode prog_1_method_4_code 65 = .ok (.aload_n 0, 1) := by decide +kernel
theorem dd_S_ray_66 : decode prog_1_method_4_code 66 = .ok (.getfield 40, 3) := by decide +kernel
theorem dd_S_ray_69 : decode prog_1_method_4_code 69 = .ok (.iload_n 2, 1) := by decide +kernel
theorem dd_S_ray_70 : decode prog_1_method_4_code 70 = .ok (.iastore, 1) := by decide +kernel
theorem dd_S_ray_71 : decode prog_1_method_4_code 71 = .ok (.aload_n 0, 1) := by decide +kernel
theorem dd_S_ray_72 : decode prog_1_method_4_code 72 = .ok (.dup, 1) := by decide +kernel
theorem dd_S_ray_73 : decode prog_1_method_4_code 73 = .ok (.getfield 40, 3) := by decide +kernel
theorem dd_S_ray_76 : decode prog_1_method_4_code 76 = .ok (.iconst 1, 1) := by decide +kernel
theorem dd_S_ray_77 : decode prog_1_method_4_code 77 = .ok (.iadd, 1) := by decide +kernel
theorem dd_S_ray_78 : decode prog_1_method_4_code 78 = .ok (.putfield 40, 3) := by decide +kernel
theorem dd_S_ray_81 : decode prog_1_method_4_code 81 = .ok (.aload_n 0, 1) := by decide +kernel
theorem dd_S_ray_82 : decode prog_1_method_4_code 82 = .ok (.getfield 40, 3) := by decide +kernel
theorem dd_S_ray_85 : decode prog_1_method_4_code 85 = .ok (.iconst 1, 1) := by decide +kernel
theorem dd_S_ray_86 : decode prog_1_method_4_code 86 = .ok (.isub, 1) := by decide +kernel
theorem dd_S_ray_87 : decode prog_1_method_4_code 87 = .ok (.ireturn, 1) := by decide +kernel
theorem dd_T_walk_0 : decode prog_5_method_2_code 0 = .ok (.aload_n 0, 1) := by decide +kernel
theorem dd_T_walk_1 : decode prog_5_method_2_code 1 = .ok (.iconst 0, 1) := by decide +kernel
theorem dd_T_walk_2 : decode prog_5_method_2_code 2 = .ok (.putfield 21, 3) := by decide +kernel
theorem dd_T_walk_5 : decode prog_5_method_2_code 5 = .ok (.iload_n 2, 1) := by decide +kernel
theorem dd_T_walk_6 : decode prog_5_method_2_code 6 = .ok (.invokestatic 28, 3) := by decide +kernel
theorem dd_T_walk_9 : decode prog_5_method_2_code 9 = .ok (.iload_n 3, 1) := by decide +kernel
theorem dd_T_walk_10 : decode prog_5_method_2_code 10 = .ok (.invokestatic 28, 3) := by decide +kernel
theorem dd_T_walk_13 : decode prog_5_method_2_code 13 = .ok (.invokestatic 34, 3) := by decide +kernel
theorem dd_T_walk_16 : decode prog_5_method_2_code 16 = .ok (.istore 4, 2) := by decide +kernel
theorem dd_T_walk_18 : decode prog_5_method_2_code 18 = .ok (.aload_n 1, 1) := by decide +kernel
theorem dd_T_walk_19 : decode prog_5_method_2_code 19 = .ok (.getfield 38, 3) := by decide +kernel
theorem dd_T_walk_22 : decode prog_5_method_2_code 22 = .ok (.iconst 1, 1) := by decide +kernel
theorem dd_T_walk_23 : decode prog_5_method_2_code 23 = .ok (.if_icmp .lt 9, 3) := by decide +kernel
theorem dd_T_walk_26 : decode prog_5_method_2_code 26 = .ok (.iload 4, 2) := by decide +kernel
theorem dd_T_walk_28 : decode prog_5_method_2_code 28 = .ok (.iconst 1, 1) := by decide +kernel
theorem dd_T_walk_29 : decode prog_5_method_2_code 29 = .ok (.if_icmp .ge 4, 3) := by decide +kernel
theorem dd_T_walk_32 : decode prog_5_method_2_code 32 = .ok (.return_, 1) := by decide +kernel
theorem dd_T_walk_33 : decode prog_5_method_2_code 33 = .ok (.aload_n 1, 1) := by decide +kernel
theorem dd_T_walk_34 : decode prog_5_method_2_code 34 = .ok (.invokevirtual 43, 3) := by decide +kernel
theorem dd_T_walk_37 : decode prog_5_method_2_code 37 = .ok (.istore 5, 2) := by decide +kernel
theorem dd_T_walk_39 : decode prog_5_method_2_code 39 = .ok (.aload_n 1, 1) := by decide +kernel
theorem dd_T_walk_40 : decode prog_5_method_2_code 40 = .ok (.invokevirtual 47, 3) := by decide +kernel
theorem dd_T_walk_43 : decode prog_5_method_2_code 43 = .ok (.istore 6, 2) := by decide +kernel
theorem dd_T_walk_45 : decode prog_5_method_2_code 45 = .ok (.iconst 0, 1) := by decide +kernel
theorem dd_T_walk_46 : decode prog_5_method_2_code 46 = .ok (.istore 7, 2) := by decide +kernel
theorem dd_T_walk_48 : decode prog_5_method_2_code 48 = .ok (.iload 7, 2) := by decide +kernel
theorem dd_T_walk_50 : decode prog_5_method_2_code 50 = .ok (.bipush 16, 2) := by decide +kernel
theorem dd_T_walk_52 : decode prog_5_method_2_code 52 = .ok (.if_icmp .ge 86, 3) := by decide +kernel
theorem dd_T_walk_55 : decode prog_5_method_2_code 55 = .ok (.iload 5, 2) := by decide +kernel
theorem dd_T_walk_57 : decode prog_5_method_2_code 57 = .ok (.iconst 2, 1) := by decide +kernel
theorem dd_T_walk_58 : decode prog_5_method_2_code 58 = .ok (.iload_n 2, 1) := by decide +kernel
theorem dd_T_walk_59 : decode prog_5_method_2_code 59 = .ok (.imul, 1) := by decide +kernel
theorem dd_T_walk_60 : decode prog_5_method_2_code 60 = .ok (.iload 7, 2) := by decide +kernel
theorem dd_T_walk_62 : decode prog_5_method_2_code 62 = .ok (.imul, 1) := by decide +kernel
theorem dd_T_walk_63 : decode prog_5_method_2_code 63 = .ok (.iload 4, 2) := by decide +kernel
theorem dd_T_walk_65 : decode prog_5_method_2_code 65 = .ok (.iadd, 1) := by decide +kernel
theorem dd_T_walk_66 : decode prog_5_method_2_code 66 = .ok (.iconst 2, 1) := by decide +kernel
theorem dd_T_walk_67 : decode prog_5_method_2_code 67 = .ok (.iload 4, 2) := by decide +kernel
theorem dd_T_walk_69 : decode prog_5_method_2_code 69 = .ok (.imul, 1) := by decide +kernel
theorem dd_T_walk_70 : decode prog_5_method_2_code 70 = .ok (.invokestatic 50, 3) := by decide +kernel
theorem dd_T_walk_73 : decode prog_5_method_2_code 73 = .ok (.iadd, 1) := by decide +kernel
theorem dd_T_walk_74 : decode prog_5_method_2_code 74 = .ok (.istore 8, 2) := by decide +kernel
theorem dd_T_walk_76 : decode prog_5_method_2_code 76 = .ok (.iload 6, 2) := by decide +kernel
theorem dd_T_walk_78 : decode prog_5_method_2_code 78 = .ok (.iconst 2, 1) := by decide +kernel
theorem dd_T_walk_79 : decode prog_5_method_2_code 79 = .ok (.iload_n 3, 1) := by decide +kernel
theorem dd_T_walk_80 : decode prog_5_method_2_code 80 = .ok (.imul, 1) := by decide +kernel
theorem dd_T_walk_81 : decode prog_5_method_2_code 81 = .ok (.iload 7, 2) := by decide +kernel
theorem dd_T_walk_83 : decode prog_5_method_2_code 83 = .ok (.imul, 1) := by decide +kernel
theorem dd_T_walk_84 : decode prog_5_method_2_code 84 = .ok (.iload 4, 2) := by decide +kernel
theorem dd_T_walk_86 : decode prog_5_method_2_code 86 = .ok (.iadd, 1) := by decide +kernel
theorem dd_T_walk_87 : decode prog_5_method_2_code 87 = .ok (.iconst 2, 1) := by decide +kernel
theorem dd_T_walk_88 : decode prog_5_method_2_code 88 = .ok (.iload 4, 2) := by decide +kernel
theorem dd_T_walk_90 : decode prog_5_method_2_code 90 = .ok (.imul, 1) := by decide +kernel
theorem dd_T_walk_91 : decode prog_5_method_2_code 91 = .ok (.invokestatic 50, 3) := by decide +kernel
theorem dd_T_walk_94 : decode prog_5_method_2_code 94 = .ok (.iadd, 1) := by decide +kernel
theorem dd_T_walk_95 : decode prog_5_method_2_code 95 = .ok (.istore 9, 2) := by decide +kernel
theorem dd_T_walk_97 : decode prog_5_method_2_code 97 = .ok (.aload_n 1, 1) := by decide +kernel
theorem dd_T_walk_98 : decode prog_5_method_2_code 98 = .ok (.iload 8, 2) := by decide +kernel
theorem dd_T_walk_100 : decode prog_5_method_2_code 100 = .ok (.iload 9, 2) := by decide +kernel
theorem dd_T_walk_102 : decode prog_5_method_2_code 102 = .ok (.invokevirtual 53, 3) := by decide +kernel
theorem dd_T_walk_105 : decode prog_5_method_2_code 105 = .ok (.ifCond .ne 4, 3) := by decide +kernel
theorem dd_T_walk_108 : decode prog_5_method_2_code 108 = .ok (.return_, 1) := by decide +kernel
theorem dd_T_walk_109 : decode prog_5_method_2_code 109 = .ok (.aload_n 0, 1) := by decide +kernel
theorem dd_T_walk_110 : decode prog_5_method_2_code 110 = .ok (.getfield 9, 3) := by decide +kernel
theorem dd_T_walk_113 : decode prog_5_method_2_code 113 = .ok (.iload 7, 2) := by decide +kernel
theorem dd_T_walk_115 : decode prog_5_method_2_code 115 = .ok (.aload_n 1, 1) := by decide +kernel
theorem dd_T_walk_116 : decode prog_5_method_2_code 116 = .ok (.iload 8, 2) := by decide +kernel
theorem dd_T_walk_118 : decode prog_5_method_2_code 118 = .ok (.iload 9, 2) := by decide +kernel
theorem dd_T_walk_120 : decode prog_5_method_2_code 120 = .ok (.invokevirtual 57, 3) := by decide +kernel
theorem dd_T_walk_123 : decode prog_5_method_2_code 123 = .ok (.iastore, 1) := by decide +kernel
theorem dd_T_walk_124 : decode prog_5_method_2_code 124 = .ok (.aload_n 0, 1) := by decide +kernel
theorem dd_T_walk_125 : decode prog_5_method_2_code 125 = .ok (.iload 7, 2) := by decide +kernel
theorem dd_T_walk_127 : decode prog_5_method_2_code 127 = .ok (.iconst 1, 1) := by decide +kernel
theorem dd_T_walk_128 : decode prog_5_method_2_code 128 = .ok (.iadd, 1) := by decide +kernel
theorem dd_T_walk_129 : decode prog_5_method_2_code 129 = .ok (.putfield 21, 3) := by decide +kernel
theorem dd_T_walk_132 : decode prog_5_method_2_code 132 = .ok (.iinc 7 1, 3) := by decide +kernel
theorem dd_T_walk_135 : decode prog_5_method_2_code 135 = .ok (.goto (-87), 3) := by decide +kernel
theorem dd_T_walk_138 : decode prog_5_method_2_code 138 = .ok (.return_, 1) := by decide +kernel
theorem dd_T_evenOut_0 : decode prog_5_method_3_code 0 = .ok (.iconst 0, 1) := by decide +kernel
theorem dd_T_evenOut_1 : decode prog_5_method_3_code 1 = .ok (.istore_n 1, 1) := by decide +kernel
theorem dd_T_evenOut_2 : decode prog_5_method_3_code 2 = .ok (.iload_n 1, 1) := by decide +kernel
theorem dd_T_evenOut_3 : decode prog_5_method_3_code 3 = .ok (.aload_n 0, 1) := by decide +kernel
theorem dd_T_evenOut_4 : decode prog_5_method_3_code 4 = .ok (.getfield 21, 3) := by decide +kernel
theorem dd_T_evenOut_7 : decode prog_5_method_3_code 7 = .ok (.if_icmp .ge 83, 3) := by decide +kernel
theorem dd_T_evenOut_10 : decode prog_5_method_3_code 10 = .ok (.iload_n 1, 1) := by decide +kernel
theorem dd_T_evenOut_11 : decode prog_5_method_3_code 11 = .ok (.ifCond .le 14, 3) := by decide +kernel
theorem dd_T_evenOut_14 : decode prog_5_method_3_code 14 = .ok (.aload_n 0, 1) := by decide +kernel
theorem dd_T_evenOut_15 : decode prog_5_method_3_code 15 = .ok (.getfield 9, 3) := by decide +kernel
theorem dd_T_evenOut_18 : decode prog_5_method_3_code 18 = .ok (.iload_n 1, 1) := by decide +kernel
theorem dd_T_evenOut_19 : decode prog_5_method_3_code 19 = .ok (.iconst 1, 1) := by decide +kernel
theorem dd_T_evenOut_20 : decode prog_5_method_3_code 20 = .ok (.isub, 1) := by decide +kernel
theorem dd_T_evenOut_21 : decode prog_5_method_3_code 21 = .ok (.iaload, 1) := by decide +kernel
theorem dd_T_evenOut_22 : decode prog_5_method_3_code 22 = .ok (.goto 9, 3) := by decide +kernel
theorem dd_T_evenOut_25 : decode prog_5_method_3_code 25 = .ok (.aload_n 0, 1) := by decide +kernel
theorem dd_T_evenOut_26 : decode prog_5_method_3_code 26 = .ok (.getfield 9, 3) := by decide +kernel
theorem dd_T_evenOut_29 : decode prog_5_method_3_code 29 = .ok (.iload_n 1, 1) := by decide +kernel
theorem dd_T_evenOut_30 : decode prog_5_method_3_code 30 = .ok (.iaload, 1) := by decide +kernel
theorem dd_T_evenOut_31 : decode prog_5_method_3_code 31 = .ok (.istore_n 2, 1) := by decide +kernel
theorem dd_T_evenOut_32 : decode prog_5_method_3_code 32 = .ok (.iload_n 1, 1) := by decide +kernel
theorem dd_T_evenOut_33 : decode prog_5_method_3_code 33 = .ok (.aload_n 0, 1) := by decide +kernel
theorem dd_T_evenOut_34 : decode prog_5_method_3_code 34 = .ok (.getfield 21, 3) := by decide +kernel
theorem dd_T_evenOut_37 : decode prog_5_method_3_code 37 = .ok (.iconst 1, 1) := by decide +kernel
theorem dd_T_evenOut_38 : decode prog_5_method_3_code 38 = .ok (.isub, 1) := by decide +kernel
theorem dd_T_evenOut_39 : decode prog_5_method_3_code 39 = .ok (.if_icmp .ge 14, 3) := by decide +kernel
theorem dd_T_evenOut_42 : decode prog_5_method_3_code 42 = .ok (.aload_n 0, 1) := by decide +kernel
theorem dd_T_evenOut_43 : decode prog_5_method_3_code 43 = .ok (.getfield 9, 3) := by decide +kernel
theorem dd_T_evenOut_46 : decode prog_5_method_3_code 46 = .ok (.iload_n 1, 1) := by decide +kernel
theorem dd_T_evenOut_47 : decode prog_5_method_3_code 47 = .ok (.iconst 1, 1) := by decide +kernel
theorem dd_T_evenOut_48 : decode prog_5_method_3_code 48 = .ok (.iadd, 1) := by decide +kernel
theorem dd_T_evenOut_49 : decode prog_5_method_3_code 49 = .ok (.iaload, 1) := by decide +kernel
theorem dd_T_evenOut_50 : decode prog_5_method_3_code 50 = .ok (.goto 9, 3) := by decide +kernel
theorem dd_T_evenOut_53 : decode prog_5_method_3_code 53 = .ok (.aload_n 0, 1) := by decide +kernel
theorem dd_T_evenOut_54 : decode prog_5_method_3_code 54 = .ok (.getfield 9, 3) := by decide +kernel
theorem dd_T_evenOut_57 : decode prog_5_method_3_code 57 = .ok (.iload_n 1, 1) := by decide +kernel
theorem dd_T_evenOut_58 : decode prog_5_method_3_code 58 = .ok (.iaload, 1) := by decide +kernel
theorem dd_T_evenOut_59 : decode prog_5_method_3_code 59 = .ok (.istore_n 3, 1) := by decide +kernel
theorem dd_T_evenOut_60 : decode prog_5_method_3_code 60 = .ok (.aload_n 0, 1) := by decide +kernel
theorem dd_T_evenOut_61 : decode prog_5_method_3_code 61 = .ok (.getfield 15, 3) := by decide +kernel
theorem dd_T_evenOut_64 : decode prog_5_method_3_code 64 = .ok (.iload_n 1, 1) := by decide +kernel
theorem dd_T_evenOut_65 : decode prog_5_method_3_code 65 = .ok (.iload_n 2, 1) := by decide +kernel
theorem dd_T_evenOut_66 : decode prog_5_method_3_code 66 = .ok (.iconst 2, 1) := by decide +kernel
theorem dd_T_evenOut_67 : decode prog_5_method_3_code 67 = .ok (.aload_n 0, 1) := by decide +kernel
theorem dd_T_evenOut_68 : decode prog_5_method_3_code 68 = .ok (.getfield 9, 3) := by decide +kernel
theorem dd_T_evenOut_71 : decode prog_5_method_3_code 71 = .ok (.iload_n 1, 1) := by decide +kernel
theorem dd_T_evenOut_72 : decode prog_5_method_3_code 72 = .ok (.iaload, 1) := by decide +kernel
theorem dd_T_evenOut_73 : decode prog_5_method_3_code 73 = .ok (.imul, 1) := by decide +kernel
theorem dd_T_evenOut_74 : decode prog_5_method_3_code 74 = .ok (.iadd, 1) := by decide +kernel
theorem dd_T_evenOut_75 : decode prog_5_method_3_code 75 = .ok (.iload_n 3, 1) := by decide +kernel
theorem dd_T_evenOut_76 : decode prog_5_method_3_code 76 = .ok (.iadd, 1) := by decide +kernel
theorem dd_T_evenOut_77 : decode prog_5_method_3_code 77 = .ok (.iconst 2, 1) := by decide +kernel
theorem dd_T_evenOut_78 : decode prog_5_method_3_code 78 = .ok (.iadd, 1) := by decide +kernel
theorem dd_T_evenOut_79 : decode prog_5_method_3_code 79 = .ok (.iconst 4, 1) := by decide +kernel
theorem dd_T_evenOut_80 : decode prog_5_method_3_code 80 = .ok (.invokestatic 50, 3) := by decide +kernel
theorem dd_T_evenOut_83 : decode prog_5_method_3_code 83 = .ok (.iastore, 1) := by decide +kernel
theorem dd_T_evenOut_84 : decode prog_5_method_3_code 84 = .ok (.iinc 1 1, 3) := by decide +kernel
theorem dd_T_evenOut_87 : decode prog_5_method_3_code 87 = .ok (.goto (-85), 3) := by decide +kernel
theorem dd_T_evenOut_90 : decode prog_5_method_3_code 90 = .ok (.return_, 1) := by decide +kernel
theorem dd_T_findRings_0 : decode prog_5_method_4_code 0 = .ok (.aload_n 0, 1) := by decide +kernel
theorem dd_T_findRings_1 : decode prog_5_method_4_code 1 = .ok (.iconst 0, 1) := by decide +kernel
theorem dd_T_findRings_2 : decode prog_5_method_4_code 2 = .ok (.putfield 25, 3) := by decide +kernel
theorem dd_T_findRings_5 : decode prog_5_method_4_code 5 = .ok (.iconst 0, 1) := by decide +kernel
theorem dd_T_findRings_6 : decode prog_5_method_4_code 6 = .ok (.istore_n 3, 1) := by decide +kernel
theorem dd_T_findRings_7 : decode prog_5_method_4_code 7 = .ok (.aload_n 0, 1) := by decide +kernel
theorem dd_T_findRings_8 : decode prog_5_method_4_code 8 = .ok (.getfield 21, 3) := by decide +kernel
theorem dd_T_findRings_11 : decode prog_5_method_4_code 11 = .ok (.ifCond .le 12, 3) := by decide +kernel
theorem dd_T_findRings_14 : decode prog_5_method_4_code 14 = .ok (.aload_n 0, 1) := by decide +kernel
theorem dd_T_findRings_15 : decode prog_5_method_4_code 15 = .ok (.getfield 15, 3) := by decide +kernel
theorem dd_T_findRings_18 : decode prog_5_method_4_code 18 = .ok (.iconst 0, 1) := by decide +kernel
theorem dd_T_findRings_19 : decode prog_5_method_4_code 19 = .ok (.iaload, 1) := by decide +kernel
theorem dd_T_findRings_20 : decode prog_5_method_4_code 20 = .ok (.goto 4, 3) := by decide +kernel
theorem dd_T_findRings_23 : decode prog_5_method_4_code 23 = .ok (.iconst 0, 1) := by decide +kernel
theorem dd_T_findRings_24 : decode prog_5_method_4_code 24 = .ok (.istore 4, 2) := by decide +kernel
theorem dd_T_findRings_26 : decode prog_5_method_4_code 26 = .ok (.iconst 1, 1) := by decide +kernel
theorem dd_T_findRings_27 : decode prog_5_method_4_code 27 = .ok (.istore 5, 2) := by decide +kernel
theorem dd_T_findRings_29 : decode prog_5_method_4_code 29 = .ok (.iload 5, 2) := by decide +kernel
theorem dd_T_findRings_31 : decode prog_5_method_4_code 31 = .ok (.aload_n 0, 1) := by decide +kernel
theorem dd_T_findRings_32 : decode prog_5_method_4_code 32 = .ok (.getfield 21, 3) := by decide +kernel
theorem dd_T_findRings_35 : decode prog_5_method_4_code 35 = .ok (.iconst 1, 1) := by decide +kernel
theorem dd_T_findRings_36 : decode prog_5_method_4_code 36 = .ok (.isub, 1) := by decide +kernel
theorem dd_T_findRings_37 : decode prog_5_method_4_code 37 = .ok (.if_icmp .ge 137, 3) := by decide +kernel
theorem dd_T_findRings_40 : decode prog_5_method_4_code 40 = .ok (.aload_n 0, 1) := by decide +kernel
theorem dd_T_findRings_41 : decode prog_5_method_4_code 41 = .ok (.getfield 25, 3) := by decide +kernel
theorem dd_T_findRings_44 : decode prog_5_method_4_code 44 = .ok (.bipush 8, 2) := by decide +kernel
theorem dd_T_findRings_46 : decode prog_5_method_4_code 46 = .ok (.if_icmp .ge 128, 3) := by decide +kernel
theorem dd_T_findRings_49 : decode prog_5_method_4_code 49 = .ok (.iload 4, 2) := by decide +kernel
theorem dd_T_findRings_51 : decode prog_5_method_4_code 51 = .ok (.aload_n 0, 1) := by decide +kernel
theorem dd_T_findRings_52 : decode prog_5_method_4_code 52 = .ok (.getfield 15, 3) := by decide +kernel
theorem dd_T_findRings_55 : decode prog_5_method_4_code 55 = .ok (.iload 5, 2) := by decide +kernel
theorem dd_T_findRings_57 : decode prog_5_method_4_code 57 = .ok (.iaload, 1) := by decide +kernel
theorem dd_T_findRings_58 : decode prog_5_method_4_code 58 = .ok (.invokestatic 60, 3) := by decide +kernel
theorem dd_T_findRings_61 : decode prog_5_method_4_code 61 = .ok (.istore 4, 2) := by decide +kernel
theorem dd_T_findRings_63 : decode prog_5_method_4_code 63 = .ok (.aload_n 0, 1) := by decide +kernel
theorem dd_T_findRings_64 : decode prog_5_method_4_code 64 = .ok (.getfield 15, 3) := by decide +kernel
theorem dd_T_findRings_67 : decode prog_5_method_4_code 67 = .ok (.iload 5, 2) := by decide +kernel
theorem dd_T_findRings_69 : decode prog_5_method_4_code 69 = .ok (.iaload, 1) := by decide +kernel
theorem dd_T_findRings_70 : decode prog_5_method_4_code 70 = .ok (.aload_n 0, 1) := by decide +kernel
theorem dd_T_findRings_71 : decode prog_5_method_4_code 71 = .ok (.getfield 15, 3) := by decide +kernel
theorem dd_T_findRings_74 : decode prog_5_method_4_code 74 = .ok (.iload 5, 2) := by decide +kernel
theorem dd_T_findRings_76 : decode prog_5_method_4_code 76 = .ok (.iconst 1, 1) := by decide +kernel
theorem dd_T_findRings_77 : decode prog_5_method_4_code 77 = .ok (.isub, 1) := by decide +kernel
theorem dd_T_findRings_78 : decode prog_5_method_4_code 78 = .ok (.iaload, 1) := by decide +kernel
theorem dd_T_findRings_79 : decode prog_5_method_4_code 79 = .ok (.if_icmp .le 26, 3) := by decide +kernel
theorem dd_T_findRings_82 : decode prog_5_method_4_code 82 = .ok (.aload_n 0, 1) := by decide +kernel
theorem dd_T_findRings_83 : decode prog_5_method_4_code 83 = .ok (.getfield 15, 3) := by decide +kernel
theorem dd_T_findRings_86 : decode prog_5_method_4_code 86 = .ok (.iload 5, 2) := by decide +kernel
theorem dd_T_findRings_88 : decode prog_5_method_4_code 88 = .ok (.iaload, 1) := by decide +kernel
theorem dd_T_findRings_89 : decode prog_5_method_4_code 89 = .ok (.aload_n 0, 1) := by decide +kernel
theorem dd_T_findRings_90 : decode prog_5_method_4_code 90 = .ok (.getfield 15, 3) := by decide +kernel
theorem dd_T_findRings_93 : decode prog_5_method_4_code 93 = .ok (.iload 5, 2) := by decide +kernel
theorem dd_T_findRings_95 : decode prog_5_method_4_code 95 = .ok (.iconst 1, 1) := by decide +kernel
theorem dd_T_findRings_96 : decode prog_5_method_4_code 96 = .ok (.iadd, 1) := by decide +kernel
theorem dd_T_findRings_97 : decode prog_5_method_4_code 97 = .ok (.iaload, 1) := by decide +kernel
theorem dd_T_findRings_98 : decode prog_5_method_4_code 98 = .ok (.if_icmp .lt 7, 3) := by decide +kernel
theorem dd_T_findRings_101 : decode prog_5_method_4_code 101 = .ok (.iconst 1, 1) := by decide +kernel
theorem dd_T_findRings_102 : decode prog_5_method_4_code 102 = .ok (.goto 4, 3) := by decide +kernel
theorem dd_T_findRings_105 : decode prog_5_method_4_code 105 = .ok (.iconst 0, 1) := by decide +kernel
theorem dd_T_findRings_106 : decode prog_5_method_4_code 106 = .ok (.istore 6, 2) := by decide +kernel
theorem dd_T_findRings_108 : decode prog_5_method_4_code 108 = .ok (.iload 6, 2) := by decide +kernel
theorem dd_T_findRings_110 : decode prog_5_method_4_code 110 = .ok (.ifCond .eq 58, 3) := by decide +kernel
theorem dd_T_findRings_113 : decode prog_5_method_4_code 113 = .ok (.iload 5, 2) := by decide +kernel
theorem dd_T_findRings_115 : decode prog_5_method_4_code 115 = .ok (.iload_n 3, 1) := by decide +kernel
theorem dd_T_findRings_116 : decode prog_5_method_4_code 116 = .ok (.isub, 1) := by decide +kernel
theorem dd_T_findRings_117 : decode prog_5_method_4_code 117 = .ok (.iload_n 1, 1) := by decide +kernel
theorem dd_T_findRings_118 : decode prog_5_method_4_code 118 = .ok (.if_icmp .lt 50, 3) := by decide +kernel
theorem dd_T_findRings_121 : decode prog_5_method_4_code 121 = .ok (.aload_n 0, 1) := by decide +kernel
theorem dd_T_findRings_122 : decode prog_5_method_4_code 122 = .ok (.getfield 15, 3) := by decide +kernel
theorem dd_T_findRings_125 : decode prog_5_method_4_code 125 = .ok (.iload 5, 2) := by decide +kernel
theorem dd_T_findRings_127 : decode prog_5_method_4_code 127 = .ok (.iaload, 1) := by decide +kernel
theorem dd_T_findRings_128 : decode prog_5_method_4_code 128 = .ok (.iload 4, 2) := by decide +kernel
theorem dd_T_findRings_130 : decode prog_5_method_4_code 130 = .ok (.isub, 1) := by decide +kernel
theorem dd_T_findRings_131 : decode prog_5_method_4_code 131 = .ok (.iload_n 2, 1) := by decide +kernel
theorem dd_T_findRings_132 : decode prog_5_method_4_code 132 = .ok (.if_icmp .lt 36, 3) := by decide +kernel
theorem dd_T_findRings_135 : decode prog_5_method_4_code 135 = .ok (.aload_n 0, 1) := by decide +kernel
theorem dd_T_findRings_136 : decode prog_5_method_4_code 136 = .ok (.getfield 18, 3) := by decide +kernel
theorem dd_T_findRings_139 : decode prog_5_method_4_code 139 = .ok (.aload_n 0, 1) := by decide +kernel
theorem dd_T_findRings_140 : decode prog_5_method_4_code 140 = .ok (.getfield 25, 3) := by decide +kernel
theorem dd_T_findRings_143 : decode prog_5_method_4_code 143 = .ok (.iload 5, 2) := by decide +kernel
theorem dd_T_findRings_145 : decode prog_5_method_4_code 145 = .ok (.iastore, 1) := by decide +kernel
theorem dd_T_findRings_146 : decode prog_5_method_4_code 146 = .ok (.aload_n 0, 1) := by decide +kernel
theorem dd_T_findRings_147 : decode prog_5_method_4_code 147 = .ok (.dup, 1) := by decide +kernel
theorem dd_T_findRings_148 : decode prog_5_method_4_code 148 = .ok (.getfield 25, 3) := by decide +kernel
theorem dd_T_findRings_151 : decode prog_5_method_4_code 151 = .ok (.iconst 1, 1) := by decide +kernel
theorem dd_T_findRings_152 : decode prog_5_method_4_code 152 = .ok (.iadd, 1) := by decide +kernel
theorem dd_T_findRings_153 : decode prog_5_method_4_code 153 = .ok (.putfield 25, 3) := by decide +kernel
theorem dd_T_findRings_156 : decode prog_5_method_4_code 156 = .ok (.iload 5, 2) := by decide +kernel
theorem dd_T_findRings_158 : decode prog_5_method_4_code 158 = .ok (.istore_n 3, 1) := by decide +kernel
theorem dd_T_findRings_159 : decode prog_5_method_4_code 159 = .ok (.aload_n 0, 1) := by decide +kernel
theorem dd_T_findRings_160 : decode prog_5_method_4_code 160 = .ok (.getfield 15, 3) := by decide +kernel
theorem dd_T_findRings_163 : decode prog_5_method_4_code 163 = .ok (.iload 5, 2) := by decide +kernel
theorem dd_T_findRings_165 : decode prog_5_method_4_code 165 = .ok (.iaload, 1) := by decide +kernel
theorem dd_T_findRings_166 : decode prog_5_method_4_code 166 = .ok (.istore 4, 2) := by decide +kernel
theorem dd_T_findRings_168 : decode prog_5_method_4_code 168 = .ok (.iinc 5 1, 3) := by decide +kernel
theorem dd_T_findRings_171 : decode prog_5_method_4_code 171 = .ok (.goto (-142), 3) := by decide +kernel
theorem dd_T_findRings_174 : decode prog_5_method_4_code 174 = .ok (.return_, 1) := by decide +kernel
theorem dd_S_follow_0 : decode prog_1_method_24_code 0 = .ok (.iload_n 1, 1) := by decide +kernel
theorem dd_S_follow_1 : decode prog_1_method_24_code 1 = .ok (.aload_n 0, 1) := by decide +kernel
theorem dd_S_follow_2 : decode prog_1_method_24_code 2 = .ok (.getfield 40, 3) := by decide +kernel
theorem dd_S_follow_5 : decode prog_1_method_24_code 5 = .ok (.invokestatic 82, 3) := by decide +kernel
theorem dd_S_follow_8 : decode prog_1_method_24_code 8 = .ok (.aload_n 2, 1) := by decide +kernel
theorem dd_S_follow_9 : decode prog_1_method_24_code 9 = .ok (.aload_n 0, 1) := by decide +kernel
theorem dd_S_follow_10 : decode prog_1_method_24_code 10 = .ok (.getfield 59, 3) := by decide +kernel
theorem dd_S_follow_13 : decode prog_1_method_24_code 13 = .ok (.aload_n 0, 1) := by decide +kernel
theorem dd_S_follow_14 : decode prog_1_method_24_code 14 = .ok (.getfield 9, 3) := by decide +kernel
theorem dd_S_follow_17 : decode prog_1_method_24_code 17 = .ok (.iload_n 1, 1) := by decide +kernel
theorem dd_S_follow_18 : decode prog_1_method_24_code 18 = .ok (.iaload, 1) := by decide +kernel
theorem dd_S_follow_19 : decode prog_1_method_24_code 19 = .ok (.aload_n 0, 1) := by decide +kernel
theorem dd_S_follow_20 : decode prog_1_method_24_code 20 = .ok (.getfield 13, 3) := by decide +kernel
theorem dd_S_follow_23 : decode prog_1_method_24_code 23 = .ok (.iload_n 1, 1) := by decide +kernel
theorem dd_S_follow_24 : decode prog_1_method_24_code 24 = .ok (.iaload, 1) := by decide +kernel
theorem dd_S_follow_25 : decode prog_1_method_24_code 25 = .ok (.invokevirtual 202, 3) := by decide +kernel
theorem dd_S_follow_28 : decode prog_1_method_24_code 28 = .ok (.aload_n 2, 1) := by decide +kernel
theorem dd_S_follow_29 : decode prog_1_method_24_code 29 = .ok (.invokevirtual 206, 3) := by decide +kernel
theorem dd_S_follow_32 : decode prog_1_method_24_code 32 = .ok (.aload_n 2, 1) := by decide +kernel
theorem dd_S_follow_33 : decode prog_1_method_24_code 33 = .ok (.aload_n 0, 1) := by decide +kernel
theorem dd_S_follow_34 : decode prog_1_method_24_code 34 = .ok (.getfield 44, 3) := by decide +kernel
theorem dd_S_follow_37 : decode prog_1_method_24_code 37 = .ok (.aload_n 0, 1) := by decide +kernel
theorem dd_S_follow_38 : decode prog_1_method_24_code 38 = .ok (.getfield 47, 3) := by decide +kernel
theorem dd_S_follow_41 : decode prog_1_method_24_code 41 = .ok (.invokevirtual 209, 3) := by decide +kernel
theorem dd_S_follow_44 : decode prog_1_method_24_code 44 = .ok (.return_, 1) := by decide +kernel
theorem dd_S_samples_0 : decode prog_1_method_5_code 0 = .ok (.aload_n 0, 1) := by decide +kernel
theorem dd_S_samples_1 : decode prog_1_method_5_code 1 = .ok (.iload_n 1, 1) := by decide +kernel
theorem dd_S_samples_2 : decode prog_1_method_5_code 2 = .ok (.aload_n 0, 1) := by decide +kernel
theorem dd_S_samples_3 : decode prog_1_method_5_code 3 = .ok (.getfield 19, 3) := by decide +kernel
theorem dd_S_samples_6 : decode prog_1_method_5_code 6 = .ok (.invokevirtual 102, 3) := by decide +kernel
theorem dd_S_samples_9 : decode prog_1_method_5_code 9 = .ok (.aload_n 0, 1) := by decide +kernel
theorem dd_S_samples_10 : decode prog_1_method_5_code 10 = .ok (.getfield 19, 3) := by decide +kernel
theorem dd_S_samples_13 : decode prog_1_method_5_code 13 = .ok (.getfield 106, 3) := by decide +kernel
theorem dd_S_samples_16 : decode prog_1_method_5_code 16 = .ok (.ireturn, 1) := by decide +kernel
theorem dd_S_sample_0 : decode prog_1_method_6_code 0 = .ok (.aload_n 0, 1) := by decide +kernel
theorem dd_S_sample_1 : decode prog_1_method_6_code 1 = .ok (.iload_n 1, 1) := by decide +kernel
theorem dd_S_sample_2 : decode prog_1_method_6_code 2 = .ok (.aload_n 0, 1) := by decide +kernel
theorem dd_S_sample_3 : decode prog_1_method_6_code 3 = .ok (.getfield 19, 3) := by decide +kernel
theorem dd_S_sample_6 : decode prog_1_method_6_code 6 = .ok (.invokevirtual 102, 3) := by decide +kernel
theorem dd_S_sample_9 : decode prog_1_method_6_code 9 = .ok (.iload_n 2, 1) := by decide +kernel
theorem dd_S_sample_10 : decode prog_1_method_6_code 10 = .ok (.aload_n 0, 1) := by decide +kernel
theorem dd_S_sample_11 : decode prog_1_method_6_code 11 = .ok (.getfield 19, 3) := by decide +kernel
theorem dd_S_sample_14 : decode prog_1_method_6_code 14 = .ok (.getfield 106, 3) := by decide +kernel
theorem dd_S_sample_17 : decode prog_1_method_6_code 17 = .ok (.invokestatic 82, 3) := by decide +kernel
theorem dd_S_sample_20 : decode prog_1_method_6_code 20 = .ok (.iload_n 3, 1) := by decide +kernel
theorem dd_S_sample_21 : decode prog_1_method_6_code 21 = .ok (.ifCond .eq 15, 3) := by decide +kernel
theorem dd_S_sample_24 : decode prog_1_method_6_code 24 = .ok (.aload_n 0, 1) := by decide +kernel
theorem dd_S_sample_25 : decode prog_1_method_6_code 25 = .ok (.getfield 19, 3) := by decide +kernel
theorem dd_S_sample_28 : decode prog_1_method_6_code 28 = .ok (.getfield 109, 3) := by decide +kernel
theorem dd_S_sample_31 : decode prog_1_method_6_code 31 = .ok (.iload_n 2, 1) := by decide +kernel
theorem dd_S_sample_32 : decode prog_1_method_6_code 32 = .ok (.iaload, 1) := by decide +kernel
theorem dd_S_sample_33 : decode prog_1_method_6_code 33 = .ok (.goto 12, 3) := by decide +kernel
theorem dd_S_sample_36 : decode prog_1_method_6_code 36 = .ok (.aload_n 0, 1) := by decide +kernel
theorem dd_S_sample_37 : decode prog_1_method_6_code 37 = .ok (.getfield 19, 3) := by decide +kernel
theorem dd_S_sample_40 : decode prog_1_method_6_code 40 = .ok (.getfield 112, 3) := by decide +kernel
theorem dd_S_sample_43 : decode prog_1_method_6_code 43 = .ok (.iload_n 2, 1) := by decide +kernel
theorem dd_S_sample_44 : decode prog_1_method_6_code 44 = .ok (.iaload, 1) := by decide +kernel
theorem dd_S_sample_45 : decode prog_1_method_6_code 45 = .ok (.ireturn, 1) := by decide +kernel
theorem dd_S_rule_0 : decode prog_1_method_7_code 0 = .ok (.iload_n 1, 1) := by decide +kernel
theorem dd_S_rule_1 : decode prog_1_method_7_code 1 = .ok (.iconst 1, 1) := by decide +kernel
theorem dd_S_rule_2 : decode prog_1_method_7_code 2 = .ok (.bipush 10, 2) := by decide +kernel
theorem dd_S_rule_4 : decode prog_1_method_7_code 4 = .ok (.invokestatic 74, 3) := by decide +kernel
theorem dd_S_rule_7 : decode prog_1_method_7_code 7 = .ok (.iload_n 2, 1) := by decide +kernel
theorem dd_S_rule_8 : decode prog_1_method_7_code 8 = .ok (.iconst 0, 1) := by decide +kernel
theorem dd_S_rule_9 : decode prog_1_method_7_code 9 = .ok (.sipush 255, 3) := by decide +kernel
theorem dd_S_rule_12 : decode prog_1_method_7_code 12 = .ok (.invokestatic 74, 3) := by decide +kernel
theorem dd_S_rule_15 : decode prog_1_method_7_code 15 = .ok (.aload_n 0, 1) := by decide +kernel
theorem dd_S_rule_16 : decode prog_1_method_7_code 16 = .ok (.iload_n 1, 1) := by decide +kernel
theorem dd_S_rule_17 : decode prog_1_method_7_code 17 = .ok (.putfield 44, 3) := by decide +kernel
theorem dd_S_rule_20 : decode prog_1_method_7_code 20 = .ok (.aload_n 0, 1) := by decide +kernel
theorem dd_S_rule_21 : decode prog_1_method_7_code 21 = .ok (.iload_n 2, 1) := by decide +kernel
theorem dd_S_rule_22 : decode prog_1_method_7_code 22 = .ok (.putfield 47, 3) := by decide +kernel
theorem dd_S_rule_25 : decode prog_1_method_7_code 25 = .ok (.return_, 1) := by decide +kernel
theorem dd_S_rings_0 : decode prog_1_method_8_code 0 = .ok (.aload_n 0, 1) := by decide +kernel
theorem dd_S_rings_1 : decode prog_1_method_8_code 1 = .ok (.iload_n 1, 1) := by decide +kernel
theorem dd_S_rings_2 : decode prog_1_method_8_code 2 = .ok (.aload_n 0, 1) := by decide +kernel
theorem dd_S_rings_3 : decode prog_1_method_8_code 3 = .ok (.getfield 19, 3) := by decide +kernel
theorem dd_S_rings_6 : decode prog_1_method_8_code 6 = .ok (.invokevirtual 102, 3) := by decide +kernel
theorem dd_S_rings_9 : decode prog_1_method_8_code 9 = .ok (.aload_n 0, 1) := by decide +kernel
theorem dd_S_rings_10 : decode prog_1_method_8_code 10 = .ok (.getfield 19, 3) := by decide +kernel
theorem dd_S_rings_13 : decode prog_1_method_8_code 13 = .ok (.getfield 115, 3) := by decide +kernel
theorem dd_S_rings_16 : decode prog_1_method_8_code 16 = .ok (.ireturn, 1) := by decide +kernel
theorem dd_T_widthOf_0 : decode prog_5_method_5_code 0 = .ok (.iload_n 1, 1) := by decide +kernel
theorem dd_T_widthOf_1 : decode prog_5_method_5_code 1 = .ok (.ifCond .le 21, 3) := by decide +kernel
theorem dd_T_widthOf_4 : decode prog_5_method_5_code 4 = .ok (.aload_n 0, 1) := by decide +kernel
theorem dd_T_widthOf_5 : decode prog_5_method_5_code 5 = .ok (.getfield 18, 3) := by decide +kernel
theorem dd_T_widthOf_8 : decode prog_5_method_5_code 8 = .ok (.iload_n 1, 1) := by decide +kernel
theorem dd_T_widthOf_9 : decode prog_5_method_5_code 9 = .ok (.iaload, 1) := by decide +kernel
theorem dd_T_widthOf_10 : decode prog_5_method_5_code 10 = .ok (.aload_n 0, 1) := by decide +kernel
theorem dd_T_widthOf_11 : decode prog_5_method_5_code 11 = .ok (.getfield 18, 3) := by decide +kernel
theorem dd_T_widthOf_14 : decode prog_5_method_5_code 14 = .ok (.iload_n 1, 1) := by decide +kernel
theorem dd_T_widthOf_15 : decode prog_5_method_5_code 15 = .ok (.iconst 1, 1) := by decide +kernel
theorem dd_T_widthOf_16 : decode prog_5_method_5_code 16 = .ok (.isub, 1) := by decide +kernel
theorem dd_T_widthOf_17 : decode prog_5_method_5_code 17 = .ok (.iaload, 1) := by decide +kernel
theorem dd_T_widthOf_18 : decode prog_5_method_5_code 18 = .ok (.isub, 1) := by decide +kernel
theorem dd_T_widthOf_19 : decode prog_5_method_5_code 19 = .ok (.goto 9, 3) := by decide +kernel
theorem dd_T_widthOf_22 : decode prog_5_method_5_code 22 = .ok (.aload_n 0, 1) := by decide +kernel
theorem dd_T_widthOf_23 : decode prog_5_method_5_code 23 = .ok (.getfield 18, 3) := by decide +kernel
theorem dd_T_widthOf_26 : decode prog_5_method_5_code 26 = .ok (.iload_n 1, 1) := by decide +kernel
theorem dd_T_widthOf_27 : decode prog_5_method_5_code 27 = .ok (.iaload, 1) := by decide +kernel
theorem dd_T_widthOf_28 : decode prog_5_method_5_code 28 = .ok (.ireturn, 1) := by decide +kernel
theorem dd_T_isFalse_0 : decode prog_5_method_6_code 0 = .ok (.iload_n 1, 1) := by decide +kernel
theorem dd_T_isFalse_1 : decode prog_5_method_6_code 1 = .ok (.iconst 1, 1) := by decide +kernel
theorem dd_T_isFalse_2 : decode prog_5_method_6_code 2 = .ok (.if_icmp .lt 13, 3) := by decide +kernel
theorem dd_T_isFalse_5 : decode prog_5_method_6_code 5 = .ok (.iload_n 1, 1) := by decide +kernel
theorem dd_T_isFalse_6 : decode prog_5_method_6_code 6 = .ok (.aload_n 0, 1) := by decide +kernel
theorem dd_T_isFalse_7 : decode prog_5_method_6_code 7 = .ok (.getfield 25, 3) := by decide +kernel
theorem dd_T_isFalse_10 : decode prog_5_method_6_code 10 = .ok (.iconst 1, 1) := by decide +kernel
theorem dd_T_isFalse_11 : decode prog_5_method_6_code 11 = .ok (.isub, 1) := by decide +kernel
theorem dd_T_isFalse_12 : decode prog_5_method_6_code 12 = .ok (.if_icmp .lt 5, 3) := by decide +kernel
theorem dd_T_isFalse_15 : decode prog_5_method_6_code 15 = .ok (.iconst 0, 1) := by decide +kernel
theorem dd_T_isFalse_16 : decode prog_5_method_6_code 16 = .ok (.ireturn, 1) := by decide +kernel
theorem dd_T_isFalse_17 : decode prog_5_method_6_code 17 = .ok (.iconst 2, 1) := by decide +kernel
theorem dd_T_isFalse_18 : decode prog_5_method_6_code 18 = .ok (.aload_n 0, 1) := by decide +kernel
theorem dd_T_isFalse_19 : decode prog_5_method_6_code 19 = .ok (.iload_n 1, 1) := by decide +kernel
theorem dd_T_isFalse_20 : decode prog_5_method_6_code 20 = .ok (.invokevirtual 63, 3) := by decide +kernel
theorem dd_T_isFalse_23 : decode prog_5_method_6_code 23 = .ok (.imul, 1) := by decide +kernel
theorem dd_T_isFalse_24 : decode prog_5_method_6_code 24 = .ok (.istore_n 2, 1) := by decide +kernel
theorem dd_T_isFalse_25 : decode prog_5_method_6_code 25 = .ok (.iload_n 2, 1) := by decide +kernel
theorem dd_T_isFalse_26 : decode prog_5_method_6_code 26 = .ok (.aload_n 0, 1) := by decide +kernel
theorem dd_T_isFalse_27 : decode prog_5_method_6_code 27 = .ok (.iload_n 1, 1) := by decide +kernel
theorem dd_T_isFalse_28 : decode prog_5_method_6_code 28 = .ok (.iconst 1, 1) := by decide +kernel
theorem dd_T_isFalse_29 : decode prog_5_method_6_code 29 = .ok (.isub, 1) := by decide +kernel
theorem dd_T_isFalse_30 : decode prog_5_method_6_code 30 = .ok (.invokevirtual 63, 3) := by decide +kernel
theorem dd_T_isFalse_33 : decode prog_5_method_6_code 33 = .ok (.if_icmp .ge 18, 3) := by decide +kernel
theorem dd_T_isFalse_36 : decode prog_5_method_6_code 36 = .ok (.iload_n 2, 1) := by decide +kernel
theorem dd_T_isFalse_37 : decode prog_5_method_6_code 37 = .ok (.aload_n 0, 1) := by decide +kernel
theorem dd_T_isFalse_38 : decode prog_5_method_6_code 38 = .ok (.iload_n 1, 1) := by decide +kernel
theorem dd_T_isFalse_39 : decode prog_5_method_6_code 39 = .ok (.iconst 1, 1) := by decide +kernel
theorem dd_T_isFalse_40 : decode prog_5_method_6_code 40 = .ok (.iadd, 1) := by decide +kernel
theorem dd_T_isFalse_41 : decode prog_5_method_6_code 41 = .ok (.invokevirtual 63, 3) := by decide +kernel
theorem dd_T_isFalse_44 : decode prog_5_method_6_code 44 = .ok (.if_icmp .ge 7, 3) := by decide +kernel
theorem dd_T_isFalse_47 : decode prog_5_method_6_code 47 = .ok (.iconst 1, 1) := by decide +kernel
theorem dd_T_isFalse_48 : decode prog_5_method_6_code 48 = .ok (.goto 4, 3) := by decide +kernel
theorem dd_T_isFalse_51 : decode prog_5_method_6_code 51 = .ok (.iconst 0, 1) := by decide +kernel
theorem dd_T_isFalse_52 : decode prog_5_method_6_code 52 = .ok (.ireturn, 1) := by decide +kernel
theorem dd_S_ring_0 : decode prog_1_method_9_code 0 = .ok (.aload_n 0, 1) := by decide +kernel
theorem dd_S_ring_1 : decode prog_1_method_9_code 1 = .ok (.iload_n 1, 1) := by decide +kernel
theorem dd_S_ring_2 : decode prog_1_method_9_code 2 = .ok (.aload_n 0, 1) := by decide +kernel
theorem dd_S_ring_3 : decode prog_1_method_9_code 3 = .ok (.getfield 19, 3) := by decide +kernel
theorem dd_S_ring_6 : decode prog_1_method_9_code 6 = .ok (.invokevirtual 102, 3) := by decide +kernel
theorem dd_S_ring_9 : decode prog_1_method_9_code 9 = .ok (.iload_n 2, 1) := by decide +kernel
theorem dd_S_ring_10 : decode prog_1_method_9_code 10 = .ok (.aload_n 0, 1) := by decide +kernel
theorem dd_S_ring_11 : decode prog_1_method_9_code 11 = .ok (.getfield 19, 3) := by decide +kernel
theorem dd_S_ring_14 : decode prog_1_method_9_code 14 = .ok (.getfield 115, 3) := by decide +kernel
theorem dd_S_ring_17 : decode prog_1_method_9_code 17 = .ok (.invokestatic 82, 3) := by decide +kernel
theorem dd_S_ring_20 : decode prog_1_method_9_code 20 = .ok (.iload_n 3, 1) := by decide +kernel
theorem dd_S_ring_21 : decode prog_1_method_9_code 21 = .ok (.iconst 4, 1) := by decide +kernel
theorem dd_S_ring_22 : decode prog_1_method_9_code 22 = .ok (.invokestatic 82, 3) := by decide +kernel
theorem dd_S_ring_25 : decode prog_1_method_9_code 25 = .ok (.iload_n 3, 1) := by decide +kernel
theorem dd_S_ring_26 : decode prog_1_method_9_code 26 = .ok (.tableswitch 63 0 2 #[26, 36, 54], 26) := by decide +kernel
theorem dd_S_ring_52 : decode prog_1_method_9_code 52 = .ok (.aload_n 0, 1) := by decide +kernel
theorem dd_S_ring_53 : decode prog_1_method_9_code 53 = .ok (.getfield 19, 3) := by decide +kernel
theorem dd_S_ring_56 : decode prog_1_method_9_code 56 = .ok (.getfield 118, 3) := by decide +kernel
theorem dd_S_ring_59 : decode prog_1_method_9_code 59 = .ok (.iload_n 2, 1) := by decide +kernel
theorem dd_S_ring_60 : decode prog_1_method_9_code 60 = .ok (.iaload, 1) := by decide +kernel
theorem dd_S_ring_61 : decode prog_1_method_9_code 61 = .ok (.ireturn, 1) := by decide +kernel
theorem dd_S_ring_62 : decode prog_1_method_9_code 62 = .ok (.aload_n 0, 1) := by decide +kernel
theorem dd_S_ring_63 : decode prog_1_method_9_code 63 = .ok (.getfield 19, 3) := by decide +kernel
theorem dd_S_ring_66 : decode prog_1_method_9_code 66 = .ok (.getfield 109, 3) := by decide +kernel
theorem dd_S_ring_69 : decode prog_1_method_9_code 69 = .ok (.aload_n 0, 1) := by decide +kernel
theorem dd_S_ring_70 : decode prog_1_method_9_code 70 = .ok (.getfield 19, 3) := by decide +kernel
theorem dd_S_ring_73 : decode prog_1_method_9_code 73 = .ok (.getfield 118, 3) := by decide +kernel
theorem dd_S_ring_76 : decode prog_1_method_9_code 76 = .ok (.iload_n 2, 1) := by decide +kernel
theorem dd_S_ring_77 : decode prog_1_method_9_code 77 = .ok (.iaload, 1) := by decide +kernel
theorem dd_S_ring_78 : decode prog_1_method_9_code 78 = .ok (.iaload, 1) := by decide +kernel
theorem dd_S_ring_79 : decode prog_1_method_9_code 79 = .ok (.ireturn, 1) := by decide +kernel
theorem dd_S_ring_80 : decode prog_1_method_9_code 80 = .ok (.aload_n 0, 1) := by decide +kernel
theorem dd_S_ring_81 : decode prog_1_method_9_code 81 = .ok (.getfield 19, 3) := by decide +kernel
theorem dd_S_ring_84 : decode prog_1_method_9_code 84 = .ok (.iload_n 2, 1) := by decide +kernel
theorem dd_S_ring_85 : decode prog_1_method_9_code 85 = .ok (.invokevirtual 121, 3) := by decide +kernel
theorem dd_S_ring_88 : decode prog_1_method_9_code 88 = .ok (.ireturn, 1) := by decide +kernel
theorem dd_S_ring_89 : decode prog_1_method_9_code 89 = .ok (.aload_n 0, 1) := by decide +kernel
theorem dd_S_ring_90 : decode prog_1_method_9_code 90 = .ok (.getfield 19, 3) := by decide +kernel
theorem dd_S_ring_93 : decode prog_1_method_9_code 93 = .ok (.iload_n 2, 1) := by decide +kernel
theorem dd_S_ring_94 : decode prog_1_method_9_code 94 = .ok (.invokevirtual 124, 3) := by decide +kernel
theorem dd_S_ring_97 : decode prog_1_method_9_code 97 = .ok (.ifCond .eq 7, 3) := by decide +kernel
theorem dd_S_ring_100 : decode prog_1_method_9_code 100 = .ok (.iconst 1, 1) := by decide +kernel
theorem dd_S_ring_101 : decode prog_1_method_9_code 101 = .ok (.goto 4, 3) := by decide +kernel
theorem dd_S_ring_104 : decode prog_1_method_9_code 104 = .ok (.iconst 0, 1) := by decide +kernel
theorem dd_S_ring_105 : decode prog_1_method_9_code 105 = .ok (.ireturn, 1) := by decide +kernel
theorem dd_G_together_0 : decode prog_2_method_5_code 0 = .ok (.aload_n 1, 1) := by decide +kernel
theorem dd_G_together_1 : decode prog_2_method_5_code 1 = .ok (.getfield 52, 3) := by decide +kernel
theorem dd_G_together_4 : decode prog_2_method_5_code 4 = .ok (.iload_n 3, 1) := by decide +kernel
theorem dd_G_together_5 : decode prog_2_method_5_code 5 = .ok (.iaload, 1) := by decide +kernel
theorem dd_G_together_6 : decode prog_2_method_5_code 6 = .ok (.aload_n 2, 1) := by decide +kernel
theorem dd_G_together_7 : decode prog_2_method_5_code 7 = .ok (.getfield 52, 3) := by decide +kernel
theorem dd_G_together_10 : decode prog_2_method_5_code 10 = .ok (.iload 4, 2) := by decide +kernel
theorem dd_G_together_12 : decode prog_2_method_5_code 12 = .ok (.iaload, 1) := by decide +kernel
theorem dd_G_together_13 : decode prog_2_method_5_code 13 = .ok (.isub, 1) := by decide +kernel
theorem dd_G_together_14 : decode prog_2_method_5_code 14 = .ok (.invokestatic 55, 3) := by decide +kernel
theorem dd_G_together_17 : decode prog_2_method_5_code 17 = .ok (.aload_n 0, 1) := by decide +kernel
theorem dd_G_together_18 : decode prog_2_method_5_code 18 = .ok (.getfield 11, 3) := by decide +kernel
theorem dd_G_together_21 : decode prog_2_method_5_code 21 = .ok (.iload_n 3, 1) := by decide +kernel
theorem dd_G_together_22 : decode prog_2_method_5_code 22 = .ok (.iconst 1, 1) := by decide +kernel
theorem dd_G_together_23 : decode prog_2_method_5_code 23 = .ok (.iadd, 1) := by decide +kernel
theorem dd_G_together_24 : decode prog_2_method_5_code 24 = .ok (.bipush 9, 2) := by decide +kernel
theorem dd_G_together_26 : decode prog_2_method_5_code 26 = .ok (.imul, 1) := by decide +kernel
theorem dd_G_together_27 : decode prog_2_method_5_code 27 = .ok (.iload 4, 2) := by decide +kernel
theorem dd_G_together_29 : decode prog_2_method_5_code 29 = .ok (.iadd, 1) := by decide +kernel
theorem dd_G_together_30 : decode prog_2_method_5_code 30 = .ok (.iconst 1, 1) := by decide +kernel
theorem dd_G_together_31 : decode prog_2_method_5_code 31 = .ok (.iadd, 1) := by decide +kernel
theorem dd_G_together_32 : decode prog_2_method_5_code 32 = .ok (.iaload, 1) := by decide +kernel
theorem dd_G_together_33 : decode prog_2_method_5_code 33 = .ok (.iadd, 1) := by decide +kernel
theorem dd_G_together_34 : decode prog_2_method_5_code 34 = .ok (.ireturn, 1) := by decide +kernel
theorem dd_G_leastFrom_0 : decode prog_2_method_4_code 0 = .ok (.iload_n 3, 1) := by decide +kernel
theorem dd_G_leastFrom_1 : decode prog_2_method_4_code 1 = .ok (.aload_n 1, 1) := by decide +kernel
theorem dd_G_leastFrom_2 : decode prog_2_method_4_code 2 = .ok (.getfield 26, 3) := by decide +kernel
theorem dd_G_leastFrom_5 : decode prog_2_method_4_code 5 = .ok (.if_icmp .lt 14, 3) := by decide +kernel
theorem dd_G_leastFrom_8 : decode prog_2_method_4_code 8 = .ok (.aload_n 2, 1) := by decide +kernel
theorem dd_G_leastFrom_9 : decode prog_2_method_4_code 9 = .ok (.getfield 26, 3) := by decide +kernel
theorem dd_G_leastFrom_12 : decode prog_2_method_4_code 12 = .ok (.iload 4, 2) := by decide +kernel
theorem dd_G_leastFrom_14 : decode prog_2_method_4_code 14 = .ok (.isub, 1) := by decide +kernel
theorem dd_G_leastFrom_15 : decode prog_2_method_4_code 15 = .ok (.iload 5, 2) := by decide +kernel
theorem dd_G_leastFrom_17 : decode prog_2_method_4_code 17 = .ok (.imul, 1) := by decide +kernel
theorem dd_G_leastFrom_18 : decode prog_2_method_4_code 18 = .ok (.ireturn, 1) := by decide +kernel
theorem dd_G_leastFrom_19 : decode prog_2_method_4_code 19 = .ok (.iload 4, 2) := by decide +kernel
theorem dd_G_leastFrom_21 : decode prog_2_method_4_code 21 = .ok (.aload_n 2, 1) := by decide +kernel
theorem dd_G_leastFrom_22 : decode prog_2_method_4_code 22 = .ok (.getfield 26, 3) := by decide +kernel
theorem dd_G_leastFrom_25 : decode prog_2_method_4_code 25 = .ok (.if_icmp .lt 13, 3) := by decide +kernel
theorem dd_G_leastFrom_28 : decode prog_2_method_4_code 28 = .ok (.aload_n 1, 1) := by decide +kernel
theorem dd_G_leastFrom_29 : decode prog_2_method_4_code 29 = .ok (.getfield 26, 3) := by decide +kernel
theorem dd_G_leastFrom_32 : decode prog_2_method_4_code 32 = .ok (.iload_n 3, 1) := by decide +kernel
theorem dd_G_leastFrom_33 : decode prog_2_method_4_code 33 = .ok (.isub, 1) := by decide +kernel
theorem dd_G_leastFrom_34 : decode prog_2_method_4_code 34 = .ok (.iload 5, 2) := by decide +kernel
theorem dd_G_leastFrom_36 : decode prog_2_method_4_code 36 = .ok (.imul, 1) := by decide +kernel
theorem dd_G_leastFrom_37 : decode prog_2_method_4_code 37 = .ok (.ireturn, 1) := by decide +kernel
theorem dd_G_leastFrom_38 : decode prog_2_method_4_code 38 = .ok (.iload 5, 2) := by decide +kernel
theorem dd_G_leastFrom_40 : decode prog_2_method_4_code 40 = .ok (.aload_n 0, 1) := by decide +kernel
theorem dd_G_leastFrom_41 : decode prog_2_method_4_code 41 = .ok (.getfield 11, 3) := by decide +kernel
theorem dd_G_leastFrom_44 : decode prog_2_method_4_code 44 = .ok (.iload_n 3, 1) := by decide +kernel
theorem dd_G_leastFrom_45 : decode prog_2_method_4_code 45 = .ok (.iconst 1, 1) := by decide +kernel
theorem dd_G_leastFrom_46 : decode prog_2_method_4_code 46 = .ok (.iadd, 1) := by decide +kernel
theorem dd_G_leastFrom_47 : decode prog_2_method_4_code 47 = .ok (.bipush 9, 2) := by decide +kernel
theorem dd_G_leastFrom_49 : decode prog_2_method_4_code 49 = .ok (.imul, 1) := by decide +kernel
theorem dd_G_leastFrom_50 : decode prog_2_method_4_code 50 = .ok (.iload 4, 2) := by decide +kernel
theorem dd_G_leastFrom_52 : decode prog_2_method_4_code 52 = .ok (.iadd, 1) := by decide +kernel
theorem dd_G_leastFrom_53 : decode prog_2_method_4_code 53 = .ok (.iaload, 1) := by decide +kernel
theorem dd_G_leastFrom_54 : decode prog_2_method_4_code 54 = .ok (.aload_n 0, 1) := by decide +kernel
theorem dd_G_leastFrom_55 : decode prog_2_method_4_code 55 = .ok (.getfield 11, 3) := by decide +kernel
theorem dd_G_leastFrom_58 : decode prog_2_method_4_code 58 = .ok (.iload_n 3, 1) := by decide +kernel
theorem dd_G_leastFrom_59 : decode prog_2_method_4_code 59 = .ok (.bipush 9, 2) := by decide +kernel
theorem dd_G_leastFrom_61 : decode prog_2_method_4_code 61 = .ok (.imul, 1) := by decide +kernel
theorem dd_G_leastFrom_62 : decode prog_2_method_4_code 62 = .ok (.iload 4, 2) := by decide +kernel
theorem dd_G_leastFrom_64 : decode prog_2_method_4_code 64 = .ok (.iadd, 1) := by decide +kernel
theorem dd_G_leastFrom_65 : decode prog_2_method_4_code 65 = .ok (.iconst 1, 1) := by decide +kernel
theorem dd_G_leastFrom_66 : decode prog_2_method_4_code 66 = .ok (.iadd, 1) := by decide +kernel
theorem dd_G_leastFrom_67 : decode prog_2_method_4_code 67 = .ok (.iaload, 1) := by decide +kernel
theorem dd_G_leastFrom_68 : decode prog_2_method_4_code 68 = .ok (.invokestatic 42, 3) := by decide +kernel
theorem dd_G_leastFrom_71 : decode prog_2_method_4_code 71 = .ok (.iadd, 1) := by decide +kernel
theorem dd_G_leastFrom_72 : decode prog_2_method_4_code 72 = .ok (.istore 6, 2) := by decide +kernel
theorem dd_G_leastFrom_74 : decode prog_2_method_4_code 74 = .ok (.aload_n 0, 1) := by decide +kernel
theorem dd_G_leastFrom_75 : decode prog_2_method_4_code 75 = .ok (.aload_n 1, 1) := by decide +kernel
theorem dd_G_leastFrom_76 : decode prog_2_method_4_code 76 = .ok (.aload_n 2, 1) := by decide +kernel
theorem dd_G_leastFrom_77 : decode prog_2_method_4_code 77 = .ok (.iload_n 3, 1) := by decide +kernel
theorem dd_G_leastFrom_78 : decode prog_2_method_4_code 78 = .ok (.iload 4, 2) := by decide +kernel
theorem dd_G_leastFrom_80 : decode prog_2_method_4_code 80 = .ok (.invokevirtual 48, 3) := by decide +kernel
theorem dd_G_leastFrom_83 : decode prog_2_method_4_code 83 = .ok (.iload 6, 2) := by decide +kernel
theorem dd_G_leastFrom_85 : decode prog_2_method_4_code 85 = .ok (.invokestatic 42, 3) := by decide +kernel
theorem dd_G_leastFrom_88 : decode prog_2_method_4_code 88 = .ok (.ireturn, 1) := by decide +kernel
theorem dd_G_fillCosts_0 : decode prog_2_method_3_code 0 = .ok (.aload_n 1, 1) := by decide +kernel
theorem dd_G_fillCosts_1 : decode prog_2_method_3_code 1 = .ok (.getfield 26, 3) := by decide +kernel
theorem dd_G_fillCosts_4 : decode prog_2_method_3_code 4 = .ok (.istore 4, 2) := by decide +kernel
theorem dd_G_fillCosts_6 : decode prog_2_method_3_code 6 = .ok (.iload 4, 2) := by decide +kernel
theorem dd_G_fillCosts_8 : decode prog_2_method_3_code 8 = .ok (.ifCond .lt 50, 3) := by decide +kernel
theorem dd_G_fillCosts_11 : decode prog_2_method_3_code 11 = .ok (.aload_n 2, 1) := by decide +kernel
theorem dd_G_fillCosts_12 : decode prog_2_method_3_code 12 = .ok (.getfield 26, 3) := by decide +kernel
theorem dd_G_fillCosts_15 : decode prog_2_method_3_code 15 = .ok (.istore 5, 2) := by decide +kernel
theorem dd_G_fillCosts_17 : decode prog_2_method_3_code 17 = .ok (.iload 5, 2) := by decide +kernel
theorem dd_G_fillCosts_19 : decode prog_2_method_3_code 19 = .ok (.ifCond .lt 33, 3) := by decide +kernel
theorem dd_G_fillCosts_22 : decode prog_2_method_3_code 22 = .ok (.aload_n 0, 1) := by decide +kernel
theorem dd_G_fillCosts_23 : decode prog_2_method_3_code 23 = .ok (.getfield 11, 3) := by decide +kernel
theorem dd_G_fillCosts_26 : decode prog_2_method_3_code 26 = .ok (.iload 4, 2) := by decide +kernel
theorem dd_G_fillCosts_28 : decode prog_2_method_3_code 28 = .ok (.bipush 9, 2) := by decide +kernel
theorem dd_G_fillCosts_30 : decode prog_2_method_3_code 30 = .ok (.imul, 1) := by decide +kernel
theorem dd_G_fillCosts_31 : decode prog_2_method_3_code 31 = .ok (.iload 5, 2) := by decide +kernel
theorem dd_G_fillCosts_33 : decode prog_2_method_3_code 33 = .ok (.iadd, 1) := by decide +kernel
theorem dd_G_fillCosts_34 : decode prog_2_method_3_code 34 = .ok (.aload_n 0, 1) := by decide +kernel
theorem dd_G_fillCosts_35 : decode prog_2_method_3_code 35 = .ok (.aload_n 1, 1) := by decide +kernel
theorem dd_G_fillCosts_36 : decode prog_2_method_3_code 36 = .ok (.aload_n 2, 1) := by decide +kernel
theorem dd_G_fillCosts_37 : decode prog_2_method_3_code 37 = .ok (.iload 4, 2) := by decide +kernel
theorem dd_G_fillCosts_39 : decode prog_2_method_3_code 39 = .ok (.iload 5, 2) := by decide +kernel
theorem dd_G_fillCosts_41 : decode prog_2_method_3_code 41 = .ok (.iload_n 3, 1) := by decide +kernel
theorem dd_G_fillCosts_42 : decode prog_2_method_3_code 42 = .ok (.invokevirtual 38, 3) := by decide +kernel
theorem dd_G_fillCosts_45 : decode prog_2_method_3_code 45 = .ok (.iastore, 1) := by decide +kernel
theorem dd_G_fillCosts_46 : decode prog_2_method_3_code 46 = .ok (.iinc 5 (-1), 3) := by decide +kernel
theorem dd_G_fillCosts_49 : decode prog_2_method_3_code 49 = .ok (.goto (-32), 3) := by decide +kernel
theorem dd_G_fillCosts_52 : decode prog_2_method_3_code 52 = .ok (.iinc 4 (-1), 3) := by decide +kernel
theorem dd_G_fillCosts_55 : decode prog_2_method_3_code 55 = .ok (.goto (-49), 3) := by decide +kernel
theorem dd_G_fillCosts_58 : decode prog_2_method_3_code 58 = .ok (.return_, 1) := by decide +kernel
theorem dd_G_choosePartners_0 : decode prog_2_method_6_code 0 = .ok (.iconst 0, 1) := by decide +kernel
theorem dd_G_choosePartners_1 : decode prog_2_method_6_code 1 = .ok (.istore 4, 2) := by decide +kernel
theorem dd_G_choosePartners_3 : decode prog_2_method_6_code 3 = .ok (.iconst 0, 1) := by decide +kernel
theorem dd_G_choosePartners_4 : decode prog_2_method_6_code 4 = .ok (.istore 5, 2) := by decide +kernel
theorem dd_G_choosePartners_6 : decode prog_2_method_6_code 6 = .ok (.iconst 0, 1) := by decide +kernel
theorem dd_G_choosePartners_7 : decode prog_2_method_6_code 7 = .ok (.istore 6, 2) := by decide +kernel
theorem dd_G_choosePartners_9 : decode prog_2_method_6_code 9 = .ok (.iload 6, 2) := by decide +kernel
theorem dd_G_choosePartners_11 : decode prog_2_method_6_code 11 = .ok (.aload_n 1, 1) := by decide +kernel
theorem dd_G_choosePartners_12 : decode prog_2_method_6_code 12 = .ok (.getfield 26, 3) := by decide +kernel
theorem dd_G_choosePartners_15 : decode prog_2_method_6_code 15 = .ok (.aload_n 2, 1) := by decide +kernel
theorem dd_G_choosePartners_16 : decode prog_2_method_6_code 16 = .ok (.getfield 26, 3) := by decide +kernel
theorem dd_G_choosePartners_19 : decode prog_2_method_6_code 19 = .ok (.iadd, 1) := by decide +kernel
theorem dd_G_choosePartners_20 : decode prog_2_method_6_code 20 = .ok (.if_icmp .ge 123, 3) := by decide +kernel
theorem dd_G_choosePartners_23 : decode prog_2_method_6_code 23 = .ok (.iload 4, 2) := by decide +kernel
theorem dd_G_choosePartners_25 : decode prog_2_method_6_code 25 = .ok (.aload_n 1, 1) := by decide +kernel
theorem dd_G_choosePartners_26 : decode prog_2_method_6_code 26 = .ok (.getfield 26, 3) := by decide +kernel
theorem dd_G_choosePartners_29 : decode prog_2_method_6_code 29 = .ok (.if_icmp .ge 114, 3) := by decide +kernel
theorem dd_G_choosePartners_32 : decode prog_2_method_6_code 32 = .ok (.aload_n 0, 1) := by decide +kernel
theorem dd_G_choosePartners_33 : decode prog_2_method_6_code 33 = .ok (.getfield 11, 3) := by decide +kernel
theorem dd_G_choosePartners_36 : decode prog_2_method_6_code 36 = .ok (.iload 4, 2) := by decide +kernel
theorem dd_G_choosePartners_38 : decode prog_2_method_6_code 38 = .ok (.bipush 9, 2) := by decide +kernel
theorem dd_G_choosePartners_40 : decode prog_2_method_6_code 40 = .ok (.imul, 1) := by decide +kernel
theorem dd_G_choosePartners_41 : decode prog_2_method_6_code 41 = .ok (.iload 5, 2) := by decide +kernel
theorem dd_G_choosePartners_43 : decode prog_2_method_6_code 43 = .ok (.iadd, 1) := by decide +kernel
theorem dd_G_choosePartners_44 : decode prog_2_method_6_code 44 = .ok (.iaload, 1) := by decide +kernel
theorem dd_G_choosePartners_45 : decode prog_2_method_6_code 45 = .ok (.istore 7, 2) := by decide +kernel
theorem dd_G_choosePartners_47 : decode prog_2_method_6_code 47 = .ok (.iload 5, 2) := by decide +kernel
theorem dd_G_choosePartners_49 : decode prog_2_method_6_code 49 = .ok (.aload_n 2, 1) := by decide +kernel
theorem dd_G_choosePartners_50 : decode prog_2_method_6_code 50 = .ok (.getfield 26, 3) := by decide +kernel
theorem dd_G_choosePartners_53 : decode prog_2_method_6_code 53 = .ok (.if_icmp .ge 36, 3) := by decide +kernel
theorem dd_G_choosePartners_56 : decode prog_2_method_6_code 56 = .ok (.aload_n 0, 1) := by decide +kernel
theorem dd_G_choosePartners_57 : decode prog_2_method_6_code 57 = .ok (.aload_n 1, 1) := by decide +kernel
theorem dd_G_choosePartners_58 : decode prog_2_method_6_code 58 = .ok (.aload_n 2, 1) := by decide +kernel
theorem dd_G_choosePartners_59 : decode prog_2_method_6_code 59 = .ok (.iload 4, 2) := by decide +kernel
theorem dd_G_choosePartners_61 : decode prog_2_method_6_code 61 = .ok (.iload 5, 2) := by decide +kernel
theorem dd_G_choosePartners_63 : decode prog_2_method_6_code 63 = .ok (.invokevirtual 48, 3) := by decide +kernel
theorem dd_G_choosePartners_66 : decode prog_2_method_6_code 66 = .ok (.iload 7, 2) := by decide +kernel
theorem dd_G_choosePartners_68 : decode prog_2_method_6_code 68 = .ok (.if_icmp .ne 21, 3) := by decide +kernel
theorem dd_G_choosePartners_71 : decode prog_2_method_6_code 71 = .ok (.aload_n 0, 1) := by decide +kernel
theorem dd_G_choosePartners_72 : decode prog_2_method_6_code 72 = .ok (.getfield 15, 3) := by decide +kernel
theorem dd_G_choosePartners_75 : decode prog_2_method_6_code 75 = .ok (.iload 4, 2) := by decide +kernel
theorem dd_G_choosePartners_77 : decode prog_2_method_6_code 77 = .ok (.iload 5, 2) := by decide +kernel
theorem dd_G_choosePartners_79 : decode prog_2_method_6_code 79 = .ok (.iastore, 1) := by decide +kernel
theorem dd_G_choosePartners_80 : decode prog_2_method_6_code 80 = .ok (.iinc 4 1, 3) := by decide +kernel
theorem dd_G_choosePartners_83 : decode prog_2_method_6_code 83 = .ok (.iinc 5 1, 3) := by decide +kernel
theorem dd_G_choosePartners_86 : decode prog_2_method_6_code 86 = .ok (.goto 51, 3) := by decide +kernel
theorem dd_G_choosePartners_89 : decode prog_2_method_6_code 89 = .ok (.iload 5, 2) := by decide +kernel
theorem dd_G_choosePartners_91 : decode prog_2_method_6_code 91 = .ok (.aload_n 2, 1) := by decide +kernel
theorem dd_G_choosePartners_92 : decode prog_2_method_6_code 92 = .ok (.getfield 26, 3) := by decide +kernel
theorem dd_G_choosePartners_95 : decode prog_2_method_6_code 95 = .ok (.if_icmp .ge 25, 3) := by decide +kernel
theorem dd_G_choosePartners_98 : decode prog_2_method_6_code 98 = .ok (.iload_n 3, 1) := by decide +kernel
theorem dd_G_choosePartners_99 : decode prog_2_method_6_code 99 = .ok (.aload_n 0, 1) := by decide +kernel
theorem dd_G_choosePartners_100 : decode prog_2_method_6_code 100 = .ok (.getfield 11, 3) := by decide +kernel
theorem dd_G_choosePartners_103 : decode prog_2_method_6_code 103 = .ok (.iload 4, 2) := by decide +kernel
theorem dd_G_choosePartners_105 : decode prog_2_method_6_code 105 = .ok (.iconst 1, 1) := by decide +kernel
theorem dd_G_choosePartners_106 : decode prog_2_method_6_code 106 = .ok (.iadd, 1) := by decide +kernel
theorem dd_G_choosePartners_107 : decode prog_2_method_6_code 107 = .ok (.bipush 9, 2) := by decide +kernel
theorem dd_G_choosePartners_109 : decode prog_2_method_6_code 109 = .ok (.imul, 1) := by decide +kernel
theorem dd_G_choosePartners_110 : decode prog_2_method_6_code 110 = .ok (.iload 5, 2) := by decide +kernel
theorem dd_G_choosePartners_112 : decode prog_2_method_6_code 112 = .ok (.iadd, 1) := by decide +kernel
theorem dd_G_choosePartners_113 : decode prog_2_method_6_code 113 = .ok (.iaload, 1) := by decide +kernel
theorem dd_G_choosePartners_114 : decode prog_2_method_6_code 114 = .ok (.iadd, 1) := by decide +kernel
theorem dd_G_choosePartners_115 : decode prog_2_method_6_code 115 = .ok (.iload 7, 2) := by decide +kernel
theorem dd_G_choosePartners_117 : decode prog_2_method_6_code 117 = .ok (.if_icmp .ne 17, 3) := by decide +kernel
theorem dd_G_choosePartners_120 : decode prog_2_method_6_code 120 = .ok (.aload_n 0, 1) := by decide +kernel
theorem dd_G_choosePartners_121 : decode prog_2_method_6_code 121 = .ok (.getfield 15, 3) := by decide +kernel
theorem dd_G_choosePartners_124 : decode prog_2_method_6_code 124 = .ok (.iload 4, 2) := by decide +kernel
theorem dd_G_choosePartners_126 : decode prog_2_method_6_code 126 = .ok (.iconst (-1), 1) := by decide +kernel
theorem dd_G_choosePartners_127 : decode prog_2_method_6_code 127 = .ok (.iastore, 1) := by decide +kernel
theorem dd_G_choosePartners_128 : decode prog_2_method_6_code 128 = .ok (.iinc 4 1, 3) := by decide +kernel
theorem dd_G_choosePartners_131 : decode prog_2_method_6_code 131 = .ok (.goto 6, 3) := by decide +kernel
theorem dd_G_choosePartners_134 : decode prog_2_method_6_code 134 = .ok (.iinc 5 1, 3) := by decide +kernel
theorem dd_G_choosePartners_137 : decode prog_2_method_6_code 137 = .ok (.iinc 6 1, 3) := by decide +kernel
theorem dd_G_choosePartners_140 : decode prog_2_method_6_code 140 = .ok (.goto (-131), 3) := by decide +kernel
theorem dd_G_choosePartners_143 : decode prog_2_method_6_code 143 = .ok (.return_, 1) := by decide +kernel
theorem dd_G_pair_0 : decode prog_2_method_2_code 0 = .ok (.aload_n 0, 1) := by decide +kernel
theorem dd_G_pair_1 : decode prog_2_method_2_code 1 = .ok (.iconst 1, 1) := by decide +kernel
theorem dd_G_pair_2 : decode prog_2_method_2_code 2 = .ok (.putfield 22, 3) := by decide +kernel
theorem dd_G_pair_5 : decode prog_2_method_2_code 5 = .ok (.aload_n 0, 1) := by decide +kernel
theorem dd_G_pair_6 : decode prog_2_method_2_code 6 = .ok (.aload_n 1, 1) := by decide +kernel
theorem dd_G_pair_7 : decode prog_2_method_2_code 7 = .ok (.getfield 26, 3) := by decide +kernel
theorem dd_G_pair_10 : decode prog_2_method_2_code 10 = .ok (.putfield 18, 3) := by decide +kernel
theorem dd_G_pair_13 : decode prog_2_method_2_code 13 = .ok (.aload_n 0, 1) := by decide +kernel
theorem dd_G_pair_14 : decode prog_2_method_2_code 14 = .ok (.aload_n 1, 1) := by decide +kernel
theorem dd_G_pair_15 : decode prog_2_method_2_code 15 = .ok (.aload_n 2, 1) := by decide +kernel
theorem dd_G_pair_16 : decode prog_2_method_2_code 16 = .ok (.iload_n 3, 1) := by decide +kernel
theorem dd_G_pair_17 : decode prog_2_method_2_code 17 = .ok (.invokevirtual 31, 3) := by decide +kernel
theorem dd_G_pair_20 : decode prog_2_method_2_code 20 = .ok (.aload_n 0, 1) := by decide +kernel
theorem dd_G_pair_21 : decode prog_2_method_2_code 21 = .ok (.aload_n 1, 1) := by decide +kernel
theorem dd_G_pair_22 : decode prog_2_method_2_code 22 = .ok (.aload_n 2, 1) := by decide +kernel
theorem dd_G_pair_23 : decode prog_2_method_2_code 23 = .ok (.iload_n 3, 1) := by decide +kernel
theorem dd_G_pair_24 : decode prog_2_method_2_code 24 = .ok (.invokevirtual 35, 3) := by decide +kernel
theorem dd_G_pair_27 : decode prog_2_method_2_code 27 = .ok (.aload_n 0, 1) := by decide +kernel
theorem dd_G_pair_28 : decode prog_2_method_2_code 28 = .ok (.getfield 11, 3) := by decide +kernel
theorem dd_G_pair_31 : decode prog_2_method_2_code 31 = .ok (.iconst 0, 1) := by decide +kernel
theorem dd_G_pair_32 : decode prog_2_method_2_code 32 = .ok (.iaload, 1) := by decide +kernel
theorem dd_G_pair_33 : decode prog_2_method_2_code 33 = .ok (.ireturn, 1) := by decide +kernel
theorem dd_S_join_0 : decode prog_1_method_10_code 0 = .ok (.aload_n 0, 1) := by decide +kernel
theorem dd_S_join_1 : decode prog_1_method_10_code 1 = .ok (.iload_n 1, 1) := by decide +kernel
theorem dd_S_join_2 : decode prog_1_method_10_code 2 = .ok (.aload_n 0, 1) := by decide +kernel
theorem dd_S_join_3 : decode prog_1_method_10_code 3 = .ok (.getfield 19, 3) := by decide +kernel
theorem dd_S_join_6 : decode prog_1_method_10_code 6 = .ok (.invokevirtual 102, 3) := by decide +kernel
theorem dd_S_join_9 : decode prog_1_method_10_code 9 = .ok (.aload_n 0, 1) := by decide +kernel
theorem dd_S_join_10 : decode prog_1_method_10_code 10 = .ok (.iload_n 2, 1) := by decide +kernel
theorem dd_S_join_11 : decode prog_1_method_10_code 11 = .ok (.aload_n 0, 1) := by decide +kernel
theorem dd_S_join_12 : decode prog_1_method_10_code 12 = .ok (.getfield 23, 3) := by decide +kernel
theorem dd_S_join_15 : decode prog_1_method_10_code 15 = .ok (.invokevirtual 102, 3) := by decide +kernel
theorem dd_S_join_18 : decode prog_1_method_10_code 18 = .ok (.iload_n 3, 1) := by decide +kernel
theorem dd_S_join_19 : decode prog_1_method_10_code 19 = .ok (.iconst 0, 1) := by decide +kernel
theorem dd_S_join_20 : decode prog_1_method_10_code 20 = .ok (.bipush 50, 2) := by decide +kernel
theorem dd_S_join_22 : decode prog_1_method_10_code 22 = .ok (.invokestatic 74, 3) := by decide +kernel
theorem dd_S_join_25 : decode prog_1_method_10_code 25 = .ok (.aload_n 0, 1) := by decide +kernel
theorem dd_S_join_26 : decode prog_1_method_10_code 26 = .ok (.getfield 29, 3) := by decide +kernel
theorem dd_S_join_29 : decode prog_1_method_10_code 29 = .ok (.aload_n 0, 1) := by decide +kernel
theorem dd_S_join_30 : decode prog_1_method_10_code 30 = .ok (.getfield 19, 3) := by decide +kernel
theorem dd_S_join_33 : decode prog_1_method_10_code 33 = .ok (.aload_n 0, 1) := by decide +kernel
theorem dd_S_join_34 : decode prog_1_method_10_code 34 = .ok (.getfield 23, 3) := by decide +kernel
theorem dd_S_join_37 : decode prog_1_method_10_code 37 = .ok (.iload_n 3, 1) := by decide +kernel
theorem dd_S_join_38 : decode prog_1_method_10_code 38 = .ok (.invokevirtual 128, 3) := by decide +kernel
theorem dd_S_join_41 : decode prog_1_method_10_code 41 = .ok (.ireturn, 1) := by decide +kernel
theorem dd_S_joined_0 : decode prog_1_method_11_code 0 = .ok (.aload_n 0, 1) := by decide +kernel
theorem dd_S_joined_1 : decode prog_1_method_11_code 1 = .ok (.getfield 29, 3) := by decide +kernel
theorem dd_S_joined_4 : decode prog_1_method_11_code 4 = .ok (.getfield 132, 3) := by decide +kernel
theorem dd_S_joined_7 : decode prog_1_method_11_code 7 = .ok (.ifCond .ne 13, 3) := by decide +kernel
theorem dd_S_joined_10 : decode prog_1_method_11_code 10 = .ok (.new 97, 3) := by decide +kernel
theorem dd_S_joined_13 : decode prog_1_method_11_code 13 = .ok (.dup, 1) := by decide +kernel
theorem dd_S_joined_14 : decode prog_1_method_11_code 14 = .ok (.ldc 136, 2) := by decide +kernel
theorem dd_S_joined_16 : decode prog_1_method_11_code 16 = .ok (.invokespecial 101, 3) := by decide +kernel
theorem dd_S_joined_19 : decode prog_1_method_11_code 19 = .ok (.athrow, 1) := by decide +kernel
theorem dd_S_joined_20 : decode prog_1_method_11_code 20 = .ok (.iload_n 1, 1) := by decide +kernel
theorem dd_S_joined_21 : decode prog_1_method_11_code 21 = .ok (.aload_n 0, 1) := by decide +kernel
theorem dd_S_joined_22 : decode prog_1_method_11_code 22 = .ok (.getfield 29, 3) := by decide +kernel
theorem dd_S_joined_25 : decode prog_1_method_11_code 25 = .ok (.getfield 138, 3) := by decide +kernel
theorem dd_S_joined_28 : decode prog_1_method_11_code 28 = .ok (.invokestatic 82, 3) := by decide +kernel
theorem dd_S_joined_31 : decode prog_1_method_11_code 31 = .ok (.aload_n 0, 1) := by decide +kernel
theorem dd_S_joined_32 : decode prog_1_method_11_code 32 = .ok (.getfield 29, 3) := by decide +kernel
theorem dd_S_joined_35 : decode prog_1_method_11_code 35 = .ok (.getfield 141, 3) := by decide +kernel
theorem dd_S_joined_38 : decode prog_1_method_11_code 38 = .ok (.iload_n 1, 1) := by decide +kernel
theorem dd_S_joined_39 : decode prog_1_method_11_code 39 = .ok (.iaload, 1) := by decide +kernel
theorem dd_S_joined_40 : decode prog_1_method_11_code 40 = .ok (.ireturn, 1) := by decide +kernel
theorem dd_S_back_0 : decode prog_1_method_12_code 0 = .ok (.aload_n 0, 1) := by decide +kernel
theorem dd_S_back_1 : decode prog_1_method_12_code 1 = .ok (.iload_n 1, 1) := by decide +kernel
theorem dd_S_back_2 : decode prog_1_method_12_code 2 = .ok (.aload_n 0, 1) := by decide +kernel
theorem dd_S_back_3 : decode prog_1_method_12_code 3 = .ok (.getfield 19, 3) := by decide +kernel
theorem dd_S_back_6 : decode prog_1_method_12_code 6 = .ok (.invokevirtual 102, 3) := by decide +kernel
theorem dd_S_back_9 : decode prog_1_method_12_code 9 = .ok (.iload_n 2, 1) := by decide +kernel
theorem dd_S_back_10 : decode prog_1_method_12_code 10 = .ok (.aload_n 0, 1) := by decide +kernel
theorem dd_S_back_11 : decode prog_1_method_12_code 11 = .ok (.getfield 19, 3) := by decide +kernel
theorem dd_S_back_14 : decode prog_1_method_12_code 14 = .ok (.getfield 115, 3) := by decide +kernel
theorem dd_S_back_17 : decode prog_1_method_12_code 17 = .ok (.invokestatic 82, 3) := by decide +kernel
theorem dd_S_back_20 : decode prog_1_method_12_code 20 = .ok (.iload_n 3, 1) := by decide +kernel
theorem dd_S_back_21 : decode prog_1_method_12_code 21 = .ok (.iconst 0, 1) := by decide +kernel
theorem dd_S_back_22 : decode prog_1_method_12_code 22 = .ok (.ldc 144, 2) := by decide +kernel
theorem dd_S_back_24 : decode prog_1_method_12_code 24 = .ok (.invokestatic 74, 3) := by decide +kernel
theorem dd_S_back_27 : decode prog_1_method_12_code 27 = .ok (.iload_n 3, 1) := by decide +kernel
theorem dd_S_back_28 : decode prog_1_method_12_code 28 = .ok (.aload_n 0, 1) := by decide +kernel
theorem dd_S_back_29 : decode prog_1_method_12_code 29 = .ok (.getfield 19, 3) := by decide +kernel
theorem dd_S_back_32 : decode prog_1_method_12_code 32 = .ok (.getfield 118, 3) := by decide +kernel
theorem dd_S_back_35 : decode prog_1_method_12_code 35 = .ok (.iload_n 2, 1) := by decide +kernel
theorem dd_S_back_36 : decode prog_1_method_12_code 36 = .ok (.iaload, 1) := by decide +kernel
theorem dd_S_back_37 : decode prog_1_method_12_code 37 = .ok (.imul, 1) := by decide +kernel
theorem dd_S_back_38 : decode prog_1_method_12_code 38 = .ok (.aload_n 0, 1) := by decide +kernel
theorem dd_S_back_39 : decode prog_1_method_12_code 39 = .ok (.getfield 19, 3) := by decide +kernel
theorem dd_S_back_42 : decode prog_1_method_12_code 42 = .ok (.getfield 106, 3) := by decide +kernel
theorem dd_S_back_45 : decode prog_1_method_12_code 45 = .ok (.iconst 1, 1) := by decide +kernel
theorem dd_S_back_46 : decode prog_1_method_12_code 46 = .ok (.isub, 1) := by decide +kernel
theorem dd_S_back_47 : decode prog_1_method_12_code 47 = .ok (.invokestatic 145, 3) := by decide +kernel
theorem dd_S_back_50 : decode prog_1_method_12_code 50 = .ok (.ireturn, 1) := by decide +kernel
theorem dd_D_has_0 : decode prog_4_method_3_code 0 = .ok (.aload_n 0, 1) := by decide +kernel
theorem dd_D_has_1 : decode prog_4_method_3_code 1 = .ok (.iload_n 1, 1) := by decide +kernel
theorem dd_D_has_2 : decode prog_4_method_3_code 2 = .ok (.iload_n 2, 1) := by decide +kernel
theorem dd_D_has_3 : decode prog_4_method_3_code 3 = .ok (.invokevirtual 28, 3) := by decide +kernel
theorem dd_D_has_6 : decode prog_4_method_3_code 6 = .ok (.iconst (-1), 1) := by decide +kernel
theorem dd_D_has_7 : decode prog_4_method_3_code 7 = .ok (.if_icmp .eq 7, 3) := by decide +kernel
theorem dd_D_has_10 : decode prog_4_method_3_code 10 = .ok (.iconst 1, 1) := by decide +kernel
theorem dd_D_has_11 : decode prog_4_method_3_code 11 = .ok (.goto 4, 3) := by decide +kernel
theorem dd_D_has_14 : decode prog_4_method_3_code 14 = .ok (.iconst 0, 1) := by decide +kernel
theorem dd_D_has_15 : decode prog_4_method_3_code 15 = .ok (.ireturn, 1) := by decide +kernel
theorem dd_D_put_0 : decode prog_4_method_4_code 0 = .ok (.aload_n 0, 1) := by decide +kernel
theorem dd_D_put_1 : decode prog_4_method_4_code 1 = .ok (.getfield 9, 3) := by decide +kernel
theorem dd_D_put_4 : decode prog_4_method_4_code 4 = .ok (.iload_n 1, 1) := by decide +kernel
theorem dd_D_put_5 : decode prog_4_method_4_code 5 = .ok (.bipush 20, 2) := by decide +kernel
theorem dd_D_put_7 : decode prog_4_method_4_code 7 = .ok (.imul, 1) := by decide +kernel
theorem dd_D_put_8 : decode prog_4_method_4_code 8 = .ok (.iload_n 2, 1) := by decide +kernel
theorem dd_D_put_9 : decode prog_4_method_4_code 9 = .ok (.iadd, 1) := by decide +kernel
theorem dd_D_put_10 : decode prog_4_method_4_code 10 = .ok (.iload_n 3, 1) := by decide +kernel
theorem dd_D_put_11 : decode prog_4_method_4_code 11 = .ok (.iastore, 1) := by decide +kernel
theorem dd_D_put_12 : decode prog_4_method_4_code 12 = .ok (.aload_n 0, 1) := by decide +kernel
theorem dd_D_put_13 : decode prog_4_method_4_code 13 = .ok (.dup, 1) := by decide +kernel
theorem dd_D_put_14 : decode prog_4_method_4_code 14 = .ok (.getfield 18, 3) := by decide +kernel
theorem dd_D_put_17 : decode prog_4_method_4_code 17 = .ok (.iconst 1, 1) := by decide +kernel
theorem dd_D_put_18 : decode prog_4_method_4_code 18 = .ok (.iadd, 1) := by decide +kernel
theorem dd_D_put_19 : decode prog_4_method_4_code 19 = .ok (.putfield 18, 3) := by decide +kernel
theorem dd_D_put_22 : decode prog_4_method_4_code 22 = .ok (.return_, 1) := by decide +kernel
theorem dd_S_tell_0 : decode prog_1_method_13_code 0 = .ok (.iload_n 1, 1) := by decide +kernel
theorem dd_S_tell_1 : decode prog_1_method_13_code 1 = .ok (.iconst 4, 1) := by decide +kernel
theorem dd_S_tell_2 : decode prog_1_method_13_code 2 = .ok (.invokestatic 82, 3) := by decide +kernel
theorem dd_S_tell_5 : decode prog_1_method_13_code 5 = .ok (.iload_n 2, 1) := by decide +kernel
theorem dd_S_tell_6 : decode prog_1_method_13_code 6 = .ok (.bipush 20, 2) := by decide +kernel
theorem dd_S_tell_8 : decode prog_1_method_13_code 8 = .ok (.invokestatic 82, 3) := by decide +kernel
theorem dd_S_tell_11 : decode prog_1_method_13_code 11 = .ok (.iload_n 3, 1) := by decide +kernel
theorem dd_S_tell_12 : decode prog_1_method_13_code 12 = .ok (.iconst 0, 1) := by decide +kernel
theorem dd_S_tell_13 : decode prog_1_method_13_code 13 = .ok (.bipush 60, 2) := by decide +kernel
theorem dd_S_tell_15 : decode prog_1_method_13_code 15 = .ok (.invokestatic 74, 3) := by decide +kernel
theorem dd_S_tell_18 : decode prog_1_method_13_code 18 = .ok (.aload_n 0, 1) := by decide +kernel
theorem dd_S_tell_19 : decode prog_1_method_13_code 19 = .ok (.getfield 36, 3) := by decide +kernel
theorem dd_S_tell_22 : decode prog_1_method_13_code 22 = .ok (.iload_n 1, 1) := by decide +kernel
theorem dd_S_tell_23 : decode prog_1_method_13_code 23 = .ok (.iload_n 2, 1) := by decide +kernel
theorem dd_S_tell_24 : decode prog_1_method_13_code 24 = .ok (.invokevirtual 149, 3) := by decide +kernel
theorem dd_S_tell_27 : decode prog_1_method_13_code 27 = .ok (.ifCond .eq 13, 3) := by decide +kernel
theorem dd_S_tell_30 : decode prog_1_method_13_code 30 = .ok (.new 97, 3) := by decide +kernel
theorem dd_S_tell_33 : decode prog_1_method_13_code 33 = .ok (.dup, 1) := by decide +kernel
theorem dd_S_tell_34 : decode prog_1_method_13_code 34 = .ok (.ldc 152, 2) := by decide +kernel
theorem dd_S_tell_36 : decode prog_1_method_13_code 36 = .ok (.invokespecial 101, 3) := by decide +kernel
theorem dd_S_tell_39 : decode prog_1_method_13_code 39 = .ok (.athrow, 1) := by decide +kernel
theorem dd_S_tell_40 : decode prog_1_method_13_code 40 = .ok (.aload_n 0, 1) := by decide +kernel
theorem dd_S_tell_41 : decode prog_1_method_13_code 41 = .ok (.getfield 36, 3) := by decide +kernel
theorem dd_S_tell_44 : decode prog_1_method_13_code 44 = .ok (.iload_n 1, 1) := by decide +kernel
theorem dd_S_tell_45 : decode prog_1_method_13_code 45 = .ok (.iload_n 2, 1) := by decide +kernel
theorem dd_S_tell_46 : decode prog_1_method_13_code 46 = .ok (.iload_n 3, 1) := by decide +kernel
theorem dd_S_tell_47 : decode prog_1_method_13_code 47 = .ok (.invokevirtual 154, 3) := by decide +kernel
theorem dd_S_tell_50 : decode prog_1_method_13_code 50 = .ok (.return_, 1) := by decide +kernel
theorem dd_S_may_0 : decode prog_1_method_14_code 0 = .ok (.iload_n 1, 1) := by decide +kernel
theorem dd_S_may_1 : decode prog_1_method_14_code 1 = .ok (.iconst 4, 1) := by decide +kernel
theorem dd_S_may_2 : decode prog_1_method_14_code 2 = .ok (.invokestatic 82, 3) := by decide +kernel
theorem dd_S_may_5 : decode prog_1_method_14_code 5 = .ok (.iload_n 2, 1) := by decide +kernel
theorem dd_S_may_6 : decode prog_1_method_14_code 6 = .ok (.bipush 20, 2) := by decide +kernel
theorem dd_S_may_8 : decode prog_1_method_14_code 8 = .ok (.invokestatic 82, 3) := by decide +kernel
theorem dd_S_may_11 : decode prog_1_method_14_code 11 = .ok (.aload_n 0, 1) := by decide +kernel
theorem dd_S_may_12 : decode prog_1_method_14_code 12 = .ok (.getfield 36, 3) := by decide +kernel
theorem dd_S_may_15 : decode prog_1_method_14_code 15 = .ok (.iload_n 1, 1) := by decide +kernel
theorem dd_S_may_16 : decode prog_1_method_14_code 16 = .ok (.iload_n 2, 1) := by decide +kernel
theorem dd_S_may_17 : decode prog_1_method_14_code 17 = .ok (.invokevirtual 149, 3) := by decide +kernel
theorem dd_S_may_20 : decode prog_1_method_14_code 20 = .ok (.ireturn, 1) := by decide +kernel
theorem dd_S_seen_0 : decode prog_1_method_15_code 0 = .ok (.iload_n 1, 1) := by decide +kernel
theorem dd_S_seen_1 : decode prog_1_method_15_code 1 = .ok (.iconst 4, 1) := by decide +kernel
theorem dd_S_seen_2 : decode prog_1_method_15_code 2 = .ok (.invokestatic 82, 3) := by decide +kernel
theorem dd_S_seen_5 : decode prog_1_method_15_code 5 = .ok (.iload_n 2, 1) := by decide +kernel
theorem dd_S_seen_6 : decode prog_1_method_15_code 6 = .ok (.iconst 4, 1) := by decide +kernel
theorem dd_S_seen_7 : decode prog_1_method_15_code 7 = .ok (.invokestatic 82, 3) := by decide +kernel
theorem dd_S_seen_10 : decode prog_1_method_15_code 10 = .ok (.iload_n 3, 1) := by decide +kernel
theorem dd_S_seen_11 : decode prog_1_method_15_code 11 = .ok (.bipush 20, 2) := by decide +kernel
theorem dd_S_seen_13 : decode prog_1_method_15_code 13 = .ok (.invokestatic 82, 3) := by decide +kernel
theorem dd_S_seen_16 : decode prog_1_method_15_code 16 = .ok (.aload_n 0, 1) := by decide +kernel
theorem dd_S_seen_17 : decode prog_1_method_15_code 17 = .ok (.getfield 36, 3) := by decide +kernel
theorem dd_S_seen_20 : decode prog_1_method_15_code 20 = .ok (.iload_n 1, 1) := by decide +kernel
theorem dd_S_seen_21 : decode prog_1_method_15_code 21 = .ok (.iload_n 3, 1) := by decide +kernel
theorem dd_S_seen_22 : decode prog_1_method_15_code 22 = .ok (.invokevirtual 149, 3) := by decide +kernel
theorem dd_S_seen_25 : decode prog_1_method_15_code 25 = .ok (.ifCond .ne 13, 3) := by decide +kernel
theorem dd_S_seen_28 : decode prog_1_method_15_code 28 = .ok (.new 97, 3) := by decide +kernel
theorem dd_S_seen_31 : decode prog_1_method_15_code 31 = .ok (.dup, 1) := by decide +kernel
theorem dd_S_seen_32 : decode prog_1_method_15_code 32 = .ok (.ldc 156, 2) := by decide +kernel
theorem dd_S_seen_34 : decode prog_1_method_15_code 34 = .ok (.invokespecial 101, 3) := by decide +kernel
theorem dd_S_seen_37 : decode prog_1_method_15_code 37 = .ok (.athrow, 1) := by decide +kernel
theorem dd_S_seen_38 : decode prog_1_method_15_code 38 = .ok (.aload_n 0, 1) := by decide +kernel
theorem dd_S_seen_39 : decode prog_1_method_15_code 39 = .ok (.getfield 36, 3) := by decide +kernel
theorem dd_S_seen_42 : decode prog_1_method_15_code 42 = .ok (.iload_n 2, 1) := by decide +kernel
theorem dd_S_seen_43 : decode prog_1_method_15_code 43 = .ok (.iload_n 3, 1) := by decide +kernel
theorem dd_S_seen_44 : decode prog_1_method_15_code 44 = .ok (.invokevirtual 158, 3) := by decide +kernel
theorem dd_S_seen_47 : decode prog_1_method_15_code 47 = .ok (.ireturn, 1) := by decide +kernel
theorem dd_S_needPair_0 : decode prog_1_method_27_code 0 = .ok (.iload_n 0, 1) := by decide +kernel
theorem dd_S_needPair_1 : decode prog_1_method_27_code 1 = .ok (.iconst 4, 1) := by decide +kernel
theorem dd_S_needPair_2 : decode prog_1_method_27_code 2 = .ok (.invokestatic 82, 3) := by decide +kernel
theorem dd_S_needPair_5 : decode prog_1_method_27_code 5 = .ok (.iload_n 1, 1) := by decide +kernel
theorem dd_S_needPair_6 : decode prog_1_method_27_code 6 = .ok (.iconst 4, 1) := by decide +kernel
theorem dd_S_needPair_7 : decode prog_1_method_27_code 7 = .ok (.invokestatic 82, 3) := by decide +kernel
theorem dd_S_needPair_10 : decode prog_1_method_27_code 10 = .ok (.iload_n 2, 1) := by decide +kernel
theorem dd_S_needPair_11 : decode prog_1_method_27_code 11 = .ok (.iconst 2, 1) := by decide +kernel
theorem dd_S_needPair_12 : decode prog_1_method_27_code 12 = .ok (.invokestatic 82, 3) := by decide +kernel
theorem dd_S_needPair_15 : decode prog_1_method_27_code 15 = .ok (.return_, 1) := by decide +kernel
theorem dd_D_bothTold_0 : decode prog_4_method_5_code 0 = .ok (.aload_n 0, 1) := by decide +kernel
theorem dd_D_bothTold_1 : decode prog_4_method_5_code 1 = .ok (.iload_n 1, 1) := by decide +kernel
theorem dd_D_bothTold_2 : decode prog_4_method_5_code 2 = .ok (.iload_n 3, 1) := by decide +kernel
theorem dd_D_bothTold_3 : decode prog_4_method_5_code 3 = .ok (.invokevirtual 32, 3) := by decide +kernel
theorem dd_D_bothTold_6 : decode prog_4_method_5_code 6 = .ok (.ifCond .eq 16, 3) := by decide +kernel
theorem dd_D_bothTold_9 : decode prog_4_method_5_code 9 = .ok (.aload_n 0, 1) := by decide +kernel
theorem dd_D_bothTold_10 : decode prog_4_method_5_code 10 = .ok (.iload_n 2, 1) := by decide +kernel
theorem dd_D_bothTold_11 : decode prog_4_method_5_code 11 = .ok (.iload_n 3, 1) := by decide +kernel
theorem dd_D_bothTold_12 : decode prog_4_method_5_code 12 = .ok (.invokevirtual 32, 3) := by decide +kernel
theorem dd_D_bothTold_15 : decode prog_4_method_5_code 15 = .ok (.ifCond .eq 7, 3) := by decide +kernel
theorem dd_D_bothTold_18 : decode prog_4_method_5_code 18 = .ok (.iconst 1, 1) := by decide +kernel
theorem dd_D_bothTold_19 : decode prog_4_method_5_code 19 = .ok (.goto 4, 3) := by decide +kernel
theorem dd_D_bothTold_22 : decode prog_4_method_5_code 22 = .ok (.iconst 0, 1) := by decide +kernel
theorem dd_D_bothTold_23 : decode prog_4_method_5_code 23 = .ok (.ireturn, 1) := by decide +kernel
theorem dd_D_alike_0 : decode prog_4_method_7_code 0 = .ok (.iconst 0, 1) := by decide +kernel
theorem dd_D_alike_1 : decode prog_4_method_7_code 1 = .ok (.istore_n 3, 1) := by decide +kernel
theorem dd_D_alike_2 : decode prog_4_method_7_code 2 = .ok (.iconst 0, 1) := by decide +kernel
theorem dd_D_alike_3 : decode prog_4_method_7_code 3 = .ok (.istore 4, 2) := by decide +kernel
theorem dd_D_alike_5 : decode prog_4_method_7_code 5 = .ok (.iload 4, 2) := by decide +kernel
theorem dd_D_alike_7 : decode prog_4_method_7_code 7 = .ok (.bipush 20, 2) := by decide +kernel
theorem dd_D_alike_9 : decode prog_4_method_7_code 9 = .ok (.if_icmp .ge 40, 3) := by decide +kernel
theorem dd_D_alike_12 : decode prog_4_method_7_code 12 = .ok (.aload_n 0, 1) := by decide +kernel
theorem dd_D_alike_13 : decode prog_4_method_7_code 13 = .ok (.iload_n 1, 1) := by decide +kernel
theorem dd_D_alike_14 : decode prog_4_method_7_code 14 = .ok (.iload_n 2, 1) := by decide +kernel
theorem dd_D_alike_15 : decode prog_4_method_7_code 15 = .ok (.iload 4, 2) := by decide +kernel
theorem dd_D_alike_17 : decode prog_4_method_7_code 17 = .ok (.invokevirtual 36, 3) := by decide +kernel
theorem dd_D_alike_20 : decode prog_4_method_7_code 20 = .ok (.ifCond .eq 23, 3) := by decide +kernel
theorem dd_D_alike_23 : decode prog_4_method_7_code 23 = .ok (.aload_n 0, 1) := by decide +kernel
theorem dd_D_alike_24 : decode prog_4_method_7_code 24 = .ok (.iload_n 1, 1) := by decide +kernel
theorem dd_D_alike_25 : decode prog_4_method_7_code 25 = .ok (.iload 4, 2) := by decide +kernel
theorem dd_D_alike_27 : decode prog_4_method_7_code 27 = .ok (.invokevirtual 28, 3) := by decide +kernel
theorem dd_D_alike_30 : decode prog_4_method_7_code 30 = .ok (.aload_n 0, 1) := by decide +kernel
theorem dd_D_alike_31 : decode prog_4_method_7_code 31 = .ok (.iload_n 2, 1) := by decide +kernel
theorem dd_D_alike_32 : decode prog_4_method_7_code 32 = .ok (.iload 4, 2) := by decide +kernel
theorem dd_D_alike_34 : decode prog_4_method_7_code 34 = .ok (.invokevirtual 28, 3) := by decide +kernel
theorem dd_D_alike_37 : decode prog_4_method_7_code 37 = .ok (.if_icmp .ne 6, 3) := by decide +kernel
theorem dd_D_alike_40 : decode prog_4_method_7_code 40 = .ok (.iinc 3 1, 3) := by decide +kernel
theorem dd_D_alike_43 : decode prog_4_method_7_code 43 = .ok (.iinc 4 1, 3) := by decide +kernel
theorem dd_D_alike_46 : decode prog_4_method_7_code 46 = .ok (.goto (-41), 3) := by decide +kernel
theorem dd_D_alike_49 : decode prog_4_method_7_code 49 = .ok (.iload_n 3, 1) := by decide +kernel
theorem dd_D_alike_50 : decode prog_4_method_7_code 50 = .ok (.ireturn, 1) := by decide +kernel
theorem dd_D_shared_0 : decode prog_4_method_6_code 0 = .ok (.iconst 0, 1) := by decide +kernel
theorem dd_D_shared_1 : decode prog_4_method_6_code 1 = .ok (.istore_n 3, 1) := by decide +kernel
theorem dd_D_shared_2 : decode prog_4_method_6_code 2 = .ok (.iconst 0, 1) := by decide +kernel
theorem dd_D_shared_3 : decode prog_4_method_6_code 3 = .ok (.istore 4, 2) := by decide +kernel
theorem dd_D_shared_5 : decode prog_4_method_6_code 5 = .ok (.iload 4, 2) := by decide +kernel
theorem dd_D_shared_7 : decode prog_4_method_6_code 7 = .ok (.bipush 20, 2) := by decide +kernel
theorem dd_D_shared_9 : decode prog_4_method_6_code 9 = .ok (.if_icmp .ge 23, 3) := by decide +kernel
theorem dd_D_shared_12 : decode prog_4_method_6_code 12 = .ok (.aload_n 0, 1) := by decide +kernel
theorem dd_D_shared_13 : decode prog_4_method_6_code 13 = .ok (.iload_n 1, 1) := by decide +kernel
theorem dd_D_shared_14 : decode prog_4_method_6_code 14 = .ok (.iload_n 2, 1) := by decide +kernel
theorem dd_D_shared_15 : decode prog_4_method_6_code 15 = .ok (.iload 4, 2) := by decide +kernel
theorem dd_D_shared_17 : decode prog_4_method_6_code 17 = .ok (.invokevirtual 36, 3) := by decide +kernel
theorem dd_D_shared_20 : decode prog_4_method_6_code 20 = .ok (.ifCond .eq 6, 3) := by decide +kernel
theorem dd_D_shared_23 : decode prog_4_method_6_code 23 = .ok (.iinc 3 1, 3) := by decide +kernel
theorem dd_D_shared_26 : decode prog_4_method_6_code 26 = .ok (.iinc 4 1, 3) := by decide +kernel
theorem dd_D_shared_29 : decode prog_4_method_6_code 29 = .ok (.goto (-24), 3) := by decide +kernel
theorem dd_D_shared_32 : decode prog_4_method_6_code 32 = .ok (.iload_n 3, 1) := by decide +kernel
theorem dd_D_shared_33 : decode prog_4_method_6_code 33 = .ok (.ireturn, 1) := by decide +kernel
theorem dd_S_commonDivisor_0 : decode prog_1_method_31_code 0 = .ok (.iload_n 0, 1) := by decide +kernel
theorem dd_S_commonDivisor_1 : decode prog_1_method_31_code 1 = .ok (.istore_n 2, 1) := by decide +kernel
theorem dd_S_commonDivisor_2 : decode prog_1_method_31_code 2 = .ok (.iload_n 1, 1) := by decide +kernel
theorem dd_S_commonDivisor_3 : decode prog_1_method_31_code 3 = .ok (.istore_n 3, 1) := by decide +kernel
theorem dd_S_commonDivisor_4 : decode prog_1_method_31_code 4 = .ok (.iconst 0, 1) := by decide +kernel
theorem dd_S_commonDivisor_5 : decode prog_1_method_31_code 5 = .ok (.istore 4, 2) := by decide +kernel
theorem dd_S_commonDivisor_7 : decode prog_1_method_31_code 7 = .ok (.iload 4, 2) := by decide +kernel
theorem dd_S_commonDivisor_9 : decode prog_1_method_31_code 9 = .ok (.bipush 64, 2) := by decide +kernel
theorem dd_S_commonDivisor_11 : decode prog_1_method_31_code 11 = .ok (.if_icmp .ge 23, 3) := by decide +kernel
theorem dd_S_commonDivisor_14 : decode prog_1_method_31_code 14 = .ok (.iload_n 3, 1) := by decide +kernel
theorem dd_S_commonDivisor_15 : decode prog_1_method_31_code 15 = .ok (.ifCond .eq 19, 3) := by decide +kernel
theorem dd_S_commonDivisor_18 : decode prog_1_method_31_code 18 = .ok (.iload_n 2, 1) := by decide +kernel
theorem dd_S_commonDivisor_19 : decode prog_1_method_31_code 19 = .ok (.iload_n 3, 1) := by decide +kernel
theorem dd_S_commonDivisor_20 : decode prog_1_method_31_code 20 = .ok (.irem, 1) := by decide +kernel
theorem dd_S_commonDivisor_21 : decode prog_1_method_31_code 21 = .ok (.istore 5, 2) := by decide +kernel
theorem dd_S_commonDivisor_23 : decode prog_1_method_31_code 23 = .ok (.iload_n 3, 1) := by decide +kernel
theorem dd_S_commonDivisor_24 : decode prog_1_method_31_code 24 = .ok (.istore_n 2, 1) := by decide +kernel
theorem dd_S_commonDivisor_25 : decode prog_1_method_31_code 25 = .ok (.iload 5, 2) := by decide +kernel
theorem dd_S_commonDivisor_27 : decode prog_1_method_31_code 27 = .ok (.istore_n 3, 1) := by decide +kernel
theorem dd_S_commonDivisor_28 : decode prog_1_method_31_code 28 = .ok (.iinc 4 1, 3) := by decide +kernel
theorem dd_S_commonDivisor_31 : decode prog_1_method_31_code 31 = .ok (.goto (-24), 3) := by decide +kernel
theorem dd_S_commonDivisor_34 : decode prog_1_method_31_code 34 = .ok (.iload_n 2, 1) := by decide +kernel
theorem dd_S_commonDivisor_35 : decode prog_1_method_31_code 35 = .ok (.ireturn, 1) := by decide +kernel
theorem dd_S_fractionPart_0 : decode prog_1_method_30_code 0 = .ok (.iload_n 1, 1) := by decide +kernel
theorem dd_S_fractionPart_1 : decode prog_1_method_30_code 1 = .ok (.iconst 1, 1) := by decide +kernel
theorem dd_S_fractionPart_2 : decode prog_1_method_30_code 2 = .ok (.if_icmp .ge 13, 3) := by decide +kernel
theorem dd_S_fractionPart_5 : decode prog_1_method_30_code 5 = .ok (.iload_n 2, 1) := by decide +kernel
theorem dd_S_fractionPart_6 : decode prog_1_method_30_code 6 = .ok (.ifCond .ne 7, 3) := by decide +kernel
theorem dd_S_fractionPart_9 : decode prog_1_method_30_code 9 = .ok (.iconst 0, 1) := by decide +kernel
theorem dd_S_fractionPart_10 : decode prog_1_method_30_code 10 = .ok (.goto 4, 3) := by decide +kernel
theorem dd_S_fractionPart_13 : decode prog_1_method_30_code 13 = .ok (.iconst 1, 1) := by decide +kernel
theorem dd_S_fractionPart_14 : decode prog_1_method_30_code 14 = .ok (.ireturn, 1) := by decide +kernel
theorem dd_S_fractionPart_15 : decode prog_1_method_30_code 15 = .ok (.iload_n 0, 1) := by decide +kernel
theorem dd_S_fractionPart_16 : decode prog_1_method_30_code 16 = .ok (.invokestatic 222, 3) := by decide +kernel
theorem dd_S_fractionPart_19 : decode prog_1_method_30_code 19 = .ok (.iload_n 1, 1) := by decide +kernel
theorem dd_S_fractionPart_20 : decode prog_1_method_30_code 20 = .ok (.invokestatic 225, 3) := by decide +kernel
theorem dd_S_fractionPart_23 : decode prog_1_method_30_code 23 = .ok (.istore_n 3, 1) := by decide +kernel
theorem dd_S_fractionPart_24 : decode prog_1_method_30_code 24 = .ok (.iload_n 2, 1) := by decide +kernel
theorem dd_S_fractionPart_25 : decode prog_1_method_30_code 25 = .ok (.ifCond .ne 7, 3) := by decide +kernel
theorem dd_S_fractionPart_28 : decode prog_1_method_30_code 28 = .ok (.iload_n 0, 1) := by decide +kernel
theorem dd_S_fractionPart_29 : decode prog_1_method_30_code 29 = .ok (.goto 4, 3) := by decide +kernel
theorem dd_S_fractionPart_32 : decode prog_1_method_30_code 32 = .ok (.iload_n 1, 1) := by decide +kernel
theorem dd_S_fractionPart_33 : decode prog_1_method_30_code 33 = .ok (.istore 4, 2) := by decide +kernel
theorem dd_S_fractionPart_35 : decode prog_1_method_30_code 35 = .ok (.iload_n 3, 1) := by decide +kernel
theorem dd_S_fractionPart_36 : decode prog_1_method_30_code 36 = .ok (.iconst 1, 1) := by decide +kernel
theorem dd_S_fractionPart_37 : decode prog_1_method_30_code 37 = .ok (.if_icmp .ge 8, 3) := by decide +kernel
theorem dd_S_fractionPart_40 : decode prog_1_method_30_code 40 = .ok (.iload 4, 2) := by decide +kernel
theorem dd_S_fractionPart_42 : decode prog_1_method_30_code 42 = .ok (.goto 7, 3) := by decide +kernel
theorem dd_S_fractionPart_45 : decode prog_1_method_30_code 45 = .ok (.iload 4, 2) := by decide +kernel
theorem dd_S_fractionPart_47 : decode prog_1_method_30_code 47 = .ok (.iload_n 3, 1) := by decide +kernel
theorem dd_S_fractionPart_48 : decode prog_1_method_30_code 48 = .ok (.idiv, 1) := by decide +kernel
theorem dd_S_fractionPart_49 : decode prog_1_method_30_code 49 = .ok (.ireturn, 1) := by decide +kernel
theorem dd_S_agree_0 : decode prog_1_method_16_code 0 = .ok (.iload_n 1, 1) := by decide +kernel
theorem dd_S_agree_1 : decode prog_1_method_16_code 1 = .ok (.iload_n 2, 1) := by decide +kernel
theorem dd_S_agree_2 : decode prog_1_method_16_code 2 = .ok (.iload_n 3, 1) := by decide +kernel
theorem dd_S_agree_3 : decode prog_1_method_16_code 3 = .ok (.invokestatic 161, 3) := by decide +kernel
theorem dd_S_agree_6 : decode prog_1_method_16_code 6 = .ok (.aload_n 0, 1) := by decide +kernel
theorem dd_S_agree_7 : decode prog_1_method_16_code 7 = .ok (.getfield 36, 3) := by decide +kernel
theorem dd_S_agree_10 : decode prog_1_method_16_code 10 = .ok (.iload_n 1, 1) := by decide +kernel
theorem dd_S_agree_11 : decode prog_1_method_16_code 11 = .ok (.iload_n 2, 1) := by decide +kernel
theorem dd_S_agree_12 : decode prog_1_method_16_code 12 = .ok (.invokevirtual 164, 3) := by decide +kernel
theorem dd_S_agree_15 : decode prog_1_method_16_code 15 = .ok (.aload_n 0, 1) := by decide +kernel
theorem dd_S_agree_16 : decode prog_1_method_16_code 16 = .ok (.getfield 36, 3) := by decide +kernel
theorem dd_S_agree_19 : decode prog_1_method_16_code 19 = .ok (.iload_n 1, 1) := by decide +kernel
theorem dd_S_agree_20 : decode prog_1_method_16_code 20 = .ok (.iload_n 2, 1) := by decide +kernel
theorem dd_S_agree_21 : decode prog_1_method_16_code 21 = .ok (.invokevirtual 167, 3) := by decide +kernel
theorem dd_S_agree_24 : decode prog_1_method_16_code 24 = .ok (.iload_n 3, 1) := by decide +kernel
theorem dd_S_agree_25 : decode prog_1_method_16_code 25 = .ok (.invokestatic 170, 3) := by decide +kernel
theorem dd_S_agree_28 : decode prog_1_method_16_code 28 = .ok (.ireturn, 1) := by decide +kernel
theorem dd_D_excess_0 : decode prog_4_method_8_code 0 = .ok (.iconst 0, 1) := by decide +kernel
theorem dd_D_excess_1 : decode prog_4_method_8_code 1 = .ok (.istore_n 3, 1) := by decide +kernel
theorem dd_D_excess_2 : decode prog_4_method_8_code 2 = .ok (.iconst 0, 1) := by decide +kernel
theorem dd_D_excess_3 : decode prog_4_method_8_code 3 = .ok (.istore 4, 2) := by decide +kernel
theorem dd_D_excess_5 : decode prog_4_method_8_code 5 = .ok (.iload 4, 2) := by decide +kernel
theorem dd_D_excess_7 : decode prog_4_method_8_code 7 = .ok (.bipush 20, 2) := by decide +kernel
theorem dd_D_excess_9 : decode prog_4_method_8_code 9 = .ok (.if_icmp .ge 38, 3) := by decide +kernel
theorem dd_D_excess_12 : decode prog_4_method_8_code 12 = .ok (.aload_n 0, 1) := by decide +kernel
theorem dd_D_excess_13 : decode prog_4_method_8_code 13 = .ok (.iload_n 1, 1) := by decide +kernel
theorem dd_D_excess_14 : decode prog_4_method_8_code 14 = .ok (.iload_n 2, 1) := by decide +kernel
theorem dd_D_excess_15 : decode prog_4_method_8_code 15 = .ok (.iload 4, 2) := by decide +kernel
theorem dd_D_excess_17 : decode prog_4_method_8_code 17 = .ok (.invokevirtual 36, 3) := by decide +kernel
theorem dd_D_excess_20 : decode prog_4_method_8_code 20 = .ok (.ifCond .eq 21, 3) := by decide +kernel
theorem dd_D_excess_23 : decode prog_4_method_8_code 23 = .ok (.iload_n 3, 1) := by decide +kernel
theorem dd_D_excess_24 : decode prog_4_method_8_code 24 = .ok (.aload_n 0, 1) := by decide +kernel
theorem dd_D_excess_25 : decode prog_4_method_8_code 25 = .ok (.iload_n 1, 1) := by decide +kernel
theorem dd_D_excess_26 : decode prog_4_method_8_code 26 = .ok (.iload 4, 2) := by decide +kernel
theorem dd_D_excess_28 : decode prog_4_method_8_code 28 = .ok (.invokevirtual 28, 3) := by decide +kernel
theorem dd_D_excess_31 : decode prog_4_method_8_code 31 = .ok (.aload_n 0, 1) := by decide +kernel
theorem dd_D_excess_32 : decode prog_4_method_8_code 32 = .ok (.iload_n 2, 1) := by decide +kernel
theorem dd_D_excess_33 : decode prog_4_method_8_code 33 = .ok (.iload 4, 2) := by decide +kernel
theorem dd_D_excess_35 : decode prog_4_method_8_code 35 = .ok (.invokevirtual 28, 3) := by decide +kernel
theorem dd_D_excess_38 : decode prog_4_method_8_code 38 = .ok (.isub, 1) := by decide +kernel
theorem dd_D_excess_39 : decode prog_4_method_8_code 39 = .ok (.iadd, 1) := by decide +kernel
theorem dd_D_excess_40 : decode prog_4_method_8_code 40 = .ok (.istore_n 3, 1) := by decide +kernel
theorem dd_D_excess_41 : decode prog_4_method_8_code 41 = .ok (.iinc 4 1, 3) := by decide +kernel
theorem dd_D_excess_44 : decode prog_4_method_8_code 44 = .ok (.goto (-39), 3) := by decide +kernel
theorem dd_D_excess_47 : decode prog_4_method_8_code 47 = .ok (.iload_n 3, 1) := by decide +kernel
theorem dd_D_excess_48 : decode prog_4_method_8_code 48 = .ok (.ireturn, 1) := by decide +kernel
theorem dd_S_bias_0 : decode prog_1_method_17_code 0 = .ok (.iload_n 1, 1) := by decide +kernel
theorem dd_S_bias_1 : decode prog_1_method_17_code 1 = .ok (.iload_n 2, 1) := by decide +kernel
theorem dd_S_bias_2 : decode prog_1_method_17_code 2 = .ok (.iload_n 3, 1) := by decide +kernel
theorem dd_S_bias_3 : decode prog_1_method_17_code 3 = .ok (.invokestatic 161, 3) := by decide +kernel
theorem dd_S_bias_6 : decode prog_1_method_17_code 6 = .ok (.aload_n 0, 1) := by decide +kernel
theorem dd_S_bias_7 : decode prog_1_method_17_code 7 = .ok (.getfield 36, 3) := by decide +kernel
theorem dd_S_bias_10 : decode prog_1_method_17_code 10 = .ok (.iload_n 1, 1) := by decide +kernel
theorem dd_S_bias_11 : decode prog_1_method_17_code 11 = .ok (.iload_n 2, 1) := by decide +kernel
theorem dd_S_bias_12 : decode prog_1_method_17_code 12 = .ok (.invokevirtual 174, 3) := by decide +kernel
theorem dd_S_bias_15 : decode prog_1_method_17_code 15 = .ok (.aload_n 0, 1) := by decide +kernel
theorem dd_S_bias_16 : decode prog_1_method_17_code 16 = .ok (.getfield 36, 3) := by decide +kernel
theorem dd_S_bias_19 : decode prog_1_method_17_code 19 = .ok (.iload_n 1, 1) := by decide +kernel
theorem dd_S_bias_20 : decode prog_1_method_17_code 20 = .ok (.iload_n 2, 1) := by decide +kernel
theorem dd_S_bias_21 : decode prog_1_method_17_code 21 = .ok (.invokevirtual 167, 3) := by decide +kernel
theorem dd_S_bias_24 : decode prog_1_method_17_code 24 = .ok (.iload_n 3, 1) := by decide +kernel
theorem dd_S_bias_25 : decode prog_1_method_17_code 25 = .ok (.invokestatic 170, 3) := by decide +kernel
theorem dd_S_bias_28 : decode prog_1_method_17_code 28 = .ok (.ireturn, 1) := by decide +kernel
theorem dd_S_told_0 : decode prog_1_method_18_code 0 = .ok (.iload_n 1, 1) := by decide +kernel
theorem dd_S_told_1 : decode prog_1_method_18_code 1 = .ok (.bipush 20, 2) := by decide +kernel
theorem dd_S_told_3 : decode prog_1_method_18_code 3 = .ok (.invokestatic 82, 3) := by decide +kernel
theorem dd_S_told_6 : decode prog_1_method_18_code 6 = .ok (.aload_n 0, 1) := by decide +kernel
theorem dd_S_told_7 : decode prog_1_method_18_code 7 = .ok (.getfield 36, 3) := by decide +kernel
theorem dd_S_told_10 : decode prog_1_method_18_code 10 = .ok (.iload_n 1, 1) := by decide +kernel
theorem dd_S_told_11 : decode prog_1_method_18_code 11 = .ok (.invokevirtual 177, 3) := by decide +kernel
theorem dd_S_told_14 : decode prog_1_method_18_code 14 = .ok (.ireturn, 1) := by decide +kernel
theorem dd_D_hits_0 : decode prog_4_method_11_code 0 = .ok (.iconst 0, 1) := by decide +kernel
theorem dd_D_hits_1 : decode prog_4_method_11_code 1 = .ok (.istore_n 2, 1) := by decide +kernel
theorem dd_D_hits_2 : decode prog_4_method_11_code 2 = .ok (.iconst 0, 1) := by decide +kernel
theorem dd_D_hits_3 : decode prog_4_method_11_code 3 = .ok (.istore_n 3, 1) := by decide +kernel
theorem dd_D_hits_4 : decode prog_4_method_11_code 4 = .ok (.iload_n 3, 1) := by decide +kernel
theorem dd_D_hits_5 : decode prog_4_method_11_code 5 = .ok (.bipush 20, 2) := by decide +kernel
theorem dd_D_hits_7 : decode prog_4_method_11_code 7 = .ok (.if_icmp .ge 35, 3) := by decide +kernel
theorem dd_D_hits_10 : decode prog_4_method_11_code 10 = .ok (.aload_n 0, 1) := by decide +kernel
theorem dd_D_hits_11 : decode prog_4_method_11_code 11 = .ok (.iload_n 1, 1) := by decide +kernel
theorem dd_D_hits_12 : decode prog_4_method_11_code 12 = .ok (.iload_n 3, 1) := by decide +kernel
theorem dd_D_hits_13 : decode prog_4_method_11_code 13 = .ok (.invokevirtual 32, 3) := by decide +kernel
theorem dd_D_hits_16 : decode prog_4_method_11_code 16 = .ok (.ifCond .eq 20, 3) := by decide +kernel
theorem dd_D_hits_19 : decode prog_4_method_11_code 19 = .ok (.aload_n 0, 1) := by decide +kernel
theorem dd_D_hits_20 : decode prog_4_method_11_code 20 = .ok (.iload_n 1, 1) := by decide +kernel
theorem dd_D_hits_21 : decode prog_4_method_11_code 21 = .ok (.iload_n 3, 1) := by decide +kernel
theorem dd_D_hits_22 : decode prog_4_method_11_code 22 = .ok (.invokevirtual 28, 3) := by decide +kernel
theorem dd_D_hits_25 : decode prog_4_method_11_code 25 = .ok (.aload_n 0, 1) := by decide +kernel
theorem dd_D_hits_26 : decode prog_4_method_11_code 26 = .ok (.iload_n 3, 1) := by decide +kernel
theorem dd_D_hits_27 : decode prog_4_method_11_code 27 = .ok (.invokevirtual 43, 3) := by decide +kernel
theorem dd_D_hits_30 : decode prog_4_method_11_code 30 = .ok (.if_icmp .ne 6, 3) := by decide +kernel
theorem dd_D_hits_33 : decode prog_4_method_11_code 33 = .ok (.iinc 2 1, 3) := by decide +kernel
theorem dd_D_hits_36 : decode prog_4_method_11_code 36 = .ok (.iinc 3 1, 3) := by decide +kernel
theorem dd_D_hits_39 : decode prog_4_method_11_code 39 = .ok (.goto (-35), 3) := by decide +kernel
theorem dd_D_hits_42 : decode prog_4_method_11_code 42 = .ok (.iload_n 2, 1) := by decide +kernel
theorem dd_D_hits_43 : decode prog_4_method_11_code 43 = .ok (.ireturn, 1) := by decide +kernel
theorem dd_S_right_0 : decode prog_1_method_19_code 0 = .ok (.iload_n 1, 1) := by decide +kernel
theorem dd_S_right_1 : decode prog_1_method_19_code 1 = .ok (.iconst 4, 1) := by decide +kernel
theorem dd_S_right_2 : decode prog_1_method_19_code 2 = .ok (.invokestatic 82, 3) := by decide +kernel
theorem dd_S_right_5 : decode prog_1_method_19_code 5 = .ok (.aload_n 0, 1) := by decide +kernel
theorem dd_S_right_6 : decode prog_1_method_19_code 6 = .ok (.getfield 36, 3) := by decide +kernel
theorem dd_S_right_9 : decode prog_1_method_19_code 9 = .ok (.iload_n 1, 1) := by decide +kernel
theorem dd_S_right_10 : decode prog_1_method_19_code 10 = .ok (.invokevirtual 180, 3) := by decide +kernel
theorem dd_S_right_13 : decode prog_1_method_19_code 13 = .ok (.ireturn, 1) := by decide +kernel
theorem dd_D_readersBefore_0 : decode prog_4_method_13_code 0 = .ok (.iconst 0, 1) := by decide +kernel
theorem dd_D_readersBefore_1 : decode prog_4_method_13_code 1 = .ok (.istore_n 2, 1) := by decide +kernel
theorem dd_D_readersBefore_2 : decode prog_4_method_13_code 2 = .ok (.iconst 0, 1) := by decide +kernel
theorem dd_D_readersBefore_3 : decode prog_4_method_13_code 3 = .ok (.istore_n 3, 1) := by decide +kernel
theorem dd_D_readersBefore_4 : decode prog_4_method_13_code 4 = .ok (.iload_n 3, 1) := by decide +kernel
theorem dd_D_readersBefore_5 : decode prog_4_method_13_code 5 = .ok (.iconst 4, 1) := by decide +kernel
theorem dd_D_readersBefore_6 : decode prog_4_method_13_code 6 = .ok (.if_icmp .ge 47, 3) := by decide +kernel
theorem dd_D_readersBefore_9 : decode prog_4_method_13_code 9 = .ok (.aload_n 0, 1) := by decide +kernel
theorem dd_D_readersBefore_10 : decode prog_4_method_13_code 10 = .ok (.getfield 15, 3) := by decide +kernel
theorem dd_D_readersBefore_13 : decode prog_4_method_13_code 13 = .ok (.iload_n 3, 1) := by decide +kernel
theorem dd_D_readersBefore_14 : decode prog_4_method_13_code 14 = .ok (.iaload, 1) := by decide +kernel
theorem dd_D_readersBefore_15 : decode prog_4_method_13_code 15 = .ok (.aload_n 0, 1) := by decide +kernel
theorem dd_D_readersBefore_16 : decode prog_4_method_13_code 16 = .ok (.getfield 15, 3) := by decide +kernel
theorem dd_D_readersBefore_19 : decode prog_4_method_13_code 19 = .ok (.iload_n 1, 1) := by decide +kernel
theorem dd_D_readersBefore_20 : decode prog_4_method_13_code 20 = .ok (.iaload, 1) := by decide +kernel
theorem dd_D_readersBefore_21 : decode prog_4_method_13_code 21 = .ok (.if_icmp .gt 23, 3) := by decide +kernel
theorem dd_D_readersBefore_24 : decode prog_4_method_13_code 24 = .ok (.aload_n 0, 1) := by decide +kernel
theorem dd_D_readersBefore_25 : decode prog_4_method_13_code 25 = .ok (.getfield 15, 3) := by decide +kernel
theorem dd_D_readersBefore_28 : decode prog_4_method_13_code 28 = .ok (.iload_n 3, 1) := by decide +kernel
theorem dd_D_readersBefore_29 : decode prog_4_method_13_code 29 = .ok (.iaload, 1) := by decide +kernel
theorem dd_D_readersBefore_30 : decode prog_4_method_13_code 30 = .ok (.aload_n 0, 1) := by decide +kernel
theorem dd_D_readersBefore_31 : decode prog_4_method_13_code 31 = .ok (.getfield 15, 3) := by decide +kernel
theorem dd_D_readersBefore_34 : decode prog_4_method_13_code 34 = .ok (.iload_n 1, 1) := by decide +kernel
theorem dd_D_readersBefore_35 : decode prog_4_method_13_code 35 = .ok (.iaload, 1) := by decide +kernel
theorem dd_D_readersBefore_36 : decode prog_4_method_13_code 36 = .ok (.if_icmp .ne 11, 3) := by decide +kernel
theorem dd_D_readersBefore_39 : decode prog_4_method_13_code 39 = .ok (.iload_n 3, 1) := by decide +kernel
theorem dd_D_readersBefore_40 : decode prog_4_method_13_code 40 = .ok (.iload_n 1, 1) := by decide +kernel
theorem dd_D_readersBefore_41 : decode prog_4_method_13_code 41 = .ok (.if_icmp .ge 6, 3) := by decide +kernel
theorem dd_D_readersBefore_44 : decode prog_4_method_13_code 44 = .ok (.iinc 2 1, 3) := by decide +kernel
theorem dd_D_readersBefore_47 : decode prog_4_method_13_code 47 = .ok (.iinc 3 1, 3) := by decide +kernel
theorem dd_D_readersBefore_50 : decode prog_4_method_13_code 50 = .ok (.goto (-46), 3) := by decide +kernel
theorem dd_D_readersBefore_53 : decode prog_4_method_13_code 53 = .ok (.iload_n 2, 1) := by decide +kernel
theorem dd_D_readersBefore_54 : decode prog_4_method_13_code 54 = .ok (.ireturn, 1) := by decide +kernel
theorem dd_D_readerAt_0 : decode prog_4_method_12_code 0 = .ok (.iconst 0, 1) := by decide +kernel
theorem dd_D_readerAt_1 : decode prog_4_method_12_code 1 = .ok (.istore_n 2, 1) := by decide +kernel
theorem dd_D_readerAt_2 : decode prog_4_method_12_code 2 = .ok (.iload_n 2, 1) := by decide +kernel
theorem dd_D_readerAt_3 : decode prog_4_method_12_code 3 = .ok (.iconst 4, 1) := by decide +kernel
theorem dd_D_readerAt_4 : decode prog_4_method_12_code 4 = .ok (.if_icmp .ge 20, 3) := by decide +kernel
theorem dd_D_readerAt_7 : decode prog_4_method_12_code 7 = .ok (.aload_n 0, 1) := by decide +kernel
theorem dd_D_readerAt_8 : decode prog_4_method_12_code 8 = .ok (.getfield 15, 3) := by decide +kernel
theorem dd_D_readerAt_11 : decode prog_4_method_12_code 11 = .ok (.iload_n 2, 1) := by decide +kernel
theorem dd_D_readerAt_12 : decode prog_4_method_12_code 12 = .ok (.aload_n 0, 1) := by decide +kernel
theorem dd_D_readerAt_13 : decode prog_4_method_12_code 13 = .ok (.iload_n 2, 1) := by decide +kernel
theorem dd_D_readerAt_14 : decode prog_4_method_12_code 14 = .ok (.invokevirtual 47, 3) := by decide +kernel
theorem dd_D_readerAt_17 : decode prog_4_method_12_code 17 = .ok (.iastore, 1) := by decide +kernel
theorem dd_D_readerAt_18 : decode prog_4_method_12_code 18 = .ok (.iinc 2 1, 3) := by decide +kernel
theorem dd_D_readerAt_21 : decode prog_4_method_12_code 21 = .ok (.goto (-19), 3) := by decide +kernel
theorem dd_D_readerAt_24 : decode prog_4_method_12_code 24 = .ok (.iconst 0, 1) := by decide +kernel
theorem dd_D_readerAt_25 : decode prog_4_method_12_code 25 = .ok (.istore_n 2, 1) := by decide +kernel
theorem dd_D_readerAt_26 : decode prog_4_method_12_code 26 = .ok (.iload_n 2, 1) := by decide +kernel
theorem dd_D_readerAt_27 : decode prog_4_method_12_code 27 = .ok (.iconst 4, 1) := by decide +kernel
theorem dd_D_readerAt_28 : decode prog_4_method_12_code 28 = .ok (.if_icmp .ge 20, 3) := by decide +kernel
theorem dd_D_readerAt_31 : decode prog_4_method_12_code 31 = .ok (.aload_n 0, 1) := by decide +kernel
theorem dd_D_readerAt_32 : decode prog_4_method_12_code 32 = .ok (.iload_n 2, 1) := by decide +kernel
theorem dd_D_readerAt_33 : decode prog_4_method_12_code 33 = .ok (.invokevirtual 50, 3) := by decide +kernel
theorem dd_D_readerAt_36 : decode prog_4_method_12_code 36 = .ok (.iload_n 1, 1) := by decide +kernel
theorem dd_D_readerAt_37 : decode prog_4_method_12_code 37 = .ok (.if_icmp .ne 5, 3) := by decide +kernel
theorem dd_D_readerAt_40 : decode prog_4_method_12_code 40 = .ok (.iload_n 2, 1) := by decide +kernel
theorem dd_D_readerAt_41 : decode prog_4_method_12_code 41 = .ok (.ireturn, 1) := by decide +kernel
theorem dd_D_readerAt_42 : decode prog_4_method_12_code 42 = .ok (.iinc 2 1, 3) := by decide +kernel
theorem dd_D_readerAt_45 : decode prog_4_method_12_code 45 = .ok (.goto (-19), 3) := by decide +kernel
theorem dd_D_readerAt_48 : decode prog_4_method_12_code 48 = .ok (.iconst (-1), 1) := by decide +kernel
theorem dd_D_readerAt_49 : decode prog_4_method_12_code 49 = .ok (.ireturn, 1) := by decide +kernel
theorem dd_S_best_0 : decode prog_1_method_20_code 0 = .ok (.iload_n 1, 1) := by decide +kernel
theorem dd_S_best_1 : decode prog_1_method_20_code 1 = .ok (.iconst 4, 1) := by decide +kernel
theorem dd_S_best_2 : decode prog_1_method_20_code 2 = .ok (.invokestatic 82, 3) := by decide +kernel
theorem dd_S_best_5 : decode prog_1_method_20_code 5 = .ok (.aload_n 0, 1) := by decide +kernel
theorem dd_S_best_6 : decode prog_1_method_20_code 6 = .ok (.getfield 36, 3) := by decide +kernel
theorem dd_S_best_9 : decode prog_1_method_20_code 9 = .ok (.iload_n 1, 1) := by decide +kernel
theorem dd_S_best_10 : decode prog_1_method_20_code 10 = .ok (.invokevirtual 183, 3) := by decide +kernel
theorem dd_S_best_13 : decode prog_1_method_20_code 13 = .ok (.ireturn, 1) := by decide +kernel
theorem dd_S_age_0 : decode prog_1_method_21_code 0 = .ok (.iload_n 1, 1) := by decide +kernel
theorem dd_S_age_1 : decode prog_1_method_21_code 1 = .ok (.bipush 20, 2) := by decide +kernel
theorem dd_S_age_3 : decode prog_1_method_21_code 3 = .ok (.invokestatic 82, 3) := by decide +kernel
theorem dd_S_age_6 : decode prog_1_method_21_code 6 = .ok (.iload_n 2, 1) := by decide +kernel
theorem dd_S_age_7 : decode prog_1_method_21_code 7 = .ok (.iconst 0, 1) := by decide +kernel
theorem dd_S_age_8 : decode prog_1_method_21_code 8 = .ok (.sipush 364, 3) := by decide +kernel
theorem dd_S_age_11 : decode prog_1_method_21_code 11 = .ok (.invokestatic 74, 3) := by decide +kernel
theorem dd_S_age_14 : decode prog_1_method_21_code 14 = .ok (.iload_n 3, 1) := by decide +kernel
theorem dd_S_age_15 : decode prog_1_method_21_code 15 = .ok (.iconst 0, 1) := by decide +kernel
theorem dd_S_age_16 : decode prog_1_method_21_code 16 = .ok (.sipush 364, 3) := by decide +kernel
theorem dd_S_age_19 : decode prog_1_method_21_code 19 = .ok (.invokestatic 74, 3) := by decide +kernel
theorem dd_S_age_22 : decode prog_1_method_21_code 22 = .ok (.aload_n 0, 1) := by decide +kernel
theorem dd_S_age_23 : decode prog_1_method_21_code 23 = .ok (.getfield 36, 3) := by decide +kernel
theorem dd_S_age_26 : decode prog_1_method_21_code 26 = .ok (.iload_n 1, 1) := by decide +kernel
theorem dd_S_age_27 : decode prog_1_method_21_code 27 = .ok (.invokevirtual 177, 3) := by decide +kernel
theorem dd_S_age_30 : decode prog_1_method_21_code 30 = .ok (.istore 4, 2) := by decide +kernel
theorem dd_S_age_32 : decode prog_1_method_21_code 32 = .ok (.iload 4, 2) := by decide +kernel
theorem dd_S_age_34 : decode prog_1_method_21_code 34 = .ok (.iconst (-1), 1) := by decide +kernel
theorem dd_S_age_35 : decode prog_1_method_21_code 35 = .ok (.if_icmp .ne 5, 3) := by decide +kernel
theorem dd_S_age_38 : decode prog_1_method_21_code 38 = .ok (.iconst (-1), 1) := by decide +kernel
theorem dd_S_age_39 : decode prog_1_method_21_code 39 = .ok (.ireturn, 1) := by decide +kernel
theorem dd_S_age_40 : decode prog_1_method_21_code 40 = .ok (.iload_n 2, 1) := by decide +kernel
theorem dd_S_age_41 : decode prog_1_method_21_code 41 = .ok (.iload_n 3, 1) := by decide +kernel
theorem dd_S_age_42 : decode prog_1_method_21_code 42 = .ok (.if_icmp .ge 14, 3) := by decide +kernel
theorem dd_S_age_45 : decode prog_1_method_21_code 45 = .ok (.iload 4, 2) := by decide +kernel
theorem dd_S_age_47 : decode prog_1_method_21_code 47 = .ok (.iconst 1, 1) := by decide +kernel
theorem dd_S_age_48 : decode prog_1_method_21_code 48 = .ok (.isub, 1) := by decide +kernel
theorem dd_S_age_49 : decode prog_1_method_21_code 49 = .ok (.iconst 0, 1) := by decide +kernel
theorem dd_S_age_50 : decode prog_1_method_21_code 50 = .ok (.invokestatic 186, 3) := by decide +kernel
theorem dd_S_age_53 : decode prog_1_method_21_code 53 = .ok (.goto 5, 3) := by decide +kernel
theorem dd_S_age_56 : decode prog_1_method_21_code 56 = .ok (.iload 4, 2) := by decide +kernel
theorem dd_S_age_58 : decode prog_1_method_21_code 58 = .ok (.ireturn, 1) := by decide +kernel
theorem dd_T_sameValues_0 : decode prog_5_method_7_code 0 = .ok (.aload_n 0, 1) := by decide +kernel
theorem dd_T_sameValues_1 : decode prog_5_method_7_code 1 = .ok (.getfield 21, 3) := by decide +kernel
theorem dd_T_sameValues_4 : decode prog_5_method_7_code 4 = .ok (.aload_n 1, 1) := by decide +kernel
theorem dd_T_sameValues_5 : decode prog_5_method_7_code 5 = .ok (.getfield 21, 3) := by decide +kernel
theorem dd_T_sameValues_8 : decode prog_5_method_7_code 8 = .ok (.if_icmp .eq 5, 3) := by decide +kernel
theorem dd_T_sameValues_11 : decode prog_5_method_7_code 11 = .ok (.iconst 0, 1) := by decide +kernel
theorem dd_T_sameValues_12 : decode prog_5_method_7_code 12 = .ok (.ireturn, 1) := by decide +kernel
theorem dd_T_sameValues_13 : decode prog_5_method_7_code 13 = .ok (.iconst 0, 1) := by decide +kernel
theorem dd_T_sameValues_14 : decode prog_5_method_7_code 14 = .ok (.istore_n 2, 1) := by decide +kernel
theorem dd_T_sameValues_15 : decode prog_5_method_7_code 15 = .ok (.iload_n 2, 1) := by decide +kernel
theorem dd_T_sameValues_16 : decode prog_5_method_7_code 16 = .ok (.aload_n 0, 1) := by decide +kernel
theorem dd_T_sameValues_17 : decode prog_5_method_7_code 17 = .ok (.getfield 21, 3) := by decide +kernel
theorem dd_T_sameValues_20 : decode prog_5_method_7_code 20 = .ok (.if_icmp .ge 26, 3) := by decide +kernel
theorem dd_T_sameValues_23 : decode prog_5_method_7_code 23 = .ok (.aload_n 0, 1) := by decide +kernel
theorem dd_T_sameValues_24 : decode prog_5_method_7_code 24 = .ok (.getfield 9, 3) := by decide +kernel
theorem dd_T_sameValues_27 : decode prog_5_method_7_code 27 = .ok (.iload_n 2, 1) := by decide +kernel
theorem dd_T_sameValues_28 : decode prog_5_method_7_code 28 = .ok (.iaload, 1) := by decide +kernel
theorem dd_T_sameValues_29 : decode prog_5_method_7_code 29 = .ok (.aload_n 1, 1) := by decide +kernel
theorem dd_T_sameValues_30 : decode prog_5_method_7_code 30 = .ok (.getfield 9, 3) := by decide +kernel
theorem dd_T_sameValues_33 : decode prog_5_method_7_code 33 = .ok (.iload_n 2, 1) := by decide +kernel
theorem dd_T_sameValues_34 : decode prog_5_method_7_code 34 = .ok (.iaload, 1) := by decide +kernel
theorem dd_T_sameValues_35 : decode prog_5_method_7_code 35 = .ok (.if_icmp .eq 5, 3) := by decide +kernel
theorem dd_T_sameValues_38 : decode prog_5_method_7_code 38 = .ok (.iconst 0, 1) := by decide +kernel
theorem dd_T_sameValues_39 : decode prog_5_method_7_code 39 = .ok (.ireturn, 1) := by decide +kernel
theorem dd_T_sameValues_40 : decode prog_5_method_7_code 40 = .ok (.iinc 2 1, 3) := by decide +kernel
theorem dd_T_sameValues_43 : decode prog_5_method_7_code 43 = .ok (.goto (-28), 3) := by decide +kernel
theorem dd_T_sameValues_46 : decode prog_5_method_7_code 46 = .ok (.iconst 1, 1) := by decide +kernel
theorem dd_T_sameValues_47 : decode prog_5_method_7_code 47 = .ok (.ireturn, 1) := by decide +kernel
theorem dd_S_twin_0 : decode prog_1_method_22_code 0 = .ok (.aload_n 0, 1) := by decide +kernel
theorem dd_S_twin_1 : decode prog_1_method_22_code 1 = .ok (.iload_n 1, 1) := by decide +kernel
theorem dd_S_twin_2 : decode prog_1_method_22_code 2 = .ok (.aload_n 0, 1) := by decide +kernel
theorem dd_S_twin_3 : decode prog_1_method_22_code 3 = .ok (.getfield 19, 3) := by decide +kernel
theorem dd_S_twin_6 : decode prog_1_method_22_code 6 = .ok (.invokevirtual 102, 3) := by decide +kernel
theorem dd_S_twin_9 : decode prog_1_method_22_code 9 = .ok (.aload_n 0, 1) := by decide +kernel
theorem dd_S_twin_10 : decode prog_1_method_22_code 10 = .ok (.iload_n 2, 1) := by decide +kernel
theorem dd_S_twin_11 : decode prog_1_method_22_code 11 = .ok (.aload_n 0, 1) := by decide +kernel
theorem dd_S_twin_12 : decode prog_1_method_22_code 12 = .ok (.getfield 23, 3) := by decide +kernel
theorem dd_S_twin_15 : decode prog_1_method_22_code 15 = .ok (.invokevirtual 102, 3) := by decide +kernel
theorem dd_S_twin_18 : decode prog_1_method_22_code 18 = .ok (.aload_n 0, 1) := by decide +kernel
theorem dd_S_twin_19 : decode prog_1_method_22_code 19 = .ok (.getfield 19, 3) := by decide +kernel
theorem dd_S_twin_22 : decode prog_1_method_22_code 22 = .ok (.aload_n 0, 1) := by decide +kernel
theorem dd_S_twin_23 : decode prog_1_method_22_code 23 = .ok (.getfield 23, 3) := by decide +kernel
theorem dd_S_twin_26 : decode prog_1_method_22_code 26 = .ok (.invokevirtual 191, 3) := by decide +kernel
theorem dd_S_twin_29 : decode prog_1_method_22_code 29 = .ok (.ireturn, 1) := by decide +kernel
