theorem dd_L_pixel_0 : decode method_3_code 0 = .ok (.aload 4, 2) := by decide +kernel
theorem dd_L_pixel_2 : decode method_3_code 2 = .ok (.iconst 0, 1) := by decide +kernel
theorem dd_L_pixel_3 : decode method_3_code 3 = .ok (.aload_n 0, 1) := by decide +kernel
theorem dd_L_pixel_4 : decode method_3_code 4 = .ok (.iload_n 1, 1) := by decide +kernel
theorem dd_L_pixel_5 : decode method_3_code 5 = .ok (.iload_n 2, 1) := by decide +kernel
theorem dd_L_pixel_6 : decode method_3_code 6 = .ok (.iload_n 3, 1) := by decide +kernel
theorem dd_L_pixel_7 : decode method_3_code 7 = .ok (.invokevirtual 7, 3) := by decide +kernel
theorem dd_L_pixel_10 : decode method_3_code 10 = .ok (.ifCond .eq 7, 3) := by decide +kernel
theorem dd_L_pixel_13 : decode method_3_code 13 = .ok (.lconst 1, 1) := by decide +kernel
theorem dd_L_pixel_14 : decode method_3_code 14 = .ok (.goto 4, 3) := by decide +kernel
theorem dd_L_pixel_17 : decode method_3_code 17 = .ok (.lconst 0, 1) := by decide +kernel
theorem dd_L_pixel_18 : decode method_3_code 18 = .ok (.lastore, 1) := by decide +kernel
theorem dd_L_pixel_19 : decode method_3_code 19 = .ok (.goto 11, 3) := by decide +kernel
theorem dd_L_pixel_22 : decode method_3_code 22 = .ok (.astore 5, 2) := by decide +kernel
theorem dd_L_pixel_24 : decode method_3_code 24 = .ok (.iconst 1, 1) := by decide +kernel
theorem dd_L_pixel_25 : decode method_3_code 25 = .ok (.ireturn, 1) := by decide +kernel
theorem dd_L_pixel_26 : decode method_3_code 26 = .ok (.astore 5, 2) := by decide +kernel
theorem dd_L_pixel_28 : decode method_3_code 28 = .ok (.iconst 2, 1) := by decide +kernel
theorem dd_L_pixel_29 : decode method_3_code 29 = .ok (.ireturn, 1) := by decide +kernel
theorem dd_L_pixel_30 : decode method_3_code 30 = .ok (.iconst 0, 1) := by decide +kernel
theorem dd_L_pixel_31 : decode method_3_code 31 = .ok (.ireturn, 1) := by decide +kernel
theorem dd_L_middle_0 : decode method_4_code 0 = .ok (.aload_n 2, 1) := by decide +kernel
theorem dd_L_middle_1 : decode method_4_code 1 = .ok (.iconst 0, 1) := by decide +kernel
theorem dd_L_middle_2 : decode method_4_code 2 = .ok (.aload_n 0, 1) := by decide +kernel
theorem dd_L_middle_3 : decode method_4_code 3 = .ok (.iload_n 1, 1) := by decide +kernel
theorem dd_L_middle_4 : decode method_4_code 4 = .ok (.invokevirtual 17, 3) := by decide +kernel
theorem dd_L_middle_7 : decode method_4_code 7 = .ok (.i2l, 1) := by decide +kernel
theorem dd_L_middle_8 : decode method_4_code 8 = .ok (.lastore, 1) := by decide +kernel
theorem dd_L_middle_9 : decode method_4_code 9 = .ok (.goto 6, 3) := by decide +kernel
theorem dd_L_middle_12 : decode method_4_code 12 = .ok (.astore_n 3, 1) := by decide +kernel
theorem dd_L_middle_13 : decode method_4_code 13 = .ok (.iconst 1, 1) := by decide +kernel
theorem dd_L_middle_14 : decode method_4_code 14 = .ok (.ireturn, 1) := by decide +kernel
theorem dd_L_middle_15 : decode method_4_code 15 = .ok (.iconst 0, 1) := by decide +kernel
theorem dd_L_middle_16 : decode method_4_code 16 = .ok (.ireturn, 1) := by decide +kernel
theorem dd_L_ray_0 : decode method_5_code 0 = .ok (.aload_n 3, 1) := by decide +kernel
theorem dd_L_ray_1 : decode method_5_code 1 = .ok (.iconst 0, 1) := by decide +kernel
theorem dd_L_ray_2 : decode method_5_code 2 = .ok (.aload_n 0, 1) := by decide +kernel
theorem dd_L_ray_3 : decode method_5_code 3 = .ok (.iload_n 1, 1) := by decide +kernel
theorem dd_L_ray_4 : decode method_5_code 4 = .ok (.iload_n 2, 1) := by decide +kernel
theorem dd_L_ray_5 : decode method_5_code 5 = .ok (.invokevirtual 21, 3) := by decide +kernel
theorem dd_L_ray_8 : decode method_5_code 8 = .ok (.i2l, 1) := by decide +kernel
theorem dd_L_ray_9 : decode method_5_code 9 = .ok (.lastore, 1) := by decide +kernel
theorem dd_L_ray_10 : decode method_5_code 10 = .ok (.goto 11, 3) := by decide +kernel
theorem dd_L_ray_13 : decode method_5_code 13 = .ok (.astore 4, 2) := by decide +kernel
theorem dd_L_ray_15 : decode method_5_code 15 = .ok (.iconst 1, 1) := by decide +kernel
theorem dd_L_ray_16 : decode method_5_code 16 = .ok (.ireturn, 1) := by decide +kernel
theorem dd_L_ray_17 : decode method_5_code 17 = .ok (.astore 4, 2) := by decide +kernel
theorem dd_L_ray_19 : decode method_5_code 19 = .ok (.iconst 2, 1) := by decide +kernel
theorem dd_L_ray_20 : decode method_5_code 20 = .ok (.ireturn, 1) := by decide +kernel
theorem dd_L_ray_21 : decode method_5_code 21 = .ok (.iconst 0, 1) := by decide +kernel
theorem dd_L_ray_22 : decode method_5_code 22 = .ok (.ireturn, 1) := by decide +kernel
theorem dd_L_samples_0 : decode method_6_code 0 = .ok (.aload_n 2, 1) := by decide +kernel
theorem dd_L_samples_1 : decode method_6_code 1 = .ok (.iconst 0, 1) := by decide +kernel
theorem dd_L_samples_2 : decode method_6_code 2 = .ok (.aload_n 0, 1) := by decide +kernel
theorem dd_L_samples_3 : decode method_6_code 3 = .ok (.iload_n 1, 1) := by decide +kernel
theorem dd_L_samples_4 : decode method_6_code 4 = .ok (.invokevirtual 27, 3) := by decide +kernel
theorem dd_L_samples_7 : decode method_6_code 7 = .ok (.i2l, 1) := by decide +kernel
theorem dd_L_samples_8 : decode method_6_code 8 = .ok (.lastore, 1) := by decide +kernel
theorem dd_L_samples_9 : decode method_6_code 9 = .ok (.goto 6, 3) := by decide +kernel
theorem dd_L_samples_12 : decode method_6_code 12 = .ok (.astore_n 3, 1) := by decide +kernel
theorem dd_L_samples_13 : decode method_6_code 13 = .ok (.iconst 1, 1) := by decide +kernel
theorem dd_L_samples_14 : decode method_6_code 14 = .ok (.ireturn, 1) := by decide +kernel
theorem dd_L_samples_15 : decode method_6_code 15 = .ok (.iconst 0, 1) := by decide +kernel
theorem dd_L_samples_16 : decode method_6_code 16 = .ok (.ireturn, 1) := by decide +kernel
theorem dd_L_sample_0 : decode method_7_code 0 = .ok (.aload 4, 2) := by decide +kernel
theorem dd_L_sample_2 : decode method_7_code 2 = .ok (.iconst 0, 1) := by decide +kernel
theorem dd_L_sample_3 : decode method_7_code 3 = .ok (.aload_n 0, 1) := by decide +kernel
theorem dd_L_sample_4 : decode method_7_code 4 = .ok (.iload_n 1, 1) := by decide +kernel
theorem dd_L_sample_5 : decode method_7_code 5 = .ok (.iload_n 2, 1) := by decide +kernel
theorem dd_L_sample_6 : decode method_7_code 6 = .ok (.iload_n 3, 1) := by decide +kernel
theorem dd_L_sample_7 : decode method_7_code 7 = .ok (.invokevirtual 30, 3) := by decide +kernel
theorem dd_L_sample_10 : decode method_7_code 10 = .ok (.i2l, 1) := by decide +kernel
theorem dd_L_sample_11 : decode method_7_code 11 = .ok (.lastore, 1) := by decide +kernel
theorem dd_L_sample_12 : decode method_7_code 12 = .ok (.goto 7, 3) := by decide +kernel
theorem dd_L_sample_15 : decode method_7_code 15 = .ok (.astore 5, 2) := by decide +kernel
theorem dd_L_sample_17 : decode method_7_code 17 = .ok (.iconst 1, 1) := by decide +kernel
theorem dd_L_sample_18 : decode method_7_code 18 = .ok (.ireturn, 1) := by decide +kernel
theorem dd_L_sample_19 : decode method_7_code 19 = .ok (.iconst 0, 1) := by decide +kernel
theorem dd_L_sample_20 : decode method_7_code 20 = .ok (.ireturn, 1) := by decide +kernel
theorem dd_L_rule_0 : decode method_8_code 0 = .ok (.aload_n 0, 1) := by decide +kernel
theorem dd_L_rule_1 : decode method_8_code 1 = .ok (.iload_n 1, 1) := by decide +kernel
theorem dd_L_rule_2 : decode method_8_code 2 = .ok (.iload_n 2, 1) := by decide +kernel
theorem dd_L_rule_3 : decode method_8_code 3 = .ok (.invokevirtual 34, 3) := by decide +kernel
theorem dd_L_rule_6 : decode method_8_code 6 = .ok (.goto 6, 3) := by decide +kernel
theorem dd_L_rule_9 : decode method_8_code 9 = .ok (.astore_n 3, 1) := by decide +kernel
theorem dd_L_rule_10 : decode method_8_code 10 = .ok (.iconst 1, 1) := by decide +kernel
theorem dd_L_rule_11 : decode method_8_code 11 = .ok (.ireturn, 1) := by decide +kernel
theorem dd_L_rule_12 : decode method_8_code 12 = .ok (.iconst 0, 1) := by decide +kernel
theorem dd_L_rule_13 : decode method_8_code 13 = .ok (.ireturn, 1) := by decide +kernel
theorem dd_L_rings_0 : decode method_9_code 0 = .ok (.aload_n 2, 1) := by decide +kernel
theorem dd_L_rings_1 : decode method_9_code 1 = .ok (.iconst 0, 1) := by decide +kernel
theorem dd_L_rings_2 : decode method_9_code 2 = .ok (.aload_n 0, 1) := by decide +kernel
theorem dd_L_rings_3 : decode method_9_code 3 = .ok (.iload_n 1, 1) := by decide +kernel
theorem dd_L_rings_4 : decode method_9_code 4 = .ok (.invokevirtual 38, 3) := by decide +kernel
theorem dd_L_rings_7 : decode method_9_code 7 = .ok (.i2l, 1) := by decide +kernel
theorem dd_L_rings_8 : decode method_9_code 8 = .ok (.lastore, 1) := by decide +kernel
theorem dd_L_rings_9 : decode method_9_code 9 = .ok (.goto 6, 3) := by decide +kernel
theorem dd_L_rings_12 : decode method_9_code 12 = .ok (.astore_n 3, 1) := by decide +kernel
theorem dd_L_rings_13 : decode method_9_code 13 = .ok (.iconst 1, 1) := by decide +kernel
theorem dd_L_rings_14 : decode method_9_code 14 = .ok (.ireturn, 1) := by decide +kernel
theorem dd_L_rings_15 : decode method_9_code 15 = .ok (.iconst 0, 1) := by decide +kernel
theorem dd_L_rings_16 : decode method_9_code 16 = .ok (.ireturn, 1) := by decide +kernel
theorem dd_L_ring_0 : decode method_10_code 0 = .ok (.aload 4, 2) := by decide +kernel
theorem dd_L_ring_2 : decode method_10_code 2 = .ok (.iconst 0, 1) := by decide +kernel
theorem dd_L_ring_3 : decode method_10_code 3 = .ok (.aload_n 0, 1) := by decide +kernel
theorem dd_L_ring_4 : decode method_10_code 4 = .ok (.iload_n 1, 1) := by decide +kernel
theorem dd_L_ring_5 : decode method_10_code 5 = .ok (.iload_n 2, 1) := by decide +kernel
theorem dd_L_ring_6 : decode method_10_code 6 = .ok (.iload_n 3, 1) := by decide +kernel
theorem dd_L_ring_7 : decode method_10_code 7 = .ok (.invokevirtual 41, 3) := by decide +kernel
theorem dd_L_ring_10 : decode method_10_code 10 = .ok (.i2l, 1) := by decide +kernel
theorem dd_L_ring_11 : decode method_10_code 11 = .ok (.lastore, 1) := by decide +kernel
theorem dd_L_ring_12 : decode method_10_code 12 = .ok (.goto 7, 3) := by decide +kernel
theorem dd_L_ring_15 : decode method_10_code 15 = .ok (.astore 5, 2) := by decide +kernel
theorem dd_L_ring_17 : decode method_10_code 17 = .ok (.iconst 1, 1) := by decide +kernel
theorem dd_L_ring_18 : decode method_10_code 18 = .ok (.ireturn, 1) := by decide +kernel
theorem dd_L_ring_19 : decode method_10_code 19 = .ok (.iconst 0, 1) := by decide +kernel
theorem dd_L_ring_20 : decode method_10_code 20 = .ok (.ireturn, 1) := by decide +kernel
theorem dd_L_join_0 : decode method_11_code 0 = .ok (.aload 4, 2) := by decide +kernel
theorem dd_L_join_2 : decode method_11_code 2 = .ok (.iconst 0, 1) := by decide +kernel
theorem dd_L_join_3 : decode method_11_code 3 = .ok (.aload_n 0, 1) := by decide +kernel
theorem dd_L_join_4 : decode method_11_code 4 = .ok (.iload_n 1, 1) := by decide +kernel
theorem dd_L_join_5 : decode method_11_code 5 = .ok (.iload_n 2, 1) := by decide +kernel
theorem dd_L_join_6 : decode method_11_code 6 = .ok (.iload_n 3, 1) := by decide +kernel
theorem dd_L_join_7 : decode method_11_code 7 = .ok (.invokevirtual 45, 3) := by decide +kernel
theorem dd_L_join_10 : decode method_11_code 10 = .ok (.i2l, 1) := by decide +kernel
theorem dd_L_join_11 : decode method_11_code 11 = .ok (.lastore, 1) := by decide +kernel
theorem dd_L_join_12 : decode method_11_code 12 = .ok (.goto 11, 3) := by decide +kernel
theorem dd_L_join_15 : decode method_11_code 15 = .ok (.astore 5, 2) := by decide +kernel
theorem dd_L_join_17 : decode method_11_code 17 = .ok (.iconst 1, 1) := by decide +kernel
theorem dd_L_join_18 : decode method_11_code 18 = .ok (.ireturn, 1) := by decide +kernel
theorem dd_L_join_19 : decode method_11_code 19 = .ok (.astore 5, 2) := by decide +kernel
theorem dd_L_join_21 : decode method_11_code 21 = .ok (.iconst 2, 1) := by decide +kernel
theorem dd_L_join_22 : decode method_11_code 22 = .ok (.ireturn, 1) := by decide +kernel
theorem dd_L_join_23 : decode method_11_code 23 = .ok (.iconst 0, 1) := by decide +kernel
theorem dd_L_join_24 : decode method_11_code 24 = .ok (.ireturn, 1) := by decide +kernel
theorem dd_L_joined_0 : decode method_12_code 0 = .ok (.aload_n 2, 1) := by decide +kernel
theorem dd_L_joined_1 : decode method_12_code 1 = .ok (.iconst 0, 1) := by decide +kernel
theorem dd_L_joined_2 : decode method_12_code 2 = .ok (.aload_n 0, 1) := by decide +kernel
theorem dd_L_joined_3 : decode method_12_code 3 = .ok (.iload_n 1, 1) := by decide +kernel
theorem dd_L_joined_4 : decode method_12_code 4 = .ok (.invokevirtual 48, 3) := by decide +kernel
theorem dd_L_joined_7 : decode method_12_code 7 = .ok (.i2l, 1) := by decide +kernel
theorem dd_L_joined_8 : decode method_12_code 8 = .ok (.lastore, 1) := by decide +kernel
theorem dd_L_joined_9 : decode method_12_code 9 = .ok (.goto 9, 3) := by decide +kernel
theorem dd_L_joined_12 : decode method_12_code 12 = .ok (.astore_n 3, 1) := by decide +kernel
theorem dd_L_joined_13 : decode method_12_code 13 = .ok (.iconst 1, 1) := by decide +kernel
theorem dd_L_joined_14 : decode method_12_code 14 = .ok (.ireturn, 1) := by decide +kernel
theorem dd_L_joined_15 : decode method_12_code 15 = .ok (.astore_n 3, 1) := by decide +kernel
theorem dd_L_joined_16 : decode method_12_code 16 = .ok (.iconst 2, 1) := by decide +kernel
theorem dd_L_joined_17 : decode method_12_code 17 = .ok (.ireturn, 1) := by decide +kernel
theorem dd_L_joined_18 : decode method_12_code 18 = .ok (.iconst 0, 1) := by decide +kernel
theorem dd_L_joined_19 : decode method_12_code 19 = .ok (.ireturn, 1) := by decide +kernel
theorem dd_L_back_0 : decode method_13_code 0 = .ok (.aload 4, 2) := by decide +kernel
theorem dd_L_back_2 : decode method_13_code 2 = .ok (.iconst 0, 1) := by decide +kernel
theorem dd_L_back_3 : decode method_13_code 3 = .ok (.aload_n 0, 1) := by decide +kernel
theorem dd_L_back_4 : decode method_13_code 4 = .ok (.iload_n 1, 1) := by decide +kernel
theorem dd_L_back_5 : decode method_13_code 5 = .ok (.iload_n 2, 1) := by decide +kernel
theorem dd_L_back_6 : decode method_13_code 6 = .ok (.iload_n 3, 1) := by decide +kernel
theorem dd_L_back_7 : decode method_13_code 7 = .ok (.invokevirtual 51, 3) := by decide +kernel
theorem dd_L_back_10 : decode method_13_code 10 = .ok (.i2l, 1) := by decide +kernel
theorem dd_L_back_11 : decode method_13_code 11 = .ok (.lastore, 1) := by decide +kernel
theorem dd_L_back_12 : decode method_13_code 12 = .ok (.goto 11, 3) := by decide +kernel
theorem dd_L_back_15 : decode method_13_code 15 = .ok (.astore 5, 2) := by decide +kernel
theorem dd_L_back_17 : decode method_13_code 17 = .ok (.iconst 1, 1) := by decide +kernel
theorem dd_L_back_18 : decode method_13_code 18 = .ok (.ireturn, 1) := by decide +kernel
theorem dd_L_back_19 : decode method_13_code 19 = .ok (.astore 5, 2) := by decide +kernel
theorem dd_L_back_21 : decode method_13_code 21 = .ok (.iconst 2, 1) := by decide +kernel
theorem dd_L_back_22 : decode method_13_code 22 = .ok (.ireturn, 1) := by decide +kernel
theorem dd_L_back_23 : decode method_13_code 23 = .ok (.iconst 0, 1) := by decide +kernel
theorem dd_L_back_24 : decode method_13_code 24 = .ok (.ireturn, 1) := by decide +kernel
theorem dd_L_tell_0 : decode method_14_code 0 = .ok (.aload_n 0, 1) := by decide +kernel
theorem dd_L_tell_1 : decode method_14_code 1 = .ok (.iload_n 1, 1) := by decide +kernel
theorem dd_L_tell_2 : decode method_14_code 2 = .ok (.iload_n 2, 1) := by decide +kernel
theorem dd_L_tell_3 : decode method_14_code 3 = .ok (.iload_n 3, 1) := by decide +kernel
theorem dd_L_tell_4 : decode method_14_code 4 = .ok (.invokevirtual 54, 3) := by decide +kernel
theorem dd_L_tell_7 : decode method_14_code 7 = .ok (.goto 15, 3) := by decide +kernel
theorem dd_L_tell_10 : decode method_14_code 10 = .ok (.astore 4, 2) := by decide +kernel
theorem dd_L_tell_12 : decode method_14_code 12 = .ok (.iconst 1, 1) := by decide +kernel
theorem dd_L_tell_13 : decode method_14_code 13 = .ok (.ireturn, 1) := by decide +kernel
theorem dd_L_tell_14 : decode method_14_code 14 = .ok (.astore 4, 2) := by decide +kernel
theorem dd_L_tell_16 : decode method_14_code 16 = .ok (.iconst 2, 1) := by decide +kernel
theorem dd_L_tell_17 : decode method_14_code 17 = .ok (.ireturn, 1) := by decide +kernel
theorem dd_L_tell_18 : decode method_14_code 18 = .ok (.astore 4, 2) := by decide +kernel
theorem dd_L_tell_20 : decode method_14_code 20 = .ok (.iconst 3, 1) := by decide +kernel
theorem dd_L_tell_21 : decode method_14_code 21 = .ok (.ireturn, 1) := by decide +kernel
theorem dd_L_tell_22 : decode method_14_code 22 = .ok (.iconst 0, 1) := by decide +kernel
theorem dd_L_tell_23 : decode method_14_code 23 = .ok (.ireturn, 1) := by decide +kernel
theorem dd_L_may_0 : decode method_15_code 0 = .ok (.aload_n 3, 1) := by decide +kernel
theorem dd_L_may_1 : decode method_15_code 1 = .ok (.iconst 0, 1) := by decide +kernel
theorem dd_L_may_2 : decode method_15_code 2 = .ok (.aload_n 0, 1) := by decide +kernel
theorem dd_L_may_3 : decode method_15_code 3 = .ok (.iload_n 1, 1) := by decide +kernel
theorem dd_L_may_4 : decode method_15_code 4 = .ok (.iload_n 2, 1) := by decide +kernel
theorem dd_L_may_5 : decode method_15_code 5 = .ok (.invokevirtual 58, 3) := by decide +kernel
theorem dd_L_may_8 : decode method_15_code 8 = .ok (.ifCond .eq 7, 3) := by decide +kernel
theorem dd_L_may_11 : decode method_15_code 11 = .ok (.lconst 1, 1) := by decide +kernel
theorem dd_L_may_12 : decode method_15_code 12 = .ok (.goto 4, 3) := by decide +kernel
theorem dd_L_may_15 : decode method_15_code 15 = .ok (.lconst 0, 1) := by decide +kernel
theorem dd_L_may_16 : decode method_15_code 16 = .ok (.lastore, 1) := by decide +kernel
theorem dd_L_may_17 : decode method_15_code 17 = .ok (.goto 7, 3) := by decide +kernel
theorem dd_L_may_20 : decode method_15_code 20 = .ok (.astore 4, 2) := by decide +kernel
theorem dd_L_may_22 : decode method_15_code 22 = .ok (.iconst 1, 1) := by decide +kernel
theorem dd_L_may_23 : decode method_15_code 23 = .ok (.ireturn, 1) := by decide +kernel
theorem dd_L_may_24 : decode method_15_code 24 = .ok (.iconst 0, 1) := by decide +kernel
theorem dd_L_may_25 : decode method_15_code 25 = .ok (.ireturn, 1) := by decide +kernel
theorem dd_L_seen_0 : decode method_16_code 0 = .ok (.aload 4, 2) := by decide +kernel
theorem dd_L_seen_2 : decode method_16_code 2 = .ok (.iconst 0, 1) := by decide +kernel
theorem dd_L_seen_3 : decode method_16_code 3 = .ok (.aload_n 0, 1) := by decide +kernel
theorem dd_L_seen_4 : decode method_16_code 4 = .ok (.iload_n 1, 1) := by decide +kernel
theorem dd_L_seen_5 : decode method_16_code 5 = .ok (.iload_n 2, 1) := by decide +kernel
theorem dd_L_seen_6 : decode method_16_code 6 = .ok (.iload_n 3, 1) := by decide +kernel
theorem dd_L_seen_7 : decode method_16_code 7 = .ok (.invokevirtual 62, 3) := by decide +kernel
theorem dd_L_seen_10 : decode method_16_code 10 = .ok (.i2l, 1) := by decide +kernel
theorem dd_L_seen_11 : decode method_16_code 11 = .ok (.lastore, 1) := by decide +kernel
theorem dd_L_seen_12 : decode method_16_code 12 = .ok (.goto 11, 3) := by decide +kernel
theorem dd_L_seen_15 : decode method_16_code 15 = .ok (.astore 5, 2) := by decide +kernel
theorem dd_L_seen_17 : decode method_16_code 17 = .ok (.iconst 1, 1) := by decide +kernel
theorem dd_L_seen_18 : decode method_16_code 18 = .ok (.ireturn, 1) := by decide +kernel
theorem dd_L_seen_19 : decode method_16_code 19 = .ok (.astore 5, 2) := by decide +kernel
theorem dd_L_seen_21 : decode method_16_code 21 = .ok (.iconst 2, 1) := by decide +kernel
theorem dd_L_seen_22 : decode method_16_code 22 = .ok (.ireturn, 1) := by decide +kernel
theorem dd_L_seen_23 : decode method_16_code 23 = .ok (.iconst 0, 1) := by decide +kernel
theorem dd_L_seen_24 : decode method_16_code 24 = .ok (.ireturn, 1) := by decide +kernel
theorem dd_L_agree_0 : decode method_17_code 0 = .ok (.aload 4, 2) := by decide +kernel
theorem dd_L_agree_2 : decode method_17_code 2 = .ok (.iconst 0, 1) := by decide +kernel
theorem dd_L_agree_3 : decode method_17_code 3 = .ok (.aload_n 0, 1) := by decide +kernel
theorem dd_L_agree_4 : decode method_17_code 4 = .ok (.iload_n 1, 1) := by decide +kernel
theorem dd_L_agree_5 : decode method_17_code 5 = .ok (.iload_n 2, 1) := by decide +kernel
theorem dd_L_agree_6 : decode method_17_code 6 = .ok (.iload_n 3, 1) := by decide +kernel
theorem dd_L_agree_7 : decode method_17_code 7 = .ok (.invokevirtual 65, 3) := by decide +kernel
theorem dd_L_agree_10 : decode method_17_code 10 = .ok (.i2l, 1) := by decide +kernel
theorem dd_L_agree_11 : decode method_17_code 11 = .ok (.lastore, 1) := by decide +kernel
theorem dd_L_agree_12 : decode method_17_code 12 = .ok (.goto 7, 3) := by decide +kernel
theorem dd_L_agree_15 : decode method_17_code 15 = .ok (.astore 5, 2) := by decide +kernel
theorem dd_L_agree_17 : decode method_17_code 17 = .ok (.iconst 1, 1) := by decide +kernel
theorem dd_L_agree_18 : decode method_17_code 18 = .ok (.ireturn, 1) := by decide +kernel
theorem dd_L_agree_19 : decode method_17_code 19 = .ok (.iconst 0, 1) := by decide +kernel
theorem dd_L_agree_20 : decode method_17_code 20 = .ok (.ireturn, 1) := by decide +kernel
theorem dd_L_bias_0 : decode method_18_code 0 = .ok (.aload 4, 2) := by decide +kernel
theorem dd_L_bias_2 : decode method_18_code 2 = .ok (.iconst 0, 1) := by decide +kernel
theorem dd_L_bias_3 : decode method_18_code 3 = .ok (.aload_n 0, 1) := by decide +kernel
theorem dd_L_bias_4 : decode method_18_code 4 = .ok (.iload_n 1, 1) := by decide +kernel
theorem dd_L_bias_5 : decode method_18_code 5 = .ok (.iload_n 2, 1) := by decide +kernel
theorem dd_L_bias_6 : decode method_18_code 6 = .ok (.iload_n 3, 1) := by decide +kernel
theorem dd_L_bias_7 : decode method_18_code 7 = .ok (.invokevirtual 68, 3) := by decide +kernel
theorem dd_L_bias_10 : decode method_18_code 10 = .ok (.i2l, 1) := by decide +kernel
theorem dd_L_bias_11 : decode method_18_code 11 = .ok (.lastore, 1) := by decide +kernel
theorem dd_L_bias_12 : decode method_18_code 12 = .ok (.goto 7, 3) := by decide +kernel
theorem dd_L_bias_15 : decode method_18_code 15 = .ok (.astore 5, 2) := by decide +kernel
theorem dd_L_bias_17 : decode method_18_code 17 = .ok (.iconst 1, 1) := by decide +kernel
theorem dd_L_bias_18 : decode method_18_code 18 = .ok (.ireturn, 1) := by decide +kernel
theorem dd_L_bias_19 : decode method_18_code 19 = .ok (.iconst 0, 1) := by decide +kernel
theorem dd_L_bias_20 : decode method_18_code 20 = .ok (.ireturn, 1) := by decide +kernel
theorem dd_L_told_0 : decode method_19_code 0 = .ok (.aload_n 2, 1) := by decide +kernel
theorem dd_L_told_1 : decode method_19_code 1 = .ok (.iconst 0, 1) := by decide +kernel
theorem dd_L_told_2 : decode method_19_code 2 = .ok (.aload_n 0, 1) := by decide +kernel
theorem dd_L_told_3 : decode method_19_code 3 = .ok (.iload_n 1, 1) := by decide +kernel
theorem dd_L_told_4 : decode method_19_code 4 = .ok (.invokevirtual 71, 3) := by decide +kernel
theorem dd_L_told_7 : decode method_19_code 7 = .ok (.i2l, 1) := by decide +kernel
theorem dd_L_told_8 : decode method_19_code 8 = .ok (.lastore, 1) := by decide +kernel
theorem dd_L_told_9 : decode method_19_code 9 = .ok (.goto 6, 3) := by decide +kernel
theorem dd_L_told_12 : decode method_19_code 12 = .ok (.astore_n 3, 1) := by decide +kernel
theorem dd_L_told_13 : decode method_19_code 13 = .ok (.iconst 1, 1) := by decide +kernel
theorem dd_L_told_14 : decode method_19_code 14 = .ok (.ireturn, 1) := by decide +kernel
theorem dd_L_told_15 : decode method_19_code 15 = .ok (.iconst 0, 1) := by decide +kernel
theorem dd_L_told_16 : decode method_19_code 16 = .ok (.ireturn, 1) := by decide +kernel
theorem dd_L_right_0 : decode method_20_code 0 = .ok (.aload_n 2, 1) := by decide +kernel
theorem dd_L_right_1 : decode method_20_code 1 = .ok (.iconst 0, 1) := by decide +kernel
theorem dd_L_right_2 : decode method_20_code 2 = .ok (.aload_n 0, 1) := by decide +kernel
theorem dd_L_right_3 : decode method_20_code 3 = .ok (.iload_n 1, 1) := by decide +kernel
theorem dd_L_right_4 : decode method_20_code 4 = .ok (.invokevirtual 74, 3) := by decide +kernel
theorem dd_L_right_7 : decode method_20_code 7 = .ok (.i2l, 1) := by decide +kernel
theorem dd_L_right_8 : decode method_20_code 8 = .ok (.lastore, 1) := by decide +kernel
theorem dd_L_right_9 : decode method_20_code 9 = .ok (.goto 6, 3) := by decide +kernel
theorem dd_L_right_12 : decode method_20_code 12 = .ok (.astore_n 3, 1) := by decide +kernel
theorem dd_L_right_13 : decode method_20_code 13 = .ok (.iconst 1, 1) := by decide +kernel
theorem dd_L_right_14 : decode method_20_code 14 = .ok (.ireturn, 1) := by decide +kernel
theorem dd_L_right_15 : decode method_20_code 15 = .ok (.iconst 0, 1) := by decide +kernel
theorem dd_L_right_16 : decode method_20_code 16 = .ok (.ireturn, 1) := by decide +kernel
theorem dd_L_best_0 : decode method_21_code 0 = .ok (.aload_n 2, 1) := by decide +kernel
theorem dd_L_best_1 : decode method_21_code 1 = .ok (.iconst 0, 1) := by decide +kernel
theorem dd_L_best_2 : decode method_21_code 2 = .ok (.aload_n 0, 1) := by decide +kernel
theorem dd_L_best_3 : decode method_21_code 3 = .ok (.iload_n 1, 1) := by decide +kernel
theorem dd_L_best_4 : decode method_21_code 4 = .ok (.invokevirtual 77, 3) := by decide +kernel
theorem dd_L_best_7 : decode method_21_code 7 = .ok (.i2l, 1) := by decide +kernel
theorem dd_L_best_8 : decode method_21_code 8 = .ok (.lastore, 1) := by decide +kernel
theorem dd_L_best_9 : decode method_21_code 9 = .ok (.goto 6, 3) := by decide +kernel
theorem dd_L_best_12 : decode method_21_code 12 = .ok (.astore_n 3, 1) := by decide +kernel
theorem dd_L_best_13 : decode method_21_code 13 = .ok (.iconst 1, 1) := by decide +kernel
theorem dd_L_best_14 : decode method_21_code 14 = .ok (.ireturn, 1) := by decide +kernel
theorem dd_L_best_15 : decode method_21_code 15 = .ok (.iconst 0, 1) := by decide +kernel
theorem dd_L_best_16 : decode method_21_code 16 = .ok (.ireturn, 1) := by decide +kernel
theorem dd_L_age_0 : decode method_22_code 0 = .ok (.aload 4, 2) := by decide +kernel
theorem dd_L_age_2 : decode method_22_code 2 = .ok (.iconst 0, 1) := by decide +kernel
theorem dd_L_age_3 : decode method_22_code 3 = .ok (.aload_n 0, 1) := by decide +kernel
theorem dd_L_age_4 : decode method_22_code 4 = .ok (.iload_n 1, 1) := by decide +kernel
theorem dd_L_age_5 : decode method_22_code 5 = .ok (.iload_n 2, 1) := by decide +kernel
theorem dd_L_age_6 : decode method_22_code 6 = .ok (.iload_n 3, 1) := by decide +kernel
theorem dd_L_age_7 : decode method_22_code 7 = .ok (.invokevirtual 80, 3) := by decide +kernel
theorem dd_L_age_10 : decode method_22_code 10 = .ok (.i2l, 1) := by decide +kernel
theorem dd_L_age_11 : decode method_22_code 11 = .ok (.lastore, 1) := by decide +kernel
theorem dd_L_age_12 : decode method_22_code 12 = .ok (.goto 11, 3) := by decide +kernel
theorem dd_L_age_15 : decode method_22_code 15 = .ok (.astore 5, 2) := by decide +kernel
theorem dd_L_age_17 : decode method_22_code 17 = .ok (.iconst 1, 1) := by decide +kernel
theorem dd_L_age_18 : decode method_22_code 18 = .ok (.ireturn, 1) := by decide +kernel
theorem dd_L_age_19 : decode method_22_code 19 = .ok (.astore 5, 2) := by decide +kernel
theorem dd_L_age_21 : decode method_22_code 21 = .ok (.iconst 2, 1) := by decide +kernel
theorem dd_L_age_22 : decode method_22_code 22 = .ok (.ireturn, 1) := by decide +kernel
theorem dd_L_age_23 : decode method_22_code 23 = .ok (.iconst 0, 1) := by decide +kernel
theorem dd_L_age_24 : decode method_22_code 24 = .ok (.ireturn, 1) := by decide +kernel
theorem dd_L_twin_0 : decode method_23_code 0 = .ok (.aload_n 3, 1) := by decide +kernel
theorem dd_L_twin_1 : decode method_23_code 1 = .ok (.iconst 0, 1) := by decide +kernel
theorem dd_L_twin_2 : decode method_23_code 2 = .ok (.aload_n 0, 1) := by decide +kernel
theorem dd_L_twin_3 : decode method_23_code 3 = .ok (.iload_n 1, 1) := by decide +kernel
theorem dd_L_twin_4 : decode method_23_code 4 = .ok (.iload_n 2, 1) := by decide +kernel
theorem dd_L_twin_5 : decode method_23_code 5 = .ok (.invokevirtual 83, 3) := by decide +kernel
theorem dd_L_twin_8 : decode method_23_code 8 = .ok (.ifCond .eq 7, 3) := by decide +kernel
theorem dd_L_twin_11 : decode method_23_code 11 = .ok (.lconst 1, 1) := by decide +kernel
theorem dd_L_twin_12 : decode method_23_code 12 = .ok (.goto 4, 3) := by decide +kernel
theorem dd_L_twin_15 : decode method_23_code 15 = .ok (.lconst 0, 1) := by decide +kernel
theorem dd_L_twin_16 : decode method_23_code 16 = .ok (.lastore, 1) := by decide +kernel
theorem dd_L_twin_17 : decode method_23_code 17 = .ok (.goto 7, 3) := by decide +kernel
theorem dd_L_twin_20 : decode method_23_code 20 = .ok (.astore 4, 2) := by decide +kernel
theorem dd_L_twin_22 : decode method_23_code 22 = .ok (.iconst 1, 1) := by decide +kernel
theorem dd_L_twin_23 : decode method_23_code 23 = .ok (.ireturn, 1) := by decide +kernel
theorem dd_L_twin_24 : decode method_23_code 24 = .ok (.iconst 0, 1) := by decide +kernel
theorem dd_L_twin_25 : decode method_23_code 25 = .ok (.ireturn, 1) := by decide +kernel
