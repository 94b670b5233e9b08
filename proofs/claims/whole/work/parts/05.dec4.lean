theorem dX7_join_81 : decode cX7_join 81 = .ok (.iload_n 1, 1) := by decide +kernel
theorem dX7_join_82 : decode cX7_join 82 = .ok (.iastore, 1) := by decide +kernel
theorem dX7_join_83 : decode cX7_join 83 = .ok (.aload_n 0, 1) := by decide +kernel
theorem dX7_join_84 : decode cX7_join 84 = .ok (.dup, 1) := by decide +kernel
theorem dX7_join_85 : decode cX7_join 85 = .ok (.getfield 109, 3) := by decide +kernel
theorem dX7_join_88 : decode cX7_join 88 = .ok (.iconst 1, 1) := by decide +kernel
theorem dX7_join_89 : decode cX7_join 89 = .ok (.iadd, 1) := by decide +kernel
theorem dX7_join_90 : decode cX7_join 90 = .ok (.putfield 109, 3) := by decide +kernel
theorem dX7_join_93 : decode cX7_join 93 = .ok (.aload_n 0, 1) := by decide +kernel
theorem dX7_join_94 : decode cX7_join 94 = .ok (.getfield 109, 3) := by decide +kernel
theorem dX7_join_97 : decode cX7_join 97 = .ok (.iconst 1, 1) := by decide +kernel
theorem dX7_join_98 : decode cX7_join 98 = .ok (.isub, 1) := by decide +kernel
theorem dX7_join_99 : decode cX7_join 99 = .ok (.ireturn, 1) := by decide +kernel
theorem dX7_part_0 : decode cX7_part 0 = .ok (.aload_n 0, 1) := by decide +kernel
theorem dX7_part_1 : decode cX7_part 1 = .ok (.getfield 109, 3) := by decide +kernel
theorem dX7_part_4 : decode cX7_part 4 = .ok (.istore_n 1, 1) := by decide +kernel
theorem dX7_part_5 : decode cX7_part 5 = .ok (.aload_n 0, 1) := by decide +kernel
theorem dX7_part_6 : decode cX7_part 6 = .ok (.iconst 0, 1) := by decide +kernel
theorem dX7_part_7 : decode cX7_part 7 = .ok (.putfield 109, 3) := by decide +kernel
theorem dX7_part_10 : decode cX7_part 10 = .ok (.iload_n 1, 1) := by decide +kernel
theorem dX7_part_11 : decode cX7_part 11 = .ok (.ireturn, 1) := by decide +kernel
theorem dX7_isSample_0 : decode cX7_isSample 0 = .ok (.iload_n 0, 1) := by decide +kernel
theorem dX7_isSample_1 : decode cX7_isSample 1 = .ok (.i2l, 1) := by decide +kernel
theorem dX7_isSample_2 : decode cX7_isSample 2 = .ok (.ldc2_w 191, 3) := by decide +kernel
theorem dX7_isSample_5 : decode cX7_isSample 5 = .ok (.ldc2_w 193, 3) := by decide +kernel
theorem dX7_isSample_8 : decode cX7_isSample 8 = .ok (.invokestatic 97, 3) := by decide +kernel
theorem dX7_isSample_11 : decode cX7_isSample 11 = .ok (.ireturn, 1) := by decide +kernel
theorem dX7_put_0 : decode cX7_put 0 = .ok (.iload_n 1, 1) := by decide +kernel
theorem dX7_put_1 : decode cX7_put 1 = .ok (.invokestatic 210, 3) := by decide +kernel
theorem dX7_put_4 : decode cX7_put 4 = .ok (.ifCond .eq 11, 3) := by decide +kernel
theorem dX7_put_7 : decode cX7_put 7 = .ok (.aload_n 0, 1) := by decide +kernel
theorem dX7_put_8 : decode cX7_put 8 = .ok (.iload_n 1, 1) := by decide +kernel
theorem dX7_put_9 : decode cX7_put 9 = .ok (.invokevirtual 213, 3) := by decide +kernel
theorem dX7_put_12 : decode cX7_put 12 = .ok (.goto 5, 3) := by decide +kernel
theorem dX7_put_15 : decode cX7_put 15 = .ok (.bipush (-2), 2) := by decide +kernel
theorem dX7_put_17 : decode cX7_put 17 = .ok (.ireturn, 1) := by decide +kernel
theorem dX7_ramp_0 : decode cX7_ramp 0 = .ok (.iload_n 1, 1) := by decide +kernel
theorem dX7_ramp_1 : decode cX7_ramp 1 = .ok (.invokestatic 210, 3) := by decide +kernel
theorem dX7_ramp_4 : decode cX7_ramp 4 = .ok (.ifCond .eq 15, 3) := by decide +kernel
theorem dX7_ramp_7 : decode cX7_ramp 7 = .ok (.iload_n 3, 1) := by decide +kernel
theorem dX7_ramp_8 : decode cX7_ramp 8 = .ok (.i2l, 1) := by decide +kernel
theorem dX7_ramp_9 : decode cX7_ramp 9 = .ok (.lconst 1, 1) := by decide +kernel
theorem dX7_ramp_10 : decode cX7_ramp 10 = .ok (.ldc2_w 216, 3) := by decide +kernel
theorem dX7_ramp_13 : decode cX7_ramp 13 = .ok (.invokestatic 97, 3) := by decide +kernel
theorem dX7_ramp_16 : decode cX7_ramp 16 = .ok (.ifCond .ne 6, 3) := by decide +kernel
theorem dX7_ramp_19 : decode cX7_ramp 19 = .ok (.bipush (-2), 2) := by decide +kernel
theorem dX7_ramp_21 : decode cX7_ramp 21 = .ok (.ireturn, 1) := by decide +kernel
theorem dX7_ramp_22 : decode cX7_ramp 22 = .ok (.iconst 0, 1) := by decide +kernel
theorem dX7_ramp_23 : decode cX7_ramp 23 = .ok (.istore 4, 2) := by decide +kernel
theorem dX7_ramp_25 : decode cX7_ramp 25 = .ok (.iload_n 1, 1) := by decide +kernel
theorem dX7_ramp_26 : decode cX7_ramp 26 = .ok (.istore 5, 2) := by decide +kernel
theorem dX7_ramp_28 : decode cX7_ramp 28 = .ok (.iconst 0, 1) := by decide +kernel
theorem dX7_ramp_29 : decode cX7_ramp 29 = .ok (.istore 6, 2) := by decide +kernel
theorem dX7_ramp_31 : decode cX7_ramp 31 = .ok (.iload 6, 2) := by decide +kernel
theorem dX7_ramp_33 : decode cX7_ramp 33 = .ok (.iload_n 3, 1) := by decide +kernel
theorem dX7_ramp_34 : decode cX7_ramp 34 = .ok (.if_icmp .ge 27, 3) := by decide +kernel
theorem dX7_ramp_37 : decode cX7_ramp 37 = .ok (.iload 4, 2) := by decide +kernel
theorem dX7_ramp_39 : decode cX7_ramp 39 = .ok (.aload_n 0, 1) := by decide +kernel
theorem dX7_ramp_40 : decode cX7_ramp 40 = .ok (.iload 5, 2) := by decide +kernel
theorem dX7_ramp_42 : decode cX7_ramp 42 = .ok (.invokevirtual 213, 3) := by decide +kernel
theorem dX7_ramp_45 : decode cX7_ramp 45 = .ok (.iadd, 1) := by decide +kernel
theorem dX7_ramp_46 : decode cX7_ramp 46 = .ok (.istore 4, 2) := by decide +kernel
theorem dX7_ramp_48 : decode cX7_ramp 48 = .ok (.iload 5, 2) := by decide +kernel
theorem dX7_ramp_50 : decode cX7_ramp 50 = .ok (.iload_n 2, 1) := by decide +kernel
theorem dX7_ramp_51 : decode cX7_ramp 51 = .ok (.iadd, 1) := by decide +kernel
theorem dX7_ramp_52 : decode cX7_ramp 52 = .ok (.i2s, 1) := by decide +kernel
theorem dX7_ramp_53 : decode cX7_ramp 53 = .ok (.istore 5, 2) := by decide +kernel
theorem dX7_ramp_55 : decode cX7_ramp 55 = .ok (.iinc 6 1, 3) := by decide +kernel
theorem dX7_ramp_58 : decode cX7_ramp 58 = .ok (.goto (-27), 3) := by decide +kernel
theorem dX7_ramp_61 : decode cX7_ramp 61 = .ok (.iload 4, 2) := by decide +kernel
theorem dX7_ramp_63 : decode cX7_ramp 63 = .ok (.ireturn, 1) := by decide +kernel
theorem dX7_out_0 : decode cX7_out 0 = .ok (.iload_n 1, 1) := by decide +kernel
theorem dX7_out_1 : decode cX7_out 1 = .ok (.i2l, 1) := by decide +kernel
theorem dX7_out_2 : decode cX7_out 2 = .ok (.lconst 0, 1) := by decide +kernel
theorem dX7_out_3 : decode cX7_out 3 = .ok (.aload_n 0, 1) := by decide +kernel
theorem dX7_out_4 : decode cX7_out 4 = .ok (.getfield 201, 3) := by decide +kernel
theorem dX7_out_7 : decode cX7_out 7 = .ok (.iconst 1, 1) := by decide +kernel
theorem dX7_out_8 : decode cX7_out 8 = .ok (.isub, 1) := by decide +kernel
theorem dX7_out_9 : decode cX7_out 9 = .ok (.i2l, 1) := by decide +kernel
theorem dX7_out_10 : decode cX7_out 10 = .ok (.invokestatic 97, 3) := by decide +kernel
theorem dX7_out_13 : decode cX7_out 13 = .ok (.ifCond .eq 12, 3) := by decide +kernel
theorem dX7_out_16 : decode cX7_out 16 = .ok (.aload_n 0, 1) := by decide +kernel
theorem dX7_out_17 : decode cX7_out 17 = .ok (.getfield 84, 3) := by decide +kernel
theorem dX7_out_20 : decode cX7_out 20 = .ok (.iload_n 1, 1) := by decide +kernel
theorem dX7_out_21 : decode cX7_out 21 = .ok (.iaload, 1) := by decide +kernel
theorem dX7_out_22 : decode cX7_out 22 = .ok (.goto 5, 3) := by decide +kernel
theorem dX7_out_25 : decode cX7_out 25 = .ok (.ldc 129, 2) := by decide +kernel
theorem dX7_out_27 : decode cX7_out 27 = .ok (.ireturn, 1) := by decide +kernel
theorem dX7_empty_0 : decode cX7_empty 0 = .ok (.aload_n 0, 1) := by decide +kernel
theorem dX7_empty_1 : decode cX7_empty 1 = .ok (.getfield 201, 3) := by decide +kernel
theorem dX7_empty_4 : decode cX7_empty 4 = .ok (.istore_n 1, 1) := by decide +kernel
theorem dX7_empty_5 : decode cX7_empty 5 = .ok (.aload_n 0, 1) := by decide +kernel
theorem dX7_empty_6 : decode cX7_empty 6 = .ok (.iconst 0, 1) := by decide +kernel
theorem dX7_empty_7 : decode cX7_empty 7 = .ok (.putfield 201, 3) := by decide +kernel
theorem dX7_empty_10 : decode cX7_empty 10 = .ok (.iload_n 1, 1) := by decide +kernel
theorem dX7_empty_11 : decode cX7_empty 11 = .ok (.ireturn, 1) := by decide +kernel
theorem dX7_reset_0 : decode cX7_reset 0 = .ok (.iconst 0, 1) := by decide +kernel
theorem dX7_reset_1 : decode cX7_reset 1 = .ok (.istore_n 1, 1) := by decide +kernel
theorem dX7_reset_2 : decode cX7_reset 2 = .ok (.iload_n 1, 1) := by decide +kernel
theorem dX7_reset_3 : decode cX7_reset 3 = .ok (.aload_n 0, 1) := by decide +kernel
theorem dX7_reset_4 : decode cX7_reset 4 = .ok (.getfield 93, 3) := by decide +kernel
theorem dX7_reset_7 : decode cX7_reset 7 = .ok (.if_icmp .ge 14, 3) := by decide +kernel
theorem dX7_reset_10 : decode cX7_reset 10 = .ok (.aload_n 0, 1) := by decide +kernel
theorem dX7_reset_11 : decode cX7_reset 11 = .ok (.iload_n 1, 1) := by decide +kernel
theorem dX7_reset_12 : decode cX7_reset 12 = .ok (.invokevirtual 151, 3) := by decide +kernel
theorem dX7_reset_15 : decode cX7_reset 15 = .ok (.iinc 1 1, 3) := by decide +kernel
theorem dX7_reset_18 : decode cX7_reset 18 = .ok (.goto (-16), 3) := by decide +kernel
theorem dX7_reset_21 : decode cX7_reset 21 = .ok (.aload_n 0, 1) := by decide +kernel
theorem dX7_reset_22 : decode cX7_reset 22 = .ok (.getfield 93, 3) := by decide +kernel
theorem dX7_reset_25 : decode cX7_reset 25 = .ok (.ireturn, 1) := by decide +kernel
theorem dX7_through_0 : decode cX7_through 0 = .ok (.aload_n 0, 1) := by decide +kernel
theorem dX7_through_1 : decode cX7_through 1 = .ok (.iload_n 1, 1) := by decide +kernel
theorem dX7_through_2 : decode cX7_through 2 = .ok (.invokevirtual 118, 3) := by decide +kernel
theorem dX7_through_5 : decode cX7_through 5 = .ok (.ifCond .eq 10, 3) := by decide +kernel
theorem dX7_through_8 : decode cX7_through 8 = .ok (.iload_n 2, 1) := by decide +kernel
theorem dX7_through_9 : decode cX7_through 9 = .ok (.invokestatic 210, 3) := by decide +kernel
theorem dX7_through_12 : decode cX7_through 12 = .ok (.ifCond .ne 6, 3) := by decide +kernel
theorem dX7_through_15 : decode cX7_through 15 = .ok (.ldc 129, 2) := by decide +kernel
theorem dX7_through_17 : decode cX7_through 17 = .ok (.ireturn, 1) := by decide +kernel
theorem dX7_through_18 : decode cX7_through 18 = .ok (.aload_n 0, 1) := by decide +kernel
theorem dX7_through_19 : decode cX7_through 19 = .ok (.getfield 29, 3) := by decide +kernel
theorem dX7_through_22 : decode cX7_through 22 = .ok (.iload_n 1, 1) := by decide +kernel
theorem dX7_through_23 : decode cX7_through 23 = .ok (.baload, 1) := by decide +kernel
theorem dX7_through_24 : decode cX7_through 24 = .ok (.ifCond .eq 13, 3) := by decide +kernel
theorem dX7_through_27 : decode cX7_through 27 = .ok (.aload_n 0, 1) := by decide +kernel
theorem dX7_through_28 : decode cX7_through 28 = .ok (.getfield 13, 3) := by decide +kernel
theorem dX7_through_31 : decode cX7_through 31 = .ok (.iload_n 1, 1) := by decide +kernel
theorem dX7_through_32 : decode cX7_through 32 = .ok (.iaload, 1) := by decide +kernel
theorem dX7_through_33 : decode cX7_through 33 = .ok (.iconst 1, 1) := by decide +kernel
theorem dX7_through_34 : decode cX7_through 34 = .ok (.if_icmp .eq 8, 3) := by decide +kernel
theorem dX7_through_37 : decode cX7_through 37 = .ok (.ldc 218, 2) := by decide +kernel
theorem dX7_through_39 : decode cX7_through 39 = .ok (.goto 9, 3) := by decide +kernel
theorem dX7_through_42 : decode cX7_through 42 = .ok (.aload_n 0, 1) := by decide +kernel
theorem dX7_through_43 : decode cX7_through 43 = .ok (.iload_n 1, 1) := by decide +kernel
theorem dX7_through_44 : decode cX7_through 44 = .ok (.iload_n 2, 1) := by decide +kernel
theorem dX7_through_45 : decode cX7_through 45 = .ok (.invokevirtual 195, 3) := by decide +kernel
theorem dX7_through_48 : decode cX7_through 48 = .ok (.ireturn, 1) := by decide +kernel
theorem dX7_hasTold_0 : decode cX7_hasTold 0 = .ok (.aload_n 0, 1) := by decide +kernel
theorem dX7_hasTold_1 : decode cX7_hasTold 1 = .ok (.iload_n 1, 1) := by decide +kernel
theorem dX7_hasTold_2 : decode cX7_hasTold 2 = .ok (.invokevirtual 118, 3) := by decide +kernel
theorem dX7_hasTold_5 : decode cX7_hasTold 5 = .ok (.ifCond .eq 25, 3) := by decide +kernel
theorem dX7_hasTold_8 : decode cX7_hasTold 8 = .ok (.aload_n 0, 1) := by decide +kernel
theorem dX7_hasTold_9 : decode cX7_hasTold 9 = .ok (.getfield 29, 3) := by decide +kernel
theorem dX7_hasTold_12 : decode cX7_hasTold 12 = .ok (.iload_n 1, 1) := by decide +kernel
theorem dX7_hasTold_13 : decode cX7_hasTold 13 = .ok (.baload, 1) := by decide +kernel
theorem dX7_hasTold_14 : decode cX7_hasTold 14 = .ok (.ifCond .eq 16, 3) := by decide +kernel
theorem dX7_hasTold_17 : decode cX7_hasTold 17 = .ok (.aload_n 0, 1) := by decide +kernel
theorem dX7_hasTold_18 : decode cX7_hasTold 18 = .ok (.getfield 60, 3) := by decide +kernel
theorem dX7_hasTold_21 : decode cX7_hasTold 21 = .ok (.iload_n 1, 1) := by decide +kernel
theorem dX7_hasTold_22 : decode cX7_hasTold 22 = .ok (.baload, 1) := by decide +kernel
theorem dX7_hasTold_23 : decode cX7_hasTold 23 = .ok (.ifCond .eq 7, 3) := by decide +kernel
theorem dX7_hasTold_26 : decode cX7_hasTold 26 = .ok (.iconst 1, 1) := by decide +kernel
theorem dX7_hasTold_27 : decode cX7_hasTold 27 = .ok (.goto 4, 3) := by decide +kernel
theorem dX7_hasTold_30 : decode cX7_hasTold 30 = .ok (.iconst 0, 1) := by decide +kernel
theorem dX7_hasTold_31 : decode cX7_hasTold 31 = .ok (.ireturn, 1) := by decide +kernel
theorem dX7_told_0 : decode cX7_told 0 = .ok (.aload_n 0, 1) := by decide +kernel
theorem dX7_told_1 : decode cX7_told 1 = .ok (.iload_n 1, 1) := by decide +kernel
theorem dX7_told_2 : decode cX7_told 2 = .ok (.invokevirtual 219, 3) := by decide +kernel
theorem dX7_told_5 : decode cX7_told 5 = .ok (.ifCond .ne 5, 3) := by decide +kernel
theorem dX7_told_8 : decode cX7_told 8 = .ok (.lconst 0, 1) := by decide +kernel
theorem dX7_told_9 : decode cX7_told 9 = .ok (.lreturn, 1) := by decide +kernel
theorem dX7_told_10 : decode cX7_told 10 = .ok (.iload_n 2, 1) := by decide +kernel
theorem dX7_told_11 : decode cX7_told 11 = .ok (.tableswitch 72 0 4 #[33, 40, 47, 55, 62], 33) := by decide +kernel
theorem dX7_told_44 : decode cX7_told 44 = .ok (.aload_n 0, 1) := by decide +kernel
theorem dX7_told_45 : decode cX7_told 45 = .ok (.getfield 63, 3) := by decide +kernel
theorem dX7_told_48 : decode cX7_told 48 = .ok (.iload_n 1, 1) := by decide +kernel
theorem dX7_told_49 : decode cX7_told 49 = .ok (.laload, 1) := by decide +kernel
theorem dX7_told_50 : decode cX7_told 50 = .ok (.lreturn, 1) := by decide +kernel
theorem dX7_told_51 : decode cX7_told 51 = .ok (.aload_n 0, 1) := by decide +kernel
theorem dX7_told_52 : decode cX7_told 52 = .ok (.getfield 66, 3) := by decide +kernel
theorem dX7_told_55 : decode cX7_told 55 = .ok (.iload_n 1, 1) := by decide +kernel
theorem dX7_told_56 : decode cX7_told 56 = .ok (.laload, 1) := by decide +kernel
theorem dX7_told_57 : decode cX7_told 57 = .ok (.lreturn, 1) := by decide +kernel
theorem dX7_told_58 : decode cX7_told 58 = .ok (.aload_n 0, 1) := by decide +kernel
theorem dX7_told_59 : decode cX7_told 59 = .ok (.getfield 69, 3) := by decide +kernel
theorem dX7_told_62 : decode cX7_told 62 = .ok (.iload_n 1, 1) := by decide +kernel
theorem dX7_told_63 : decode cX7_told 63 = .ok (.iaload, 1) := by decide +kernel
theorem dX7_told_64 : decode cX7_told 64 = .ok (.i2l, 1) := by decide +kernel
theorem dX7_told_65 : decode cX7_told 65 = .ok (.lreturn, 1) := by decide +kernel
theorem dX7_told_66 : decode cX7_told 66 = .ok (.aload_n 0, 1) := by decide +kernel
theorem dX7_told_67 : decode cX7_told 67 = .ok (.getfield 72, 3) := by decide +kernel
theorem dX7_told_70 : decode cX7_told 70 = .ok (.iload_n 1, 1) := by decide +kernel
theorem dX7_told_71 : decode cX7_told 71 = .ok (.laload, 1) := by decide +kernel
theorem dX7_told_72 : decode cX7_told 72 = .ok (.lreturn, 1) := by decide +kernel
theorem dX7_told_73 : decode cX7_told 73 = .ok (.aload_n 0, 1) := by decide +kernel
theorem dX7_told_74 : decode cX7_told 74 = .ok (.iload_n 1, 1) := by decide +kernel
theorem dX7_told_75 : decode cX7_told 75 = .ok (.invokevirtual 183, 3) := by decide +kernel
theorem dX7_told_78 : decode cX7_told 78 = .ok (.ldc2_w 149, 3) := by decide +kernel
theorem dX7_told_81 : decode cX7_told 81 = .ok (.lmul, 1) := by decide +kernel
theorem dX7_told_82 : decode cX7_told 82 = .ok (.lreturn, 1) := by decide +kernel
theorem dX7_told_83 : decode cX7_told 83 = .ok (.lconst 0, 1) := by decide +kernel
theorem dX7_told_84 : decode cX7_told 84 = .ok (.lreturn, 1) := by decide +kernel
theorem dX7_near_0 : decode cX7_near 0 = .ok (.aload_n 0, 1) := by decide +kernel
theorem dX7_near_1 : decode cX7_near 1 = .ok (.iload_n 1, 1) := by decide +kernel
theorem dX7_near_2 : decode cX7_near 2 = .ok (.invokevirtual 118, 3) := by decide +kernel
theorem dX7_near_5 : decode cX7_near 5 = .ok (.ifCond .ne 6, 3) := by decide +kernel
theorem dX7_near_8 : decode cX7_near 8 = .ok (.bipush (-2), 2) := by decide +kernel
theorem dX7_near_10 : decode cX7_near 10 = .ok (.ireturn, 1) := by decide +kernel
theorem dX7_near_11 : decode cX7_near 11 = .ok (.aload_n 0, 1) := by decide +kernel
theorem dX7_near_12 : decode cX7_near 12 = .ok (.iload_n 1, 1) := by decide +kernel
theorem dX7_near_13 : decode cX7_near 13 = .ok (.invokevirtual 219, 3) := by decide +kernel
theorem dX7_near_16 : decode cX7_near 16 = .ok (.ifCond .ne 6, 3) := by decide +kernel
theorem dX7_near_19 : decode cX7_near 19 = .ok (.bipush (-3), 2) := by decide +kernel
theorem dX7_near_21 : decode cX7_near 21 = .ok (.ireturn, 1) := by decide +kernel
theorem dX7_near_22 : decode cX7_near 22 = .ok (.lconst 1, 1) := by decide +kernel
theorem dX7_near_23 : decode cX7_near 23 = .ok (.aload_n 0, 1) := by decide +kernel
theorem dX7_near_24 : decode cX7_near 24 = .ok (.getfield 38, 3) := by decide +kernel
theorem dX7_near_27 : decode cX7_near 27 = .ok (.iload_n 1, 1) := by decide +kernel
theorem dX7_near_28 : decode cX7_near 28 = .ok (.iaload, 1) := by decide +kernel
theorem dX7_near_29 : decode cX7_near 29 = .ok (.lshl, 1) := by decide +kernel
theorem dX7_near_30 : decode cX7_near 30 = .ok (.lstore_n 2, 1) := by decide +kernel
theorem dX7_near_31 : decode cX7_near 31 = .ok (.aload_n 0, 1) := by decide +kernel
theorem dX7_near_32 : decode cX7_near 32 = .ok (.getfield 66, 3) := by decide +kernel
theorem dX7_near_35 : decode cX7_near 35 = .ok (.iload_n 1, 1) := by decide +kernel
theorem dX7_near_36 : decode cX7_near 36 = .ok (.laload, 1) := by decide +kernel
theorem dX7_near_37 : decode cX7_near 37 = .ok (.aload_n 0, 1) := by decide +kernel
theorem dX7_near_38 : decode cX7_near 38 = .ok (.getfield 7, 3) := by decide +kernel
theorem dX7_near_41 : decode cX7_near 41 = .ok (.iload_n 1, 1) := by decide +kernel
theorem dX7_near_42 : decode cX7_near 42 = .ok (.iaload, 1) := by decide +kernel
theorem dX7_near_43 : decode cX7_near 43 = .ok (.i2l, 1) := by decide +kernel
theorem dX7_near_44 : decode cX7_near 44 = .ok (.lmul, 1) := by decide +kernel
theorem dX7_near_45 : decode cX7_near 45 = .ok (.aload_n 0, 1) := by decide +kernel
theorem dX7_near_46 : decode cX7_near 46 = .ok (.getfield 72, 3) := by decide +kernel
theorem dX7_near_49 : decode cX7_near 49 = .ok (.iload_n 1, 1) := by decide +kernel
theorem dX7_near_50 : decode cX7_near 50 = .ok (.laload, 1) := by decide +kernel
theorem dX7_near_51 : decode cX7_near 51 = .ok (.lsub, 1) := by decide +kernel
theorem dX7_near_52 : decode cX7_near 52 = .ok (.invokestatic 145, 3) := by decide +kernel
theorem dX7_near_55 : decode cX7_near 55 = .ok (.lstore 4, 2) := by decide +kernel
theorem dX7_near_57 : decode cX7_near 57 = .ok (.aload_n 0, 1) := by decide +kernel
theorem dX7_near_58 : decode cX7_near 58 = .ok (.getfield 75, 3) := by decide +kernel
theorem dX7_near_61 : decode cX7_near 61 = .ok (.iload_n 1, 1) := by decide +kernel
theorem dX7_near_62 : decode cX7_near 62 = .ok (.laload, 1) := by decide +kernel
theorem dX7_near_63 : decode cX7_near 63 = .ok (.aload_n 0, 1) := by decide +kernel
theorem dX7_near_64 : decode cX7_near 64 = .ok (.getfield 78, 3) := by decide +kernel
theorem dX7_near_67 : decode cX7_near 67 = .ok (.iload_n 1, 1) := by decide +kernel
theorem dX7_near_68 : decode cX7_near 68 = .ok (.iaload, 1) := by decide +kernel
theorem dX7_near_69 : decode cX7_near 69 = .ok (.iconst 2, 1) := by decide +kernel
theorem dX7_near_70 : decode cX7_near 70 = .ok (.if_icmp .ge 11, 3) := by decide +kernel
theorem dX7_near_73 : decode cX7_near 73 = .ok (.ldc2_w 136, 3) := by decide +kernel
theorem dX7_near_76 : decode cX7_near 76 = .ok (.lload_n 2, 1) := by decide +kernel
theorem dX7_near_77 : decode cX7_near 77 = .ok (.lmul, 1) := by decide +kernel
theorem dX7_near_78 : decode cX7_near 78 = .ok (.goto 4, 3) := by decide +kernel
theorem dX7_near_81 : decode cX7_near 81 = .ok (.lload_n 2, 1) := by decide +kernel
theorem dX7_near_82 : decode cX7_near 82 = .ok (.ladd, 1) := by decide +kernel
theorem dX7_near_83 : decode cX7_near 83 = .ok (.aload_n 0, 1) := by decide +kernel
theorem dX7_near_84 : decode cX7_near 84 = .ok (.getfield 7, 3) := by decide +kernel
theorem dX7_near_87 : decode cX7_near 87 = .ok (.iload_n 1, 1) := by decide +kernel
theorem dX7_near_88 : decode cX7_near 88 = .ok (.iaload, 1) := by decide +kernel
theorem dX7_near_89 : decode cX7_near 89 = .ok (.i2l, 1) := by decide +kernel
theorem dX7_near_90 : decode cX7_near 90 = .ok (.lmul, 1) := by decide +kernel
theorem dX7_near_91 : decode cX7_near 91 = .ok (.lstore 6, 2) := by decide +kernel
theorem dX7_near_93 : decode cX7_near 93 = .ok (.lload 4, 2) := by decide +kernel
theorem dX7_near_95 : decode cX7_near 95 = .ok (.lload 6, 2) := by decide +kernel
theorem dX7_near_97 : decode cX7_near 97 = .ok (.ldc2_w 136, 3) := by decide +kernel
theorem dX7_near_100 : decode cX7_near 100 = .ok (.lload_n 2, 1) := by decide +kernel
theorem dX7_near_101 : decode cX7_near 101 = .ok (.lmul, 1) := by decide +kernel
theorem dX7_near_102 : decode cX7_near 102 = .ok (.ldiv, 1) := by decide +kernel
theorem dX7_near_103 : decode cX7_near 103 = .ok (.lcmp, 1) := by decide +kernel
theorem dX7_near_104 : decode cX7_near 104 = .ok (.ifCond .gt 7, 3) := by decide +kernel
theorem dX7_near_107 : decode cX7_near 107 = .ok (.iconst 1, 1) := by decide +kernel
theorem dX7_near_108 : decode cX7_near 108 = .ok (.goto 4, 3) := by decide +kernel
theorem dX7_near_111 : decode cX7_near 111 = .ok (.iconst 0, 1) := by decide +kernel
theorem dX7_near_112 : decode cX7_near 112 = .ok (.ireturn, 1) := by decide +kernel
theorem dX7_counted_0 : decode cX7_counted 0 = .ok (.aload_n 0, 1) := by decide +kernel
theorem dX7_counted_1 : decode cX7_counted 1 = .ok (.iload_n 1, 1) := by decide +kernel
theorem dX7_counted_2 : decode cX7_counted 2 = .ok (.invokevirtual 118, 3) := by decide +kernel
theorem dX7_counted_5 : decode cX7_counted 5 = .ok (.ifCond .eq 15, 3) := by decide +kernel
theorem dX7_counted_8 : decode cX7_counted 8 = .ok (.iload_n 2, 1) := by decide +kernel
theorem dX7_counted_9 : decode cX7_counted 9 = .ok (.i2l, 1) := by decide +kernel
theorem dX7_counted_10 : decode cX7_counted 10 = .ok (.lconst 0, 1) := by decide +kernel
theorem dX7_counted_11 : decode cX7_counted 11 = .ok (.ldc2_w 136, 3) := by decide +kernel
theorem dX7_counted_14 : decode cX7_counted 14 = .ok (.invokestatic 97, 3) := by decide +kernel
theorem dX7_counted_17 : decode cX7_counted 17 = .ok (.ifCond .ne 7, 3) := by decide +kernel
theorem dX7_counted_20 : decode cX7_counted 20 = .ok (.ldc2_w 107, 3) := by decide +kernel
theorem dX7_counted_23 : decode cX7_counted 23 = .ok (.lreturn, 1) := by decide +kernel
theorem dX7_counted_24 : decode cX7_counted 24 = .ok (.aload_n 0, 1) := by decide +kernel
theorem dX7_counted_25 : decode cX7_counted 25 = .ok (.getfield 29, 3) := by decide +kernel
theorem dX7_counted_28 : decode cX7_counted 28 = .ok (.iload_n 1, 1) := by decide +kernel
theorem dX7_counted_29 : decode cX7_counted 29 = .ok (.baload, 1) := by decide +kernel
theorem dX7_counted_30 : decode cX7_counted 30 = .ok (.ifCond .ne 7, 3) := by decide +kernel
theorem dX7_counted_33 : decode cX7_counted 33 = .ok (.lconst 0, 1) := by decide +kernel
theorem dX7_counted_34 : decode cX7_counted 34 = .ok (.goto 36, 3) := by decide +kernel
theorem dX7_counted_37 : decode cX7_counted 37 = .ok (.iload_n 2, 1) := by decide +kernel
theorem dX7_counted_38 : decode cX7_counted 38 = .ok (.ifCond .ne 12, 3) := by decide +kernel
theorem dX7_counted_41 : decode cX7_counted 41 = .ok (.aload_n 0, 1) := by decide +kernel
theorem dX7_counted_42 : decode cX7_counted 42 = .ok (.getfield 50, 3) := by decide +kernel
theorem dX7_counted_45 : decode cX7_counted 45 = .ok (.iload_n 1, 1) := by decide +kernel
theorem dX7_counted_46 : decode cX7_counted 46 = .ok (.laload, 1) := by decide +kernel
theorem dX7_counted_47 : decode cX7_counted 47 = .ok (.goto 23, 3) := by decide +kernel
theorem dX7_counted_50 : decode cX7_counted 50 = .ok (.iload_n 2, 1) := by decide +kernel
theorem dX7_counted_51 : decode cX7_counted 51 = .ok (.iconst 1, 1) := by decide +kernel
theorem dX7_counted_52 : decode cX7_counted 52 = .ok (.if_icmp .ne 12, 3) := by decide +kernel
theorem dX7_counted_55 : decode cX7_counted 55 = .ok (.aload_n 0, 1) := by decide +kernel
theorem dX7_counted_56 : decode cX7_counted 56 = .ok (.getfield 54, 3) := by decide +kernel
theorem dX7_counted_59 : decode cX7_counted 59 = .ok (.iload_n 1, 1) := by decide +kernel
theorem dX7_counted_60 : decode cX7_counted 60 = .ok (.laload, 1) := by decide +kernel
theorem dX7_counted_61 : decode cX7_counted 61 = .ok (.goto 9, 3) := by decide +kernel
theorem dX7_counted_64 : decode cX7_counted 64 = .ok (.aload_n 0, 1) := by decide +kernel
theorem dX7_counted_65 : decode cX7_counted 65 = .ok (.getfield 57, 3) := by decide +kernel
theorem dX7_counted_68 : decode cX7_counted 68 = .ok (.iload_n 1, 1) := by decide +kernel
theorem dX7_counted_69 : decode cX7_counted 69 = .ok (.laload, 1) := by decide +kernel
theorem dX7_counted_70 : decode cX7_counted 70 = .ok (.lreturn, 1) := by decide +kernel
theorem dX7_count_0 : decode cX7_count 0 = .ok (.iload_n 1, 1) := by decide +kernel
theorem dX7_count_1 : decode cX7_count 1 = .ok (.ifCond .ne 10, 3) := by decide +kernel
theorem dX7_count_4 : decode cX7_count 4 = .ok (.aload_n 0, 1) := by decide +kernel
theorem dX7_count_5 : decode cX7_count 5 = .ok (.getfield 93, 3) := by decide +kernel
theorem dX7_count_8 : decode cX7_count 8 = .ok (.goto 41, 3) := by decide +kernel
theorem dX7_count_11 : decode cX7_count 11 = .ok (.iload_n 1, 1) := by decide +kernel
theorem dX7_count_12 : decode cX7_count 12 = .ok (.iconst 1, 1) := by decide +kernel
theorem dX7_count_13 : decode cX7_count 13 = .ok (.if_icmp .ne 10, 3) := by decide +kernel
theorem dX7_count_16 : decode cX7_count 16 = .ok (.aload_n 0, 1) := by decide +kernel
theorem dX7_count_17 : decode cX7_count 17 = .ok (.getfield 109, 3) := by decide +kernel
theorem dX7_count_20 : decode cX7_count 20 = .ok (.goto 29, 3) := by decide +kernel
theorem dX7_count_23 : decode cX7_count 23 = .ok (.iload_n 1, 1) := by decide +kernel
theorem dX7_count_24 : decode cX7_count 24 = .ok (.iconst 2, 1) := by decide +kernel
theorem dX7_count_25 : decode cX7_count 25 = .ok (.if_icmp .ne 10, 3) := by decide +kernel
theorem dX7_count_28 : decode cX7_count 28 = .ok (.aload_n 0, 1) := by decide +kernel
theorem dX7_count_29 : decode cX7_count 29 = .ok (.getfield 201, 3) := by decide +kernel
theorem dX7_count_32 : decode cX7_count 32 = .ok (.goto 17, 3) := by decide +kernel
theorem dX7_count_35 : decode cX7_count 35 = .ok (.iload_n 1, 1) := by decide +kernel
theorem dX7_count_36 : decode cX7_count 36 = .ok (.iconst 3, 1) := by decide +kernel
theorem dX7_count_37 : decode cX7_count 37 = .ok (.if_icmp .ne 10, 3) := by decide +kernel
theorem dX7_count_40 : decode cX7_count 40 = .ok (.aload_n 0, 1) := by decide +kernel
theorem dX7_count_41 : decode cX7_count 41 = .ok (.getfield 204, 3) := by decide +kernel
theorem dX7_count_44 : decode cX7_count 44 = .ok (.goto 5, 3) := by decide +kernel
theorem dX7_count_47 : decode cX7_count 47 = .ok (.bipush (-2), 2) := by decide +kernel
theorem dX7_count_49 : decode cX7_count 49 = .ok (.ireturn, 1) := by decide +kernel
theorem dX7_digest_0 : decode cX7_digest 0 = .ok (.ldc2_w 222, 3) := by decide +kernel
theorem dX7_digest_3 : decode cX7_digest 3 = .ok (.lstore_n 1, 1) := by decide +kernel
theorem dX7_digest_4 : decode cX7_digest 4 = .ok (.iconst 0, 1) := by decide +kernel
theorem dX7_digest_5 : decode cX7_digest 5 = .ok (.istore_n 3, 1) := by decide +kernel
theorem dX7_digest_6 : decode cX7_digest 6 = .ok (.iload_n 3, 1) := by decide +kernel
theorem dX7_digest_7 : decode cX7_digest 7 = .ok (.aload_n 0, 1) := by decide +kernel
theorem dX7_digest_8 : decode cX7_digest 8 = .ok (.getfield 93, 3) := by decide +kernel
theorem dX7_digest_11 : decode cX7_digest 11 = .ok (.if_icmp .ge 202, 3) := by decide +kernel
theorem dX7_digest_14 : decode cX7_digest 14 = .ok (.iconst 0, 1) := by decide +kernel
theorem dX7_digest_15 : decode cX7_digest 15 = .ok (.istore 4, 2) := by decide +kernel
theorem dX7_digest_17 : decode cX7_digest 17 = .ok (.iload 4, 2) := by decide +kernel
theorem dX7_digest_19 : decode cX7_digest 19 = .ok (.bipush 10, 2) := by decide +kernel
theorem dX7_digest_21 : decode cX7_digest 21 = .ok (.if_icmp .ge 24, 3) := by decide +kernel
theorem dX7_digest_24 : decode cX7_digest 24 = .ok (.ldc2_w 224, 3) := by decide +kernel
theorem dX7_digest_27 : decode cX7_digest 27 = .ok (.lload_n 1, 1) := by decide +kernel
theorem dX7_digest_28 : decode cX7_digest 28 = .ok (.lmul, 1) := by decide +kernel
theorem dX7_digest_29 : decode cX7_digest 29 = .ok (.aload_n 0, 1) := by decide +kernel
theorem dX7_digest_30 : decode cX7_digest 30 = .ok (.iload_n 3, 1) := by decide +kernel
theorem dX7_digest_31 : decode cX7_digest 31 = .ok (.iload 4, 2) := by decide +kernel
theorem dX7_digest_33 : decode cX7_digest 33 = .ok (.invokevirtual 179, 3) := by decide +kernel
theorem dX7_digest_36 : decode cX7_digest 36 = .ok (.i2l, 1) := by decide +kernel
theorem dX7_digest_37 : decode cX7_digest 37 = .ok (.ladd, 1) := by decide +kernel
theorem dX7_digest_38 : decode cX7_digest 38 = .ok (.lstore_n 1, 1) := by decide +kernel
theorem dX7_digest_39 : decode cX7_digest 39 = .ok (.iinc 4 1, 3) := by decide +kernel
theorem dX7_digest_42 : decode cX7_digest 42 = .ok (.goto (-25), 3) := by decide +kernel
theorem dX7_digest_45 : decode cX7_digest 45 = .ok (.iconst 0, 1) := by decide +kernel
theorem dX7_digest_46 : decode cX7_digest 46 = .ok (.istore 4, 2) := by decide +kernel
theorem dX7_digest_48 : decode cX7_digest 48 = .ok (.iload 4, 2) := by decide +kernel
theorem dX7_digest_50 : decode cX7_digest 50 = .ok (.aload_n 0, 1) := by decide +kernel
theorem dX7_digest_51 : decode cX7_digest 51 = .ok (.getfield 16, 3) := by decide +kernel
theorem dX7_digest_54 : decode cX7_digest 54 = .ok (.iload_n 3, 1) := by decide +kernel
theorem dX7_digest_55 : decode cX7_digest 55 = .ok (.iaload, 1) := by decide +kernel
theorem dX7_digest_56 : decode cX7_digest 56 = .ok (.if_icmp .ge 29, 3) := by decide +kernel
theorem dX7_digest_59 : decode cX7_digest 59 = .ok (.ldc2_w 224, 3) := by decide +kernel
theorem dX7_digest_62 : decode cX7_digest 62 = .ok (.lload_n 1, 1) := by decide +kernel
theorem dX7_digest_63 : decode cX7_digest 63 = .ok (.lmul, 1) := by decide +kernel
theorem dX7_digest_64 : decode cX7_digest 64 = .ok (.aload_n 0, 1) := by decide +kernel
theorem dX7_digest_65 : decode cX7_digest 65 = .ok (.getfield 19, 3) := by decide +kernel
theorem dX7_digest_68 : decode cX7_digest 68 = .ok (.bipush 32, 2) := by decide +kernel
theorem dX7_digest_70 : decode cX7_digest 70 = .ok (.iload_n 3, 1) := by decide +kernel
theorem dX7_digest_71 : decode cX7_digest 71 = .ok (.imul, 1) := by decide +kernel
theorem dX7_digest_72 : decode cX7_digest 72 = .ok (.iload 4, 2) := by decide +kernel
theorem dX7_digest_74 : decode cX7_digest 74 = .ok (.iadd, 1) := by decide +kernel
theorem dX7_digest_75 : decode cX7_digest 75 = .ok (.iaload, 1) := by decide +kernel
theorem dX7_digest_76 : decode cX7_digest 76 = .ok (.i2l, 1) := by decide +kernel
theorem dX7_digest_77 : decode cX7_digest 77 = .ok (.ladd, 1) := by decide +kernel
theorem dX7_digest_78 : decode cX7_digest 78 = .ok (.lstore_n 1, 1) := by decide +kernel
theorem dX7_digest_79 : decode cX7_digest 79 = .ok (.iinc 4 1, 3) := by decide +kernel
theorem dX7_digest_82 : decode cX7_digest 82 = .ok (.goto (-34), 3) := by decide +kernel
theorem dX7_digest_85 : decode cX7_digest 85 = .ok (.iconst 0, 1) := by decide +kernel
theorem dX7_digest_86 : decode cX7_digest 86 = .ok (.istore 4, 2) := by decide +kernel
theorem dX7_digest_88 : decode cX7_digest 88 = .ok (.iload 4, 2) := by decide +kernel
theorem dX7_digest_90 : decode cX7_digest 90 = .ok (.aload_n 0, 1) := by decide +kernel
theorem dX7_digest_91 : decode cX7_digest 91 = .ok (.getfield 16, 3) := by decide +kernel
theorem dX7_digest_94 : decode cX7_digest 94 = .ok (.iload_n 3, 1) := by decide +kernel
theorem dX7_digest_95 : decode cX7_digest 95 = .ok (.iaload, 1) := by decide +kernel
theorem dX7_digest_96 : decode cX7_digest 96 = .ok (.if_icmp .ge 38, 3) := by decide +kernel
theorem dX7_digest_99 : decode cX7_digest 99 = .ok (.aload_n 0, 1) := by decide +kernel
theorem dX7_digest_100 : decode cX7_digest 100 = .ok (.getfield 29, 3) := by decide +kernel
theorem dX7_digest_103 : decode cX7_digest 103 = .ok (.iload_n 3, 1) := by decide +kernel
theorem dX7_digest_104 : decode cX7_digest 104 = .ok (.baload, 1) := by decide +kernel
theorem dX7_digest_105 : decode cX7_digest 105 = .ok (.ifCond .eq 29, 3) := by decide +kernel
theorem dX7_digest_108 : decode cX7_digest 108 = .ok (.ldc2_w 224, 3) := by decide +kernel
theorem dX7_digest_111 : decode cX7_digest 111 = .ok (.lload_n 1, 1) := by decide +kernel
theorem dX7_digest_112 : decode cX7_digest 112 = .ok (.lmul, 1) := by decide +kernel
theorem dX7_digest_113 : decode cX7_digest 113 = .ok (.aload_n 0, 1) := by decide +kernel
theorem dX7_digest_114 : decode cX7_digest 114 = .ok (.getfield 41, 3) := by decide +kernel
theorem dX7_digest_117 : decode cX7_digest 117 = .ok (.bipush 32, 2) := by decide +kernel
theorem dX7_digest_119 : decode cX7_digest 119 = .ok (.iload_n 3, 1) := by decide +kernel
theorem dX7_digest_120 : decode cX7_digest 120 = .ok (.imul, 1) := by decide +kernel
theorem dX7_digest_121 : decode cX7_digest 121 = .ok (.iload 4, 2) := by decide +kernel
theorem dX7_digest_123 : decode cX7_digest 123 = .ok (.iadd, 1) := by decide +kernel
theorem dX7_digest_124 : decode cX7_digest 124 = .ok (.iaload, 1) := by decide +kernel
theorem dX7_digest_125 : decode cX7_digest 125 = .ok (.i2l, 1) := by decide +kernel
theorem dX7_digest_126 : decode cX7_digest 126 = .ok (.ladd, 1) := by decide +kernel
theorem dX7_digest_127 : decode cX7_digest 127 = .ok (.lstore_n 1, 1) := by decide +kernel
theorem dX7_digest_128 : decode cX7_digest 128 = .ok (.iinc 4 1, 3) := by decide +kernel
theorem dX7_digest_131 : decode cX7_digest 131 = .ok (.goto (-43), 3) := by decide +kernel
theorem dX7_digest_134 : decode cX7_digest 134 = .ok (.iconst 0, 1) := by decide +kernel
theorem dX7_digest_135 : decode cX7_digest 135 = .ok (.istore 4, 2) := by decide +kernel
theorem dX7_digest_137 : decode cX7_digest 137 = .ok (.iload 4, 2) := by decide +kernel
theorem dX7_digest_139 : decode cX7_digest 139 = .ok (.aload_n 0, 1) := by decide +kernel
theorem dX7_digest_140 : decode cX7_digest 140 = .ok (.getfield 16, 3) := by decide +kernel
theorem dX7_digest_143 : decode cX7_digest 143 = .ok (.iload_n 3, 1) := by decide +kernel
theorem dX7_digest_144 : decode cX7_digest 144 = .ok (.iaload, 1) := by decide +kernel
theorem dX7_digest_145 : decode cX7_digest 145 = .ok (.if_icmp .ge 38, 3) := by decide +kernel
theorem dX7_digest_148 : decode cX7_digest 148 = .ok (.aload_n 0, 1) := by decide +kernel
theorem dX7_digest_149 : decode cX7_digest 149 = .ok (.getfield 29, 3) := by decide +kernel
theorem dX7_digest_152 : decode cX7_digest 152 = .ok (.iload_n 3, 1) := by decide +kernel
theorem dX7_digest_153 : decode cX7_digest 153 = .ok (.baload, 1) := by decide +kernel
theorem dX7_digest_154 : decode cX7_digest 154 = .ok (.ifCond .eq 29, 3) := by decide +kernel
theorem dX7_digest_157 : decode cX7_digest 157 = .ok (.ldc2_w 224, 3) := by decide +kernel
theorem dX7_digest_160 : decode cX7_digest 160 = .ok (.lload_n 1, 1) := by decide +kernel
theorem dX7_digest_161 : decode cX7_digest 161 = .ok (.lmul, 1) := by decide +kernel
theorem dX7_digest_162 : decode cX7_digest 162 = .ok (.aload_n 0, 1) := by decide +kernel
theorem dX7_digest_163 : decode cX7_digest 163 = .ok (.getfield 44, 3) := by decide +kernel
theorem dX7_digest_166 : decode cX7_digest 166 = .ok (.bipush 32, 2) := by decide +kernel
theorem dX7_digest_168 : decode cX7_digest 168 = .ok (.iload_n 3, 1) := by decide +kernel
theorem dX7_digest_169 : decode cX7_digest 169 = .ok (.imul, 1) := by decide +kernel
theorem dX7_digest_170 : decode cX7_digest 170 = .ok (.iload 4, 2) := by decide +kernel
theorem dX7_digest_172 : decode cX7_digest 172 = .ok (.iadd, 1) := by decide +kernel
theorem dX7_digest_173 : decode cX7_digest 173 = .ok (.iaload, 1) := by decide +kernel
theorem dX7_digest_174 : decode cX7_digest 174 = .ok (.i2l, 1) := by decide +kernel
theorem dX7_digest_175 : decode cX7_digest 175 = .ok (.ladd, 1) := by decide +kernel
theorem dX7_digest_176 : decode cX7_digest 176 = .ok (.lstore_n 1, 1) := by decide +kernel
theorem dX7_digest_177 : decode cX7_digest 177 = .ok (.iinc 4 1, 3) := by decide +kernel
theorem dX7_digest_180 : decode cX7_digest 180 = .ok (.goto (-43), 3) := by decide +kernel
theorem dX7_digest_183 : decode cX7_digest 183 = .ok (.ldc2_w 224, 3) := by decide +kernel
theorem dX7_digest_186 : decode cX7_digest 186 = .ok (.ldc2_w 224, 3) := by decide +kernel
theorem dX7_digest_189 : decode cX7_digest 189 = .ok (.lload_n 1, 1) := by decide +kernel
theorem dX7_digest_190 : decode cX7_digest 190 = .ok (.lmul, 1) := by decide +kernel
theorem dX7_digest_191 : decode cX7_digest 191 = .ok (.aload_n 0, 1) := by decide +kernel
theorem dX7_digest_192 : decode cX7_digest 192 = .ok (.iload_n 3, 1) := by decide +kernel
theorem dX7_digest_193 : decode cX7_digest 193 = .ok (.iconst 0, 1) := by decide +kernel
theorem dX7_digest_194 : decode cX7_digest 194 = .ok (.invokevirtual 226, 3) := by decide +kernel
theorem dX7_digest_197 : decode cX7_digest 197 = .ok (.ladd, 1) := by decide +kernel
theorem dX7_digest_198 : decode cX7_digest 198 = .ok (.lmul, 1) := by decide +kernel
theorem dX7_digest_199 : decode cX7_digest 199 = .ok (.aload_n 0, 1) := by decide +kernel
theorem dX7_digest_200 : decode cX7_digest 200 = .ok (.iload_n 3, 1) := by decide +kernel
theorem dX7_digest_201 : decode cX7_digest 201 = .ok (.iconst 1, 1) := by decide +kernel
theorem dX7_digest_202 : decode cX7_digest 202 = .ok (.invokevirtual 226, 3) := by decide +kernel
theorem dX7_digest_205 : decode cX7_digest 205 = .ok (.ladd, 1) := by decide +kernel
theorem dX7_digest_206 : decode cX7_digest 206 = .ok (.lstore_n 1, 1) := by decide +kernel
theorem dX7_digest_207 : decode cX7_digest 207 = .ok (.iinc 3 1, 3) := by decide +kernel
theorem dX7_digest_210 : decode cX7_digest 210 = .ok (.goto (-204), 3) := by decide +kernel
theorem dX7_digest_213 : decode cX7_digest 213 = .ok (.iconst 0, 1) := by decide +kernel
theorem dX7_digest_214 : decode cX7_digest 214 = .ok (.istore_n 3, 1) := by decide +kernel
theorem dX7_digest_215 : decode cX7_digest 215 = .ok (.iload_n 3, 1) := by decide +kernel
theorem dX7_digest_216 : decode cX7_digest 216 = .ok (.aload_n 0, 1) := by decide +kernel
theorem dX7_digest_217 : decode cX7_digest 217 = .ok (.getfield 201, 3) := by decide +kernel
theorem dX7_digest_220 : decode cX7_digest 220 = .ok (.if_icmp .ge 23, 3) := by decide +kernel
theorem dX7_digest_223 : decode cX7_digest 223 = .ok (.ldc2_w 224, 3) := by decide +kernel
theorem dX7_digest_226 : decode cX7_digest 226 = .ok (.lload_n 1, 1) := by decide +kernel
theorem dX7_digest_227 : decode cX7_digest 227 = .ok (.lmul, 1) := by decide +kernel
theorem dX7_digest_228 : decode cX7_digest 228 = .ok (.aload_n 0, 1) := by decide +kernel
theorem dX7_digest_229 : decode cX7_digest 229 = .ok (.getfield 84, 3) := by decide +kernel
theorem dX7_digest_232 : decode cX7_digest 232 = .ok (.iload_n 3, 1) := by decide +kernel
theorem dX7_digest_233 : decode cX7_digest 233 = .ok (.iaload, 1) := by decide +kernel
theorem dX7_digest_234 : decode cX7_digest 234 = .ok (.i2l, 1) := by decide +kernel
theorem dX7_digest_235 : decode cX7_digest 235 = .ok (.ladd, 1) := by decide +kernel
theorem dX7_digest_236 : decode cX7_digest 236 = .ok (.lstore_n 1, 1) := by decide +kernel
theorem dX7_digest_237 : decode cX7_digest 237 = .ok (.iinc 3 1, 3) := by decide +kernel
theorem dX7_digest_240 : decode cX7_digest 240 = .ok (.goto (-25), 3) := by decide +kernel
theorem dX7_digest_243 : decode cX7_digest 243 = .ok (.lload_n 1, 1) := by decide +kernel
theorem dX7_digest_244 : decode cX7_digest 244 = .ok (.lreturn, 1) := by decide +kernel
theorem dJ9_floorDiv_f86c9_0 : decode cJ9_floorDiv_f86c9 0 = .ok (.lload_n 0, 1) := by decide +kernel
theorem dJ9_floorDiv_f86c9_1 : decode cJ9_floorDiv_f86c9 1 = .ok (.lload_n 2, 1) := by decide +kernel
theorem dJ9_floorDiv_f86c9_2 : decode cJ9_floorDiv_f86c9 2 = .ok (.ldiv, 1) := by decide +kernel
theorem dJ9_floorDiv_f86c9_3 : decode cJ9_floorDiv_f86c9 3 = .ok (.lstore 4, 2) := by decide +kernel
theorem dJ9_floorDiv_f86c9_5 : decode cJ9_floorDiv_f86c9 5 = .ok (.lload_n 0, 1) := by decide +kernel
theorem dJ9_floorDiv_f86c9_6 : decode cJ9_floorDiv_f86c9 6 = .ok (.lload_n 2, 1) := by decide +kernel
theorem dJ9_floorDiv_f86c9_7 : decode cJ9_floorDiv_f86c9 7 = .ok (.lxor, 1) := by decide +kernel
theorem dJ9_floorDiv_f86c9_8 : decode cJ9_floorDiv_f86c9 8 = .ok (.lconst 0, 1) := by decide +kernel
theorem dJ9_floorDiv_f86c9_9 : decode cJ9_floorDiv_f86c9 9 = .ok (.lcmp, 1) := by decide +kernel
theorem dJ9_floorDiv_f86c9_10 : decode cJ9_floorDiv_f86c9 10 = .ok (.ifCond .ge 17, 3) := by decide +kernel
theorem dJ9_floorDiv_f86c9_13 : decode cJ9_floorDiv_f86c9 13 = .ok (.lload 4, 2) := by decide +kernel
theorem dJ9_floorDiv_f86c9_15 : decode cJ9_floorDiv_f86c9 15 = .ok (.lload_n 2, 1) := by decide +kernel
theorem dJ9_floorDiv_f86c9_16 : decode cJ9_floorDiv_f86c9 16 = .ok (.lmul, 1) := by decide +kernel
theorem dJ9_floorDiv_f86c9_17 : decode cJ9_floorDiv_f86c9 17 = .ok (.lload_n 0, 1) := by decide +kernel
theorem dJ9_floorDiv_f86c9_18 : decode cJ9_floorDiv_f86c9 18 = .ok (.lcmp, 1) := by decide +kernel
theorem dJ9_floorDiv_f86c9_19 : decode cJ9_floorDiv_f86c9 19 = .ok (.ifCond .eq 8, 3) := by decide +kernel
theorem dJ9_floorDiv_f86c9_22 : decode cJ9_floorDiv_f86c9 22 = .ok (.lload 4, 2) := by decide +kernel
theorem dJ9_floorDiv_f86c9_24 : decode cJ9_floorDiv_f86c9 24 = .ok (.lconst 1, 1) := by decide +kernel
theorem dJ9_floorDiv_f86c9_25 : decode cJ9_floorDiv_f86c9 25 = .ok (.lsub, 1) := by decide +kernel
theorem dJ9_floorDiv_f86c9_26 : decode cJ9_floorDiv_f86c9 26 = .ok (.lreturn, 1) := by decide +kernel
theorem dJ9_floorDiv_f86c9_27 : decode cJ9_floorDiv_f86c9 27 = .ok (.lload 4, 2) := by decide +kernel
theorem dJ9_floorDiv_f86c9_29 : decode cJ9_floorDiv_f86c9 29 = .ok (.lreturn, 1) := by decide +kernel
theorem dJ9_abs_0f7a4_0 : decode cJ9_abs_0f7a4 0 = .ok (.iload_n 0, 1) := by decide +kernel
theorem dJ9_abs_0f7a4_1 : decode cJ9_abs_0f7a4 1 = .ok (.ifCond .ge 8, 3) := by decide +kernel
theorem dJ9_abs_0f7a4_4 : decode cJ9_abs_0f7a4 4 = .ok (.iload_n 0, 1) := by decide +kernel
theorem dJ9_abs_0f7a4_5 : decode cJ9_abs_0f7a4 5 = .ok (.ineg, 1) := by decide +kernel
theorem dJ9_abs_0f7a4_6 : decode cJ9_abs_0f7a4 6 = .ok (.goto 4, 3) := by decide +kernel
theorem dJ9_abs_0f7a4_9 : decode cJ9_abs_0f7a4 9 = .ok (.iload_n 0, 1) := by decide +kernel
theorem dJ9_abs_0f7a4_10 : decode cJ9_abs_0f7a4 10 = .ok (.ireturn, 1) := by decide +kernel
theorem dJ9_abs_067f4_0 : decode cJ9_abs_067f4 0 = .ok (.lload_n 0, 1) := by decide +kernel
theorem dJ9_abs_067f4_1 : decode cJ9_abs_067f4 1 = .ok (.lconst 0, 1) := by decide +kernel
theorem dJ9_abs_067f4_2 : decode cJ9_abs_067f4 2 = .ok (.lcmp, 1) := by decide +kernel
theorem dJ9_abs_067f4_3 : decode cJ9_abs_067f4 3 = .ok (.ifCond .ge 8, 3) := by decide +kernel
theorem dJ9_abs_067f4_6 : decode cJ9_abs_067f4 6 = .ok (.lload_n 0, 1) := by decide +kernel
theorem dJ9_abs_067f4_7 : decode cJ9_abs_067f4 7 = .ok (.lneg, 1) := by decide +kernel
theorem dJ9_abs_067f4_8 : decode cJ9_abs_067f4 8 = .ok (.goto 4, 3) := by decide +kernel
theorem dJ9_abs_067f4_11 : decode cJ9_abs_067f4 11 = .ok (.lload_n 0, 1) := by decide +kernel
theorem dJ9_abs_067f4_12 : decode cJ9_abs_067f4 12 = .ok (.lreturn, 1) := by decide +kernel
theorem dJ9_max_f86c9_0 : decode cJ9_max_f86c9 0 = .ok (.lload_n 0, 1) := by decide +kernel
theorem dJ9_max_f86c9_1 : decode cJ9_max_f86c9 1 = .ok (.lload_n 2, 1) := by decide +kernel
theorem dJ9_max_f86c9_2 : decode cJ9_max_f86c9 2 = .ok (.lcmp, 1) := by decide +kernel
theorem dJ9_max_f86c9_3 : decode cJ9_max_f86c9 3 = .ok (.ifCond .lt 7, 3) := by decide +kernel
theorem dJ9_max_f86c9_6 : decode cJ9_max_f86c9 6 = .ok (.lload_n 0, 1) := by decide +kernel
theorem dJ9_max_f86c9_7 : decode cJ9_max_f86c9 7 = .ok (.goto 4, 3) := by decide +kernel
theorem dJ9_max_f86c9_10 : decode cJ9_max_f86c9 10 = .ok (.lload_n 2, 1) := by decide +kernel
theorem dJ9_max_f86c9_11 : decode cJ9_max_f86c9 11 = .ok (.lreturn, 1) := by decide +kernel
theorem dJ9_min_f86c9_0 : decode cJ9_min_f86c9 0 = .ok (.lload_n 0, 1) := by decide +kernel
theorem dJ9_min_f86c9_1 : decode cJ9_min_f86c9 1 = .ok (.lload_n 2, 1) := by decide +kernel
theorem dJ9_min_f86c9_2 : decode cJ9_min_f86c9 2 = .ok (.lcmp, 1) := by decide +kernel
theorem dJ9_min_f86c9_3 : decode cJ9_min_f86c9 3 = .ok (.ifCond .gt 7, 3) := by decide +kernel
theorem dJ9_min_f86c9_6 : decode cJ9_min_f86c9 6 = .ok (.lload_n 0, 1) := by decide +kernel
theorem dJ9_min_f86c9_7 : decode cJ9_min_f86c9 7 = .ok (.goto 4, 3) := by decide +kernel
theorem dJ9_min_f86c9_10 : decode cJ9_min_f86c9 10 = .ok (.lload_n 2, 1) := by decide +kernel
theorem dJ9_min_f86c9_11 : decode cJ9_min_f86c9 11 = .ok (.lreturn, 1) := by decide +kernel
theorem dL_law_0 : decode cL_law 0 = .ok (.new 7, 3) := by decide +kernel
theorem dL_law_3 : decode cL_law 3 = .ok (.dup, 1) := by decide +kernel
theorem dL_law_4 : decode cL_law 4 = .ok (.invokespecial 9, 3) := by decide +kernel
theorem dL_law_7 : decode cL_law 7 = .ok (.astore_n 1, 1) := by decide +kernel
theorem dL_law_8 : decode cL_law 8 = .ok (.new 10, 3) := by decide +kernel
theorem dL_law_11 : decode cL_law 11 = .ok (.dup, 1) := by decide +kernel
theorem dL_law_12 : decode cL_law 12 = .ok (.invokespecial 12, 3) := by decide +kernel
theorem dL_law_15 : decode cL_law 15 = .ok (.astore_n 2, 1) := by decide +kernel
theorem dL_law_16 : decode cL_law 16 = .ok (.iconst 0, 1) := by decide +kernel
theorem dL_law_17 : decode cL_law 17 = .ok (.istore_n 3, 1) := by decide +kernel
theorem dL_law_18 : decode cL_law 18 = .ok (.iload_n 3, 1) := by decide +kernel
theorem dL_law_19 : decode cL_law 19 = .ok (.aload_n 0, 1) := by decide +kernel
theorem dL_law_20 : decode cL_law 20 = .ok (.arraylength, 1) := by decide +kernel
theorem dL_law_21 : decode cL_law 21 = .ok (.iconst 5, 1) := by decide +kernel
theorem dL_law_22 : decode cL_law 22 = .ok (.isub, 1) := by decide +kernel
theorem dL_law_23 : decode cL_law 23 = .ok (.if_icmp .gt 785, 3) := by decide +kernel
theorem dL_law_26 : decode cL_law 26 = .ok (.aload_n 0, 1) := by decide +kernel
theorem dL_law_27 : decode cL_law 27 = .ok (.iload_n 3, 1) := by decide +kernel
theorem dL_law_28 : decode cL_law 28 = .ok (.iaload, 1) := by decide +kernel
theorem dL_law_29 : decode cL_law 29 = .ok (.bipush 31, 2) := by decide +kernel
theorem dL_law_31 : decode cL_law 31 = .ok (.iand, 1) := by decide +kernel
theorem dL_law_32 : decode cL_law 32 = .ok (.tableswitch 770 0 21 #[104, 137, 170, 213, 272, 315, 368, 401, 434, 458, 481, 494, 517, 560, 583, 596, 609, 642, 676, 699, 733, 756], 104) := by decide +kernel
theorem dL_law_136 : decode cL_law 136 = .ok (.aload_n 1, 1) := by decide +kernel
theorem dL_law_137 : decode cL_law 137 = .ok (.aload_n 0, 1) := by decide +kernel
theorem dL_law_138 : decode cL_law 138 = .ok (.iload_n 3, 1) := by decide +kernel
theorem dL_law_139 : decode cL_law 139 = .ok (.iconst 1, 1) := by decide +kernel
theorem dL_law_140 : decode cL_law 140 = .ok (.iadd, 1) := by decide +kernel
theorem dL_law_141 : decode cL_law 141 = .ok (.iaload, 1) := by decide +kernel
theorem dL_law_142 : decode cL_law 142 = .ok (.aload_n 0, 1) := by decide +kernel
theorem dL_law_143 : decode cL_law 143 = .ok (.iload_n 3, 1) := by decide +kernel
theorem dL_law_144 : decode cL_law 144 = .ok (.iconst 2, 1) := by decide +kernel
theorem dL_law_145 : decode cL_law 145 = .ok (.iadd, 1) := by decide +kernel
theorem dL_law_146 : decode cL_law 146 = .ok (.iaload, 1) := by decide +kernel
theorem dL_law_147 : decode cL_law 147 = .ok (.invokevirtual 13, 3) := by decide +kernel
theorem dL_law_150 : decode cL_law 150 = .ok (.aload_n 2, 1) := by decide +kernel
theorem dL_law_151 : decode cL_law 151 = .ok (.aload_n 0, 1) := by decide +kernel
theorem dL_law_152 : decode cL_law 152 = .ok (.iload_n 3, 1) := by decide +kernel
theorem dL_law_153 : decode cL_law 153 = .ok (.iconst 1, 1) := by decide +kernel
theorem dL_law_154 : decode cL_law 154 = .ok (.iadd, 1) := by decide +kernel
theorem dL_law_155 : decode cL_law 155 = .ok (.iaload, 1) := by decide +kernel
theorem dL_law_156 : decode cL_law 156 = .ok (.aload_n 0, 1) := by decide +kernel
theorem dL_law_157 : decode cL_law 157 = .ok (.iload_n 3, 1) := by decide +kernel
theorem dL_law_158 : decode cL_law 158 = .ok (.iconst 2, 1) := by decide +kernel
theorem dL_law_159 : decode cL_law 159 = .ok (.iadd, 1) := by decide +kernel
theorem dL_law_160 : decode cL_law 160 = .ok (.iaload, 1) := by decide +kernel
theorem dL_law_161 : decode cL_law 161 = .ok (.invokevirtual 17, 3) := by decide +kernel
theorem dL_law_164 : decode cL_law 164 = .ok (.if_icmp .eq 638, 3) := by decide +kernel
theorem dL_law_167 : decode cL_law 167 = .ok (.iconst 0, 1) := by decide +kernel
theorem dL_law_168 : decode cL_law 168 = .ok (.ireturn, 1) := by decide +kernel
theorem dL_law_169 : decode cL_law 169 = .ok (.aload_n 1, 1) := by decide +kernel
theorem dL_law_170 : decode cL_law 170 = .ok (.aload_n 0, 1) := by decide +kernel
theorem dL_law_171 : decode cL_law 171 = .ok (.iload_n 3, 1) := by decide +kernel
theorem dL_law_172 : decode cL_law 172 = .ok (.iconst 1, 1) := by decide +kernel
theorem dL_law_173 : decode cL_law 173 = .ok (.iadd, 1) := by decide +kernel
theorem dL_law_174 : decode cL_law 174 = .ok (.iaload, 1) := by decide +kernel
theorem dL_law_175 : decode cL_law 175 = .ok (.aload_n 0, 1) := by decide +kernel
theorem dL_law_176 : decode cL_law 176 = .ok (.iload_n 3, 1) := by decide +kernel
theorem dL_law_177 : decode cL_law 177 = .ok (.iconst 2, 1) := by decide +kernel
theorem dL_law_178 : decode cL_law 178 = .ok (.iadd, 1) := by decide +kernel
theorem dL_law_179 : decode cL_law 179 = .ok (.iaload, 1) := by decide +kernel
theorem dL_law_180 : decode cL_law 180 = .ok (.invokevirtual 18, 3) := by decide +kernel
theorem dL_law_183 : decode cL_law 183 = .ok (.aload_n 2, 1) := by decide +kernel
theorem dL_law_184 : decode cL_law 184 = .ok (.aload_n 0, 1) := by decide +kernel
theorem dL_law_185 : decode cL_law 185 = .ok (.iload_n 3, 1) := by decide +kernel
theorem dL_law_186 : decode cL_law 186 = .ok (.iconst 1, 1) := by decide +kernel
theorem dL_law_187 : decode cL_law 187 = .ok (.iadd, 1) := by decide +kernel
theorem dL_law_188 : decode cL_law 188 = .ok (.iaload, 1) := by decide +kernel
theorem dL_law_189 : decode cL_law 189 = .ok (.aload_n 0, 1) := by decide +kernel
theorem dL_law_190 : decode cL_law 190 = .ok (.iload_n 3, 1) := by decide +kernel
theorem dL_law_191 : decode cL_law 191 = .ok (.iconst 2, 1) := by decide +kernel
theorem dL_law_192 : decode cL_law 192 = .ok (.iadd, 1) := by decide +kernel
theorem dL_law_193 : decode cL_law 193 = .ok (.iaload, 1) := by decide +kernel
theorem dL_law_194 : decode cL_law 194 = .ok (.invokevirtual 21, 3) := by decide +kernel
theorem dL_law_197 : decode cL_law 197 = .ok (.if_icmp .eq 605, 3) := by decide +kernel
theorem dL_law_200 : decode cL_law 200 = .ok (.iconst 0, 1) := by decide +kernel
theorem dL_law_201 : decode cL_law 201 = .ok (.ireturn, 1) := by decide +kernel
theorem dL_law_202 : decode cL_law 202 = .ok (.aload_n 1, 1) := by decide +kernel
theorem dL_law_203 : decode cL_law 203 = .ok (.aload_n 0, 1) := by decide +kernel
theorem dL_law_204 : decode cL_law 204 = .ok (.iload_n 3, 1) := by decide +kernel
theorem dL_law_205 : decode cL_law 205 = .ok (.iconst 1, 1) := by decide +kernel
theorem dL_law_206 : decode cL_law 206 = .ok (.iadd, 1) := by decide +kernel
theorem dL_law_207 : decode cL_law 207 = .ok (.iaload, 1) := by decide +kernel
theorem dL_law_208 : decode cL_law 208 = .ok (.aload_n 0, 1) := by decide +kernel
theorem dL_law_209 : decode cL_law 209 = .ok (.iload_n 3, 1) := by decide +kernel
theorem dL_law_210 : decode cL_law 210 = .ok (.iconst 2, 1) := by decide +kernel
theorem dL_law_211 : decode cL_law 211 = .ok (.iadd, 1) := by decide +kernel
theorem dL_law_212 : decode cL_law 212 = .ok (.iaload, 1) := by decide +kernel
theorem dL_law_213 : decode cL_law 213 = .ok (.aload_n 0, 1) := by decide +kernel
theorem dL_law_214 : decode cL_law 214 = .ok (.iload_n 3, 1) := by decide +kernel
theorem dL_law_215 : decode cL_law 215 = .ok (.iconst 3, 1) := by decide +kernel
theorem dL_law_216 : decode cL_law 216 = .ok (.iadd, 1) := by decide +kernel
theorem dL_law_217 : decode cL_law 217 = .ok (.iaload, 1) := by decide +kernel
theorem dL_law_218 : decode cL_law 218 = .ok (.invokevirtual 22, 3) := by decide +kernel
theorem dL_law_221 : decode cL_law 221 = .ok (.aload_n 2, 1) := by decide +kernel
theorem dL_law_222 : decode cL_law 222 = .ok (.aload_n 0, 1) := by decide +kernel
theorem dL_law_223 : decode cL_law 223 = .ok (.iload_n 3, 1) := by decide +kernel
theorem dL_law_224 : decode cL_law 224 = .ok (.iconst 1, 1) := by decide +kernel
theorem dL_law_225 : decode cL_law 225 = .ok (.iadd, 1) := by decide +kernel
theorem dL_law_226 : decode cL_law 226 = .ok (.iaload, 1) := by decide +kernel
theorem dL_law_227 : decode cL_law 227 = .ok (.aload_n 0, 1) := by decide +kernel
theorem dL_law_228 : decode cL_law 228 = .ok (.iload_n 3, 1) := by decide +kernel
theorem dL_law_229 : decode cL_law 229 = .ok (.iconst 2, 1) := by decide +kernel
theorem dL_law_230 : decode cL_law 230 = .ok (.iadd, 1) := by decide +kernel
theorem dL_law_231 : decode cL_law 231 = .ok (.iaload, 1) := by decide +kernel
theorem dL_law_232 : decode cL_law 232 = .ok (.aload_n 0, 1) := by decide +kernel
theorem dL_law_233 : decode cL_law 233 = .ok (.iload_n 3, 1) := by decide +kernel
theorem dL_law_234 : decode cL_law 234 = .ok (.iconst 3, 1) := by decide +kernel
theorem dL_law_235 : decode cL_law 235 = .ok (.iadd, 1) := by decide +kernel
theorem dL_law_236 : decode cL_law 236 = .ok (.iaload, 1) := by decide +kernel
theorem dL_law_237 : decode cL_law 237 = .ok (.invokevirtual 26, 3) := by decide +kernel
theorem dL_law_240 : decode cL_law 240 = .ok (.if_icmp .eq 562, 3) := by decide +kernel
theorem dL_law_243 : decode cL_law 243 = .ok (.iconst 0, 1) := by decide +kernel
theorem dL_law_244 : decode cL_law 244 = .ok (.ireturn, 1) := by decide +kernel
theorem dL_law_245 : decode cL_law 245 = .ok (.aload_n 1, 1) := by decide +kernel
theorem dL_law_246 : decode cL_law 246 = .ok (.aload_n 0, 1) := by decide +kernel
theorem dL_law_247 : decode cL_law 247 = .ok (.iload_n 3, 1) := by decide +kernel
theorem dL_law_248 : decode cL_law 248 = .ok (.iconst 1, 1) := by decide +kernel
theorem dL_law_249 : decode cL_law 249 = .ok (.iadd, 1) := by decide +kernel
theorem dL_law_250 : decode cL_law 250 = .ok (.iaload, 1) := by decide +kernel
theorem dL_law_251 : decode cL_law 251 = .ok (.aload_n 0, 1) := by decide +kernel
theorem dL_law_252 : decode cL_law 252 = .ok (.iload_n 3, 1) := by decide +kernel
theorem dL_law_253 : decode cL_law 253 = .ok (.iconst 2, 1) := by decide +kernel
theorem dL_law_254 : decode cL_law 254 = .ok (.iadd, 1) := by decide +kernel
theorem dL_law_255 : decode cL_law 255 = .ok (.iaload, 1) := by decide +kernel
theorem dL_law_256 : decode cL_law 256 = .ok (.aload_n 0, 1) := by decide +kernel
theorem dL_law_257 : decode cL_law 257 = .ok (.iload_n 3, 1) := by decide +kernel
theorem dL_law_258 : decode cL_law 258 = .ok (.iconst 3, 1) := by decide +kernel
theorem dL_law_259 : decode cL_law 259 = .ok (.iadd, 1) := by decide +kernel
theorem dL_law_260 : decode cL_law 260 = .ok (.iaload, 1) := by decide +kernel
theorem dL_law_261 : decode cL_law 261 = .ok (.ifCond .eq 7, 3) := by decide +kernel
theorem dL_law_264 : decode cL_law 264 = .ok (.iconst 1, 1) := by decide +kernel
theorem dL_law_265 : decode cL_law 265 = .ok (.goto 4, 3) := by decide +kernel
theorem dL_law_268 : decode cL_law 268 = .ok (.iconst 0, 1) := by decide +kernel
theorem dL_law_269 : decode cL_law 269 = .ok (.invokevirtual 27, 3) := by decide +kernel
theorem dL_law_272 : decode cL_law 272 = .ok (.aload_n 2, 1) := by decide +kernel
theorem dL_law_273 : decode cL_law 273 = .ok (.aload_n 0, 1) := by decide +kernel
theorem dL_law_274 : decode cL_law 274 = .ok (.iload_n 3, 1) := by decide +kernel
theorem dL_law_275 : decode cL_law 275 = .ok (.iconst 1, 1) := by decide +kernel
theorem dL_law_276 : decode cL_law 276 = .ok (.iadd, 1) := by decide +kernel
theorem dL_law_277 : decode cL_law 277 = .ok (.iaload, 1) := by decide +kernel
theorem dL_law_278 : decode cL_law 278 = .ok (.aload_n 0, 1) := by decide +kernel
theorem dL_law_279 : decode cL_law 279 = .ok (.iload_n 3, 1) := by decide +kernel
theorem dL_law_280 : decode cL_law 280 = .ok (.iconst 2, 1) := by decide +kernel
theorem dL_law_281 : decode cL_law 281 = .ok (.iadd, 1) := by decide +kernel
theorem dL_law_282 : decode cL_law 282 = .ok (.iaload, 1) := by decide +kernel
theorem dL_law_283 : decode cL_law 283 = .ok (.aload_n 0, 1) := by decide +kernel
theorem dL_law_284 : decode cL_law 284 = .ok (.iload_n 3, 1) := by decide +kernel
theorem dL_law_285 : decode cL_law 285 = .ok (.iconst 3, 1) := by decide +kernel
theorem dL_law_286 : decode cL_law 286 = .ok (.iadd, 1) := by decide +kernel
theorem dL_law_287 : decode cL_law 287 = .ok (.iaload, 1) := by decide +kernel
theorem dL_law_288 : decode cL_law 288 = .ok (.ifCond .eq 7, 3) := by decide +kernel
theorem dL_law_291 : decode cL_law 291 = .ok (.iconst 1, 1) := by decide +kernel
theorem dL_law_292 : decode cL_law 292 = .ok (.goto 4, 3) := by decide +kernel
theorem dL_law_295 : decode cL_law 295 = .ok (.iconst 0, 1) := by decide +kernel
theorem dL_law_296 : decode cL_law 296 = .ok (.invokevirtual 31, 3) := by decide +kernel
theorem dL_law_299 : decode cL_law 299 = .ok (.if_icmp .eq 503, 3) := by decide +kernel
theorem dL_law_302 : decode cL_law 302 = .ok (.iconst 0, 1) := by decide +kernel
theorem dL_law_303 : decode cL_law 303 = .ok (.ireturn, 1) := by decide +kernel
theorem dL_law_304 : decode cL_law 304 = .ok (.aload_n 1, 1) := by decide +kernel
theorem dL_law_305 : decode cL_law 305 = .ok (.aload_n 0, 1) := by decide +kernel
theorem dL_law_306 : decode cL_law 306 = .ok (.iload_n 3, 1) := by decide +kernel
theorem dL_law_307 : decode cL_law 307 = .ok (.iconst 1, 1) := by decide +kernel
theorem dL_law_308 : decode cL_law 308 = .ok (.iadd, 1) := by decide +kernel
theorem dL_law_309 : decode cL_law 309 = .ok (.iaload, 1) := by decide +kernel
theorem dL_law_310 : decode cL_law 310 = .ok (.aload_n 0, 1) := by decide +kernel
theorem dL_law_311 : decode cL_law 311 = .ok (.iload_n 3, 1) := by decide +kernel
theorem dL_law_312 : decode cL_law 312 = .ok (.iconst 2, 1) := by decide +kernel
theorem dL_law_313 : decode cL_law 313 = .ok (.iadd, 1) := by decide +kernel
theorem dL_law_314 : decode cL_law 314 = .ok (.iaload, 1) := by decide +kernel
theorem dL_law_315 : decode cL_law 315 = .ok (.aload_n 0, 1) := by decide +kernel
theorem dL_law_316 : decode cL_law 316 = .ok (.iload_n 3, 1) := by decide +kernel
theorem dL_law_317 : decode cL_law 317 = .ok (.iconst 3, 1) := by decide +kernel
theorem dL_law_318 : decode cL_law 318 = .ok (.iadd, 1) := by decide +kernel
theorem dL_law_319 : decode cL_law 319 = .ok (.iaload, 1) := by decide +kernel
theorem dL_law_320 : decode cL_law 320 = .ok (.invokevirtual 32, 3) := by decide +kernel
theorem dL_law_323 : decode cL_law 323 = .ok (.aload_n 2, 1) := by decide +kernel
theorem dL_law_324 : decode cL_law 324 = .ok (.aload_n 0, 1) := by decide +kernel
theorem dL_law_325 : decode cL_law 325 = .ok (.iload_n 3, 1) := by decide +kernel
theorem dL_law_326 : decode cL_law 326 = .ok (.iconst 1, 1) := by decide +kernel
theorem dL_law_327 : decode cL_law 327 = .ok (.iadd, 1) := by decide +kernel
theorem dL_law_328 : decode cL_law 328 = .ok (.iaload, 1) := by decide +kernel
theorem dL_law_329 : decode cL_law 329 = .ok (.aload_n 0, 1) := by decide +kernel
theorem dL_law_330 : decode cL_law 330 = .ok (.iload_n 3, 1) := by decide +kernel
theorem dL_law_331 : decode cL_law 331 = .ok (.iconst 2, 1) := by decide +kernel
theorem dL_law_332 : decode cL_law 332 = .ok (.iadd, 1) := by decide +kernel
theorem dL_law_333 : decode cL_law 333 = .ok (.iaload, 1) := by decide +kernel
theorem dL_law_334 : decode cL_law 334 = .ok (.aload_n 0, 1) := by decide +kernel
theorem dL_law_335 : decode cL_law 335 = .ok (.iload_n 3, 1) := by decide +kernel
theorem dL_law_336 : decode cL_law 336 = .ok (.iconst 3, 1) := by decide +kernel
theorem dL_law_337 : decode cL_law 337 = .ok (.iadd, 1) := by decide +kernel
theorem dL_law_338 : decode cL_law 338 = .ok (.iaload, 1) := by decide +kernel
theorem dL_law_339 : decode cL_law 339 = .ok (.invokevirtual 35, 3) := by decide +kernel
theorem dL_law_342 : decode cL_law 342 = .ok (.if_icmp .eq 460, 3) := by decide +kernel
theorem dL_law_345 : decode cL_law 345 = .ok (.iconst 0, 1) := by decide +kernel
theorem dL_law_346 : decode cL_law 346 = .ok (.ireturn, 1) := by decide +kernel
theorem dL_law_347 : decode cL_law 347 = .ok (.aload_n 1, 1) := by decide +kernel
theorem dL_law_348 : decode cL_law 348 = .ok (.aload_n 0, 1) := by decide +kernel
theorem dL_law_349 : decode cL_law 349 = .ok (.iload_n 3, 1) := by decide +kernel
theorem dL_law_350 : decode cL_law 350 = .ok (.iconst 1, 1) := by decide +kernel
theorem dL_law_351 : decode cL_law 351 = .ok (.iadd, 1) := by decide +kernel
theorem dL_law_352 : decode cL_law 352 = .ok (.iaload, 1) := by decide +kernel
theorem dL_law_353 : decode cL_law 353 = .ok (.aload_n 0, 1) := by decide +kernel
theorem dL_law_354 : decode cL_law 354 = .ok (.iload_n 3, 1) := by decide +kernel
theorem dL_law_355 : decode cL_law 355 = .ok (.iconst 2, 1) := by decide +kernel
theorem dL_law_356 : decode cL_law 356 = .ok (.iadd, 1) := by decide +kernel
theorem dL_law_357 : decode cL_law 357 = .ok (.iaload, 1) := by decide +kernel
theorem dL_law_358 : decode cL_law 358 = .ok (.aload_n 0, 1) := by decide +kernel
theorem dL_law_359 : decode cL_law 359 = .ok (.iload_n 3, 1) := by decide +kernel
theorem dL_law_360 : decode cL_law 360 = .ok (.iconst 3, 1) := by decide +kernel
theorem dL_law_361 : decode cL_law 361 = .ok (.iadd, 1) := by decide +kernel
theorem dL_law_362 : decode cL_law 362 = .ok (.iaload, 1) := by decide +kernel
theorem dL_law_363 : decode cL_law 363 = .ok (.aload_n 0, 1) := by decide +kernel
theorem dL_law_364 : decode cL_law 364 = .ok (.iload_n 3, 1) := by decide +kernel
theorem dL_law_365 : decode cL_law 365 = .ok (.iconst 4, 1) := by decide +kernel
theorem dL_law_366 : decode cL_law 366 = .ok (.iadd, 1) := by decide +kernel
theorem dL_law_367 : decode cL_law 367 = .ok (.iaload, 1) := by decide +kernel
theorem dL_law_368 : decode cL_law 368 = .ok (.invokevirtual 36, 3) := by decide +kernel
theorem dL_law_371 : decode cL_law 371 = .ok (.aload_n 2, 1) := by decide +kernel
theorem dL_law_372 : decode cL_law 372 = .ok (.aload_n 0, 1) := by decide +kernel
theorem dL_law_373 : decode cL_law 373 = .ok (.iload_n 3, 1) := by decide +kernel
theorem dL_law_374 : decode cL_law 374 = .ok (.iconst 1, 1) := by decide +kernel
theorem dL_law_375 : decode cL_law 375 = .ok (.iadd, 1) := by decide +kernel
theorem dL_law_376 : decode cL_law 376 = .ok (.iaload, 1) := by decide +kernel
theorem dL_law_377 : decode cL_law 377 = .ok (.aload_n 0, 1) := by decide +kernel
theorem dL_law_378 : decode cL_law 378 = .ok (.iload_n 3, 1) := by decide +kernel
theorem dL_law_379 : decode cL_law 379 = .ok (.iconst 2, 1) := by decide +kernel
theorem dL_law_380 : decode cL_law 380 = .ok (.iadd, 1) := by decide +kernel
theorem dL_law_381 : decode cL_law 381 = .ok (.iaload, 1) := by decide +kernel
theorem dL_law_382 : decode cL_law 382 = .ok (.aload_n 0, 1) := by decide +kernel
theorem dL_law_383 : decode cL_law 383 = .ok (.iload_n 3, 1) := by decide +kernel
theorem dL_law_384 : decode cL_law 384 = .ok (.iconst 3, 1) := by decide +kernel
theorem dL_law_385 : decode cL_law 385 = .ok (.iadd, 1) := by decide +kernel
theorem dL_law_386 : decode cL_law 386 = .ok (.iaload, 1) := by decide +kernel
theorem dL_law_387 : decode cL_law 387 = .ok (.aload_n 0, 1) := by decide +kernel
theorem dL_law_388 : decode cL_law 388 = .ok (.iload_n 3, 1) := by decide +kernel
theorem dL_law_389 : decode cL_law 389 = .ok (.iconst 4, 1) := by decide +kernel
theorem dL_law_390 : decode cL_law 390 = .ok (.iadd, 1) := by decide +kernel
theorem dL_law_391 : decode cL_law 391 = .ok (.iaload, 1) := by decide +kernel
theorem dL_law_392 : decode cL_law 392 = .ok (.invokevirtual 40, 3) := by decide +kernel
theorem dL_law_395 : decode cL_law 395 = .ok (.if_icmp .eq 407, 3) := by decide +kernel
theorem dL_law_398 : decode cL_law 398 = .ok (.iconst 0, 1) := by decide +kernel
theorem dL_law_399 : decode cL_law 399 = .ok (.ireturn, 1) := by decide +kernel
theorem dL_law_400 : decode cL_law 400 = .ok (.aload_n 1, 1) := by decide +kernel
theorem dL_law_401 : decode cL_law 401 = .ok (.aload_n 0, 1) := by decide +kernel
theorem dL_law_402 : decode cL_law 402 = .ok (.iload_n 3, 1) := by decide +kernel
theorem dL_law_403 : decode cL_law 403 = .ok (.iconst 1, 1) := by decide +kernel
theorem dL_law_404 : decode cL_law 404 = .ok (.iadd, 1) := by decide +kernel
theorem dL_law_405 : decode cL_law 405 = .ok (.iaload, 1) := by decide +kernel
theorem dL_law_406 : decode cL_law 406 = .ok (.aload_n 0, 1) := by decide +kernel
theorem dL_law_407 : decode cL_law 407 = .ok (.iload_n 3, 1) := by decide +kernel
theorem dL_law_408 : decode cL_law 408 = .ok (.iconst 2, 1) := by decide +kernel
theorem dL_law_409 : decode cL_law 409 = .ok (.iadd, 1) := by decide +kernel
theorem dL_law_410 : decode cL_law 410 = .ok (.iaload, 1) := by decide +kernel
theorem dL_law_411 : decode cL_law 411 = .ok (.invokevirtual 41, 3) := by decide +kernel
theorem dL_law_414 : decode cL_law 414 = .ok (.aload_n 2, 1) := by decide +kernel
theorem dL_law_415 : decode cL_law 415 = .ok (.aload_n 0, 1) := by decide +kernel
theorem dL_law_416 : decode cL_law 416 = .ok (.iload_n 3, 1) := by decide +kernel
theorem dL_law_417 : decode cL_law 417 = .ok (.iconst 1, 1) := by decide +kernel
theorem dL_law_418 : decode cL_law 418 = .ok (.iadd, 1) := by decide +kernel
theorem dL_law_419 : decode cL_law 419 = .ok (.iaload, 1) := by decide +kernel
theorem dL_law_420 : decode cL_law 420 = .ok (.aload_n 0, 1) := by decide +kernel
theorem dL_law_421 : decode cL_law 421 = .ok (.iload_n 3, 1) := by decide +kernel
theorem dL_law_422 : decode cL_law 422 = .ok (.iconst 2, 1) := by decide +kernel
theorem dL_law_423 : decode cL_law 423 = .ok (.iadd, 1) := by decide +kernel
theorem dL_law_424 : decode cL_law 424 = .ok (.iaload, 1) := by decide +kernel
theorem dL_law_425 : decode cL_law 425 = .ok (.invokevirtual 44, 3) := by decide +kernel
theorem dL_law_428 : decode cL_law 428 = .ok (.if_icmp .eq 374, 3) := by decide +kernel
theorem dL_law_431 : decode cL_law 431 = .ok (.iconst 0, 1) := by decide +kernel
theorem dL_law_432 : decode cL_law 432 = .ok (.ireturn, 1) := by decide +kernel
theorem dL_law_433 : decode cL_law 433 = .ok (.aload_n 1, 1) := by decide +kernel
theorem dL_law_434 : decode cL_law 434 = .ok (.aload_n 0, 1) := by decide +kernel
theorem dL_law_435 : decode cL_law 435 = .ok (.iload_n 3, 1) := by decide +kernel
theorem dL_law_436 : decode cL_law 436 = .ok (.iconst 1, 1) := by decide +kernel
theorem dL_law_437 : decode cL_law 437 = .ok (.iadd, 1) := by decide +kernel
theorem dL_law_438 : decode cL_law 438 = .ok (.iaload, 1) := by decide +kernel
theorem dL_law_439 : decode cL_law 439 = .ok (.aload_n 0, 1) := by decide +kernel
theorem dL_law_440 : decode cL_law 440 = .ok (.iload_n 3, 1) := by decide +kernel
theorem dL_law_441 : decode cL_law 441 = .ok (.iconst 2, 1) := by decide +kernel
theorem dL_law_442 : decode cL_law 442 = .ok (.iadd, 1) := by decide +kernel
theorem dL_law_443 : decode cL_law 443 = .ok (.iaload, 1) := by decide +kernel
theorem dL_law_444 : decode cL_law 444 = .ok (.invokevirtual 45, 3) := by decide +kernel
theorem dL_law_447 : decode cL_law 447 = .ok (.aload_n 2, 1) := by decide +kernel
theorem dL_law_448 : decode cL_law 448 = .ok (.aload_n 0, 1) := by decide +kernel
theorem dL_law_449 : decode cL_law 449 = .ok (.iload_n 3, 1) := by decide +kernel
theorem dL_law_450 : decode cL_law 450 = .ok (.iconst 1, 1) := by decide +kernel
theorem dL_law_451 : decode cL_law 451 = .ok (.iadd, 1) := by decide +kernel
theorem dL_law_452 : decode cL_law 452 = .ok (.iaload, 1) := by decide +kernel
theorem dL_law_453 : decode cL_law 453 = .ok (.aload_n 0, 1) := by decide +kernel
theorem dL_law_454 : decode cL_law 454 = .ok (.iload_n 3, 1) := by decide +kernel
theorem dL_law_455 : decode cL_law 455 = .ok (.iconst 2, 1) := by decide +kernel
theorem dL_law_456 : decode cL_law 456 = .ok (.iadd, 1) := by decide +kernel
theorem dL_law_457 : decode cL_law 457 = .ok (.iaload, 1) := by decide +kernel
theorem dL_law_458 : decode cL_law 458 = .ok (.invokevirtual 48, 3) := by decide +kernel
theorem dL_law_461 : decode cL_law 461 = .ok (.if_icmp .eq 341, 3) := by decide +kernel
theorem dL_law_464 : decode cL_law 464 = .ok (.iconst 0, 1) := by decide +kernel
theorem dL_law_465 : decode cL_law 465 = .ok (.ireturn, 1) := by decide +kernel
theorem dL_law_466 : decode cL_law 466 = .ok (.aload_n 1, 1) := by decide +kernel
theorem dL_law_467 : decode cL_law 467 = .ok (.aload_n 0, 1) := by decide +kernel
theorem dL_law_468 : decode cL_law 468 = .ok (.iload_n 3, 1) := by decide +kernel
theorem dL_law_469 : decode cL_law 469 = .ok (.iconst 1, 1) := by decide +kernel
theorem dL_law_470 : decode cL_law 470 = .ok (.iadd, 1) := by decide +kernel
theorem dL_law_471 : decode cL_law 471 = .ok (.iaload, 1) := by decide +kernel
theorem dL_law_472 : decode cL_law 472 = .ok (.invokevirtual 49, 3) := by decide +kernel
theorem dL_law_475 : decode cL_law 475 = .ok (.aload_n 2, 1) := by decide +kernel
theorem dL_law_476 : decode cL_law 476 = .ok (.aload_n 0, 1) := by decide +kernel
theorem dL_law_477 : decode cL_law 477 = .ok (.iload_n 3, 1) := by decide +kernel
theorem dL_law_478 : decode cL_law 478 = .ok (.iconst 1, 1) := by decide +kernel
theorem dL_law_479 : decode cL_law 479 = .ok (.iadd, 1) := by decide +kernel
theorem dL_law_480 : decode cL_law 480 = .ok (.iaload, 1) := by decide +kernel
theorem dL_law_481 : decode cL_law 481 = .ok (.invokevirtual 53, 3) := by decide +kernel
theorem dL_law_484 : decode cL_law 484 = .ok (.lcmp, 1) := by decide +kernel
theorem dL_law_485 : decode cL_law 485 = .ok (.ifCond .eq 317, 3) := by decide +kernel
theorem dL_law_488 : decode cL_law 488 = .ok (.iconst 0, 1) := by decide +kernel
theorem dL_law_489 : decode cL_law 489 = .ok (.ireturn, 1) := by decide +kernel
theorem dL_law_490 : decode cL_law 490 = .ok (.aload_n 1, 1) := by decide +kernel
theorem dL_law_491 : decode cL_law 491 = .ok (.aload_n 0, 1) := by decide +kernel
theorem dL_law_492 : decode cL_law 492 = .ok (.iload_n 3, 1) := by decide +kernel
theorem dL_law_493 : decode cL_law 493 = .ok (.iconst 1, 1) := by decide +kernel
theorem dL_law_494 : decode cL_law 494 = .ok (.iadd, 1) := by decide +kernel
theorem dL_law_495 : decode cL_law 495 = .ok (.iaload, 1) := by decide +kernel
theorem dL_law_496 : decode cL_law 496 = .ok (.invokevirtual 54, 3) := by decide +kernel
theorem dL_law_499 : decode cL_law 499 = .ok (.aload_n 2, 1) := by decide +kernel
theorem dL_law_500 : decode cL_law 500 = .ok (.aload_n 0, 1) := by decide +kernel
theorem dL_law_501 : decode cL_law 501 = .ok (.iload_n 3, 1) := by decide +kernel
theorem dL_law_502 : decode cL_law 502 = .ok (.iconst 1, 1) := by decide +kernel
theorem dL_law_503 : decode cL_law 503 = .ok (.iadd, 1) := by decide +kernel
theorem dL_law_504 : decode cL_law 504 = .ok (.iaload, 1) := by decide +kernel
theorem dL_law_505 : decode cL_law 505 = .ok (.invokevirtual 58, 3) := by decide +kernel
theorem dL_law_508 : decode cL_law 508 = .ok (.if_icmp .eq 294, 3) := by decide +kernel
theorem dL_law_511 : decode cL_law 511 = .ok (.iconst 0, 1) := by decide +kernel
theorem dL_law_512 : decode cL_law 512 = .ok (.ireturn, 1) := by decide +kernel
theorem dL_law_513 : decode cL_law 513 = .ok (.aload_n 1, 1) := by decide +kernel
theorem dL_law_514 : decode cL_law 514 = .ok (.invokevirtual 59, 3) := by decide +kernel
theorem dL_law_517 : decode cL_law 517 = .ok (.aload_n 2, 1) := by decide +kernel
theorem dL_law_518 : decode cL_law 518 = .ok (.invokevirtual 63, 3) := by decide +kernel
theorem dL_law_521 : decode cL_law 521 = .ok (.if_icmp .eq 281, 3) := by decide +kernel
theorem dL_law_524 : decode cL_law 524 = .ok (.iconst 0, 1) := by decide +kernel
theorem dL_law_525 : decode cL_law 525 = .ok (.ireturn, 1) := by decide +kernel
theorem dL_law_526 : decode cL_law 526 = .ok (.aload_n 1, 1) := by decide +kernel
theorem dL_law_527 : decode cL_law 527 = .ok (.aload_n 0, 1) := by decide +kernel
theorem dL_law_528 : decode cL_law 528 = .ok (.iload_n 3, 1) := by decide +kernel
theorem dL_law_529 : decode cL_law 529 = .ok (.iconst 1, 1) := by decide +kernel
theorem dL_law_530 : decode cL_law 530 = .ok (.iadd, 1) := by decide +kernel
theorem dL_law_531 : decode cL_law 531 = .ok (.iaload, 1) := by decide +kernel
theorem dL_law_532 : decode cL_law 532 = .ok (.invokevirtual 64, 3) := by decide +kernel
theorem dL_law_535 : decode cL_law 535 = .ok (.aload_n 2, 1) := by decide +kernel
theorem dL_law_536 : decode cL_law 536 = .ok (.aload_n 0, 1) := by decide +kernel
theorem dL_law_537 : decode cL_law 537 = .ok (.iload_n 3, 1) := by decide +kernel
theorem dL_law_538 : decode cL_law 538 = .ok (.iconst 1, 1) := by decide +kernel
theorem dL_law_539 : decode cL_law 539 = .ok (.iadd, 1) := by decide +kernel
theorem dL_law_540 : decode cL_law 540 = .ok (.iaload, 1) := by decide +kernel
theorem dL_law_541 : decode cL_law 541 = .ok (.invokevirtual 67, 3) := by decide +kernel
theorem dL_law_544 : decode cL_law 544 = .ok (.if_icmp .eq 258, 3) := by decide +kernel
theorem dL_law_547 : decode cL_law 547 = .ok (.iconst 0, 1) := by decide +kernel
theorem dL_law_548 : decode cL_law 548 = .ok (.ireturn, 1) := by decide +kernel
theorem dL_law_549 : decode cL_law 549 = .ok (.aload_n 1, 1) := by decide +kernel
theorem dL_law_550 : decode cL_law 550 = .ok (.aload_n 0, 1) := by decide +kernel
theorem dL_law_551 : decode cL_law 551 = .ok (.iload_n 3, 1) := by decide +kernel
theorem dL_law_552 : decode cL_law 552 = .ok (.iconst 1, 1) := by decide +kernel
theorem dL_law_553 : decode cL_law 553 = .ok (.iadd, 1) := by decide +kernel
theorem dL_law_554 : decode cL_law 554 = .ok (.iaload, 1) := by decide +kernel
theorem dL_law_555 : decode cL_law 555 = .ok (.aload_n 0, 1) := by decide +kernel
theorem dL_law_556 : decode cL_law 556 = .ok (.iload_n 3, 1) := by decide +kernel
theorem dL_law_557 : decode cL_law 557 = .ok (.iconst 2, 1) := by decide +kernel
theorem dL_law_558 : decode cL_law 558 = .ok (.iadd, 1) := by decide +kernel
theorem dL_law_559 : decode cL_law 559 = .ok (.iaload, 1) := by decide +kernel
theorem dL_law_560 : decode cL_law 560 = .ok (.aload_n 0, 1) := by decide +kernel
theorem dL_law_561 : decode cL_law 561 = .ok (.iload_n 3, 1) := by decide +kernel
theorem dL_law_562 : decode cL_law 562 = .ok (.iconst 3, 1) := by decide +kernel
theorem dL_law_563 : decode cL_law 563 = .ok (.iadd, 1) := by decide +kernel
theorem dL_law_564 : decode cL_law 564 = .ok (.iaload, 1) := by decide +kernel
theorem dL_law_565 : decode cL_law 565 = .ok (.invokevirtual 68, 3) := by decide +kernel
theorem dL_law_568 : decode cL_law 568 = .ok (.aload_n 2, 1) := by decide +kernel
theorem dL_law_569 : decode cL_law 569 = .ok (.aload_n 0, 1) := by decide +kernel
theorem dL_law_570 : decode cL_law 570 = .ok (.iload_n 3, 1) := by decide +kernel
theorem dL_law_571 : decode cL_law 571 = .ok (.iconst 1, 1) := by decide +kernel
theorem dL_law_572 : decode cL_law 572 = .ok (.iadd, 1) := by decide +kernel
theorem dL_law_573 : decode cL_law 573 = .ok (.iaload, 1) := by decide +kernel
theorem dL_law_574 : decode cL_law 574 = .ok (.aload_n 0, 1) := by decide +kernel
theorem dL_law_575 : decode cL_law 575 = .ok (.iload_n 3, 1) := by decide +kernel
theorem dL_law_576 : decode cL_law 576 = .ok (.iconst 2, 1) := by decide +kernel
theorem dL_law_577 : decode cL_law 577 = .ok (.iadd, 1) := by decide +kernel
theorem dL_law_578 : decode cL_law 578 = .ok (.iaload, 1) := by decide +kernel
theorem dL_law_579 : decode cL_law 579 = .ok (.aload_n 0, 1) := by decide +kernel
theorem dL_law_580 : decode cL_law 580 = .ok (.iload_n 3, 1) := by decide +kernel
theorem dL_law_581 : decode cL_law 581 = .ok (.iconst 3, 1) := by decide +kernel
theorem dL_law_582 : decode cL_law 582 = .ok (.iadd, 1) := by decide +kernel
theorem dL_law_583 : decode cL_law 583 = .ok (.iaload, 1) := by decide +kernel
theorem dL_law_584 : decode cL_law 584 = .ok (.invokevirtual 71, 3) := by decide +kernel
theorem dL_law_587 : decode cL_law 587 = .ok (.if_icmp .eq 215, 3) := by decide +kernel
theorem dL_law_590 : decode cL_law 590 = .ok (.iconst 0, 1) := by decide +kernel
theorem dL_law_591 : decode cL_law 591 = .ok (.ireturn, 1) := by decide +kernel
theorem dL_law_592 : decode cL_law 592 = .ok (.aload_n 1, 1) := by decide +kernel
theorem dL_law_593 : decode cL_law 593 = .ok (.aload_n 0, 1) := by decide +kernel
theorem dL_law_594 : decode cL_law 594 = .ok (.iload_n 3, 1) := by decide +kernel
theorem dL_law_595 : decode cL_law 595 = .ok (.iconst 1, 1) := by decide +kernel
theorem dL_law_596 : decode cL_law 596 = .ok (.iadd, 1) := by decide +kernel
theorem dL_law_597 : decode cL_law 597 = .ok (.iaload, 1) := by decide +kernel
theorem dL_law_598 : decode cL_law 598 = .ok (.invokevirtual 72, 3) := by decide +kernel
theorem dL_law_601 : decode cL_law 601 = .ok (.aload_n 2, 1) := by decide +kernel
theorem dL_law_602 : decode cL_law 602 = .ok (.aload_n 0, 1) := by decide +kernel
theorem dL_law_603 : decode cL_law 603 = .ok (.iload_n 3, 1) := by decide +kernel
theorem dL_law_604 : decode cL_law 604 = .ok (.iconst 1, 1) := by decide +kernel
theorem dL_law_605 : decode cL_law 605 = .ok (.iadd, 1) := by decide +kernel
theorem dL_law_606 : decode cL_law 606 = .ok (.iaload, 1) := by decide +kernel
theorem dL_law_607 : decode cL_law 607 = .ok (.invokevirtual 75, 3) := by decide +kernel
theorem dL_law_610 : decode cL_law 610 = .ok (.if_icmp .eq 192, 3) := by decide +kernel
theorem dL_law_613 : decode cL_law 613 = .ok (.iconst 0, 1) := by decide +kernel
theorem dL_law_614 : decode cL_law 614 = .ok (.ireturn, 1) := by decide +kernel
theorem dL_law_615 : decode cL_law 615 = .ok (.aload_n 1, 1) := by decide +kernel
theorem dL_law_616 : decode cL_law 616 = .ok (.invokevirtual 76, 3) := by decide +kernel
theorem dL_law_619 : decode cL_law 619 = .ok (.aload_n 2, 1) := by decide +kernel
theorem dL_law_620 : decode cL_law 620 = .ok (.invokevirtual 79, 3) := by decide +kernel
theorem dL_law_623 : decode cL_law 623 = .ok (.if_icmp .eq 179, 3) := by decide +kernel
theorem dL_law_626 : decode cL_law 626 = .ok (.iconst 0, 1) := by decide +kernel
theorem dL_law_627 : decode cL_law 627 = .ok (.ireturn, 1) := by decide +kernel
theorem dL_law_628 : decode cL_law 628 = .ok (.aload_n 1, 1) := by decide +kernel
theorem dL_law_629 : decode cL_law 629 = .ok (.invokevirtual 80, 3) := by decide +kernel
theorem dL_law_632 : decode cL_law 632 = .ok (.aload_n 2, 1) := by decide +kernel
theorem dL_law_633 : decode cL_law 633 = .ok (.invokevirtual 83, 3) := by decide +kernel
theorem dL_law_636 : decode cL_law 636 = .ok (.if_icmp .eq 166, 3) := by decide +kernel
theorem dL_law_639 : decode cL_law 639 = .ok (.iconst 0, 1) := by decide +kernel
theorem dL_law_640 : decode cL_law 640 = .ok (.ireturn, 1) := by decide +kernel
theorem dL_law_641 : decode cL_law 641 = .ok (.aload_n 1, 1) := by decide +kernel
theorem dL_law_642 : decode cL_law 642 = .ok (.aload_n 0, 1) := by decide +kernel
theorem dL_law_643 : decode cL_law 643 = .ok (.iload_n 3, 1) := by decide +kernel
theorem dL_law_644 : decode cL_law 644 = .ok (.iconst 1, 1) := by decide +kernel
theorem dL_law_645 : decode cL_law 645 = .ok (.iadd, 1) := by decide +kernel
theorem dL_law_646 : decode cL_law 646 = .ok (.iaload, 1) := by decide +kernel
theorem dL_law_647 : decode cL_law 647 = .ok (.aload_n 0, 1) := by decide +kernel
theorem dL_law_648 : decode cL_law 648 = .ok (.iload_n 3, 1) := by decide +kernel
theorem dL_law_649 : decode cL_law 649 = .ok (.iconst 2, 1) := by decide +kernel
theorem dL_law_650 : decode cL_law 650 = .ok (.iadd, 1) := by decide +kernel
theorem dL_law_651 : decode cL_law 651 = .ok (.iaload, 1) := by decide +kernel
theorem dL_law_652 : decode cL_law 652 = .ok (.invokevirtual 84, 3) := by decide +kernel
theorem dL_law_655 : decode cL_law 655 = .ok (.aload_n 2, 1) := by decide +kernel
theorem dL_law_656 : decode cL_law 656 = .ok (.aload_n 0, 1) := by decide +kernel
theorem dL_law_657 : decode cL_law 657 = .ok (.iload_n 3, 1) := by decide +kernel
theorem dL_law_658 : decode cL_law 658 = .ok (.iconst 1, 1) := by decide +kernel
theorem dL_law_659 : decode cL_law 659 = .ok (.iadd, 1) := by decide +kernel
theorem dL_law_660 : decode cL_law 660 = .ok (.iaload, 1) := by decide +kernel
theorem dL_law_661 : decode cL_law 661 = .ok (.aload_n 0, 1) := by decide +kernel
theorem dL_law_662 : decode cL_law 662 = .ok (.iload_n 3, 1) := by decide +kernel
theorem dL_law_663 : decode cL_law 663 = .ok (.iconst 2, 1) := by decide +kernel
theorem dL_law_664 : decode cL_law 664 = .ok (.iadd, 1) := by decide +kernel
theorem dL_law_665 : decode cL_law 665 = .ok (.iaload, 1) := by decide +kernel
theorem dL_law_666 : decode cL_law 666 = .ok (.invokevirtual 87, 3) := by decide +kernel
theorem dL_law_669 : decode cL_law 669 = .ok (.if_icmp .eq 133, 3) := by decide +kernel
theorem dL_law_672 : decode cL_law 672 = .ok (.iconst 0, 1) := by decide +kernel
theorem dL_law_673 : decode cL_law 673 = .ok (.ireturn, 1) := by decide +kernel
theorem dL_law_674 : decode cL_law 674 = .ok (.aload_n 1, 1) := by decide +kernel
theorem dL_law_675 : decode cL_law 675 = .ok (.aload_n 0, 1) := by decide +kernel
theorem dL_law_676 : decode cL_law 676 = .ok (.iload_n 3, 1) := by decide +kernel
theorem dL_law_677 : decode cL_law 677 = .ok (.iconst 1, 1) := by decide +kernel
theorem dL_law_678 : decode cL_law 678 = .ok (.iadd, 1) := by decide +kernel
theorem dL_law_679 : decode cL_law 679 = .ok (.iaload, 1) := by decide +kernel
theorem dL_law_680 : decode cL_law 680 = .ok (.aload_n 0, 1) := by decide +kernel
theorem dL_law_681 : decode cL_law 681 = .ok (.iload_n 3, 1) := by decide +kernel
theorem dL_law_682 : decode cL_law 682 = .ok (.iconst 2, 1) := by decide +kernel
theorem dL_law_683 : decode cL_law 683 = .ok (.iadd, 1) := by decide +kernel
theorem dL_law_684 : decode cL_law 684 = .ok (.iaload, 1) := by decide +kernel
theorem dL_law_685 : decode cL_law 685 = .ok (.invokevirtual 88, 3) := by decide +kernel
theorem dL_law_688 : decode cL_law 688 = .ok (.aload_n 2, 1) := by decide +kernel
theorem dL_law_689 : decode cL_law 689 = .ok (.aload_n 0, 1) := by decide +kernel
theorem dL_law_690 : decode cL_law 690 = .ok (.iload_n 3, 1) := by decide +kernel
theorem dL_law_691 : decode cL_law 691 = .ok (.iconst 1, 1) := by decide +kernel
theorem dL_law_692 : decode cL_law 692 = .ok (.iadd, 1) := by decide +kernel
theorem dL_law_693 : decode cL_law 693 = .ok (.iaload, 1) := by decide +kernel
theorem dL_law_694 : decode cL_law 694 = .ok (.aload_n 0, 1) := by decide +kernel
theorem dL_law_695 : decode cL_law 695 = .ok (.iload_n 3, 1) := by decide +kernel
theorem dL_law_696 : decode cL_law 696 = .ok (.iconst 2, 1) := by decide +kernel
theorem dL_law_697 : decode cL_law 697 = .ok (.iadd, 1) := by decide +kernel
theorem dL_law_698 : decode cL_law 698 = .ok (.iaload, 1) := by decide +kernel
theorem dL_law_699 : decode cL_law 699 = .ok (.invokevirtual 92, 3) := by decide +kernel
theorem dL_law_702 : decode cL_law 702 = .ok (.lcmp, 1) := by decide +kernel
theorem dL_law_703 : decode cL_law 703 = .ok (.ifCond .eq 99, 3) := by decide +kernel
theorem dL_law_706 : decode cL_law 706 = .ok (.iconst 0, 1) := by decide +kernel
theorem dL_law_707 : decode cL_law 707 = .ok (.ireturn, 1) := by decide +kernel
theorem dL_law_708 : decode cL_law 708 = .ok (.aload_n 1, 1) := by decide +kernel
theorem dL_law_709 : decode cL_law 709 = .ok (.aload_n 0, 1) := by decide +kernel
theorem dL_law_710 : decode cL_law 710 = .ok (.iload_n 3, 1) := by decide +kernel
theorem dL_law_711 : decode cL_law 711 = .ok (.iconst 1, 1) := by decide +kernel
theorem dL_law_712 : decode cL_law 712 = .ok (.iadd, 1) := by decide +kernel
theorem dL_law_713 : decode cL_law 713 = .ok (.iaload, 1) := by decide +kernel
theorem dL_law_714 : decode cL_law 714 = .ok (.invokevirtual 93, 3) := by decide +kernel
theorem dL_law_717 : decode cL_law 717 = .ok (.aload_n 2, 1) := by decide +kernel
theorem dL_law_718 : decode cL_law 718 = .ok (.aload_n 0, 1) := by decide +kernel
theorem dL_law_719 : decode cL_law 719 = .ok (.iload_n 3, 1) := by decide +kernel
theorem dL_law_720 : decode cL_law 720 = .ok (.iconst 1, 1) := by decide +kernel
theorem dL_law_721 : decode cL_law 721 = .ok (.iadd, 1) := by decide +kernel
theorem dL_law_722 : decode cL_law 722 = .ok (.iaload, 1) := by decide +kernel
theorem dL_law_723 : decode cL_law 723 = .ok (.invokevirtual 96, 3) := by decide +kernel
theorem dL_law_726 : decode cL_law 726 = .ok (.if_icmp .eq 76, 3) := by decide +kernel
theorem dL_law_729 : decode cL_law 729 = .ok (.iconst 0, 1) := by decide +kernel
theorem dL_law_730 : decode cL_law 730 = .ok (.ireturn, 1) := by decide +kernel
theorem dL_law_731 : decode cL_law 731 = .ok (.aload_n 1, 1) := by decide +kernel
theorem dL_law_732 : decode cL_law 732 = .ok (.aload_n 0, 1) := by decide +kernel
theorem dL_law_733 : decode cL_law 733 = .ok (.iload_n 3, 1) := by decide +kernel
theorem dL_law_734 : decode cL_law 734 = .ok (.iconst 1, 1) := by decide +kernel
theorem dL_law_735 : decode cL_law 735 = .ok (.iadd, 1) := by decide +kernel
theorem dL_law_736 : decode cL_law 736 = .ok (.iaload, 1) := by decide +kernel
theorem dL_law_737 : decode cL_law 737 = .ok (.aload_n 0, 1) := by decide +kernel
theorem dL_law_738 : decode cL_law 738 = .ok (.iload_n 3, 1) := by decide +kernel
theorem dL_law_739 : decode cL_law 739 = .ok (.iconst 2, 1) := by decide +kernel
theorem dL_law_740 : decode cL_law 740 = .ok (.iadd, 1) := by decide +kernel
theorem dL_law_741 : decode cL_law 741 = .ok (.iaload, 1) := by decide +kernel
theorem dL_law_742 : decode cL_law 742 = .ok (.invokevirtual 97, 3) := by decide +kernel
theorem dL_law_745 : decode cL_law 745 = .ok (.aload_n 2, 1) := by decide +kernel
theorem dL_law_746 : decode cL_law 746 = .ok (.aload_n 0, 1) := by decide +kernel
theorem dL_law_747 : decode cL_law 747 = .ok (.iload_n 3, 1) := by decide +kernel
theorem dL_law_748 : decode cL_law 748 = .ok (.iconst 1, 1) := by decide +kernel
theorem dL_law_749 : decode cL_law 749 = .ok (.iadd, 1) := by decide +kernel
theorem dL_law_750 : decode cL_law 750 = .ok (.iaload, 1) := by decide +kernel
theorem dL_law_751 : decode cL_law 751 = .ok (.aload_n 0, 1) := by decide +kernel
theorem dL_law_752 : decode cL_law 752 = .ok (.iload_n 3, 1) := by decide +kernel
theorem dL_law_753 : decode cL_law 753 = .ok (.iconst 2, 1) := by decide +kernel
theorem dL_law_754 : decode cL_law 754 = .ok (.iadd, 1) := by decide +kernel
theorem dL_law_755 : decode cL_law 755 = .ok (.iaload, 1) := by decide +kernel
theorem dL_law_756 : decode cL_law 756 = .ok (.invokevirtual 100, 3) := by decide +kernel
theorem dL_law_759 : decode cL_law 759 = .ok (.lcmp, 1) := by decide +kernel
theorem dL_law_760 : decode cL_law 760 = .ok (.ifCond .eq 42, 3) := by decide +kernel
theorem dL_law_763 : decode cL_law 763 = .ok (.iconst 0, 1) := by decide +kernel
theorem dL_law_764 : decode cL_law 764 = .ok (.ireturn, 1) := by decide +kernel
theorem dL_law_765 : decode cL_law 765 = .ok (.aload_n 1, 1) := by decide +kernel
theorem dL_law_766 : decode cL_law 766 = .ok (.aload_n 0, 1) := by decide +kernel
theorem dL_law_767 : decode cL_law 767 = .ok (.iload_n 3, 1) := by decide +kernel
theorem dL_law_768 : decode cL_law 768 = .ok (.iconst 1, 1) := by decide +kernel
theorem dL_law_769 : decode cL_law 769 = .ok (.iadd, 1) := by decide +kernel
theorem dL_law_770 : decode cL_law 770 = .ok (.iaload, 1) := by decide +kernel
theorem dL_law_771 : decode cL_law 771 = .ok (.invokevirtual 101, 3) := by decide +kernel
theorem dL_law_774 : decode cL_law 774 = .ok (.aload_n 2, 1) := by decide +kernel
theorem dL_law_775 : decode cL_law 775 = .ok (.aload_n 0, 1) := by decide +kernel
theorem dL_law_776 : decode cL_law 776 = .ok (.iload_n 3, 1) := by decide +kernel
theorem dL_law_777 : decode cL_law 777 = .ok (.iconst 1, 1) := by decide +kernel
theorem dL_law_778 : decode cL_law 778 = .ok (.iadd, 1) := by decide +kernel
theorem dL_law_779 : decode cL_law 779 = .ok (.iaload, 1) := by decide +kernel
theorem dL_law_780 : decode cL_law 780 = .ok (.invokevirtual 104, 3) := by decide +kernel
theorem dL_law_783 : decode cL_law 783 = .ok (.if_icmp .eq 19, 3) := by decide +kernel
theorem dL_law_786 : decode cL_law 786 = .ok (.iconst 0, 1) := by decide +kernel
theorem dL_law_787 : decode cL_law 787 = .ok (.ireturn, 1) := by decide +kernel
theorem dL_law_788 : decode cL_law 788 = .ok (.aload_n 1, 1) := by decide +kernel
theorem dL_law_789 : decode cL_law 789 = .ok (.invokevirtual 105, 3) := by decide +kernel
theorem dL_law_792 : decode cL_law 792 = .ok (.aload_n 2, 1) := by decide +kernel
theorem dL_law_793 : decode cL_law 793 = .ok (.invokevirtual 109, 3) := by decide +kernel
theorem dL_law_796 : decode cL_law 796 = .ok (.lcmp, 1) := by decide +kernel
theorem dL_law_797 : decode cL_law 797 = .ok (.ifCond .eq 5, 3) := by decide +kernel
theorem dL_law_800 : decode cL_law 800 = .ok (.iconst 0, 1) := by decide +kernel
theorem dL_law_801 : decode cL_law 801 = .ok (.ireturn, 1) := by decide +kernel
theorem dL_law_802 : decode cL_law 802 = .ok (.iinc 3 5, 3) := by decide +kernel
theorem dL_law_805 : decode cL_law 805 = .ok (.goto (-787), 3) := by decide +kernel
theorem dL_law_808 : decode cL_law 808 = .ok (.iconst 1, 1) := by decide +kernel
theorem dL_law_809 : decode cL_law 809 = .ok (.ireturn, 1) := by decide +kernel
