theorem dX6_change_12 : decode cX6_change 12 = .ok (.getfield 16, 3) := by decide +kernel
theorem dX6_change_15 : decode cX6_change 15 = .ok (.iload_n 1, 1) := by decide +kernel
theorem dX6_change_16 : decode cX6_change 16 = .ok (.iaload, 1) := by decide +kernel
theorem dX6_change_17 : decode cX6_change 17 = .ok (.iconst 1, 1) := by decide +kernel
theorem dX6_change_18 : decode cX6_change 18 = .ok (.isub, 1) := by decide +kernel
theorem dX6_change_19 : decode cX6_change 19 = .ok (.i2l, 1) := by decide +kernel
theorem dX6_change_20 : decode cX6_change 20 = .ok (.invokestatic 97, 3) := by decide +kernel
theorem dX6_change_23 : decode cX6_change 23 = .ok (.ifCond .eq 10, 3) := by decide +kernel
theorem dX6_change_26 : decode cX6_change 26 = .ok (.iload_n 3, 1) := by decide +kernel
theorem dX6_change_27 : decode cX6_change 27 = .ok (.invokestatic 122, 3) := by decide +kernel
theorem dX6_change_30 : decode cX6_change 30 = .ok (.ifCond .ne 6, 3) := by decide +kernel
theorem dX6_change_33 : decode cX6_change 33 = .ok (.ldc 129, 2) := by decide +kernel
theorem dX6_change_35 : decode cX6_change 35 = .ok (.ireturn, 1) := by decide +kernel
theorem dX6_change_36 : decode cX6_change 36 = .ok (.aload_n 0, 1) := by decide +kernel
theorem dX6_change_37 : decode cX6_change 37 = .ok (.getfield 19, 3) := by decide +kernel
theorem dX6_change_40 : decode cX6_change 40 = .ok (.bipush 32, 2) := by decide +kernel
theorem dX6_change_42 : decode cX6_change 42 = .ok (.iload_n 1, 1) := by decide +kernel
theorem dX6_change_43 : decode cX6_change 43 = .ok (.imul, 1) := by decide +kernel
theorem dX6_change_44 : decode cX6_change 44 = .ok (.iload_n 2, 1) := by decide +kernel
theorem dX6_change_45 : decode cX6_change 45 = .ok (.iadd, 1) := by decide +kernel
theorem dX6_change_46 : decode cX6_change 46 = .ok (.iaload, 1) := by decide +kernel
theorem dX6_change_47 : decode cX6_change 47 = .ok (.istore 4, 2) := by decide +kernel
theorem dX6_change_49 : decode cX6_change 49 = .ok (.aload_n 0, 1) := by decide +kernel
theorem dX6_change_50 : decode cX6_change 50 = .ok (.getfield 19, 3) := by decide +kernel
theorem dX6_change_53 : decode cX6_change 53 = .ok (.bipush 32, 2) := by decide +kernel
theorem dX6_change_55 : decode cX6_change 55 = .ok (.iload_n 1, 1) := by decide +kernel
theorem dX6_change_56 : decode cX6_change 56 = .ok (.imul, 1) := by decide +kernel
theorem dX6_change_57 : decode cX6_change 57 = .ok (.iload_n 2, 1) := by decide +kernel
theorem dX6_change_58 : decode cX6_change 58 = .ok (.iadd, 1) := by decide +kernel
theorem dX6_change_59 : decode cX6_change 59 = .ok (.iload_n 3, 1) := by decide +kernel
theorem dX6_change_60 : decode cX6_change 60 = .ok (.iastore, 1) := by decide +kernel
theorem dX6_change_61 : decode cX6_change 61 = .ok (.aload_n 0, 1) := by decide +kernel
theorem dX6_change_62 : decode cX6_change 62 = .ok (.iload_n 1, 1) := by decide +kernel
theorem dX6_change_63 : decode cX6_change 63 = .ok (.invokevirtual 125, 3) := by decide +kernel
theorem dX6_change_66 : decode cX6_change 66 = .ok (.iload 4, 2) := by decide +kernel
theorem dX6_change_68 : decode cX6_change 68 = .ok (.ireturn, 1) := by decide +kernel
theorem dX6_way_0 : decode cX6_way 0 = .ok (.aload_n 0, 1) := by decide +kernel
theorem dX6_way_1 : decode cX6_way 1 = .ok (.iload_n 1, 1) := by decide +kernel
theorem dX6_way_2 : decode cX6_way 2 = .ok (.invokevirtual 118, 3) := by decide +kernel
theorem dX6_way_5 : decode cX6_way 5 = .ok (.ifCond .eq 15, 3) := by decide +kernel
theorem dX6_way_8 : decode cX6_way 8 = .ok (.iload_n 2, 1) := by decide +kernel
theorem dX6_way_9 : decode cX6_way 9 = .ok (.i2l, 1) := by decide +kernel
theorem dX6_way_10 : decode cX6_way 10 = .ok (.lconst 0, 1) := by decide +kernel
theorem dX6_way_11 : decode cX6_way 11 = .ok (.ldc2_w 130, 3) := by decide +kernel
theorem dX6_way_14 : decode cX6_way 14 = .ok (.invokestatic 97, 3) := by decide +kernel
theorem dX6_way_17 : decode cX6_way 17 = .ok (.ifCond .ne 6, 3) := by decide +kernel
theorem dX6_way_20 : decode cX6_way 20 = .ok (.bipush (-2), 2) := by decide +kernel
theorem dX6_way_22 : decode cX6_way 22 = .ok (.ireturn, 1) := by decide +kernel
theorem dX6_way_23 : decode cX6_way 23 = .ok (.aload_n 0, 1) := by decide +kernel
theorem dX6_way_24 : decode cX6_way 24 = .ok (.getfield 22, 3) := by decide +kernel
theorem dX6_way_27 : decode cX6_way 27 = .ok (.iload_n 1, 1) := by decide +kernel
theorem dX6_way_28 : decode cX6_way 28 = .ok (.iaload, 1) := by decide +kernel
theorem dX6_way_29 : decode cX6_way 29 = .ok (.istore 4, 2) := by decide +kernel
theorem dX6_way_31 : decode cX6_way 31 = .ok (.aload_n 0, 1) := by decide +kernel
theorem dX6_way_32 : decode cX6_way 32 = .ok (.getfield 22, 3) := by decide +kernel
theorem dX6_way_35 : decode cX6_way 35 = .ok (.iload_n 1, 1) := by decide +kernel
theorem dX6_way_36 : decode cX6_way 36 = .ok (.iload_n 2, 1) := by decide +kernel
theorem dX6_way_37 : decode cX6_way 37 = .ok (.iastore, 1) := by decide +kernel
theorem dX6_way_38 : decode cX6_way 38 = .ok (.aload_n 0, 1) := by decide +kernel
theorem dX6_way_39 : decode cX6_way 39 = .ok (.getfield 25, 3) := by decide +kernel
theorem dX6_way_42 : decode cX6_way 42 = .ok (.iload_n 1, 1) := by decide +kernel
theorem dX6_way_43 : decode cX6_way 43 = .ok (.iload_n 3, 1) := by decide +kernel
theorem dX6_way_44 : decode cX6_way 44 = .ok (.bastore, 1) := by decide +kernel
theorem dX6_way_45 : decode cX6_way 45 = .ok (.iload 4, 2) := by decide +kernel
theorem dX6_way_47 : decode cX6_way 47 = .ok (.ireturn, 1) := by decide +kernel
theorem dX6_down_0 : decode cX6_down 0 = .ok (.lload_n 0, 1) := by decide +kernel
theorem dX6_down_1 : decode cX6_down 1 = .ok (.lload_n 2, 1) := by decide +kernel
theorem dX6_down_2 : decode cX6_down 2 = .ok (.ldiv, 1) := by decide +kernel
theorem dX6_down_3 : decode cX6_down 3 = .ok (.lstore 4, 2) := by decide +kernel
theorem dX6_down_5 : decode cX6_down 5 = .ok (.lload_n 0, 1) := by decide +kernel
theorem dX6_down_6 : decode cX6_down 6 = .ok (.lload_n 2, 1) := by decide +kernel
theorem dX6_down_7 : decode cX6_down 7 = .ok (.lrem, 1) := by decide +kernel
theorem dX6_down_8 : decode cX6_down 8 = .ok (.lconst 0, 1) := by decide +kernel
theorem dX6_down_9 : decode cX6_down 9 = .ok (.lcmp, 1) := by decide +kernel
theorem dX6_down_10 : decode cX6_down 10 = .ok (.ifCond .ge 10, 3) := by decide +kernel
theorem dX6_down_13 : decode cX6_down 13 = .ok (.lload 4, 2) := by decide +kernel
theorem dX6_down_15 : decode cX6_down 15 = .ok (.lconst 1, 1) := by decide +kernel
theorem dX6_down_16 : decode cX6_down 16 = .ok (.lsub, 1) := by decide +kernel
theorem dX6_down_17 : decode cX6_down 17 = .ok (.goto 5, 3) := by decide +kernel
theorem dX6_down_20 : decode cX6_down 20 = .ok (.lload 4, 2) := by decide +kernel
theorem dX6_down_22 : decode cX6_down 22 = .ok (.lreturn, 1) := by decide +kernel
theorem dX6_nearest_0 : decode cX6_nearest 0 = .ok (.lload_n 0, 1) := by decide +kernel
theorem dX6_nearest_1 : decode cX6_nearest 1 = .ok (.lload_n 2, 1) := by decide +kernel
theorem dX6_nearest_2 : decode cX6_nearest 2 = .ok (.invokestatic 132, 3) := by decide +kernel
theorem dX6_nearest_5 : decode cX6_nearest 5 = .ok (.lstore 4, 2) := by decide +kernel
theorem dX6_nearest_7 : decode cX6_nearest 7 = .ok (.ldc2_w 136, 3) := by decide +kernel
theorem dX6_nearest_10 : decode cX6_nearest 10 = .ok (.lload_n 0, 1) := by decide +kernel
theorem dX6_nearest_11 : decode cX6_nearest 11 = .ok (.lload 4, 2) := by decide +kernel
theorem dX6_nearest_13 : decode cX6_nearest 13 = .ok (.lload_n 2, 1) := by decide +kernel
theorem dX6_nearest_14 : decode cX6_nearest 14 = .ok (.lmul, 1) := by decide +kernel
theorem dX6_nearest_15 : decode cX6_nearest 15 = .ok (.lsub, 1) := by decide +kernel
theorem dX6_nearest_16 : decode cX6_nearest 16 = .ok (.lmul, 1) := by decide +kernel
theorem dX6_nearest_17 : decode cX6_nearest 17 = .ok (.lstore 6, 2) := by decide +kernel
theorem dX6_nearest_19 : decode cX6_nearest 19 = .ok (.lload 6, 2) := by decide +kernel
theorem dX6_nearest_21 : decode cX6_nearest 21 = .ok (.lload_n 2, 1) := by decide +kernel
theorem dX6_nearest_22 : decode cX6_nearest 22 = .ok (.lcmp, 1) := by decide +kernel
theorem dX6_nearest_23 : decode cX6_nearest 23 = .ok (.ifCond .gt 19, 3) := by decide +kernel
theorem dX6_nearest_26 : decode cX6_nearest 26 = .ok (.lload 6, 2) := by decide +kernel
theorem dX6_nearest_28 : decode cX6_nearest 28 = .ok (.lload_n 2, 1) := by decide +kernel
theorem dX6_nearest_29 : decode cX6_nearest 29 = .ok (.lcmp, 1) := by decide +kernel
theorem dX6_nearest_30 : decode cX6_nearest 30 = .ok (.ifCond .ne 19, 3) := by decide +kernel
theorem dX6_nearest_33 : decode cX6_nearest 33 = .ok (.lload 4, 2) := by decide +kernel
theorem dX6_nearest_35 : decode cX6_nearest 35 = .ok (.lconst 1, 1) := by decide +kernel
theorem dX6_nearest_36 : decode cX6_nearest 36 = .ok (.land, 1) := by decide +kernel
theorem dX6_nearest_37 : decode cX6_nearest 37 = .ok (.lconst 1, 1) := by decide +kernel
theorem dX6_nearest_38 : decode cX6_nearest 38 = .ok (.lcmp, 1) := by decide +kernel
theorem dX6_nearest_39 : decode cX6_nearest 39 = .ok (.ifCond .ne 10, 3) := by decide +kernel
theorem dX6_nearest_42 : decode cX6_nearest 42 = .ok (.lload 4, 2) := by decide +kernel
theorem dX6_nearest_44 : decode cX6_nearest 44 = .ok (.lconst 1, 1) := by decide +kernel
theorem dX6_nearest_45 : decode cX6_nearest 45 = .ok (.ladd, 1) := by decide +kernel
theorem dX6_nearest_46 : decode cX6_nearest 46 = .ok (.goto 5, 3) := by decide +kernel
theorem dX6_nearest_49 : decode cX6_nearest 49 = .ok (.lload 4, 2) := by decide +kernel
theorem dX6_nearest_51 : decode cX6_nearest 51 = .ok (.lreturn, 1) := by decide +kernel
theorem dX6_factorAt_0 : decode cX6_factorAt 0 = .ok (.aload_n 0, 1) := by decide +kernel
theorem dX6_factorAt_1 : decode cX6_factorAt 1 = .ok (.getfield 19, 3) := by decide +kernel
theorem dX6_factorAt_4 : decode cX6_factorAt 4 = .ok (.bipush 32, 2) := by decide +kernel
theorem dX6_factorAt_6 : decode cX6_factorAt 6 = .ok (.iload_n 1, 1) := by decide +kernel
theorem dX6_factorAt_7 : decode cX6_factorAt 7 = .ok (.imul, 1) := by decide +kernel
theorem dX6_factorAt_8 : decode cX6_factorAt 8 = .ok (.iload_n 2, 1) := by decide +kernel
theorem dX6_factorAt_9 : decode cX6_factorAt 9 = .ok (.iadd, 1) := by decide +kernel
theorem dX6_factorAt_10 : decode cX6_factorAt 10 = .ok (.iaload, 1) := by decide +kernel
theorem dX6_factorAt_11 : decode cX6_factorAt 11 = .ok (.i2l, 1) := by decide +kernel
theorem dX6_factorAt_12 : decode cX6_factorAt 12 = .ok (.iload_n 3, 1) := by decide +kernel
theorem dX6_factorAt_13 : decode cX6_factorAt 13 = .ok (.lshl, 1) := by decide +kernel
theorem dX6_factorAt_14 : decode cX6_factorAt 14 = .ok (.aload_n 0, 1) := by decide +kernel
theorem dX6_factorAt_15 : decode cX6_factorAt 15 = .ok (.getfield 7, 3) := by decide +kernel
theorem dX6_factorAt_18 : decode cX6_factorAt 18 = .ok (.iload_n 1, 1) := by decide +kernel
theorem dX6_factorAt_19 : decode cX6_factorAt 19 = .ok (.iaload, 1) := by decide +kernel
theorem dX6_factorAt_20 : decode cX6_factorAt 20 = .ok (.i2l, 1) := by decide +kernel
theorem dX6_factorAt_21 : decode cX6_factorAt 21 = .ok (.invokestatic 138, 3) := by decide +kernel
theorem dX6_factorAt_24 : decode cX6_factorAt 24 = .ok (.lreturn, 1) := by decide +kernel
theorem dX6_isSafe_0 : decode cX6_isSafe 0 = .ok (.lconst 1, 1) := by decide +kernel
theorem dX6_isSafe_1 : decode cX6_isSafe 1 = .ok (.iload_n 2, 1) := by decide +kernel
theorem dX6_isSafe_2 : decode cX6_isSafe 2 = .ok (.iconst 1, 1) := by decide +kernel
theorem dX6_isSafe_3 : decode cX6_isSafe 3 = .ok (.isub, 1) := by decide +kernel
theorem dX6_isSafe_4 : decode cX6_isSafe 4 = .ok (.lshl, 1) := by decide +kernel
theorem dX6_isSafe_5 : decode cX6_isSafe 5 = .ok (.lconst 1, 1) := by decide +kernel
theorem dX6_isSafe_6 : decode cX6_isSafe 6 = .ok (.lsub, 1) := by decide +kernel
theorem dX6_isSafe_7 : decode cX6_isSafe 7 = .ok (.lstore 5, 2) := by decide +kernel
theorem dX6_isSafe_9 : decode cX6_isSafe 9 = .ok (.lconst 0, 1) := by decide +kernel
theorem dX6_isSafe_10 : decode cX6_isSafe 10 = .ok (.lstore 7, 2) := by decide +kernel
theorem dX6_isSafe_12 : decode cX6_isSafe 12 = .ok (.iconst 0, 1) := by decide +kernel
theorem dX6_isSafe_13 : decode cX6_isSafe 13 = .ok (.istore 9, 2) := by decide +kernel
theorem dX6_isSafe_15 : decode cX6_isSafe 15 = .ok (.iload 9, 2) := by decide +kernel
theorem dX6_isSafe_17 : decode cX6_isSafe 17 = .ok (.aload_n 0, 1) := by decide +kernel
theorem dX6_isSafe_18 : decode cX6_isSafe 18 = .ok (.getfield 16, 3) := by decide +kernel
theorem dX6_isSafe_21 : decode cX6_isSafe 21 = .ok (.iload_n 1, 1) := by decide +kernel
theorem dX6_isSafe_22 : decode cX6_isSafe 22 = .ok (.iaload, 1) := by decide +kernel
theorem dX6_isSafe_23 : decode cX6_isSafe 23 = .ok (.if_icmp .ge 40, 3) := by decide +kernel
theorem dX6_isSafe_26 : decode cX6_isSafe 26 = .ok (.aload_n 0, 1) := by decide +kernel
theorem dX6_isSafe_27 : decode cX6_isSafe 27 = .ok (.iload_n 1, 1) := by decide +kernel
theorem dX6_isSafe_28 : decode cX6_isSafe 28 = .ok (.iload 9, 2) := by decide +kernel
theorem dX6_isSafe_30 : decode cX6_isSafe 30 = .ok (.iload 4, 2) := by decide +kernel
theorem dX6_isSafe_32 : decode cX6_isSafe 32 = .ok (.invokevirtual 141, 3) := by decide +kernel
theorem dX6_isSafe_35 : decode cX6_isSafe 35 = .ok (.invokestatic 145, 3) := by decide +kernel
theorem dX6_isSafe_38 : decode cX6_isSafe 38 = .ok (.lstore 10, 2) := by decide +kernel
theorem dX6_isSafe_40 : decode cX6_isSafe 40 = .ok (.lload 10, 2) := by decide +kernel
theorem dX6_isSafe_42 : decode cX6_isSafe 42 = .ok (.lload 5, 2) := by decide +kernel
theorem dX6_isSafe_44 : decode cX6_isSafe 44 = .ok (.lcmp, 1) := by decide +kernel
theorem dX6_isSafe_45 : decode cX6_isSafe 45 = .ok (.ifCond .le 5, 3) := by decide +kernel
theorem dX6_isSafe_48 : decode cX6_isSafe 48 = .ok (.iconst 0, 1) := by decide +kernel
theorem dX6_isSafe_49 : decode cX6_isSafe 49 = .ok (.ireturn, 1) := by decide +kernel
theorem dX6_isSafe_50 : decode cX6_isSafe 50 = .ok (.lload 7, 2) := by decide +kernel
theorem dX6_isSafe_52 : decode cX6_isSafe 52 = .ok (.lload 10, 2) := by decide +kernel
theorem dX6_isSafe_54 : decode cX6_isSafe 54 = .ok (.ladd, 1) := by decide +kernel
theorem dX6_isSafe_55 : decode cX6_isSafe 55 = .ok (.lstore 7, 2) := by decide +kernel
theorem dX6_isSafe_57 : decode cX6_isSafe 57 = .ok (.iinc 9 1, 3) := by decide +kernel
theorem dX6_isSafe_60 : decode cX6_isSafe 60 = .ok (.goto (-45), 3) := by decide +kernel
theorem dX6_isSafe_63 : decode cX6_isSafe 63 = .ok (.lload 7, 2) := by decide +kernel
theorem dX6_isSafe_65 : decode cX6_isSafe 65 = .ok (.ldc2_w 149, 3) := by decide +kernel
theorem dX6_isSafe_68 : decode cX6_isSafe 68 = .ok (.lmul, 1) := by decide +kernel
theorem dX6_isSafe_69 : decode cX6_isSafe 69 = .ok (.lconst 1, 1) := by decide +kernel
theorem dX6_isSafe_70 : decode cX6_isSafe 70 = .ok (.iload_n 3, 1) := by decide +kernel
theorem dX6_isSafe_71 : decode cX6_isSafe 71 = .ok (.iconst 1, 1) := by decide +kernel
theorem dX6_isSafe_72 : decode cX6_isSafe 72 = .ok (.isub, 1) := by decide +kernel
theorem dX6_isSafe_73 : decode cX6_isSafe 73 = .ok (.lshl, 1) := by decide +kernel
theorem dX6_isSafe_74 : decode cX6_isSafe 74 = .ok (.lconst 1, 1) := by decide +kernel
theorem dX6_isSafe_75 : decode cX6_isSafe 75 = .ok (.lsub, 1) := by decide +kernel
theorem dX6_isSafe_76 : decode cX6_isSafe 76 = .ok (.lcmp, 1) := by decide +kernel
theorem dX6_isSafe_77 : decode cX6_isSafe 77 = .ok (.ifCond .gt 7, 3) := by decide +kernel
theorem dX6_isSafe_80 : decode cX6_isSafe 80 = .ok (.iconst 1, 1) := by decide +kernel
theorem dX6_isSafe_81 : decode cX6_isSafe 81 = .ok (.goto 4, 3) := by decide +kernel
theorem dX6_isSafe_84 : decode cX6_isSafe 84 = .ok (.iconst 0, 1) := by decide +kernel
theorem dX6_isSafe_85 : decode cX6_isSafe 85 = .ok (.ireturn, 1) := by decide +kernel
theorem dX6_forgets_0 : decode cX6_forgets 0 = .ok (.iconst 0, 1) := by decide +kernel
theorem dX6_forgets_1 : decode cX6_forgets 1 = .ok (.istore_n 2, 1) := by decide +kernel
theorem dX6_forgets_2 : decode cX6_forgets 2 = .ok (.iload_n 2, 1) := by decide +kernel
theorem dX6_forgets_3 : decode cX6_forgets 3 = .ok (.bipush 32, 2) := by decide +kernel
theorem dX6_forgets_5 : decode cX6_forgets 5 = .ok (.if_icmp .ge 21, 3) := by decide +kernel
theorem dX6_forgets_8 : decode cX6_forgets 8 = .ok (.aload_n 0, 1) := by decide +kernel
theorem dX6_forgets_9 : decode cX6_forgets 9 = .ok (.getfield 44, 3) := by decide +kernel
theorem dX6_forgets_12 : decode cX6_forgets 12 = .ok (.bipush 32, 2) := by decide +kernel
theorem dX6_forgets_14 : decode cX6_forgets 14 = .ok (.iload_n 1, 1) := by decide +kernel
theorem dX6_forgets_15 : decode cX6_forgets 15 = .ok (.imul, 1) := by decide +kernel
theorem dX6_forgets_16 : decode cX6_forgets 16 = .ok (.iload_n 2, 1) := by decide +kernel
theorem dX6_forgets_17 : decode cX6_forgets 17 = .ok (.iadd, 1) := by decide +kernel
theorem dX6_forgets_18 : decode cX6_forgets 18 = .ok (.iconst 0, 1) := by decide +kernel
theorem dX6_forgets_19 : decode cX6_forgets 19 = .ok (.iastore, 1) := by decide +kernel
theorem dX6_forgets_20 : decode cX6_forgets 20 = .ok (.iinc 2 1, 3) := by decide +kernel
theorem dX6_forgets_23 : decode cX6_forgets 23 = .ok (.goto (-21), 3) := by decide +kernel
theorem dX6_forgets_26 : decode cX6_forgets 26 = .ok (.aload_n 0, 1) := by decide +kernel
theorem dX6_forgets_27 : decode cX6_forgets 27 = .ok (.getfield 47, 3) := by decide +kernel
theorem dX6_forgets_30 : decode cX6_forgets 30 = .ok (.iload_n 1, 1) := by decide +kernel
theorem dX6_forgets_31 : decode cX6_forgets 31 = .ok (.iconst 0, 1) := by decide +kernel
theorem dX6_forgets_32 : decode cX6_forgets 32 = .ok (.iastore, 1) := by decide +kernel
theorem dX6_forgets_33 : decode cX6_forgets 33 = .ok (.aload_n 0, 1) := by decide +kernel
theorem dX6_forgets_34 : decode cX6_forgets 34 = .ok (.getfield 50, 3) := by decide +kernel
theorem dX6_forgets_37 : decode cX6_forgets 37 = .ok (.iload_n 1, 1) := by decide +kernel
theorem dX6_forgets_38 : decode cX6_forgets 38 = .ok (.lconst 0, 1) := by decide +kernel
theorem dX6_forgets_39 : decode cX6_forgets 39 = .ok (.lastore, 1) := by decide +kernel
theorem dX6_forgets_40 : decode cX6_forgets 40 = .ok (.aload_n 0, 1) := by decide +kernel
theorem dX6_forgets_41 : decode cX6_forgets 41 = .ok (.getfield 54, 3) := by decide +kernel
theorem dX6_forgets_44 : decode cX6_forgets 44 = .ok (.iload_n 1, 1) := by decide +kernel
theorem dX6_forgets_45 : decode cX6_forgets 45 = .ok (.lconst 0, 1) := by decide +kernel
theorem dX6_forgets_46 : decode cX6_forgets 46 = .ok (.lastore, 1) := by decide +kernel
theorem dX6_forgets_47 : decode cX6_forgets 47 = .ok (.aload_n 0, 1) := by decide +kernel
theorem dX6_forgets_48 : decode cX6_forgets 48 = .ok (.getfield 57, 3) := by decide +kernel
theorem dX6_forgets_51 : decode cX6_forgets 51 = .ok (.iload_n 1, 1) := by decide +kernel
theorem dX6_forgets_52 : decode cX6_forgets 52 = .ok (.lconst 0, 1) := by decide +kernel
theorem dX6_forgets_53 : decode cX6_forgets 53 = .ok (.lastore, 1) := by decide +kernel
theorem dX6_forgets_54 : decode cX6_forgets 54 = .ok (.return_, 1) := by decide +kernel
theorem dX6_plans_0 : decode cX6_plans 0 = .ok (.aload_n 0, 1) := by decide +kernel
theorem dX6_plans_1 : decode cX6_plans 1 = .ok (.getfield 29, 3) := by decide +kernel
theorem dX6_plans_4 : decode cX6_plans 4 = .ok (.iload_n 1, 1) := by decide +kernel
theorem dX6_plans_5 : decode cX6_plans 5 = .ok (.iconst 1, 1) := by decide +kernel
theorem dX6_plans_6 : decode cX6_plans 6 = .ok (.bastore, 1) := by decide +kernel
theorem dX6_plans_7 : decode cX6_plans 7 = .ok (.aload_n 0, 1) := by decide +kernel
theorem dX6_plans_8 : decode cX6_plans 8 = .ok (.getfield 32, 3) := by decide +kernel
theorem dX6_plans_11 : decode cX6_plans 11 = .ok (.iload_n 1, 1) := by decide +kernel
theorem dX6_plans_12 : decode cX6_plans 12 = .ok (.iload_n 2, 1) := by decide +kernel
theorem dX6_plans_13 : decode cX6_plans 13 = .ok (.iastore, 1) := by decide +kernel
theorem dX6_plans_14 : decode cX6_plans 14 = .ok (.aload_n 0, 1) := by decide +kernel
theorem dX6_plans_15 : decode cX6_plans 15 = .ok (.getfield 35, 3) := by decide +kernel
theorem dX6_plans_18 : decode cX6_plans 18 = .ok (.iload_n 1, 1) := by decide +kernel
theorem dX6_plans_19 : decode cX6_plans 19 = .ok (.iload_n 3, 1) := by decide +kernel
theorem dX6_plans_20 : decode cX6_plans 20 = .ok (.iastore, 1) := by decide +kernel
theorem dX6_plans_21 : decode cX6_plans 21 = .ok (.aload_n 0, 1) := by decide +kernel
theorem dX6_plans_22 : decode cX6_plans 22 = .ok (.getfield 38, 3) := by decide +kernel
theorem dX6_plans_25 : decode cX6_plans 25 = .ok (.iload_n 1, 1) := by decide +kernel
theorem dX6_plans_26 : decode cX6_plans 26 = .ok (.iload 4, 2) := by decide +kernel
theorem dX6_plans_28 : decode cX6_plans 28 = .ok (.iastore, 1) := by decide +kernel
theorem dX6_plans_29 : decode cX6_plans 29 = .ok (.iconst 0, 1) := by decide +kernel
theorem dX6_plans_30 : decode cX6_plans 30 = .ok (.istore 5, 2) := by decide +kernel
theorem dX6_plans_32 : decode cX6_plans 32 = .ok (.iload 5, 2) := by decide +kernel
theorem dX6_plans_34 : decode cX6_plans 34 = .ok (.aload_n 0, 1) := by decide +kernel
theorem dX6_plans_35 : decode cX6_plans 35 = .ok (.getfield 16, 3) := by decide +kernel
theorem dX6_plans_38 : decode cX6_plans 38 = .ok (.iload_n 1, 1) := by decide +kernel
theorem dX6_plans_39 : decode cX6_plans 39 = .ok (.iaload, 1) := by decide +kernel
theorem dX6_plans_40 : decode cX6_plans 40 = .ok (.if_icmp .ge 31, 3) := by decide +kernel
theorem dX6_plans_43 : decode cX6_plans 43 = .ok (.aload_n 0, 1) := by decide +kernel
theorem dX6_plans_44 : decode cX6_plans 44 = .ok (.getfield 41, 3) := by decide +kernel
theorem dX6_plans_47 : decode cX6_plans 47 = .ok (.bipush 32, 2) := by decide +kernel
theorem dX6_plans_49 : decode cX6_plans 49 = .ok (.iload_n 1, 1) := by decide +kernel
theorem dX6_plans_50 : decode cX6_plans 50 = .ok (.imul, 1) := by decide +kernel
theorem dX6_plans_51 : decode cX6_plans 51 = .ok (.iload 5, 2) := by decide +kernel
theorem dX6_plans_53 : decode cX6_plans 53 = .ok (.iadd, 1) := by decide +kernel
theorem dX6_plans_54 : decode cX6_plans 54 = .ok (.aload_n 0, 1) := by decide +kernel
theorem dX6_plans_55 : decode cX6_plans 55 = .ok (.iload_n 1, 1) := by decide +kernel
theorem dX6_plans_56 : decode cX6_plans 56 = .ok (.iload 5, 2) := by decide +kernel
theorem dX6_plans_58 : decode cX6_plans 58 = .ok (.iload 4, 2) := by decide +kernel
theorem dX6_plans_60 : decode cX6_plans 60 = .ok (.invokevirtual 141, 3) := by decide +kernel
theorem dX6_plans_63 : decode cX6_plans 63 = .ok (.l2i, 1) := by decide +kernel
theorem dX6_plans_64 : decode cX6_plans 64 = .ok (.iastore, 1) := by decide +kernel
theorem dX6_plans_65 : decode cX6_plans 65 = .ok (.iinc 5 1, 3) := by decide +kernel
theorem dX6_plans_68 : decode cX6_plans 68 = .ok (.goto (-36), 3) := by decide +kernel
theorem dX6_plans_71 : decode cX6_plans 71 = .ok (.aload_n 0, 1) := by decide +kernel
theorem dX6_plans_72 : decode cX6_plans 72 = .ok (.iload_n 1, 1) := by decide +kernel
theorem dX6_plans_73 : decode cX6_plans 73 = .ok (.invokevirtual 151, 3) := by decide +kernel
theorem dX6_plans_76 : decode cX6_plans 76 = .ok (.aload_n 0, 1) := by decide +kernel
theorem dX6_plans_77 : decode cX6_plans 77 = .ok (.getfield 60, 3) := by decide +kernel
theorem dX6_plans_80 : decode cX6_plans 80 = .ok (.iload_n 1, 1) := by decide +kernel
theorem dX6_plans_81 : decode cX6_plans 81 = .ok (.iconst 0, 1) := by decide +kernel
theorem dX6_plans_82 : decode cX6_plans 82 = .ok (.bastore, 1) := by decide +kernel
theorem dX6_plans_83 : decode cX6_plans 83 = .ok (.iload 4, 2) := by decide +kernel
theorem dX6_plans_85 : decode cX6_plans 85 = .ok (.ireturn, 1) := by decide +kernel
theorem dX6_isPlan_0 : decode cX6_isPlan 0 = .ok (.aload_n 0, 1) := by decide +kernel
theorem dX6_isPlan_1 : decode cX6_isPlan 1 = .ok (.iload_n 1, 1) := by decide +kernel
theorem dX6_isPlan_2 : decode cX6_isPlan 2 = .ok (.invokevirtual 118, 3) := by decide +kernel
theorem dX6_isPlan_5 : decode cX6_isPlan 5 = .ok (.ifCond .eq 35, 3) := by decide +kernel
theorem dX6_isPlan_8 : decode cX6_isPlan 8 = .ok (.iload_n 2, 1) := by decide +kernel
theorem dX6_isPlan_9 : decode cX6_isPlan 9 = .ok (.i2l, 1) := by decide +kernel
theorem dX6_isPlan_10 : decode cX6_isPlan 10 = .ok (.ldc2_w 103, 3) := by decide +kernel
theorem dX6_isPlan_13 : decode cX6_isPlan 13 = .ok (.ldc2_w 154, 3) := by decide +kernel
theorem dX6_isPlan_16 : decode cX6_isPlan 16 = .ok (.invokestatic 97, 3) := by decide +kernel
theorem dX6_isPlan_19 : decode cX6_isPlan 19 = .ok (.ifCond .eq 21, 3) := by decide +kernel
theorem dX6_isPlan_22 : decode cX6_isPlan 22 = .ok (.iload_n 3, 1) := by decide +kernel
theorem dX6_isPlan_23 : decode cX6_isPlan 23 = .ok (.i2l, 1) := by decide +kernel
theorem dX6_isPlan_24 : decode cX6_isPlan 24 = .ok (.ldc2_w 156, 3) := by decide +kernel
theorem dX6_isPlan_27 : decode cX6_isPlan 27 = .ok (.ldc2_w 158, 3) := by decide +kernel
theorem dX6_isPlan_30 : decode cX6_isPlan 30 = .ok (.invokestatic 97, 3) := by decide +kernel
theorem dX6_isPlan_33 : decode cX6_isPlan 33 = .ok (.ifCond .eq 7, 3) := by decide +kernel
theorem dX6_isPlan_36 : decode cX6_isPlan 36 = .ok (.iconst 1, 1) := by decide +kernel
theorem dX6_isPlan_37 : decode cX6_isPlan 37 = .ok (.goto 4, 3) := by decide +kernel
theorem dX6_isPlan_40 : decode cX6_isPlan 40 = .ok (.iconst 0, 1) := by decide +kernel
theorem dX6_isPlan_41 : decode cX6_isPlan 41 = .ok (.ireturn, 1) := by decide +kernel
theorem dX6_plan_0 : decode cX6_plan 0 = .ok (.aload_n 0, 1) := by decide +kernel
theorem dX6_plan_1 : decode cX6_plan 1 = .ok (.iload_n 1, 1) := by decide +kernel
theorem dX6_plan_2 : decode cX6_plan 2 = .ok (.iload_n 2, 1) := by decide +kernel
theorem dX6_plan_3 : decode cX6_plan 3 = .ok (.iload_n 3, 1) := by decide +kernel
theorem dX6_plan_4 : decode cX6_plan 4 = .ok (.invokevirtual 160, 3) := by decide +kernel
theorem dX6_plan_7 : decode cX6_plan 7 = .ok (.ifCond .ne 6, 3) := by decide +kernel
theorem dX6_plan_10 : decode cX6_plan 10 = .ok (.bipush (-2), 2) := by decide +kernel
theorem dX6_plan_12 : decode cX6_plan 12 = .ok (.ireturn, 1) := by decide +kernel
theorem dX6_plan_13 : decode cX6_plan 13 = .ok (.aload_n 0, 1) := by decide +kernel
theorem dX6_plan_14 : decode cX6_plan 14 = .ok (.getfield 16, 3) := by decide +kernel
theorem dX6_plan_17 : decode cX6_plan 17 = .ok (.iload_n 1, 1) := by decide +kernel
theorem dX6_plan_18 : decode cX6_plan 18 = .ok (.iaload, 1) := by decide +kernel
theorem dX6_plan_19 : decode cX6_plan 19 = .ok (.ifCond .ne 7, 3) := by decide +kernel
theorem dX6_plan_22 : decode cX6_plan 22 = .ok (.iconst (-1), 1) := by decide +kernel
theorem dX6_plan_23 : decode cX6_plan 23 = .ok (.goto 5, 3) := by decide +kernel
theorem dX6_plan_26 : decode cX6_plan 26 = .ok (.bipush 24, 2) := by decide +kernel
theorem dX6_plan_28 : decode cX6_plan 28 = .ok (.istore 4, 2) := by decide +kernel
theorem dX6_plan_30 : decode cX6_plan 30 = .ok (.iload 4, 2) := by decide +kernel
theorem dX6_plan_32 : decode cX6_plan 32 = .ok (.ifCond .lt 21, 3) := by decide +kernel
theorem dX6_plan_35 : decode cX6_plan 35 = .ok (.aload_n 0, 1) := by decide +kernel
theorem dX6_plan_36 : decode cX6_plan 36 = .ok (.iload_n 1, 1) := by decide +kernel
theorem dX6_plan_37 : decode cX6_plan 37 = .ok (.iload_n 2, 1) := by decide +kernel
theorem dX6_plan_38 : decode cX6_plan 38 = .ok (.iload_n 3, 1) := by decide +kernel
theorem dX6_plan_39 : decode cX6_plan 39 = .ok (.iload 4, 2) := by decide +kernel
theorem dX6_plan_41 : decode cX6_plan 41 = .ok (.invokevirtual 164, 3) := by decide +kernel
theorem dX6_plan_44 : decode cX6_plan 44 = .ok (.ifCond .ne 9, 3) := by decide +kernel
theorem dX6_plan_47 : decode cX6_plan 47 = .ok (.iinc 4 (-1), 3) := by decide +kernel
theorem dX6_plan_50 : decode cX6_plan 50 = .ok (.goto (-20), 3) := by decide +kernel
theorem dX6_plan_53 : decode cX6_plan 53 = .ok (.iload 4, 2) := by decide +kernel
theorem dX6_plan_55 : decode cX6_plan 55 = .ok (.ifCond .ge 8, 3) := by decide +kernel
theorem dX6_plan_58 : decode cX6_plan 58 = .ok (.bipush (-3), 2) := by decide +kernel
theorem dX6_plan_60 : decode cX6_plan 60 = .ok (.goto 12, 3) := by decide +kernel
theorem dX6_plan_63 : decode cX6_plan 63 = .ok (.aload_n 0, 1) := by decide +kernel
theorem dX6_plan_64 : decode cX6_plan 64 = .ok (.iload_n 1, 1) := by decide +kernel
theorem dX6_plan_65 : decode cX6_plan 65 = .ok (.iload_n 2, 1) := by decide +kernel
theorem dX6_plan_66 : decode cX6_plan 66 = .ok (.iload_n 3, 1) := by decide +kernel
theorem dX6_plan_67 : decode cX6_plan 67 = .ok (.iload 4, 2) := by decide +kernel
theorem dX6_plan_69 : decode cX6_plan 69 = .ok (.invokevirtual 168, 3) := by decide +kernel
theorem dX6_plan_72 : decode cX6_plan 72 = .ok (.ireturn, 1) := by decide +kernel
theorem dX6_planAt_0 : decode cX6_planAt 0 = .ok (.aload_n 0, 1) := by decide +kernel
theorem dX6_planAt_1 : decode cX6_planAt 1 = .ok (.iload_n 1, 1) := by decide +kernel
theorem dX6_planAt_2 : decode cX6_planAt 2 = .ok (.iload_n 2, 1) := by decide +kernel
theorem dX6_planAt_3 : decode cX6_planAt 3 = .ok (.iload_n 3, 1) := by decide +kernel
theorem dX6_planAt_4 : decode cX6_planAt 4 = .ok (.invokevirtual 160, 3) := by decide +kernel
theorem dX6_planAt_7 : decode cX6_planAt 7 = .ok (.ifCond .eq 16, 3) := by decide +kernel
theorem dX6_planAt_10 : decode cX6_planAt 10 = .ok (.iload 4, 2) := by decide +kernel
theorem dX6_planAt_12 : decode cX6_planAt 12 = .ok (.i2l, 1) := by decide +kernel
theorem dX6_planAt_13 : decode cX6_planAt 13 = .ok (.lconst 0, 1) := by decide +kernel
theorem dX6_planAt_14 : decode cX6_planAt 14 = .ok (.ldc2_w 172, 3) := by decide +kernel
theorem dX6_planAt_17 : decode cX6_planAt 17 = .ok (.invokestatic 97, 3) := by decide +kernel
theorem dX6_planAt_20 : decode cX6_planAt 20 = .ok (.ifCond .ne 6, 3) := by decide +kernel
theorem dX6_planAt_23 : decode cX6_planAt 23 = .ok (.bipush (-2), 2) := by decide +kernel
theorem dX6_planAt_25 : decode cX6_planAt 25 = .ok (.ireturn, 1) := by decide +kernel
theorem dX6_planAt_26 : decode cX6_planAt 26 = .ok (.aload_n 0, 1) := by decide +kernel
theorem dX6_planAt_27 : decode cX6_planAt 27 = .ok (.getfield 16, 3) := by decide +kernel
theorem dX6_planAt_30 : decode cX6_planAt 30 = .ok (.iload_n 1, 1) := by decide +kernel
theorem dX6_planAt_31 : decode cX6_planAt 31 = .ok (.iaload, 1) := by decide +kernel
theorem dX6_planAt_32 : decode cX6_planAt 32 = .ok (.ifCond .eq 15, 3) := by decide +kernel
theorem dX6_planAt_35 : decode cX6_planAt 35 = .ok (.aload_n 0, 1) := by decide +kernel
theorem dX6_planAt_36 : decode cX6_planAt 36 = .ok (.iload_n 1, 1) := by decide +kernel
theorem dX6_planAt_37 : decode cX6_planAt 37 = .ok (.iload_n 2, 1) := by decide +kernel
theorem dX6_planAt_38 : decode cX6_planAt 38 = .ok (.iload_n 3, 1) := by decide +kernel
theorem dX6_planAt_39 : decode cX6_planAt 39 = .ok (.iload 4, 2) := by decide +kernel
theorem dX6_planAt_41 : decode cX6_planAt 41 = .ok (.invokevirtual 164, 3) := by decide +kernel
theorem dX6_planAt_44 : decode cX6_planAt 44 = .ok (.ifCond .ne 8, 3) := by decide +kernel
theorem dX6_planAt_47 : decode cX6_planAt 47 = .ok (.bipush (-3), 2) := by decide +kernel
theorem dX6_planAt_49 : decode cX6_planAt 49 = .ok (.goto 12, 3) := by decide +kernel
theorem dX6_planAt_52 : decode cX6_planAt 52 = .ok (.aload_n 0, 1) := by decide +kernel
theorem dX6_planAt_53 : decode cX6_planAt 53 = .ok (.iload_n 1, 1) := by decide +kernel
theorem dX6_planAt_54 : decode cX6_planAt 54 = .ok (.iload_n 2, 1) := by decide +kernel
theorem dX6_planAt_55 : decode cX6_planAt 55 = .ok (.iload_n 3, 1) := by decide +kernel
theorem dX6_planAt_56 : decode cX6_planAt 56 = .ok (.iload 4, 2) := by decide +kernel
theorem dX6_planAt_58 : decode cX6_planAt 58 = .ok (.invokevirtual 168, 3) := by decide +kernel
theorem dX6_planAt_61 : decode cX6_planAt 61 = .ok (.ireturn, 1) := by decide +kernel
theorem dX6_coefficient_0 : decode cX6_coefficient 0 = .ok (.aload_n 0, 1) := by decide +kernel
theorem dX6_coefficient_1 : decode cX6_coefficient 1 = .ok (.iload_n 1, 1) := by decide +kernel
theorem dX6_coefficient_2 : decode cX6_coefficient 2 = .ok (.invokevirtual 118, 3) := by decide +kernel
theorem dX6_coefficient_5 : decode cX6_coefficient 5 = .ok (.ifCond .eq 44, 3) := by decide +kernel
theorem dX6_coefficient_8 : decode cX6_coefficient 8 = .ok (.aload_n 0, 1) := by decide +kernel
theorem dX6_coefficient_9 : decode cX6_coefficient 9 = .ok (.getfield 29, 3) := by decide +kernel
theorem dX6_coefficient_12 : decode cX6_coefficient 12 = .ok (.iload_n 1, 1) := by decide +kernel
theorem dX6_coefficient_13 : decode cX6_coefficient 13 = .ok (.baload, 1) := by decide +kernel
theorem dX6_coefficient_14 : decode cX6_coefficient 14 = .ok (.ifCond .eq 35, 3) := by decide +kernel
theorem dX6_coefficient_17 : decode cX6_coefficient 17 = .ok (.iload_n 2, 1) := by decide +kernel
theorem dX6_coefficient_18 : decode cX6_coefficient 18 = .ok (.i2l, 1) := by decide +kernel
theorem dX6_coefficient_19 : decode cX6_coefficient 19 = .ok (.lconst 0, 1) := by decide +kernel
theorem dX6_coefficient_20 : decode cX6_coefficient 20 = .ok (.aload_n 0, 1) := by decide +kernel
theorem dX6_coefficient_21 : decode cX6_coefficient 21 = .ok (.getfield 16, 3) := by decide +kernel
theorem dX6_coefficient_24 : decode cX6_coefficient 24 = .ok (.iload_n 1, 1) := by decide +kernel
theorem dX6_coefficient_25 : decode cX6_coefficient 25 = .ok (.iaload, 1) := by decide +kernel
theorem dX6_coefficient_26 : decode cX6_coefficient 26 = .ok (.iconst 1, 1) := by decide +kernel
theorem dX6_coefficient_27 : decode cX6_coefficient 27 = .ok (.isub, 1) := by decide +kernel
theorem dX6_coefficient_28 : decode cX6_coefficient 28 = .ok (.i2l, 1) := by decide +kernel
theorem dX6_coefficient_29 : decode cX6_coefficient 29 = .ok (.invokestatic 97, 3) := by decide +kernel
theorem dX6_coefficient_32 : decode cX6_coefficient 32 = .ok (.ifCond .eq 17, 3) := by decide +kernel
theorem dX6_coefficient_35 : decode cX6_coefficient 35 = .ok (.aload_n 0, 1) := by decide +kernel
theorem dX6_coefficient_36 : decode cX6_coefficient 36 = .ok (.getfield 41, 3) := by decide +kernel
theorem dX6_coefficient_39 : decode cX6_coefficient 39 = .ok (.bipush 32, 2) := by decide +kernel
theorem dX6_coefficient_41 : decode cX6_coefficient 41 = .ok (.iload_n 1, 1) := by decide +kernel
theorem dX6_coefficient_42 : decode cX6_coefficient 42 = .ok (.imul, 1) := by decide +kernel
theorem dX6_coefficient_43 : decode cX6_coefficient 43 = .ok (.iload_n 2, 1) := by decide +kernel
theorem dX6_coefficient_44 : decode cX6_coefficient 44 = .ok (.iadd, 1) := by decide +kernel
theorem dX6_coefficient_45 : decode cX6_coefficient 45 = .ok (.iaload, 1) := by decide +kernel
theorem dX6_coefficient_46 : decode cX6_coefficient 46 = .ok (.goto 5, 3) := by decide +kernel
theorem dX6_coefficient_49 : decode cX6_coefficient 49 = .ok (.ldc 129, 2) := by decide +kernel
theorem dX6_coefficient_51 : decode cX6_coefficient 51 = .ok (.ireturn, 1) := by decide +kernel
theorem dX6_mirrored_0 : decode cX6_mirrored 0 = .ok (.iconst 3, 1) := by decide +kernel
theorem dX6_mirrored_1 : decode cX6_mirrored 1 = .ok (.istore_n 2, 1) := by decide +kernel
theorem dX6_mirrored_2 : decode cX6_mirrored 2 = .ok (.iconst 0, 1) := by decide +kernel
theorem dX6_mirrored_3 : decode cX6_mirrored 3 = .ok (.istore_n 3, 1) := by decide +kernel
theorem dX6_mirrored_4 : decode cX6_mirrored 4 = .ok (.iload_n 3, 1) := by decide +kernel
theorem dX6_mirrored_5 : decode cX6_mirrored 5 = .ok (.aload_n 0, 1) := by decide +kernel
theorem dX6_mirrored_6 : decode cX6_mirrored 6 = .ok (.getfield 16, 3) := by decide +kernel
theorem dX6_mirrored_9 : decode cX6_mirrored 9 = .ok (.iload_n 1, 1) := by decide +kernel
theorem dX6_mirrored_10 : decode cX6_mirrored 10 = .ok (.iaload, 1) := by decide +kernel
theorem dX6_mirrored_11 : decode cX6_mirrored 11 = .ok (.if_icmp .ge 73, 3) := by decide +kernel
theorem dX6_mirrored_14 : decode cX6_mirrored 14 = .ok (.aload_n 0, 1) := by decide +kernel
theorem dX6_mirrored_15 : decode cX6_mirrored 15 = .ok (.getfield 19, 3) := by decide +kernel
theorem dX6_mirrored_18 : decode cX6_mirrored 18 = .ok (.bipush 32, 2) := by decide +kernel
theorem dX6_mirrored_20 : decode cX6_mirrored 20 = .ok (.iload_n 1, 1) := by decide +kernel
theorem dX6_mirrored_21 : decode cX6_mirrored 21 = .ok (.imul, 1) := by decide +kernel
theorem dX6_mirrored_22 : decode cX6_mirrored 22 = .ok (.iload_n 3, 1) := by decide +kernel
theorem dX6_mirrored_23 : decode cX6_mirrored 23 = .ok (.iadd, 1) := by decide +kernel
theorem dX6_mirrored_24 : decode cX6_mirrored 24 = .ok (.iaload, 1) := by decide +kernel
theorem dX6_mirrored_25 : decode cX6_mirrored 25 = .ok (.istore 4, 2) := by decide +kernel
theorem dX6_mirrored_27 : decode cX6_mirrored 27 = .ok (.aload_n 0, 1) := by decide +kernel
theorem dX6_mirrored_28 : decode cX6_mirrored 28 = .ok (.getfield 19, 3) := by decide +kernel
theorem dX6_mirrored_31 : decode cX6_mirrored 31 = .ok (.bipush 32, 2) := by decide +kernel
theorem dX6_mirrored_33 : decode cX6_mirrored 33 = .ok (.iload_n 1, 1) := by decide +kernel
theorem dX6_mirrored_34 : decode cX6_mirrored 34 = .ok (.imul, 1) := by decide +kernel
theorem dX6_mirrored_35 : decode cX6_mirrored 35 = .ok (.aload_n 0, 1) := by decide +kernel
theorem dX6_mirrored_36 : decode cX6_mirrored 36 = .ok (.getfield 16, 3) := by decide +kernel
theorem dX6_mirrored_39 : decode cX6_mirrored 39 = .ok (.iload_n 1, 1) := by decide +kernel
theorem dX6_mirrored_40 : decode cX6_mirrored 40 = .ok (.iaload, 1) := by decide +kernel
theorem dX6_mirrored_41 : decode cX6_mirrored 41 = .ok (.iadd, 1) := by decide +kernel
theorem dX6_mirrored_42 : decode cX6_mirrored 42 = .ok (.iconst 1, 1) := by decide +kernel
theorem dX6_mirrored_43 : decode cX6_mirrored 43 = .ok (.isub, 1) := by decide +kernel
theorem dX6_mirrored_44 : decode cX6_mirrored 44 = .ok (.iload_n 3, 1) := by decide +kernel
theorem dX6_mirrored_45 : decode cX6_mirrored 45 = .ok (.isub, 1) := by decide +kernel
theorem dX6_mirrored_46 : decode cX6_mirrored 46 = .ok (.iaload, 1) := by decide +kernel
theorem dX6_mirrored_47 : decode cX6_mirrored 47 = .ok (.istore 5, 2) := by decide +kernel
theorem dX6_mirrored_49 : decode cX6_mirrored 49 = .ok (.iload_n 2, 1) := by decide +kernel
theorem dX6_mirrored_50 : decode cX6_mirrored 50 = .ok (.iload 4, 2) := by decide +kernel
theorem dX6_mirrored_52 : decode cX6_mirrored 52 = .ok (.iload 5, 2) := by decide +kernel
theorem dX6_mirrored_54 : decode cX6_mirrored 54 = .ok (.if_icmp .ne 7, 3) := by decide +kernel
theorem dX6_mirrored_57 : decode cX6_mirrored 57 = .ok (.iconst 1, 1) := by decide +kernel
theorem dX6_mirrored_58 : decode cX6_mirrored 58 = .ok (.goto 4, 3) := by decide +kernel
theorem dX6_mirrored_61 : decode cX6_mirrored 61 = .ok (.iconst 0, 1) := by decide +kernel
theorem dX6_mirrored_62 : decode cX6_mirrored 62 = .ok (.iload 4, 2) := by decide +kernel
theorem dX6_mirrored_64 : decode cX6_mirrored 64 = .ok (.iload 5, 2) := by decide +kernel
theorem dX6_mirrored_66 : decode cX6_mirrored 66 = .ok (.ineg, 1) := by decide +kernel
theorem dX6_mirrored_67 : decode cX6_mirrored 67 = .ok (.if_icmp .ne 7, 3) := by decide +kernel
theorem dX6_mirrored_70 : decode cX6_mirrored 70 = .ok (.iconst 2, 1) := by decide +kernel
theorem dX6_mirrored_71 : decode cX6_mirrored 71 = .ok (.goto 4, 3) := by decide +kernel
theorem dX6_mirrored_74 : decode cX6_mirrored 74 = .ok (.iconst 0, 1) := by decide +kernel
theorem dX6_mirrored_75 : decode cX6_mirrored 75 = .ok (.ior, 1) := by decide +kernel
theorem dX6_mirrored_76 : decode cX6_mirrored 76 = .ok (.iand, 1) := by decide +kernel
theorem dX6_mirrored_77 : decode cX6_mirrored 77 = .ok (.istore_n 2, 1) := by decide +kernel
theorem dX6_mirrored_78 : decode cX6_mirrored 78 = .ok (.iinc 3 1, 3) := by decide +kernel
theorem dX6_mirrored_81 : decode cX6_mirrored 81 = .ok (.goto (-77), 3) := by decide +kernel
theorem dX6_mirrored_84 : decode cX6_mirrored 84 = .ok (.iload_n 2, 1) := by decide +kernel
theorem dX6_mirrored_85 : decode cX6_mirrored 85 = .ok (.ireturn, 1) := by decide +kernel
theorem dX6_aboutOf_0 : decode cX6_aboutOf 0 = .ok (.iload_n 2, 1) := by decide +kernel
theorem dX6_aboutOf_1 : decode cX6_aboutOf 1 = .ok (.tableswitch 160 0 8 #[51, 58, 65, 72, 79, 94, 114, 134, 154], 51) := by decide +kernel
theorem dX6_aboutOf_52 : decode cX6_aboutOf 52 = .ok (.aload_n 0, 1) := by decide +kernel
theorem dX6_aboutOf_53 : decode cX6_aboutOf 53 = .ok (.getfield 16, 3) := by decide +kernel
theorem dX6_aboutOf_56 : decode cX6_aboutOf 56 = .ok (.iload_n 1, 1) := by decide +kernel
theorem dX6_aboutOf_57 : decode cX6_aboutOf 57 = .ok (.iaload, 1) := by decide +kernel
theorem dX6_aboutOf_58 : decode cX6_aboutOf 58 = .ok (.ireturn, 1) := by decide +kernel
theorem dX6_aboutOf_59 : decode cX6_aboutOf 59 = .ok (.aload_n 0, 1) := by decide +kernel
theorem dX6_aboutOf_60 : decode cX6_aboutOf 60 = .ok (.getfield 7, 3) := by decide +kernel
theorem dX6_aboutOf_63 : decode cX6_aboutOf 63 = .ok (.iload_n 1, 1) := by decide +kernel
theorem dX6_aboutOf_64 : decode cX6_aboutOf 64 = .ok (.iaload, 1) := by decide +kernel
theorem dX6_aboutOf_65 : decode cX6_aboutOf 65 = .ok (.ireturn, 1) := by decide +kernel
theorem dX6_aboutOf_66 : decode cX6_aboutOf 66 = .ok (.aload_n 0, 1) := by decide +kernel
theorem dX6_aboutOf_67 : decode cX6_aboutOf 67 = .ok (.getfield 13, 3) := by decide +kernel
theorem dX6_aboutOf_70 : decode cX6_aboutOf 70 = .ok (.iload_n 1, 1) := by decide +kernel
theorem dX6_aboutOf_71 : decode cX6_aboutOf 71 = .ok (.iaload, 1) := by decide +kernel
theorem dX6_aboutOf_72 : decode cX6_aboutOf 72 = .ok (.ireturn, 1) := by decide +kernel
theorem dX6_aboutOf_73 : decode cX6_aboutOf 73 = .ok (.aload_n 0, 1) := by decide +kernel
theorem dX6_aboutOf_74 : decode cX6_aboutOf 74 = .ok (.getfield 22, 3) := by decide +kernel
theorem dX6_aboutOf_77 : decode cX6_aboutOf 77 = .ok (.iload_n 1, 1) := by decide +kernel
theorem dX6_aboutOf_78 : decode cX6_aboutOf 78 = .ok (.iaload, 1) := by decide +kernel
theorem dX6_aboutOf_79 : decode cX6_aboutOf 79 = .ok (.ireturn, 1) := by decide +kernel
theorem dX6_aboutOf_80 : decode cX6_aboutOf 80 = .ok (.aload_n 0, 1) := by decide +kernel
theorem dX6_aboutOf_81 : decode cX6_aboutOf 81 = .ok (.getfield 25, 3) := by decide +kernel
theorem dX6_aboutOf_84 : decode cX6_aboutOf 84 = .ok (.iload_n 1, 1) := by decide +kernel
theorem dX6_aboutOf_85 : decode cX6_aboutOf 85 = .ok (.baload, 1) := by decide +kernel
theorem dX6_aboutOf_86 : decode cX6_aboutOf 86 = .ok (.ifCond .eq 7, 3) := by decide +kernel
theorem dX6_aboutOf_89 : decode cX6_aboutOf 89 = .ok (.iconst 1, 1) := by decide +kernel
theorem dX6_aboutOf_90 : decode cX6_aboutOf 90 = .ok (.goto 4, 3) := by decide +kernel
theorem dX6_aboutOf_93 : decode cX6_aboutOf 93 = .ok (.iconst 0, 1) := by decide +kernel
theorem dX6_aboutOf_94 : decode cX6_aboutOf 94 = .ok (.ireturn, 1) := by decide +kernel
theorem dX6_aboutOf_95 : decode cX6_aboutOf 95 = .ok (.aload_n 0, 1) := by decide +kernel
theorem dX6_aboutOf_96 : decode cX6_aboutOf 96 = .ok (.getfield 29, 3) := by decide +kernel
theorem dX6_aboutOf_99 : decode cX6_aboutOf 99 = .ok (.iload_n 1, 1) := by decide +kernel
theorem dX6_aboutOf_100 : decode cX6_aboutOf 100 = .ok (.baload, 1) := by decide +kernel
theorem dX6_aboutOf_101 : decode cX6_aboutOf 101 = .ok (.ifCond .eq 12, 3) := by decide +kernel
theorem dX6_aboutOf_104 : decode cX6_aboutOf 104 = .ok (.aload_n 0, 1) := by decide +kernel
theorem dX6_aboutOf_105 : decode cX6_aboutOf 105 = .ok (.getfield 38, 3) := by decide +kernel
theorem dX6_aboutOf_108 : decode cX6_aboutOf 108 = .ok (.iload_n 1, 1) := by decide +kernel
theorem dX6_aboutOf_109 : decode cX6_aboutOf 109 = .ok (.iaload, 1) := by decide +kernel
theorem dX6_aboutOf_110 : decode cX6_aboutOf 110 = .ok (.goto 4, 3) := by decide +kernel
theorem dX6_aboutOf_113 : decode cX6_aboutOf 113 = .ok (.iconst (-1), 1) := by decide +kernel
theorem dX6_aboutOf_114 : decode cX6_aboutOf 114 = .ok (.ireturn, 1) := by decide +kernel
theorem dX6_aboutOf_115 : decode cX6_aboutOf 115 = .ok (.aload_n 0, 1) := by decide +kernel
theorem dX6_aboutOf_116 : decode cX6_aboutOf 116 = .ok (.getfield 29, 3) := by decide +kernel
theorem dX6_aboutOf_119 : decode cX6_aboutOf 119 = .ok (.iload_n 1, 1) := by decide +kernel
theorem dX6_aboutOf_120 : decode cX6_aboutOf 120 = .ok (.baload, 1) := by decide +kernel
theorem dX6_aboutOf_121 : decode cX6_aboutOf 121 = .ok (.ifCond .eq 12, 3) := by decide +kernel
theorem dX6_aboutOf_124 : decode cX6_aboutOf 124 = .ok (.aload_n 0, 1) := by decide +kernel
theorem dX6_aboutOf_125 : decode cX6_aboutOf 125 = .ok (.getfield 32, 3) := by decide +kernel
theorem dX6_aboutOf_128 : decode cX6_aboutOf 128 = .ok (.iload_n 1, 1) := by decide +kernel
theorem dX6_aboutOf_129 : decode cX6_aboutOf 129 = .ok (.iaload, 1) := by decide +kernel
theorem dX6_aboutOf_130 : decode cX6_aboutOf 130 = .ok (.goto 4, 3) := by decide +kernel
theorem dX6_aboutOf_133 : decode cX6_aboutOf 133 = .ok (.iconst (-1), 1) := by decide +kernel
theorem dX6_aboutOf_134 : decode cX6_aboutOf 134 = .ok (.ireturn, 1) := by decide +kernel
theorem dX6_aboutOf_135 : decode cX6_aboutOf 135 = .ok (.aload_n 0, 1) := by decide +kernel
theorem dX6_aboutOf_136 : decode cX6_aboutOf 136 = .ok (.getfield 29, 3) := by decide +kernel
theorem dX6_aboutOf_139 : decode cX6_aboutOf 139 = .ok (.iload_n 1, 1) := by decide +kernel
theorem dX6_aboutOf_140 : decode cX6_aboutOf 140 = .ok (.baload, 1) := by decide +kernel
theorem dX6_aboutOf_141 : decode cX6_aboutOf 141 = .ok (.ifCond .eq 12, 3) := by decide +kernel
theorem dX6_aboutOf_144 : decode cX6_aboutOf 144 = .ok (.aload_n 0, 1) := by decide +kernel
theorem dX6_aboutOf_145 : decode cX6_aboutOf 145 = .ok (.getfield 35, 3) := by decide +kernel
theorem dX6_aboutOf_148 : decode cX6_aboutOf 148 = .ok (.iload_n 1, 1) := by decide +kernel
theorem dX6_aboutOf_149 : decode cX6_aboutOf 149 = .ok (.iaload, 1) := by decide +kernel
theorem dX6_aboutOf_150 : decode cX6_aboutOf 150 = .ok (.goto 4, 3) := by decide +kernel
theorem dX6_aboutOf_153 : decode cX6_aboutOf 153 = .ok (.iconst (-1), 1) := by decide +kernel
theorem dX6_aboutOf_154 : decode cX6_aboutOf 154 = .ok (.ireturn, 1) := by decide +kernel
theorem dX6_aboutOf_155 : decode cX6_aboutOf 155 = .ok (.aload_n 0, 1) := by decide +kernel
theorem dX6_aboutOf_156 : decode cX6_aboutOf 156 = .ok (.iload_n 1, 1) := by decide +kernel
theorem dX6_aboutOf_157 : decode cX6_aboutOf 157 = .ok (.invokevirtual 112, 3) := by decide +kernel
theorem dX6_aboutOf_160 : decode cX6_aboutOf 160 = .ok (.ireturn, 1) := by decide +kernel
theorem dX6_aboutOf_161 : decode cX6_aboutOf 161 = .ok (.aload_n 0, 1) := by decide +kernel
theorem dX6_aboutOf_162 : decode cX6_aboutOf 162 = .ok (.iload_n 1, 1) := by decide +kernel
theorem dX6_aboutOf_163 : decode cX6_aboutOf 163 = .ok (.invokevirtual 174, 3) := by decide +kernel
theorem dX6_aboutOf_166 : decode cX6_aboutOf 166 = .ok (.ireturn, 1) := by decide +kernel
theorem dX6_about_0 : decode cX6_about 0 = .ok (.aload_n 0, 1) := by decide +kernel
theorem dX6_about_1 : decode cX6_about 1 = .ok (.iload_n 1, 1) := by decide +kernel
theorem dX6_about_2 : decode cX6_about 2 = .ok (.invokevirtual 118, 3) := by decide +kernel
theorem dX6_about_5 : decode cX6_about 5 = .ok (.ifCond .eq 24, 3) := by decide +kernel
theorem dX6_about_8 : decode cX6_about 8 = .ok (.iload_n 2, 1) := by decide +kernel
theorem dX6_about_9 : decode cX6_about 9 = .ok (.i2l, 1) := by decide +kernel
theorem dX6_about_10 : decode cX6_about 10 = .ok (.lconst 0, 1) := by decide +kernel
theorem dX6_about_11 : decode cX6_about 11 = .ok (.ldc2_w 177, 3) := by decide +kernel
theorem dX6_about_14 : decode cX6_about 14 = .ok (.invokestatic 97, 3) := by decide +kernel
theorem dX6_about_17 : decode cX6_about 17 = .ok (.ifCond .eq 12, 3) := by decide +kernel
theorem dX6_about_20 : decode cX6_about 20 = .ok (.aload_n 0, 1) := by decide +kernel
theorem dX6_about_21 : decode cX6_about 21 = .ok (.iload_n 1, 1) := by decide +kernel
theorem dX6_about_22 : decode cX6_about 22 = .ok (.iload_n 2, 1) := by decide +kernel
theorem dX6_about_23 : decode cX6_about 23 = .ok (.invokevirtual 179, 3) := by decide +kernel
theorem dX6_about_26 : decode cX6_about 26 = .ok (.goto 5, 3) := by decide +kernel
theorem dX6_about_29 : decode cX6_about 29 = .ok (.bipush (-2), 2) := by decide +kernel
theorem dX6_about_31 : decode cX6_about 31 = .ok (.ireturn, 1) := by decide +kernel
theorem dX6_normOf_0 : decode cX6_normOf 0 = .ok (.lconst 0, 1) := by decide +kernel
theorem dX6_normOf_1 : decode cX6_normOf 1 = .ok (.lstore_n 2, 1) := by decide +kernel
theorem dX6_normOf_2 : decode cX6_normOf 2 = .ok (.iconst 0, 1) := by decide +kernel
theorem dX6_normOf_3 : decode cX6_normOf 3 = .ok (.istore 4, 2) := by decide +kernel
theorem dX6_normOf_5 : decode cX6_normOf 5 = .ok (.iload 4, 2) := by decide +kernel
theorem dX6_normOf_7 : decode cX6_normOf 7 = .ok (.aload_n 0, 1) := by decide +kernel
theorem dX6_normOf_8 : decode cX6_normOf 8 = .ok (.getfield 16, 3) := by decide +kernel
theorem dX6_normOf_11 : decode cX6_normOf 11 = .ok (.iload_n 1, 1) := by decide +kernel
theorem dX6_normOf_12 : decode cX6_normOf 12 = .ok (.iaload, 1) := by decide +kernel
theorem dX6_normOf_13 : decode cX6_normOf 13 = .ok (.if_icmp .ge 28, 3) := by decide +kernel
theorem dX6_normOf_16 : decode cX6_normOf 16 = .ok (.lload_n 2, 1) := by decide +kernel
theorem dX6_normOf_17 : decode cX6_normOf 17 = .ok (.aload_n 0, 1) := by decide +kernel
theorem dX6_normOf_18 : decode cX6_normOf 18 = .ok (.getfield 41, 3) := by decide +kernel
theorem dX6_normOf_21 : decode cX6_normOf 21 = .ok (.bipush 32, 2) := by decide +kernel
theorem dX6_normOf_23 : decode cX6_normOf 23 = .ok (.iload_n 1, 1) := by decide +kernel
theorem dX6_normOf_24 : decode cX6_normOf 24 = .ok (.imul, 1) := by decide +kernel
theorem dX6_normOf_25 : decode cX6_normOf 25 = .ok (.iload 4, 2) := by decide +kernel
theorem dX6_normOf_27 : decode cX6_normOf 27 = .ok (.iadd, 1) := by decide +kernel
theorem dX6_normOf_28 : decode cX6_normOf 28 = .ok (.iaload, 1) := by decide +kernel
theorem dX6_normOf_29 : decode cX6_normOf 29 = .ok (.i2l, 1) := by decide +kernel
theorem dX6_normOf_30 : decode cX6_normOf 30 = .ok (.invokestatic 145, 3) := by decide +kernel
theorem dX6_normOf_33 : decode cX6_normOf 33 = .ok (.ladd, 1) := by decide +kernel
theorem dX6_normOf_34 : decode cX6_normOf 34 = .ok (.lstore_n 2, 1) := by decide +kernel
theorem dX6_normOf_35 : decode cX6_normOf 35 = .ok (.iinc 4 1, 3) := by decide +kernel
theorem dX6_normOf_38 : decode cX6_normOf 38 = .ok (.goto (-33), 3) := by decide +kernel
theorem dX6_normOf_41 : decode cX6_normOf 41 = .ok (.lload_n 2, 1) := by decide +kernel
theorem dX6_normOf_42 : decode cX6_normOf 42 = .ok (.lreturn, 1) := by decide +kernel
theorem dX6_norm_0 : decode cX6_norm 0 = .ok (.aload_n 0, 1) := by decide +kernel
theorem dX6_norm_1 : decode cX6_norm 1 = .ok (.iload_n 1, 1) := by decide +kernel
theorem dX6_norm_2 : decode cX6_norm 2 = .ok (.invokevirtual 118, 3) := by decide +kernel
theorem dX6_norm_5 : decode cX6_norm 5 = .ok (.ifCond .eq 20, 3) := by decide +kernel
theorem dX6_norm_8 : decode cX6_norm 8 = .ok (.aload_n 0, 1) := by decide +kernel
theorem dX6_norm_9 : decode cX6_norm 9 = .ok (.getfield 29, 3) := by decide +kernel
theorem dX6_norm_12 : decode cX6_norm 12 = .ok (.iload_n 1, 1) := by decide +kernel
theorem dX6_norm_13 : decode cX6_norm 13 = .ok (.baload, 1) := by decide +kernel
theorem dX6_norm_14 : decode cX6_norm 14 = .ok (.ifCond .eq 11, 3) := by decide +kernel
theorem dX6_norm_17 : decode cX6_norm 17 = .ok (.aload_n 0, 1) := by decide +kernel
theorem dX6_norm_18 : decode cX6_norm 18 = .ok (.iload_n 1, 1) := by decide +kernel
theorem dX6_norm_19 : decode cX6_norm 19 = .ok (.invokevirtual 183, 3) := by decide +kernel
theorem dX6_norm_22 : decode cX6_norm 22 = .ok (.goto 6, 3) := by decide +kernel
theorem dX6_norm_25 : decode cX6_norm 25 = .ok (.ldc2_w 107, 3) := by decide +kernel
theorem dX6_norm_28 : decode cX6_norm 28 = .ok (.lreturn, 1) := by decide +kernel
theorem dX6_round_0 : decode cX6_round 0 = .ok (.lconst 1, 1) := by decide +kernel
theorem dX6_round_1 : decode cX6_round 1 = .ok (.iload_n 2, 1) := by decide +kernel
theorem dX6_round_2 : decode cX6_round 2 = .ok (.lshl, 1) := by decide +kernel
theorem dX6_round_3 : decode cX6_round 3 = .ok (.lstore 4, 2) := by decide +kernel
theorem dX6_round_5 : decode cX6_round 5 = .ok (.iload_n 3, 1) := by decide +kernel
theorem dX6_round_6 : decode cX6_round 6 = .ok (.tableswitch 56 0 2 #[26, 33, 38], 26) := by decide +kernel
theorem dX6_round_32 : decode cX6_round 32 = .ok (.lload_n 0, 1) := by decide +kernel
theorem dX6_round_33 : decode cX6_round 33 = .ok (.lload 4, 2) := by decide +kernel
theorem dX6_round_35 : decode cX6_round 35 = .ok (.invokestatic 132, 3) := by decide +kernel
theorem dX6_round_38 : decode cX6_round 38 = .ok (.lreturn, 1) := by decide +kernel
theorem dX6_round_39 : decode cX6_round 39 = .ok (.lload_n 0, 1) := by decide +kernel
theorem dX6_round_40 : decode cX6_round 40 = .ok (.lload 4, 2) := by decide +kernel
theorem dX6_round_42 : decode cX6_round 42 = .ok (.ldiv, 1) := by decide +kernel
theorem dX6_round_43 : decode cX6_round 43 = .ok (.lreturn, 1) := by decide +kernel
theorem dX6_round_44 : decode cX6_round 44 = .ok (.ldc2_w 136, 3) := by decide +kernel
theorem dX6_round_47 : decode cX6_round 47 = .ok (.lload_n 0, 1) := by decide +kernel
theorem dX6_round_48 : decode cX6_round 48 = .ok (.lmul, 1) := by decide +kernel
theorem dX6_round_49 : decode cX6_round 49 = .ok (.lload 4, 2) := by decide +kernel
theorem dX6_round_51 : decode cX6_round 51 = .ok (.ladd, 1) := by decide +kernel
theorem dX6_round_52 : decode cX6_round 52 = .ok (.ldc2_w 136, 3) := by decide +kernel
theorem dX6_round_55 : decode cX6_round 55 = .ok (.lload 4, 2) := by decide +kernel
theorem dX6_round_57 : decode cX6_round 57 = .ok (.lmul, 1) := by decide +kernel
theorem dX6_round_58 : decode cX6_round 58 = .ok (.invokestatic 132, 3) := by decide +kernel
theorem dX6_round_61 : decode cX6_round 61 = .ok (.lreturn, 1) := by decide +kernel
theorem dX6_round_62 : decode cX6_round 62 = .ok (.lload_n 0, 1) := by decide +kernel
theorem dX6_round_63 : decode cX6_round 63 = .ok (.lload 4, 2) := by decide +kernel
theorem dX6_round_65 : decode cX6_round 65 = .ok (.invokestatic 138, 3) := by decide +kernel
theorem dX6_round_68 : decode cX6_round 68 = .ok (.lreturn, 1) := by decide +kernel
theorem dX6_comes_0 : decode cX6_comes 0 = .ok (.bipush 31, 2) := by decide +kernel
theorem dX6_comes_2 : decode cX6_comes 2 = .ok (.istore_n 3, 1) := by decide +kernel
theorem dX6_comes_3 : decode cX6_comes 3 = .ok (.iload_n 3, 1) := by decide +kernel
theorem dX6_comes_4 : decode cX6_comes 4 = .ok (.ifCond .le 33, 3) := by decide +kernel
theorem dX6_comes_7 : decode cX6_comes 7 = .ok (.aload_n 0, 1) := by decide +kernel
theorem dX6_comes_8 : decode cX6_comes 8 = .ok (.getfield 44, 3) := by decide +kernel
theorem dX6_comes_11 : decode cX6_comes 11 = .ok (.bipush 32, 2) := by decide +kernel
theorem dX6_comes_13 : decode cX6_comes 13 = .ok (.iload_n 1, 1) := by decide +kernel
theorem dX6_comes_14 : decode cX6_comes 14 = .ok (.imul, 1) := by decide +kernel
theorem dX6_comes_15 : decode cX6_comes 15 = .ok (.iload_n 3, 1) := by decide +kernel
theorem dX6_comes_16 : decode cX6_comes 16 = .ok (.iadd, 1) := by decide +kernel
theorem dX6_comes_17 : decode cX6_comes 17 = .ok (.aload_n 0, 1) := by decide +kernel
theorem dX6_comes_18 : decode cX6_comes 18 = .ok (.getfield 44, 3) := by decide +kernel
theorem dX6_comes_21 : decode cX6_comes 21 = .ok (.bipush 32, 2) := by decide +kernel
theorem dX6_comes_23 : decode cX6_comes 23 = .ok (.iload_n 1, 1) := by decide +kernel
theorem dX6_comes_24 : decode cX6_comes 24 = .ok (.imul, 1) := by decide +kernel
theorem dX6_comes_25 : decode cX6_comes 25 = .ok (.iload_n 3, 1) := by decide +kernel
theorem dX6_comes_26 : decode cX6_comes 26 = .ok (.iadd, 1) := by decide +kernel
theorem dX6_comes_27 : decode cX6_comes 27 = .ok (.iconst 1, 1) := by decide +kernel
theorem dX6_comes_28 : decode cX6_comes 28 = .ok (.isub, 1) := by decide +kernel
theorem dX6_comes_29 : decode cX6_comes 29 = .ok (.iaload, 1) := by decide +kernel
theorem dX6_comes_30 : decode cX6_comes 30 = .ok (.iastore, 1) := by decide +kernel
theorem dX6_comes_31 : decode cX6_comes 31 = .ok (.iinc 3 (-1), 3) := by decide +kernel
theorem dX6_comes_34 : decode cX6_comes 34 = .ok (.goto (-31), 3) := by decide +kernel
theorem dX6_comes_37 : decode cX6_comes 37 = .ok (.aload_n 0, 1) := by decide +kernel
theorem dX6_comes_38 : decode cX6_comes 38 = .ok (.getfield 44, 3) := by decide +kernel
theorem dX6_comes_41 : decode cX6_comes 41 = .ok (.bipush 32, 2) := by decide +kernel
theorem dX6_comes_43 : decode cX6_comes 43 = .ok (.iload_n 1, 1) := by decide +kernel
theorem dX6_comes_44 : decode cX6_comes 44 = .ok (.imul, 1) := by decide +kernel
theorem dX6_comes_45 : decode cX6_comes 45 = .ok (.iload_n 2, 1) := by decide +kernel
theorem dX6_comes_46 : decode cX6_comes 46 = .ok (.iastore, 1) := by decide +kernel
theorem dX6_comes_47 : decode cX6_comes 47 = .ok (.lconst 0, 1) := by decide +kernel
theorem dX6_comes_48 : decode cX6_comes 48 = .ok (.lstore_n 3, 1) := by decide +kernel
theorem dX6_comes_49 : decode cX6_comes 49 = .ok (.lconst 0, 1) := by decide +kernel
theorem dX6_comes_50 : decode cX6_comes 50 = .ok (.lstore 5, 2) := by decide +kernel
theorem dX6_comes_52 : decode cX6_comes 52 = .ok (.lconst 0, 1) := by decide +kernel
theorem dX6_comes_53 : decode cX6_comes 53 = .ok (.lstore 7, 2) := by decide +kernel
theorem dX6_comes_55 : decode cX6_comes 55 = .ok (.iconst 0, 1) := by decide +kernel
theorem dX6_comes_56 : decode cX6_comes 56 = .ok (.istore 9, 2) := by decide +kernel
theorem dX6_comes_58 : decode cX6_comes 58 = .ok (.iload 9, 2) := by decide +kernel
theorem dX6_comes_60 : decode cX6_comes 60 = .ok (.aload_n 0, 1) := by decide +kernel
theorem dX6_comes_61 : decode cX6_comes 61 = .ok (.getfield 16, 3) := by decide +kernel
theorem dX6_comes_64 : decode cX6_comes 64 = .ok (.iload_n 1, 1) := by decide +kernel
theorem dX6_comes_65 : decode cX6_comes 65 = .ok (.iaload, 1) := by decide +kernel
theorem dX6_comes_66 : decode cX6_comes 66 = .ok (.if_icmp .ge 74, 3) := by decide +kernel
theorem dX6_comes_69 : decode cX6_comes 69 = .ok (.aload_n 0, 1) := by decide +kernel
theorem dX6_comes_70 : decode cX6_comes 70 = .ok (.getfield 44, 3) := by decide +kernel
theorem dX6_comes_73 : decode cX6_comes 73 = .ok (.bipush 32, 2) := by decide +kernel
theorem dX6_comes_75 : decode cX6_comes 75 = .ok (.iload_n 1, 1) := by decide +kernel
theorem dX6_comes_76 : decode cX6_comes 76 = .ok (.imul, 1) := by decide +kernel
theorem dX6_comes_77 : decode cX6_comes 77 = .ok (.iload 9, 2) := by decide +kernel
theorem dX6_comes_79 : decode cX6_comes 79 = .ok (.iadd, 1) := by decide +kernel
theorem dX6_comes_80 : decode cX6_comes 80 = .ok (.iaload, 1) := by decide +kernel
theorem dX6_comes_81 : decode cX6_comes 81 = .ok (.i2l, 1) := by decide +kernel
theorem dX6_comes_82 : decode cX6_comes 82 = .ok (.lstore 10, 2) := by decide +kernel
theorem dX6_comes_84 : decode cX6_comes 84 = .ok (.lload_n 3, 1) := by decide +kernel
theorem dX6_comes_85 : decode cX6_comes 85 = .ok (.lload 10, 2) := by decide +kernel
theorem dX6_comes_87 : decode cX6_comes 87 = .ok (.aload_n 0, 1) := by decide +kernel
theorem dX6_comes_88 : decode cX6_comes 88 = .ok (.getfield 41, 3) := by decide +kernel
theorem dX6_comes_91 : decode cX6_comes 91 = .ok (.bipush 32, 2) := by decide +kernel
theorem dX6_comes_93 : decode cX6_comes 93 = .ok (.iload_n 1, 1) := by decide +kernel
theorem dX6_comes_94 : decode cX6_comes 94 = .ok (.imul, 1) := by decide +kernel
theorem dX6_comes_95 : decode cX6_comes 95 = .ok (.iload 9, 2) := by decide +kernel
theorem dX6_comes_97 : decode cX6_comes 97 = .ok (.iadd, 1) := by decide +kernel
theorem dX6_comes_98 : decode cX6_comes 98 = .ok (.iaload, 1) := by decide +kernel
theorem dX6_comes_99 : decode cX6_comes 99 = .ok (.i2l, 1) := by decide +kernel
theorem dX6_comes_100 : decode cX6_comes 100 = .ok (.lmul, 1) := by decide +kernel
theorem dX6_comes_101 : decode cX6_comes 101 = .ok (.ladd, 1) := by decide +kernel
theorem dX6_comes_102 : decode cX6_comes 102 = .ok (.lstore_n 3, 1) := by decide +kernel
theorem dX6_comes_103 : decode cX6_comes 103 = .ok (.lload 5, 2) := by decide +kernel
theorem dX6_comes_105 : decode cX6_comes 105 = .ok (.lload 10, 2) := by decide +kernel
theorem dX6_comes_107 : decode cX6_comes 107 = .ok (.aload_n 0, 1) := by decide +kernel
theorem dX6_comes_108 : decode cX6_comes 108 = .ok (.getfield 19, 3) := by decide +kernel
theorem dX6_comes_111 : decode cX6_comes 111 = .ok (.bipush 32, 2) := by decide +kernel
theorem dX6_comes_113 : decode cX6_comes 113 = .ok (.iload_n 1, 1) := by decide +kernel
theorem dX6_comes_114 : decode cX6_comes 114 = .ok (.imul, 1) := by decide +kernel
theorem dX6_comes_115 : decode cX6_comes 115 = .ok (.iload 9, 2) := by decide +kernel
theorem dX6_comes_117 : decode cX6_comes 117 = .ok (.iadd, 1) := by decide +kernel
theorem dX6_comes_118 : decode cX6_comes 118 = .ok (.iaload, 1) := by decide +kernel
theorem dX6_comes_119 : decode cX6_comes 119 = .ok (.i2l, 1) := by decide +kernel
theorem dX6_comes_120 : decode cX6_comes 120 = .ok (.lmul, 1) := by decide +kernel
theorem dX6_comes_121 : decode cX6_comes 121 = .ok (.ladd, 1) := by decide +kernel
theorem dX6_comes_122 : decode cX6_comes 122 = .ok (.lstore 5, 2) := by decide +kernel
theorem dX6_comes_124 : decode cX6_comes 124 = .ok (.lload 7, 2) := by decide +kernel
theorem dX6_comes_126 : decode cX6_comes 126 = .ok (.lload 10, 2) := by decide +kernel
theorem dX6_comes_128 : decode cX6_comes 128 = .ok (.invokestatic 145, 3) := by decide +kernel
theorem dX6_comes_131 : decode cX6_comes 131 = .ok (.ladd, 1) := by decide +kernel
theorem dX6_comes_132 : decode cX6_comes 132 = .ok (.lstore 7, 2) := by decide +kernel
theorem dX6_comes_134 : decode cX6_comes 134 = .ok (.iinc 9 1, 3) := by decide +kernel
theorem dX6_comes_137 : decode cX6_comes 137 = .ok (.goto (-79), 3) := by decide +kernel
theorem dX6_comes_140 : decode cX6_comes 140 = .ok (.lload_n 3, 1) := by decide +kernel
theorem dX6_comes_141 : decode cX6_comes 141 = .ok (.aload_n 0, 1) := by decide +kernel
theorem dX6_comes_142 : decode cX6_comes 142 = .ok (.getfield 38, 3) := by decide +kernel
theorem dX6_comes_145 : decode cX6_comes 145 = .ok (.iload_n 1, 1) := by decide +kernel
theorem dX6_comes_146 : decode cX6_comes 146 = .ok (.iaload, 1) := by decide +kernel
theorem dX6_comes_147 : decode cX6_comes 147 = .ok (.aload_n 0, 1) := by decide +kernel
theorem dX6_comes_148 : decode cX6_comes 148 = .ok (.getfield 22, 3) := by decide +kernel
theorem dX6_comes_151 : decode cX6_comes 151 = .ok (.iload_n 1, 1) := by decide +kernel
theorem dX6_comes_152 : decode cX6_comes 152 = .ok (.iaload, 1) := by decide +kernel
theorem dX6_comes_153 : decode cX6_comes 153 = .ok (.invokestatic 187, 3) := by decide +kernel
theorem dX6_comes_156 : decode cX6_comes 156 = .ok (.lstore 9, 2) := by decide +kernel
theorem dX6_comes_158 : decode cX6_comes 158 = .ok (.aload_n 0, 1) := by decide +kernel
theorem dX6_comes_159 : decode cX6_comes 159 = .ok (.getfield 25, 3) := by decide +kernel
theorem dX6_comes_162 : decode cX6_comes 162 = .ok (.iload_n 1, 1) := by decide +kernel
theorem dX6_comes_163 : decode cX6_comes 163 = .ok (.baload, 1) := by decide +kernel
theorem dX6_comes_164 : decode cX6_comes 164 = .ok (.ifCond .eq 10, 3) := by decide +kernel
theorem dX6_comes_167 : decode cX6_comes 167 = .ok (.lload 9, 2) := by decide +kernel
theorem dX6_comes_169 : decode cX6_comes 169 = .ok (.l2i, 1) := by decide +kernel
theorem dX6_comes_170 : decode cX6_comes 170 = .ok (.i2s, 1) := by decide +kernel
theorem dX6_comes_171 : decode cX6_comes 171 = .ok (.goto 36, 3) := by decide +kernel
theorem dX6_comes_174 : decode cX6_comes 174 = .ok (.lload 9, 2) := by decide +kernel
theorem dX6_comes_176 : decode cX6_comes 176 = .ok (.ldc2_w 191, 3) := by decide +kernel
theorem dX6_comes_179 : decode cX6_comes 179 = .ok (.lcmp, 1) := by decide +kernel
theorem dX6_comes_180 : decode cX6_comes 180 = .ok (.ifCond .ge 9, 3) := by decide +kernel
theorem dX6_comes_183 : decode cX6_comes 183 = .ok (.sipush (-32768), 3) := by decide +kernel
theorem dX6_comes_186 : decode cX6_comes 186 = .ok (.goto 21, 3) := by decide +kernel
theorem dX6_comes_189 : decode cX6_comes 189 = .ok (.lload 9, 2) := by decide +kernel
theorem dX6_comes_191 : decode cX6_comes 191 = .ok (.ldc2_w 193, 3) := by decide +kernel
theorem dX6_comes_194 : decode cX6_comes 194 = .ok (.lcmp, 1) := by decide +kernel
theorem dX6_comes_195 : decode cX6_comes 195 = .ok (.ifCond .le 9, 3) := by decide +kernel
theorem dX6_comes_198 : decode cX6_comes 198 = .ok (.sipush 32767, 3) := by decide +kernel
theorem dX6_comes_201 : decode cX6_comes 201 = .ok (.goto 6, 3) := by decide +kernel
theorem dX6_comes_204 : decode cX6_comes 204 = .ok (.lload 9, 2) := by decide +kernel
theorem dX6_comes_206 : decode cX6_comes 206 = .ok (.l2i, 1) := by decide +kernel
theorem dX6_comes_207 : decode cX6_comes 207 = .ok (.istore 11, 2) := by decide +kernel
theorem dX6_comes_209 : decode cX6_comes 209 = .ok (.aload_n 0, 1) := by decide +kernel
theorem dX6_comes_210 : decode cX6_comes 210 = .ok (.getfield 60, 3) := by decide +kernel
theorem dX6_comes_213 : decode cX6_comes 213 = .ok (.iload_n 1, 1) := by decide +kernel
theorem dX6_comes_214 : decode cX6_comes 214 = .ok (.iconst 1, 1) := by decide +kernel
theorem dX6_comes_215 : decode cX6_comes 215 = .ok (.bastore, 1) := by decide +kernel
theorem dX6_comes_216 : decode cX6_comes 216 = .ok (.aload_n 0, 1) := by decide +kernel
theorem dX6_comes_217 : decode cX6_comes 217 = .ok (.getfield 63, 3) := by decide +kernel
theorem dX6_comes_220 : decode cX6_comes 220 = .ok (.iload_n 1, 1) := by decide +kernel
theorem dX6_comes_221 : decode cX6_comes 221 = .ok (.lload_n 3, 1) := by decide +kernel
theorem dX6_comes_222 : decode cX6_comes 222 = .ok (.lastore, 1) := by decide +kernel
theorem dX6_comes_223 : decode cX6_comes 223 = .ok (.aload_n 0, 1) := by decide +kernel
theorem dX6_comes_224 : decode cX6_comes 224 = .ok (.getfield 66, 3) := by decide +kernel
theorem dX6_comes_227 : decode cX6_comes 227 = .ok (.iload_n 1, 1) := by decide +kernel
theorem dX6_comes_228 : decode cX6_comes 228 = .ok (.lload 9, 2) := by decide +kernel
theorem dX6_comes_230 : decode cX6_comes 230 = .ok (.lastore, 1) := by decide +kernel
theorem dX6_comes_231 : decode cX6_comes 231 = .ok (.aload_n 0, 1) := by decide +kernel
theorem dX6_comes_232 : decode cX6_comes 232 = .ok (.getfield 69, 3) := by decide +kernel
theorem dX6_comes_235 : decode cX6_comes 235 = .ok (.iload_n 1, 1) := by decide +kernel
theorem dX6_comes_236 : decode cX6_comes 236 = .ok (.iload 11, 2) := by decide +kernel
theorem dX6_comes_238 : decode cX6_comes 238 = .ok (.iastore, 1) := by decide +kernel
theorem dX6_comes_239 : decode cX6_comes 239 = .ok (.aload_n 0, 1) := by decide +kernel
theorem dX6_comes_240 : decode cX6_comes 240 = .ok (.getfield 72, 3) := by decide +kernel
theorem dX6_comes_243 : decode cX6_comes 243 = .ok (.iload_n 1, 1) := by decide +kernel
theorem dX6_comes_244 : decode cX6_comes 244 = .ok (.lload 5, 2) := by decide +kernel
theorem dX6_comes_246 : decode cX6_comes 246 = .ok (.lastore, 1) := by decide +kernel
theorem dX6_comes_247 : decode cX6_comes 247 = .ok (.aload_n 0, 1) := by decide +kernel
theorem dX6_comes_248 : decode cX6_comes 248 = .ok (.getfield 75, 3) := by decide +kernel
theorem dX6_comes_251 : decode cX6_comes 251 = .ok (.iload_n 1, 1) := by decide +kernel
theorem dX6_comes_252 : decode cX6_comes 252 = .ok (.lload 7, 2) := by decide +kernel
theorem dX6_comes_254 : decode cX6_comes 254 = .ok (.lastore, 1) := by decide +kernel
theorem dX6_comes_255 : decode cX6_comes 255 = .ok (.aload_n 0, 1) := by decide +kernel
theorem dX6_comes_256 : decode cX6_comes 256 = .ok (.getfield 78, 3) := by decide +kernel
theorem dX6_comes_259 : decode cX6_comes 259 = .ok (.iload_n 1, 1) := by decide +kernel
theorem dX6_comes_260 : decode cX6_comes 260 = .ok (.aload_n 0, 1) := by decide +kernel
theorem dX6_comes_261 : decode cX6_comes 261 = .ok (.getfield 22, 3) := by decide +kernel
theorem dX6_comes_264 : decode cX6_comes 264 = .ok (.iload_n 1, 1) := by decide +kernel
theorem dX6_comes_265 : decode cX6_comes 265 = .ok (.iaload, 1) := by decide +kernel
theorem dX6_comes_266 : decode cX6_comes 266 = .ok (.iastore, 1) := by decide +kernel
theorem dX6_comes_267 : decode cX6_comes 267 = .ok (.aload_n 0, 1) := by decide +kernel
theorem dX6_comes_268 : decode cX6_comes 268 = .ok (.getfield 50, 3) := by decide +kernel
theorem dX6_comes_271 : decode cX6_comes 271 = .ok (.iload_n 1, 1) := by decide +kernel
theorem dX6_comes_272 : decode cX6_comes 272 = .ok (.dup2, 1) := by decide +kernel
theorem dX6_comes_273 : decode cX6_comes 273 = .ok (.laload, 1) := by decide +kernel
theorem dX6_comes_274 : decode cX6_comes 274 = .ok (.lconst 1, 1) := by decide +kernel
theorem dX6_comes_275 : decode cX6_comes 275 = .ok (.ladd, 1) := by decide +kernel
theorem dX6_comes_276 : decode cX6_comes 276 = .ok (.lastore, 1) := by decide +kernel
theorem dX6_comes_277 : decode cX6_comes 277 = .ok (.aload_n 0, 1) := by decide +kernel
theorem dX6_comes_278 : decode cX6_comes 278 = .ok (.getfield 54, 3) := by decide +kernel
theorem dX6_comes_281 : decode cX6_comes 281 = .ok (.iload_n 1, 1) := by decide +kernel
theorem dX6_comes_282 : decode cX6_comes 282 = .ok (.dup2, 1) := by decide +kernel
theorem dX6_comes_283 : decode cX6_comes 283 = .ok (.laload, 1) := by decide +kernel
theorem dX6_comes_284 : decode cX6_comes 284 = .ok (.iload 11, 2) := by decide +kernel
theorem dX6_comes_286 : decode cX6_comes 286 = .ok (.i2l, 1) := by decide +kernel
theorem dX6_comes_287 : decode cX6_comes 287 = .ok (.lload 9, 2) := by decide +kernel
theorem dX6_comes_289 : decode cX6_comes 289 = .ok (.lcmp, 1) := by decide +kernel
theorem dX6_comes_290 : decode cX6_comes 290 = .ok (.ifCond .ne 7, 3) := by decide +kernel
theorem dX6_comes_293 : decode cX6_comes 293 = .ok (.lconst 0, 1) := by decide +kernel
theorem dX6_comes_294 : decode cX6_comes 294 = .ok (.goto 4, 3) := by decide +kernel
theorem dX6_comes_297 : decode cX6_comes 297 = .ok (.lconst 1, 1) := by decide +kernel
theorem dX6_comes_298 : decode cX6_comes 298 = .ok (.ladd, 1) := by decide +kernel
theorem dX6_comes_299 : decode cX6_comes 299 = .ok (.lastore, 1) := by decide +kernel
theorem dX6_comes_300 : decode cX6_comes 300 = .ok (.aload_n 0, 1) := by decide +kernel
theorem dX6_comes_301 : decode cX6_comes 301 = .ok (.getfield 57, 3) := by decide +kernel
theorem dX6_comes_304 : decode cX6_comes 304 = .ok (.iload_n 1, 1) := by decide +kernel
theorem dX6_comes_305 : decode cX6_comes 305 = .ok (.lload_n 3, 1) := by decide +kernel
theorem dX6_comes_306 : decode cX6_comes 306 = .ok (.invokestatic 145, 3) := by decide +kernel
theorem dX6_comes_309 : decode cX6_comes 309 = .ok (.aload_n 0, 1) := by decide +kernel
theorem dX6_comes_310 : decode cX6_comes 310 = .ok (.getfield 57, 3) := by decide +kernel
theorem dX6_comes_313 : decode cX6_comes 313 = .ok (.iload_n 1, 1) := by decide +kernel
theorem dX6_comes_314 : decode cX6_comes 314 = .ok (.laload, 1) := by decide +kernel
theorem dX6_comes_315 : decode cX6_comes 315 = .ok (.lcmp, 1) := by decide +kernel
theorem dX6_comes_316 : decode cX6_comes 316 = .ok (.ifCond .le 10, 3) := by decide +kernel
theorem dX6_comes_319 : decode cX6_comes 319 = .ok (.lload_n 3, 1) := by decide +kernel
theorem dX6_comes_320 : decode cX6_comes 320 = .ok (.invokestatic 145, 3) := by decide +kernel
theorem dX6_comes_323 : decode cX6_comes 323 = .ok (.goto 9, 3) := by decide +kernel
theorem dX6_comes_326 : decode cX6_comes 326 = .ok (.aload_n 0, 1) := by decide +kernel
theorem dX6_comes_327 : decode cX6_comes 327 = .ok (.getfield 57, 3) := by decide +kernel
theorem dX6_comes_330 : decode cX6_comes 330 = .ok (.iload_n 1, 1) := by decide +kernel
theorem dX6_comes_331 : decode cX6_comes 331 = .ok (.laload, 1) := by decide +kernel
theorem dX6_comes_332 : decode cX6_comes 332 = .ok (.lastore, 1) := by decide +kernel
theorem dX6_comes_333 : decode cX6_comes 333 = .ok (.iload 11, 2) := by decide +kernel
theorem dX6_comes_335 : decode cX6_comes 335 = .ok (.ireturn, 1) := by decide +kernel
theorem dX6_goes_0 : decode cX6_goes 0 = .ok (.iconst 0, 1) := by decide +kernel
theorem dX6_goes_1 : decode cX6_goes 1 = .ok (.istore_n 3, 1) := by decide +kernel
theorem dX6_goes_2 : decode cX6_goes 2 = .ok (.aload_n 0, 1) := by decide +kernel
theorem dX6_goes_3 : decode cX6_goes 3 = .ok (.getfield 13, 3) := by decide +kernel
theorem dX6_goes_6 : decode cX6_goes 6 = .ok (.iload_n 1, 1) := by decide +kernel
theorem dX6_goes_7 : decode cX6_goes 7 = .ok (.iaload, 1) := by decide +kernel
theorem dX6_goes_8 : decode cX6_goes 8 = .ok (.ifCond .ge 13, 3) := by decide +kernel
theorem dX6_goes_11 : decode cX6_goes 11 = .ok (.aload_n 0, 1) := by decide +kernel
theorem dX6_goes_12 : decode cX6_goes 12 = .ok (.getfield 13, 3) := by decide +kernel
theorem dX6_goes_15 : decode cX6_goes 15 = .ok (.iload_n 1, 1) := by decide +kernel
theorem dX6_goes_16 : decode cX6_goes 16 = .ok (.iaload, 1) := by decide +kernel
theorem dX6_goes_17 : decode cX6_goes 17 = .ok (.ineg, 1) := by decide +kernel
theorem dX6_goes_18 : decode cX6_goes 18 = .ok (.goto 4, 3) := by decide +kernel
theorem dX6_goes_21 : decode cX6_goes 21 = .ok (.iconst 1, 1) := by decide +kernel
theorem dX6_goes_22 : decode cX6_goes 22 = .ok (.istore 4, 2) := by decide +kernel
theorem dX6_goes_24 : decode cX6_goes 24 = .ok (.aload_n 0, 1) := by decide +kernel
theorem dX6_goes_25 : decode cX6_goes 25 = .ok (.getfield 13, 3) := by decide +kernel
theorem dX6_goes_28 : decode cX6_goes 28 = .ok (.iload_n 1, 1) := by decide +kernel
theorem dX6_goes_29 : decode cX6_goes 29 = .ok (.iaload, 1) := by decide +kernel
theorem dX6_goes_30 : decode cX6_goes 30 = .ok (.iconst 1, 1) := by decide +kernel
theorem dX6_goes_31 : decode cX6_goes 31 = .ok (.if_icmp .le 12, 3) := by decide +kernel
theorem dX6_goes_34 : decode cX6_goes 34 = .ok (.aload_n 0, 1) := by decide +kernel
theorem dX6_goes_35 : decode cX6_goes 35 = .ok (.getfield 13, 3) := by decide +kernel
theorem dX6_goes_38 : decode cX6_goes 38 = .ok (.iload_n 1, 1) := by decide +kernel
theorem dX6_goes_39 : decode cX6_goes 39 = .ok (.iaload, 1) := by decide +kernel
theorem dX6_goes_40 : decode cX6_goes 40 = .ok (.goto 4, 3) := by decide +kernel
theorem dX6_goes_43 : decode cX6_goes 43 = .ok (.iconst 1, 1) := by decide +kernel
theorem dX6_goes_44 : decode cX6_goes 44 = .ok (.istore 5, 2) := by decide +kernel
theorem dX6_goes_46 : decode cX6_goes 46 = .ok (.iconst 0, 1) := by decide +kernel
theorem dX6_goes_47 : decode cX6_goes 47 = .ok (.istore 6, 2) := by decide +kernel
theorem dX6_goes_49 : decode cX6_goes 49 = .ok (.iload 6, 2) := by decide +kernel
theorem dX6_goes_51 : decode cX6_goes 51 = .ok (.iload_n 2, 1) := by decide +kernel
theorem dX6_goes_52 : decode cX6_goes 52 = .ok (.if_icmp .ge 99, 3) := by decide +kernel
theorem dX6_goes_55 : decode cX6_goes 55 = .ok (.iconst 0, 1) := by decide +kernel
theorem dX6_goes_56 : decode cX6_goes 56 = .ok (.istore 7, 2) := by decide +kernel
theorem dX6_goes_58 : decode cX6_goes 58 = .ok (.iload 7, 2) := by decide +kernel
theorem dX6_goes_60 : decode cX6_goes 60 = .ok (.iload 4, 2) := by decide +kernel
theorem dX6_goes_62 : decode cX6_goes 62 = .ok (.if_icmp .ge 83, 3) := by decide +kernel
theorem dX6_goes_65 : decode cX6_goes 65 = .ok (.aload_n 0, 1) := by decide +kernel
theorem dX6_goes_66 : decode cX6_goes 66 = .ok (.iload_n 1, 1) := by decide +kernel
theorem dX6_goes_67 : decode cX6_goes 67 = .ok (.iload 7, 2) := by decide +kernel
theorem dX6_goes_69 : decode cX6_goes 69 = .ok (.ifCond .ne 13, 3) := by decide +kernel
theorem dX6_goes_72 : decode cX6_goes 72 = .ok (.aload_n 0, 1) := by decide +kernel
theorem dX6_goes_73 : decode cX6_goes 73 = .ok (.getfield 87, 3) := by decide +kernel
theorem dX6_goes_76 : decode cX6_goes 76 = .ok (.iload 6, 2) := by decide +kernel
theorem dX6_goes_78 : decode cX6_goes 78 = .ok (.iaload, 1) := by decide +kernel
theorem dX6_goes_79 : decode cX6_goes 79 = .ok (.goto 4, 3) := by decide +kernel
theorem dX6_goes_82 : decode cX6_goes 82 = .ok (.iconst 0, 1) := by decide +kernel
theorem dX6_goes_83 : decode cX6_goes 83 = .ok (.invokevirtual 195, 3) := by decide +kernel
theorem dX6_goes_86 : decode cX6_goes 86 = .ok (.istore 8, 2) := by decide +kernel
theorem dX6_goes_88 : decode cX6_goes 88 = .ok (.aload_n 0, 1) := by decide +kernel
theorem dX6_goes_89 : decode cX6_goes 89 = .ok (.getfield 47, 3) := by decide +kernel
theorem dX6_goes_92 : decode cX6_goes 92 = .ok (.iload_n 1, 1) := by decide +kernel
theorem dX6_goes_93 : decode cX6_goes 93 = .ok (.iaload, 1) := by decide +kernel
theorem dX6_goes_94 : decode cX6_goes 94 = .ok (.ifCond .ne 14, 3) := by decide +kernel
theorem dX6_goes_97 : decode cX6_goes 97 = .ok (.aload_n 0, 1) := by decide +kernel
theorem dX6_goes_98 : decode cX6_goes 98 = .ok (.getfield 90, 3) := by decide +kernel
theorem dX6_goes_101 : decode cX6_goes 101 = .ok (.iload_n 3, 1) := by decide +kernel
theorem dX6_goes_102 : decode cX6_goes 102 = .ok (.iload 8, 2) := by decide +kernel
theorem dX6_goes_104 : decode cX6_goes 104 = .ok (.iastore, 1) := by decide +kernel
theorem dX6_goes_105 : decode cX6_goes 105 = .ok (.iinc 3 1, 3) := by decide +kernel
theorem dX6_goes_108 : decode cX6_goes 108 = .ok (.aload_n 0, 1) := by decide +kernel
theorem dX6_goes_109 : decode cX6_goes 109 = .ok (.getfield 47, 3) := by decide +kernel
theorem dX6_goes_112 : decode cX6_goes 112 = .ok (.iload_n 1, 1) := by decide +kernel
theorem dX6_goes_113 : decode cX6_goes 113 = .ok (.aload_n 0, 1) := by decide +kernel
theorem dX6_goes_114 : decode cX6_goes 114 = .ok (.getfield 47, 3) := by decide +kernel
theorem dX6_goes_117 : decode cX6_goes 117 = .ok (.iload_n 1, 1) := by decide +kernel
theorem dX6_goes_118 : decode cX6_goes 118 = .ok (.iaload, 1) := by decide +kernel
theorem dX6_goes_119 : decode cX6_goes 119 = .ok (.iconst 1, 1) := by decide +kernel
theorem dX6_goes_120 : decode cX6_goes 120 = .ok (.iadd, 1) := by decide +kernel
theorem dX6_goes_121 : decode cX6_goes 121 = .ok (.iload 5, 2) := by decide +kernel
theorem dX6_goes_123 : decode cX6_goes 123 = .ok (.if_icmp .ne 7, 3) := by decide +kernel
theorem dX6_goes_126 : decode cX6_goes 126 = .ok (.iconst 0, 1) := by decide +kernel
theorem dX6_goes_127 : decode cX6_goes 127 = .ok (.goto 11, 3) := by decide +kernel
theorem dX6_goes_130 : decode cX6_goes 130 = .ok (.aload_n 0, 1) := by decide +kernel
theorem dX6_goes_131 : decode cX6_goes 131 = .ok (.getfield 47, 3) := by decide +kernel
theorem dX6_goes_134 : decode cX6_goes 134 = .ok (.iload_n 1, 1) := by decide +kernel
theorem dX6_goes_135 : decode cX6_goes 135 = .ok (.iaload, 1) := by decide +kernel
theorem dX6_goes_136 : decode cX6_goes 136 = .ok (.iconst 1, 1) := by decide +kernel
theorem dX6_goes_137 : decode cX6_goes 137 = .ok (.iadd, 1) := by decide +kernel
theorem dX6_goes_138 : decode cX6_goes 138 = .ok (.iastore, 1) := by decide +kernel
theorem dX6_goes_139 : decode cX6_goes 139 = .ok (.iinc 7 1, 3) := by decide +kernel
theorem dX6_goes_142 : decode cX6_goes 142 = .ok (.goto (-84), 3) := by decide +kernel
theorem dX6_goes_145 : decode cX6_goes 145 = .ok (.iinc 6 1, 3) := by decide +kernel
theorem dX6_goes_148 : decode cX6_goes 148 = .ok (.goto (-99), 3) := by decide +kernel
theorem dX6_goes_151 : decode cX6_goes 151 = .ok (.iload_n 3, 1) := by decide +kernel
theorem dX6_goes_152 : decode cX6_goes 152 = .ok (.ireturn, 1) := by decide +kernel
theorem dX6_puts_0 : decode cX6_puts 0 = .ok (.iconst 1, 1) := by decide +kernel
theorem dX6_puts_1 : decode cX6_puts 1 = .ok (.istore_n 2, 1) := by decide +kernel
theorem dX6_puts_2 : decode cX6_puts 2 = .ok (.aload_n 0, 1) := by decide +kernel
theorem dX6_puts_3 : decode cX6_puts 3 = .ok (.getfield 87, 3) := by decide +kernel
theorem dX6_puts_6 : decode cX6_puts 6 = .ok (.iconst 0, 1) := by decide +kernel
theorem dX6_puts_7 : decode cX6_puts 7 = .ok (.iload_n 1, 1) := by decide +kernel
theorem dX6_puts_8 : decode cX6_puts 8 = .ok (.iastore, 1) := by decide +kernel
theorem dX6_puts_9 : decode cX6_puts 9 = .ok (.iconst 0, 1) := by decide +kernel
theorem dX6_puts_10 : decode cX6_puts 10 = .ok (.istore_n 3, 1) := by decide +kernel
theorem dX6_puts_11 : decode cX6_puts 11 = .ok (.iload_n 3, 1) := by decide +kernel
theorem dX6_puts_12 : decode cX6_puts 12 = .ok (.aload_n 0, 1) := by decide +kernel
theorem dX6_puts_13 : decode cX6_puts 13 = .ok (.getfield 109, 3) := by decide +kernel
theorem dX6_puts_16 : decode cX6_puts 16 = .ok (.if_icmp .ge 50, 3) := by decide +kernel
theorem dX6_puts_19 : decode cX6_puts 19 = .ok (.aload_n 0, 1) := by decide +kernel
theorem dX6_puts_20 : decode cX6_puts 20 = .ok (.aload_n 0, 1) := by decide +kernel
theorem dX6_puts_21 : decode cX6_puts 21 = .ok (.getfield 81, 3) := by decide +kernel
theorem dX6_puts_24 : decode cX6_puts 24 = .ok (.iload_n 3, 1) := by decide +kernel
theorem dX6_puts_25 : decode cX6_puts 25 = .ok (.iaload, 1) := by decide +kernel
theorem dX6_puts_26 : decode cX6_puts 26 = .ok (.iload_n 2, 1) := by decide +kernel
theorem dX6_puts_27 : decode cX6_puts 27 = .ok (.invokevirtual 198, 3) := by decide +kernel
theorem dX6_puts_30 : decode cX6_puts 30 = .ok (.istore_n 2, 1) := by decide +kernel
theorem dX6_puts_31 : decode cX6_puts 31 = .ok (.iconst 0, 1) := by decide +kernel
theorem dX6_puts_32 : decode cX6_puts 32 = .ok (.istore 4, 2) := by decide +kernel
theorem dX6_puts_34 : decode cX6_puts 34 = .ok (.iload 4, 2) := by decide +kernel
theorem dX6_puts_36 : decode cX6_puts 36 = .ok (.iload_n 2, 1) := by decide +kernel
theorem dX6_puts_37 : decode cX6_puts 37 = .ok (.if_icmp .ge 23, 3) := by decide +kernel
theorem dX6_puts_40 : decode cX6_puts 40 = .ok (.aload_n 0, 1) := by decide +kernel
theorem dX6_puts_41 : decode cX6_puts 41 = .ok (.getfield 87, 3) := by decide +kernel
theorem dX6_puts_44 : decode cX6_puts 44 = .ok (.iload 4, 2) := by decide +kernel
theorem dX6_puts_46 : decode cX6_puts 46 = .ok (.aload_n 0, 1) := by decide +kernel
theorem dX6_puts_47 : decode cX6_puts 47 = .ok (.getfield 90, 3) := by decide +kernel
theorem dX6_puts_50 : decode cX6_puts 50 = .ok (.iload 4, 2) := by decide +kernel
theorem dX6_puts_52 : decode cX6_puts 52 = .ok (.iaload, 1) := by decide +kernel
theorem dX6_puts_53 : decode cX6_puts 53 = .ok (.iastore, 1) := by decide +kernel
theorem dX6_puts_54 : decode cX6_puts 54 = .ok (.iinc 4 1, 3) := by decide +kernel
theorem dX6_puts_57 : decode cX6_puts 57 = .ok (.goto (-23), 3) := by decide +kernel
theorem dX6_puts_60 : decode cX6_puts 60 = .ok (.iinc 3 1, 3) := by decide +kernel
theorem dX6_puts_63 : decode cX6_puts 63 = .ok (.goto (-52), 3) := by decide +kernel
theorem dX6_puts_66 : decode cX6_puts 66 = .ok (.iconst 0, 1) := by decide +kernel
theorem dX6_puts_67 : decode cX6_puts 67 = .ok (.istore_n 3, 1) := by decide +kernel
theorem dX6_puts_68 : decode cX6_puts 68 = .ok (.iload_n 3, 1) := by decide +kernel
theorem dX6_puts_69 : decode cX6_puts 69 = .ok (.iload_n 2, 1) := by decide +kernel
theorem dX6_puts_70 : decode cX6_puts 70 = .ok (.if_icmp .ge 57, 3) := by decide +kernel
theorem dX6_puts_73 : decode cX6_puts 73 = .ok (.aload_n 0, 1) := by decide +kernel
theorem dX6_puts_74 : decode cX6_puts 74 = .ok (.getfield 201, 3) := by decide +kernel
theorem dX6_puts_77 : decode cX6_puts 77 = .ok (.sipush 600, 3) := by decide +kernel
theorem dX6_puts_80 : decode cX6_puts 80 = .ok (.if_icmp .ge 31, 3) := by decide +kernel
theorem dX6_puts_83 : decode cX6_puts 83 = .ok (.aload_n 0, 1) := by decide +kernel
theorem dX6_puts_84 : decode cX6_puts 84 = .ok (.getfield 84, 3) := by decide +kernel
theorem dX6_puts_87 : decode cX6_puts 87 = .ok (.aload_n 0, 1) := by decide +kernel
theorem dX6_puts_88 : decode cX6_puts 88 = .ok (.getfield 201, 3) := by decide +kernel
theorem dX6_puts_91 : decode cX6_puts 91 = .ok (.aload_n 0, 1) := by decide +kernel
theorem dX6_puts_92 : decode cX6_puts 92 = .ok (.getfield 87, 3) := by decide +kernel
theorem dX6_puts_95 : decode cX6_puts 95 = .ok (.iload_n 3, 1) := by decide +kernel
theorem dX6_puts_96 : decode cX6_puts 96 = .ok (.iaload, 1) := by decide +kernel
theorem dX6_puts_97 : decode cX6_puts 97 = .ok (.iastore, 1) := by decide +kernel
theorem dX6_puts_98 : decode cX6_puts 98 = .ok (.aload_n 0, 1) := by decide +kernel
theorem dX6_puts_99 : decode cX6_puts 99 = .ok (.dup, 1) := by decide +kernel
theorem dX6_puts_100 : decode cX6_puts 100 = .ok (.getfield 201, 3) := by decide +kernel
theorem dX6_puts_103 : decode cX6_puts 103 = .ok (.iconst 1, 1) := by decide +kernel
theorem dX6_puts_104 : decode cX6_puts 104 = .ok (.iadd, 1) := by decide +kernel
theorem dX6_puts_105 : decode cX6_puts 105 = .ok (.putfield 201, 3) := by decide +kernel
theorem dX6_puts_108 : decode cX6_puts 108 = .ok (.goto 13, 3) := by decide +kernel
theorem dX6_puts_111 : decode cX6_puts 111 = .ok (.aload_n 0, 1) := by decide +kernel
theorem dX6_puts_112 : decode cX6_puts 112 = .ok (.dup, 1) := by decide +kernel
theorem dX6_puts_113 : decode cX6_puts 113 = .ok (.getfield 204, 3) := by decide +kernel
theorem dX6_puts_116 : decode cX6_puts 116 = .ok (.iconst 1, 1) := by decide +kernel
theorem dX6_puts_117 : decode cX6_puts 117 = .ok (.iadd, 1) := by decide +kernel
theorem dX6_puts_118 : decode cX6_puts 118 = .ok (.putfield 204, 3) := by decide +kernel
theorem dX6_puts_121 : decode cX6_puts 121 = .ok (.iinc 3 1, 3) := by decide +kernel
theorem dX6_puts_124 : decode cX6_puts 124 = .ok (.goto (-56), 3) := by decide +kernel
theorem dX6_puts_127 : decode cX6_puts 127 = .ok (.iload_n 2, 1) := by decide +kernel
theorem dX6_puts_128 : decode cX6_puts 128 = .ok (.ireturn, 1) := by decide +kernel
theorem dX6_filled_0 : decode cX6_filled 0 = .ok (.aload_n 0, 1) := by decide +kernel
theorem dX6_filled_1 : decode cX6_filled 1 = .ok (.getfield 13, 3) := by decide +kernel
theorem dX6_filled_4 : decode cX6_filled 4 = .ok (.iload_n 1, 1) := by decide +kernel
theorem dX6_filled_5 : decode cX6_filled 5 = .ok (.iaload, 1) := by decide +kernel
theorem dX6_filled_6 : decode cX6_filled 6 = .ok (.ifCond .ge 13, 3) := by decide +kernel
theorem dX6_filled_9 : decode cX6_filled 9 = .ok (.aload_n 0, 1) := by decide +kernel
theorem dX6_filled_10 : decode cX6_filled 10 = .ok (.getfield 13, 3) := by decide +kernel
theorem dX6_filled_13 : decode cX6_filled 13 = .ok (.iload_n 1, 1) := by decide +kernel
theorem dX6_filled_14 : decode cX6_filled 14 = .ok (.iaload, 1) := by decide +kernel
theorem dX6_filled_15 : decode cX6_filled 15 = .ok (.ineg, 1) := by decide +kernel
theorem dX6_filled_16 : decode cX6_filled 16 = .ok (.goto 4, 3) := by decide +kernel
theorem dX6_filled_19 : decode cX6_filled 19 = .ok (.iconst 1, 1) := by decide +kernel
theorem dX6_filled_20 : decode cX6_filled 20 = .ok (.ireturn, 1) := by decide +kernel
theorem dX6_join_0 : decode cX6_join 0 = .ok (.aload_n 0, 1) := by decide +kernel
theorem dX6_join_1 : decode cX6_join 1 = .ok (.iload_n 1, 1) := by decide +kernel
theorem dX6_join_2 : decode cX6_join 2 = .ok (.invokevirtual 118, 3) := by decide +kernel
theorem dX6_join_5 : decode cX6_join 5 = .ok (.ifCond .ne 6, 3) := by decide +kernel
theorem dX6_join_8 : decode cX6_join 8 = .ok (.bipush (-2), 2) := by decide +kernel
theorem dX6_join_10 : decode cX6_join 10 = .ok (.ireturn, 1) := by decide +kernel
theorem dX6_join_11 : decode cX6_join 11 = .ok (.aload_n 0, 1) := by decide +kernel
theorem dX6_join_12 : decode cX6_join 12 = .ok (.iload_n 1, 1) := by decide +kernel
theorem dX6_join_13 : decode cX6_join 13 = .ok (.invokevirtual 207, 3) := by decide +kernel
theorem dX6_join_16 : decode cX6_join 16 = .ok (.istore_n 2, 1) := by decide +kernel
theorem dX6_join_17 : decode cX6_join 17 = .ok (.iconst 0, 1) := by decide +kernel
theorem dX6_join_18 : decode cX6_join 18 = .ok (.istore_n 3, 1) := by decide +kernel
theorem dX6_join_19 : decode cX6_join 19 = .ok (.iload_n 3, 1) := by decide +kernel
theorem dX6_join_20 : decode cX6_join 20 = .ok (.aload_n 0, 1) := by decide +kernel
theorem dX6_join_21 : decode cX6_join 21 = .ok (.getfield 109, 3) := by decide +kernel
theorem dX6_join_24 : decode cX6_join 24 = .ok (.if_icmp .ge 22, 3) := by decide +kernel
theorem dX6_join_27 : decode cX6_join 27 = .ok (.iload_n 2, 1) := by decide +kernel
theorem dX6_join_28 : decode cX6_join 28 = .ok (.aload_n 0, 1) := by decide +kernel
theorem dX6_join_29 : decode cX6_join 29 = .ok (.aload_n 0, 1) := by decide +kernel
theorem dX6_join_30 : decode cX6_join 30 = .ok (.getfield 81, 3) := by decide +kernel
theorem dX6_join_33 : decode cX6_join 33 = .ok (.iload_n 3, 1) := by decide +kernel
theorem dX6_join_34 : decode cX6_join 34 = .ok (.iaload, 1) := by decide +kernel
theorem dX6_join_35 : decode cX6_join 35 = .ok (.invokevirtual 207, 3) := by decide +kernel
theorem dX6_join_38 : decode cX6_join 38 = .ok (.imul, 1) := by decide +kernel
theorem dX6_join_39 : decode cX6_join 39 = .ok (.istore_n 2, 1) := by decide +kernel
theorem dX6_join_40 : decode cX6_join 40 = .ok (.iinc 3 1, 3) := by decide +kernel
theorem dX6_join_43 : decode cX6_join 43 = .ok (.goto (-24), 3) := by decide +kernel
theorem dX6_join_46 : decode cX6_join 46 = .ok (.aload_n 0, 1) := by decide +kernel
theorem dX6_join_47 : decode cX6_join 47 = .ok (.getfield 29, 3) := by decide +kernel
theorem dX6_join_50 : decode cX6_join 50 = .ok (.iload_n 1, 1) := by decide +kernel
theorem dX6_join_51 : decode cX6_join 51 = .ok (.baload, 1) := by decide +kernel
theorem dX6_join_52 : decode cX6_join 52 = .ok (.ifCond .eq 18, 3) := by decide +kernel
theorem dX6_join_55 : decode cX6_join 55 = .ok (.aload_n 0, 1) := by decide +kernel
theorem dX6_join_56 : decode cX6_join 56 = .ok (.iload_n 1, 1) := by decide +kernel
theorem dX6_join_57 : decode cX6_join 57 = .ok (.invokevirtual 112, 3) := by decide +kernel
theorem dX6_join_60 : decode cX6_join 60 = .ok (.iconst (-1), 1) := by decide +kernel
theorem dX6_join_61 : decode cX6_join 61 = .ok (.if_icmp .ne 9, 3) := by decide +kernel
theorem dX6_join_64 : decode cX6_join 64 = .ok (.iload_n 2, 1) := by decide +kernel
theorem dX6_join_65 : decode cX6_join 65 = .ok (.bipush 16, 2) := by decide +kernel
theorem dX6_join_67 : decode cX6_join 67 = .ok (.if_icmp .le 6, 3) := by decide +kernel
theorem dX6_join_70 : decode cX6_join 70 = .ok (.bipush (-3), 2) := by decide +kernel
theorem dX6_join_72 : decode cX6_join 72 = .ok (.ireturn, 1) := by decide +kernel
theorem dX6_join_73 : decode cX6_join 73 = .ok (.aload_n 0, 1) := by decide +kernel
theorem dX6_join_74 : decode cX6_join 74 = .ok (.getfield 81, 3) := by decide +kernel
theorem dX6_join_77 : decode cX6_join 77 = .ok (.aload_n 0, 1) := by decide +kernel
theorem dX6_join_78 : decode cX6_join 78 = .ok (.getfield 109, 3) := by decide +kernel
theorem dX6_join_81 : decode cX6_join 81 = .ok (.iload_n 1, 1) := by decide +kernel
theorem dX6_join_82 : decode cX6_join 82 = .ok (.iastore, 1) := by decide +kernel
theorem dX6_join_83 : decode cX6_join 83 = .ok (.aload_n 0, 1) := by decide +kernel
theorem dX6_join_84 : decode cX6_join 84 = .ok (.dup, 1) := by decide +kernel
theorem dX6_join_85 : decode cX6_join 85 = .ok (.getfield 109, 3) := by decide +kernel
theorem dX6_join_88 : decode cX6_join 88 = .ok (.iconst 1, 1) := by decide +kernel
theorem dX6_join_89 : decode cX6_join 89 = .ok (.iadd, 1) := by decide +kernel
theorem dX6_join_90 : decode cX6_join 90 = .ok (.putfield 109, 3) := by decide +kernel
theorem dX6_join_93 : decode cX6_join 93 = .ok (.aload_n 0, 1) := by decide +kernel
theorem dX6_join_94 : decode cX6_join 94 = .ok (.getfield 109, 3) := by decide +kernel
theorem dX6_join_97 : decode cX6_join 97 = .ok (.iconst 1, 1) := by decide +kernel
theorem dX6_join_98 : decode cX6_join 98 = .ok (.isub, 1) := by decide +kernel
theorem dX6_join_99 : decode cX6_join 99 = .ok (.ireturn, 1) := by decide +kernel
theorem dX6_part_0 : decode cX6_part 0 = .ok (.aload_n 0, 1) := by decide +kernel
theorem dX6_part_1 : decode cX6_part 1 = .ok (.getfield 109, 3) := by decide +kernel
theorem dX6_part_4 : decode cX6_part 4 = .ok (.istore_n 1, 1) := by decide +kernel
theorem dX6_part_5 : decode cX6_part 5 = .ok (.aload_n 0, 1) := by decide +kernel
theorem dX6_part_6 : decode cX6_part 6 = .ok (.iconst 0, 1) := by decide +kernel
