theorem dX7_tap_36 : decode cX7_tap 36 = .ok (.bipush 32, 2) := by decide +kernel
theorem dX7_tap_38 : decode cX7_tap 38 = .ok (.iload_n 1, 1) := by decide +kernel
theorem dX7_tap_39 : decode cX7_tap 39 = .ok (.imul, 1) := by decide +kernel
theorem dX7_tap_40 : decode cX7_tap 40 = .ok (.aload_n 0, 1) := by decide +kernel
theorem dX7_tap_41 : decode cX7_tap 41 = .ok (.getfield 16, 3) := by decide +kernel
theorem dX7_tap_44 : decode cX7_tap 44 = .ok (.iload_n 1, 1) := by decide +kernel
theorem dX7_tap_45 : decode cX7_tap 45 = .ok (.iaload, 1) := by decide +kernel
theorem dX7_tap_46 : decode cX7_tap 46 = .ok (.iadd, 1) := by decide +kernel
theorem dX7_tap_47 : decode cX7_tap 47 = .ok (.iload_n 2, 1) := by decide +kernel
theorem dX7_tap_48 : decode cX7_tap 48 = .ok (.iastore, 1) := by decide +kernel
theorem dX7_tap_49 : decode cX7_tap 49 = .ok (.aload_n 0, 1) := by decide +kernel
theorem dX7_tap_50 : decode cX7_tap 50 = .ok (.getfield 16, 3) := by decide +kernel
theorem dX7_tap_53 : decode cX7_tap 53 = .ok (.iload_n 1, 1) := by decide +kernel
theorem dX7_tap_54 : decode cX7_tap 54 = .ok (.dup2, 1) := by decide +kernel
theorem dX7_tap_55 : decode cX7_tap 55 = .ok (.iaload, 1) := by decide +kernel
theorem dX7_tap_56 : decode cX7_tap 56 = .ok (.iconst 1, 1) := by decide +kernel
theorem dX7_tap_57 : decode cX7_tap 57 = .ok (.iadd, 1) := by decide +kernel
theorem dX7_tap_58 : decode cX7_tap 58 = .ok (.iastore, 1) := by decide +kernel
theorem dX7_tap_59 : decode cX7_tap 59 = .ok (.aload_n 0, 1) := by decide +kernel
theorem dX7_tap_60 : decode cX7_tap 60 = .ok (.iload_n 1, 1) := by decide +kernel
theorem dX7_tap_61 : decode cX7_tap 61 = .ok (.invokevirtual 125, 3) := by decide +kernel
theorem dX7_tap_64 : decode cX7_tap 64 = .ok (.aload_n 0, 1) := by decide +kernel
theorem dX7_tap_65 : decode cX7_tap 65 = .ok (.getfield 16, 3) := by decide +kernel
theorem dX7_tap_68 : decode cX7_tap 68 = .ok (.iload_n 1, 1) := by decide +kernel
theorem dX7_tap_69 : decode cX7_tap 69 = .ok (.iaload, 1) := by decide +kernel
theorem dX7_tap_70 : decode cX7_tap 70 = .ok (.ireturn, 1) := by decide +kernel
theorem dX7_change_0 : decode cX7_change 0 = .ok (.aload_n 0, 1) := by decide +kernel
theorem dX7_change_1 : decode cX7_change 1 = .ok (.iload_n 1, 1) := by decide +kernel
theorem dX7_change_2 : decode cX7_change 2 = .ok (.invokevirtual 118, 3) := by decide +kernel
theorem dX7_change_5 : decode cX7_change 5 = .ok (.ifCond .eq 28, 3) := by decide +kernel
theorem dX7_change_8 : decode cX7_change 8 = .ok (.iload_n 2, 1) := by decide +kernel
theorem dX7_change_9 : decode cX7_change 9 = .ok (.i2l, 1) := by decide +kernel
theorem dX7_change_10 : decode cX7_change 10 = .ok (.lconst 0, 1) := by decide +kernel
theorem dX7_change_11 : decode cX7_change 11 = .ok (.aload_n 0, 1) := by decide +kernel
theorem dX7_change_12 : decode cX7_change 12 = .ok (.getfield 16, 3) := by decide +kernel
theorem dX7_change_15 : decode cX7_change 15 = .ok (.iload_n 1, 1) := by decide +kernel
theorem dX7_change_16 : decode cX7_change 16 = .ok (.iaload, 1) := by decide +kernel
theorem dX7_change_17 : decode cX7_change 17 = .ok (.iconst 1, 1) := by decide +kernel
theorem dX7_change_18 : decode cX7_change 18 = .ok (.isub, 1) := by decide +kernel
theorem dX7_change_19 : decode cX7_change 19 = .ok (.i2l, 1) := by decide +kernel
theorem dX7_change_20 : decode cX7_change 20 = .ok (.invokestatic 97, 3) := by decide +kernel
theorem dX7_change_23 : decode cX7_change 23 = .ok (.ifCond .eq 10, 3) := by decide +kernel
theorem dX7_change_26 : decode cX7_change 26 = .ok (.iload_n 3, 1) := by decide +kernel
theorem dX7_change_27 : decode cX7_change 27 = .ok (.invokestatic 122, 3) := by decide +kernel
theorem dX7_change_30 : decode cX7_change 30 = .ok (.ifCond .ne 6, 3) := by decide +kernel
theorem dX7_change_33 : decode cX7_change 33 = .ok (.ldc 129, 2) := by decide +kernel
theorem dX7_change_35 : decode cX7_change 35 = .ok (.ireturn, 1) := by decide +kernel
theorem dX7_change_36 : decode cX7_change 36 = .ok (.aload_n 0, 1) := by decide +kernel
theorem dX7_change_37 : decode cX7_change 37 = .ok (.getfield 19, 3) := by decide +kernel
theorem dX7_change_40 : decode cX7_change 40 = .ok (.bipush 32, 2) := by decide +kernel
theorem dX7_change_42 : decode cX7_change 42 = .ok (.iload_n 1, 1) := by decide +kernel
theorem dX7_change_43 : decode cX7_change 43 = .ok (.imul, 1) := by decide +kernel
theorem dX7_change_44 : decode cX7_change 44 = .ok (.iload_n 2, 1) := by decide +kernel
theorem dX7_change_45 : decode cX7_change 45 = .ok (.iadd, 1) := by decide +kernel
theorem dX7_change_46 : decode cX7_change 46 = .ok (.iaload, 1) := by decide +kernel
theorem dX7_change_47 : decode cX7_change 47 = .ok (.istore 4, 2) := by decide +kernel
theorem dX7_change_49 : decode cX7_change 49 = .ok (.aload_n 0, 1) := by decide +kernel
theorem dX7_change_50 : decode cX7_change 50 = .ok (.getfield 19, 3) := by decide +kernel
theorem dX7_change_53 : decode cX7_change 53 = .ok (.bipush 32, 2) := by decide +kernel
theorem dX7_change_55 : decode cX7_change 55 = .ok (.iload_n 1, 1) := by decide +kernel
theorem dX7_change_56 : decode cX7_change 56 = .ok (.imul, 1) := by decide +kernel
theorem dX7_change_57 : decode cX7_change 57 = .ok (.iload_n 2, 1) := by decide +kernel
theorem dX7_change_58 : decode cX7_change 58 = .ok (.iadd, 1) := by decide +kernel
theorem dX7_change_59 : decode cX7_change 59 = .ok (.iload_n 3, 1) := by decide +kernel
theorem dX7_change_60 : decode cX7_change 60 = .ok (.iastore, 1) := by decide +kernel
theorem dX7_change_61 : decode cX7_change 61 = .ok (.aload_n 0, 1) := by decide +kernel
theorem dX7_change_62 : decode cX7_change 62 = .ok (.iload_n 1, 1) := by decide +kernel
theorem dX7_change_63 : decode cX7_change 63 = .ok (.invokevirtual 125, 3) := by decide +kernel
theorem dX7_change_66 : decode cX7_change 66 = .ok (.iload 4, 2) := by decide +kernel
theorem dX7_change_68 : decode cX7_change 68 = .ok (.ireturn, 1) := by decide +kernel
theorem dX7_way_0 : decode cX7_way 0 = .ok (.aload_n 0, 1) := by decide +kernel
theorem dX7_way_1 : decode cX7_way 1 = .ok (.iload_n 1, 1) := by decide +kernel
theorem dX7_way_2 : decode cX7_way 2 = .ok (.invokevirtual 118, 3) := by decide +kernel
theorem dX7_way_5 : decode cX7_way 5 = .ok (.ifCond .eq 15, 3) := by decide +kernel
theorem dX7_way_8 : decode cX7_way 8 = .ok (.iload_n 2, 1) := by decide +kernel
theorem dX7_way_9 : decode cX7_way 9 = .ok (.i2l, 1) := by decide +kernel
theorem dX7_way_10 : decode cX7_way 10 = .ok (.lconst 0, 1) := by decide +kernel
theorem dX7_way_11 : decode cX7_way 11 = .ok (.ldc2_w 130, 3) := by decide +kernel
theorem dX7_way_14 : decode cX7_way 14 = .ok (.invokestatic 97, 3) := by decide +kernel
theorem dX7_way_17 : decode cX7_way 17 = .ok (.ifCond .ne 6, 3) := by decide +kernel
theorem dX7_way_20 : decode cX7_way 20 = .ok (.bipush (-2), 2) := by decide +kernel
theorem dX7_way_22 : decode cX7_way 22 = .ok (.ireturn, 1) := by decide +kernel
theorem dX7_way_23 : decode cX7_way 23 = .ok (.aload_n 0, 1) := by decide +kernel
theorem dX7_way_24 : decode cX7_way 24 = .ok (.getfield 22, 3) := by decide +kernel
theorem dX7_way_27 : decode cX7_way 27 = .ok (.iload_n 1, 1) := by decide +kernel
theorem dX7_way_28 : decode cX7_way 28 = .ok (.iaload, 1) := by decide +kernel
theorem dX7_way_29 : decode cX7_way 29 = .ok (.istore 4, 2) := by decide +kernel
theorem dX7_way_31 : decode cX7_way 31 = .ok (.aload_n 0, 1) := by decide +kernel
theorem dX7_way_32 : decode cX7_way 32 = .ok (.getfield 22, 3) := by decide +kernel
theorem dX7_way_35 : decode cX7_way 35 = .ok (.iload_n 1, 1) := by decide +kernel
theorem dX7_way_36 : decode cX7_way 36 = .ok (.iload_n 2, 1) := by decide +kernel
theorem dX7_way_37 : decode cX7_way 37 = .ok (.iastore, 1) := by decide +kernel
theorem dX7_way_38 : decode cX7_way 38 = .ok (.aload_n 0, 1) := by decide +kernel
theorem dX7_way_39 : decode cX7_way 39 = .ok (.getfield 25, 3) := by decide +kernel
theorem dX7_way_42 : decode cX7_way 42 = .ok (.iload_n 1, 1) := by decide +kernel
theorem dX7_way_43 : decode cX7_way 43 = .ok (.iload_n 3, 1) := by decide +kernel
theorem dX7_way_44 : decode cX7_way 44 = .ok (.bastore, 1) := by decide +kernel
theorem dX7_way_45 : decode cX7_way 45 = .ok (.iload 4, 2) := by decide +kernel
theorem dX7_way_47 : decode cX7_way 47 = .ok (.ireturn, 1) := by decide +kernel
theorem dX7_down_0 : decode cX7_down 0 = .ok (.lload_n 0, 1) := by decide +kernel
theorem dX7_down_1 : decode cX7_down 1 = .ok (.lload_n 2, 1) := by decide +kernel
theorem dX7_down_2 : decode cX7_down 2 = .ok (.ldiv, 1) := by decide +kernel
theorem dX7_down_3 : decode cX7_down 3 = .ok (.lstore 4, 2) := by decide +kernel
theorem dX7_down_5 : decode cX7_down 5 = .ok (.lload_n 0, 1) := by decide +kernel
theorem dX7_down_6 : decode cX7_down 6 = .ok (.lload_n 2, 1) := by decide +kernel
theorem dX7_down_7 : decode cX7_down 7 = .ok (.lrem, 1) := by decide +kernel
theorem dX7_down_8 : decode cX7_down 8 = .ok (.lconst 0, 1) := by decide +kernel
theorem dX7_down_9 : decode cX7_down 9 = .ok (.lcmp, 1) := by decide +kernel
theorem dX7_down_10 : decode cX7_down 10 = .ok (.ifCond .ge 10, 3) := by decide +kernel
theorem dX7_down_13 : decode cX7_down 13 = .ok (.lload 4, 2) := by decide +kernel
theorem dX7_down_15 : decode cX7_down 15 = .ok (.lconst 1, 1) := by decide +kernel
theorem dX7_down_16 : decode cX7_down 16 = .ok (.lsub, 1) := by decide +kernel
theorem dX7_down_17 : decode cX7_down 17 = .ok (.goto 5, 3) := by decide +kernel
theorem dX7_down_20 : decode cX7_down 20 = .ok (.lload 4, 2) := by decide +kernel
theorem dX7_down_22 : decode cX7_down 22 = .ok (.lreturn, 1) := by decide +kernel
theorem dX7_nearest_0 : decode cX7_nearest 0 = .ok (.lload_n 0, 1) := by decide +kernel
theorem dX7_nearest_1 : decode cX7_nearest 1 = .ok (.lload_n 2, 1) := by decide +kernel
theorem dX7_nearest_2 : decode cX7_nearest 2 = .ok (.invokestatic 132, 3) := by decide +kernel
theorem dX7_nearest_5 : decode cX7_nearest 5 = .ok (.lstore 4, 2) := by decide +kernel
theorem dX7_nearest_7 : decode cX7_nearest 7 = .ok (.ldc2_w 136, 3) := by decide +kernel
theorem dX7_nearest_10 : decode cX7_nearest 10 = .ok (.lload_n 0, 1) := by decide +kernel
theorem dX7_nearest_11 : decode cX7_nearest 11 = .ok (.lload 4, 2) := by decide +kernel
theorem dX7_nearest_13 : decode cX7_nearest 13 = .ok (.lload_n 2, 1) := by decide +kernel
theorem dX7_nearest_14 : decode cX7_nearest 14 = .ok (.lmul, 1) := by decide +kernel
theorem dX7_nearest_15 : decode cX7_nearest 15 = .ok (.lsub, 1) := by decide +kernel
theorem dX7_nearest_16 : decode cX7_nearest 16 = .ok (.lmul, 1) := by decide +kernel
theorem dX7_nearest_17 : decode cX7_nearest 17 = .ok (.lstore 6, 2) := by decide +kernel
theorem dX7_nearest_19 : decode cX7_nearest 19 = .ok (.lload 6, 2) := by decide +kernel
theorem dX7_nearest_21 : decode cX7_nearest 21 = .ok (.lload_n 2, 1) := by decide +kernel
theorem dX7_nearest_22 : decode cX7_nearest 22 = .ok (.lcmp, 1) := by decide +kernel
theorem dX7_nearest_23 : decode cX7_nearest 23 = .ok (.ifCond .gt 19, 3) := by decide +kernel
theorem dX7_nearest_26 : decode cX7_nearest 26 = .ok (.lload 6, 2) := by decide +kernel
theorem dX7_nearest_28 : decode cX7_nearest 28 = .ok (.lload_n 2, 1) := by decide +kernel
theorem dX7_nearest_29 : decode cX7_nearest 29 = .ok (.lcmp, 1) := by decide +kernel
theorem dX7_nearest_30 : decode cX7_nearest 30 = .ok (.ifCond .ne 19, 3) := by decide +kernel
theorem dX7_nearest_33 : decode cX7_nearest 33 = .ok (.lload 4, 2) := by decide +kernel
theorem dX7_nearest_35 : decode cX7_nearest 35 = .ok (.lconst 1, 1) := by decide +kernel
theorem dX7_nearest_36 : decode cX7_nearest 36 = .ok (.land, 1) := by decide +kernel
theorem dX7_nearest_37 : decode cX7_nearest 37 = .ok (.lconst 1, 1) := by decide +kernel
theorem dX7_nearest_38 : decode cX7_nearest 38 = .ok (.lcmp, 1) := by decide +kernel
theorem dX7_nearest_39 : decode cX7_nearest 39 = .ok (.ifCond .ne 10, 3) := by decide +kernel
theorem dX7_nearest_42 : decode cX7_nearest 42 = .ok (.lload 4, 2) := by decide +kernel
theorem dX7_nearest_44 : decode cX7_nearest 44 = .ok (.lconst 1, 1) := by decide +kernel
theorem dX7_nearest_45 : decode cX7_nearest 45 = .ok (.ladd, 1) := by decide +kernel
theorem dX7_nearest_46 : decode cX7_nearest 46 = .ok (.goto 5, 3) := by decide +kernel
theorem dX7_nearest_49 : decode cX7_nearest 49 = .ok (.lload 4, 2) := by decide +kernel
theorem dX7_nearest_51 : decode cX7_nearest 51 = .ok (.lreturn, 1) := by decide +kernel
theorem dX7_factorAt_0 : decode cX7_factorAt 0 = .ok (.aload_n 0, 1) := by decide +kernel
theorem dX7_factorAt_1 : decode cX7_factorAt 1 = .ok (.getfield 19, 3) := by decide +kernel
theorem dX7_factorAt_4 : decode cX7_factorAt 4 = .ok (.bipush 32, 2) := by decide +kernel
theorem dX7_factorAt_6 : decode cX7_factorAt 6 = .ok (.iload_n 1, 1) := by decide +kernel
theorem dX7_factorAt_7 : decode cX7_factorAt 7 = .ok (.imul, 1) := by decide +kernel
theorem dX7_factorAt_8 : decode cX7_factorAt 8 = .ok (.iload_n 2, 1) := by decide +kernel
theorem dX7_factorAt_9 : decode cX7_factorAt 9 = .ok (.iadd, 1) := by decide +kernel
theorem dX7_factorAt_10 : decode cX7_factorAt 10 = .ok (.iaload, 1) := by decide +kernel
theorem dX7_factorAt_11 : decode cX7_factorAt 11 = .ok (.i2l, 1) := by decide +kernel
theorem dX7_factorAt_12 : decode cX7_factorAt 12 = .ok (.iload_n 3, 1) := by decide +kernel
theorem dX7_factorAt_13 : decode cX7_factorAt 13 = .ok (.lshl, 1) := by decide +kernel
theorem dX7_factorAt_14 : decode cX7_factorAt 14 = .ok (.aload_n 0, 1) := by decide +kernel
theorem dX7_factorAt_15 : decode cX7_factorAt 15 = .ok (.getfield 7, 3) := by decide +kernel
theorem dX7_factorAt_18 : decode cX7_factorAt 18 = .ok (.iload_n 1, 1) := by decide +kernel
theorem dX7_factorAt_19 : decode cX7_factorAt 19 = .ok (.iaload, 1) := by decide +kernel
theorem dX7_factorAt_20 : decode cX7_factorAt 20 = .ok (.i2l, 1) := by decide +kernel
theorem dX7_factorAt_21 : decode cX7_factorAt 21 = .ok (.invokestatic 138, 3) := by decide +kernel
theorem dX7_factorAt_24 : decode cX7_factorAt 24 = .ok (.lreturn, 1) := by decide +kernel
theorem dX7_isSafe_0 : decode cX7_isSafe 0 = .ok (.lconst 1, 1) := by decide +kernel
theorem dX7_isSafe_1 : decode cX7_isSafe 1 = .ok (.iload_n 2, 1) := by decide +kernel
theorem dX7_isSafe_2 : decode cX7_isSafe 2 = .ok (.iconst 1, 1) := by decide +kernel
theorem dX7_isSafe_3 : decode cX7_isSafe 3 = .ok (.isub, 1) := by decide +kernel
theorem dX7_isSafe_4 : decode cX7_isSafe 4 = .ok (.lshl, 1) := by decide +kernel
theorem dX7_isSafe_5 : decode cX7_isSafe 5 = .ok (.lconst 1, 1) := by decide +kernel
theorem dX7_isSafe_6 : decode cX7_isSafe 6 = .ok (.lsub, 1) := by decide +kernel
theorem dX7_isSafe_7 : decode cX7_isSafe 7 = .ok (.lstore 5, 2) := by decide +kernel
theorem dX7_isSafe_9 : decode cX7_isSafe 9 = .ok (.lconst 0, 1) := by decide +kernel
theorem dX7_isSafe_10 : decode cX7_isSafe 10 = .ok (.lstore 7, 2) := by decide +kernel
theorem dX7_isSafe_12 : decode cX7_isSafe 12 = .ok (.iconst 0, 1) := by decide +kernel
theorem dX7_isSafe_13 : decode cX7_isSafe 13 = .ok (.istore 9, 2) := by decide +kernel
theorem dX7_isSafe_15 : decode cX7_isSafe 15 = .ok (.iload 9, 2) := by decide +kernel
theorem dX7_isSafe_17 : decode cX7_isSafe 17 = .ok (.aload_n 0, 1) := by decide +kernel
theorem dX7_isSafe_18 : decode cX7_isSafe 18 = .ok (.getfield 16, 3) := by decide +kernel
theorem dX7_isSafe_21 : decode cX7_isSafe 21 = .ok (.iload_n 1, 1) := by decide +kernel
theorem dX7_isSafe_22 : decode cX7_isSafe 22 = .ok (.iaload, 1) := by decide +kernel
theorem dX7_isSafe_23 : decode cX7_isSafe 23 = .ok (.if_icmp .ge 40, 3) := by decide +kernel
theorem dX7_isSafe_26 : decode cX7_isSafe 26 = .ok (.aload_n 0, 1) := by decide +kernel
theorem dX7_isSafe_27 : decode cX7_isSafe 27 = .ok (.iload_n 1, 1) := by decide +kernel
theorem dX7_isSafe_28 : decode cX7_isSafe 28 = .ok (.iload 9, 2) := by decide +kernel
theorem dX7_isSafe_30 : decode cX7_isSafe 30 = .ok (.iload 4, 2) := by decide +kernel
theorem dX7_isSafe_32 : decode cX7_isSafe 32 = .ok (.invokevirtual 141, 3) := by decide +kernel
theorem dX7_isSafe_35 : decode cX7_isSafe 35 = .ok (.invokestatic 145, 3) := by decide +kernel
theorem dX7_isSafe_38 : decode cX7_isSafe 38 = .ok (.lstore 10, 2) := by decide +kernel
theorem dX7_isSafe_40 : decode cX7_isSafe 40 = .ok (.lload 10, 2) := by decide +kernel
theorem dX7_isSafe_42 : decode cX7_isSafe 42 = .ok (.lload 5, 2) := by decide +kernel
theorem dX7_isSafe_44 : decode cX7_isSafe 44 = .ok (.lcmp, 1) := by decide +kernel
theorem dX7_isSafe_45 : decode cX7_isSafe 45 = .ok (.ifCond .le 5, 3) := by decide +kernel
theorem dX7_isSafe_48 : decode cX7_isSafe 48 = .ok (.iconst 0, 1) := by decide +kernel
theorem dX7_isSafe_49 : decode cX7_isSafe 49 = .ok (.ireturn, 1) := by decide +kernel
theorem dX7_isSafe_50 : decode cX7_isSafe 50 = .ok (.lload 7, 2) := by decide +kernel
theorem dX7_isSafe_52 : decode cX7_isSafe 52 = .ok (.lload 10, 2) := by decide +kernel
theorem dX7_isSafe_54 : decode cX7_isSafe 54 = .ok (.ladd, 1) := by decide +kernel
theorem dX7_isSafe_55 : decode cX7_isSafe 55 = .ok (.lstore 7, 2) := by decide +kernel
theorem dX7_isSafe_57 : decode cX7_isSafe 57 = .ok (.iinc 9 1, 3) := by decide +kernel
theorem dX7_isSafe_60 : decode cX7_isSafe 60 = .ok (.goto (-45), 3) := by decide +kernel
theorem dX7_isSafe_63 : decode cX7_isSafe 63 = .ok (.lload 7, 2) := by decide +kernel
theorem dX7_isSafe_65 : decode cX7_isSafe 65 = .ok (.ldc2_w 149, 3) := by decide +kernel
theorem dX7_isSafe_68 : decode cX7_isSafe 68 = .ok (.lmul, 1) := by decide +kernel
theorem dX7_isSafe_69 : decode cX7_isSafe 69 = .ok (.lconst 1, 1) := by decide +kernel
theorem dX7_isSafe_70 : decode cX7_isSafe 70 = .ok (.iload_n 3, 1) := by decide +kernel
theorem dX7_isSafe_71 : decode cX7_isSafe 71 = .ok (.iconst 1, 1) := by decide +kernel
theorem dX7_isSafe_72 : decode cX7_isSafe 72 = .ok (.isub, 1) := by decide +kernel
theorem dX7_isSafe_73 : decode cX7_isSafe 73 = .ok (.lshl, 1) := by decide +kernel
theorem dX7_isSafe_74 : decode cX7_isSafe 74 = .ok (.lconst 1, 1) := by decide +kernel
theorem dX7_isSafe_75 : decode cX7_isSafe 75 = .ok (.lsub, 1) := by decide +kernel
theorem dX7_isSafe_76 : decode cX7_isSafe 76 = .ok (.lcmp, 1) := by decide +kernel
theorem dX7_isSafe_77 : decode cX7_isSafe 77 = .ok (.ifCond .gt 7, 3) := by decide +kernel
theorem dX7_isSafe_80 : decode cX7_isSafe 80 = .ok (.iconst 1, 1) := by decide +kernel
theorem dX7_isSafe_81 : decode cX7_isSafe 81 = .ok (.goto 4, 3) := by decide +kernel
theorem dX7_isSafe_84 : decode cX7_isSafe 84 = .ok (.iconst 0, 1) := by decide +kernel
theorem dX7_isSafe_85 : decode cX7_isSafe 85 = .ok (.ireturn, 1) := by decide +kernel
theorem dX7_forgets_0 : decode cX7_forgets 0 = .ok (.iconst 0, 1) := by decide +kernel
theorem dX7_forgets_1 : decode cX7_forgets 1 = .ok (.istore_n 2, 1) := by decide +kernel
theorem dX7_forgets_2 : decode cX7_forgets 2 = .ok (.iload_n 2, 1) := by decide +kernel
theorem dX7_forgets_3 : decode cX7_forgets 3 = .ok (.bipush 32, 2) := by decide +kernel
theorem dX7_forgets_5 : decode cX7_forgets 5 = .ok (.if_icmp .ge 21, 3) := by decide +kernel
theorem dX7_forgets_8 : decode cX7_forgets 8 = .ok (.aload_n 0, 1) := by decide +kernel
theorem dX7_forgets_9 : decode cX7_forgets 9 = .ok (.getfield 44, 3) := by decide +kernel
theorem dX7_forgets_12 : decode cX7_forgets 12 = .ok (.bipush 32, 2) := by decide +kernel
theorem dX7_forgets_14 : decode cX7_forgets 14 = .ok (.iload_n 1, 1) := by decide +kernel
theorem dX7_forgets_15 : decode cX7_forgets 15 = .ok (.imul, 1) := by decide +kernel
theorem dX7_forgets_16 : decode cX7_forgets 16 = .ok (.iload_n 2, 1) := by decide +kernel
theorem dX7_forgets_17 : decode cX7_forgets 17 = .ok (.iadd, 1) := by decide +kernel
theorem dX7_forgets_18 : decode cX7_forgets 18 = .ok (.iconst 0, 1) := by decide +kernel
theorem dX7_forgets_19 : decode cX7_forgets 19 = .ok (.iastore, 1) := by decide +kernel
theorem dX7_forgets_20 : decode cX7_forgets 20 = .ok (.iinc 2 1, 3) := by decide +kernel
theorem dX7_forgets_23 : decode cX7_forgets 23 = .ok (.goto (-21), 3) := by decide +kernel
theorem dX7_forgets_26 : decode cX7_forgets 26 = .ok (.aload_n 0, 1) := by decide +kernel
theorem dX7_forgets_27 : decode cX7_forgets 27 = .ok (.getfield 47, 3) := by decide +kernel
theorem dX7_forgets_30 : decode cX7_forgets 30 = .ok (.iload_n 1, 1) := by decide +kernel
theorem dX7_forgets_31 : decode cX7_forgets 31 = .ok (.iconst 0, 1) := by decide +kernel
theorem dX7_forgets_32 : decode cX7_forgets 32 = .ok (.iastore, 1) := by decide +kernel
theorem dX7_forgets_33 : decode cX7_forgets 33 = .ok (.aload_n 0, 1) := by decide +kernel
theorem dX7_forgets_34 : decode cX7_forgets 34 = .ok (.getfield 50, 3) := by decide +kernel
theorem dX7_forgets_37 : decode cX7_forgets 37 = .ok (.iload_n 1, 1) := by decide +kernel
theorem dX7_forgets_38 : decode cX7_forgets 38 = .ok (.lconst 0, 1) := by decide +kernel
theorem dX7_forgets_39 : decode cX7_forgets 39 = .ok (.lastore, 1) := by decide +kernel
theorem dX7_forgets_40 : decode cX7_forgets 40 = .ok (.aload_n 0, 1) := by decide +kernel
theorem dX7_forgets_41 : decode cX7_forgets 41 = .ok (.getfield 54, 3) := by decide +kernel
theorem dX7_forgets_44 : decode cX7_forgets 44 = .ok (.iload_n 1, 1) := by decide +kernel
theorem dX7_forgets_45 : decode cX7_forgets 45 = .ok (.lconst 0, 1) := by decide +kernel
theorem dX7_forgets_46 : decode cX7_forgets 46 = .ok (.lastore, 1) := by decide +kernel
theorem dX7_forgets_47 : decode cX7_forgets 47 = .ok (.aload_n 0, 1) := by decide +kernel
theorem dX7_forgets_48 : decode cX7_forgets 48 = .ok (.getfield 57, 3) := by decide +kernel
theorem dX7_forgets_51 : decode cX7_forgets 51 = .ok (.iload_n 1, 1) := by decide +kernel
theorem dX7_forgets_52 : decode cX7_forgets 52 = .ok (.lconst 0, 1) := by decide +kernel
theorem dX7_forgets_53 : decode cX7_forgets 53 = .ok (.lastore, 1) := by decide +kernel
theorem dX7_forgets_54 : decode cX7_forgets 54 = .ok (.return_, 1) := by decide +kernel
theorem dX7_plans_0 : decode cX7_plans 0 = .ok (.aload_n 0, 1) := by decide +kernel
theorem dX7_plans_1 : decode cX7_plans 1 = .ok (.getfield 29, 3) := by decide +kernel
theorem dX7_plans_4 : decode cX7_plans 4 = .ok (.iload_n 1, 1) := by decide +kernel
theorem dX7_plans_5 : decode cX7_plans 5 = .ok (.iconst 1, 1) := by decide +kernel
theorem dX7_plans_6 : decode cX7_plans 6 = .ok (.bastore, 1) := by decide +kernel
theorem dX7_plans_7 : decode cX7_plans 7 = .ok (.aload_n 0, 1) := by decide +kernel
theorem dX7_plans_8 : decode cX7_plans 8 = .ok (.getfield 32, 3) := by decide +kernel
theorem dX7_plans_11 : decode cX7_plans 11 = .ok (.iload_n 1, 1) := by decide +kernel
theorem dX7_plans_12 : decode cX7_plans 12 = .ok (.iload_n 2, 1) := by decide +kernel
theorem dX7_plans_13 : decode cX7_plans 13 = .ok (.iastore, 1) := by decide +kernel
theorem dX7_plans_14 : decode cX7_plans 14 = .ok (.aload_n 0, 1) := by decide +kernel
theorem dX7_plans_15 : decode cX7_plans 15 = .ok (.getfield 35, 3) := by decide +kernel
theorem dX7_plans_18 : decode cX7_plans 18 = .ok (.iload_n 1, 1) := by decide +kernel
theorem dX7_plans_19 : decode cX7_plans 19 = .ok (.iload_n 3, 1) := by decide +kernel
theorem dX7_plans_20 : decode cX7_plans 20 = .ok (.iastore, 1) := by decide +kernel
theorem dX7_plans_21 : decode cX7_plans 21 = .ok (.aload_n 0, 1) := by decide +kernel
theorem dX7_plans_22 : decode cX7_plans 22 = .ok (.getfield 38, 3) := by decide +kernel
theorem dX7_plans_25 : decode cX7_plans 25 = .ok (.iload_n 1, 1) := by decide +kernel
theorem dX7_plans_26 : decode cX7_plans 26 = .ok (.iload 4, 2) := by decide +kernel
theorem dX7_plans_28 : decode cX7_plans 28 = .ok (.iastore, 1) := by decide +kernel
theorem dX7_plans_29 : decode cX7_plans 29 = .ok (.iconst 0, 1) := by decide +kernel
theorem dX7_plans_30 : decode cX7_plans 30 = .ok (.istore 5, 2) := by decide +kernel
theorem dX7_plans_32 : decode cX7_plans 32 = .ok (.iload 5, 2) := by decide +kernel
theorem dX7_plans_34 : decode cX7_plans 34 = .ok (.aload_n 0, 1) := by decide +kernel
theorem dX7_plans_35 : decode cX7_plans 35 = .ok (.getfield 16, 3) := by decide +kernel
theorem dX7_plans_38 : decode cX7_plans 38 = .ok (.iload_n 1, 1) := by decide +kernel
theorem dX7_plans_39 : decode cX7_plans 39 = .ok (.iaload, 1) := by decide +kernel
theorem dX7_plans_40 : decode cX7_plans 40 = .ok (.if_icmp .ge 31, 3) := by decide +kernel
theorem dX7_plans_43 : decode cX7_plans 43 = .ok (.aload_n 0, 1) := by decide +kernel
theorem dX7_plans_44 : decode cX7_plans 44 = .ok (.getfield 41, 3) := by decide +kernel
theorem dX7_plans_47 : decode cX7_plans 47 = .ok (.bipush 32, 2) := by decide +kernel
theorem dX7_plans_49 : decode cX7_plans 49 = .ok (.iload_n 1, 1) := by decide +kernel
theorem dX7_plans_50 : decode cX7_plans 50 = .ok (.imul, 1) := by decide +kernel
theorem dX7_plans_51 : decode cX7_plans 51 = .ok (.iload 5, 2) := by decide +kernel
theorem dX7_plans_53 : decode cX7_plans 53 = .ok (.iadd, 1) := by decide +kernel
theorem dX7_plans_54 : decode cX7_plans 54 = .ok (.aload_n 0, 1) := by decide +kernel
theorem dX7_plans_55 : decode cX7_plans 55 = .ok (.iload_n 1, 1) := by decide +kernel
theorem dX7_plans_56 : decode cX7_plans 56 = .ok (.iload 5, 2) := by decide +kernel
theorem dX7_plans_58 : decode cX7_plans 58 = .ok (.iload 4, 2) := by decide +kernel
theorem dX7_plans_60 : decode cX7_plans 60 = .ok (.invokevirtual 141, 3) := by decide +kernel
theorem dX7_plans_63 : decode cX7_plans 63 = .ok (.l2i, 1) := by decide +kernel
theorem dX7_plans_64 : decode cX7_plans 64 = .ok (.iastore, 1) := by decide +kernel
theorem dX7_plans_65 : decode cX7_plans 65 = .ok (.iinc 5 1, 3) := by decide +kernel
theorem dX7_plans_68 : decode cX7_plans 68 = .ok (.goto (-36), 3) := by decide +kernel
theorem dX7_plans_71 : decode cX7_plans 71 = .ok (.aload_n 0, 1) := by decide +kernel
theorem dX7_plans_72 : decode cX7_plans 72 = .ok (.iload_n 1, 1) := by decide +kernel
theorem dX7_plans_73 : decode cX7_plans 73 = .ok (.invokevirtual 151, 3) := by decide +kernel
theorem dX7_plans_76 : decode cX7_plans 76 = .ok (.aload_n 0, 1) := by decide +kernel
theorem dX7_plans_77 : decode cX7_plans 77 = .ok (.getfield 60, 3) := by decide +kernel
theorem dX7_plans_80 : decode cX7_plans 80 = .ok (.iload_n 1, 1) := by decide +kernel
theorem dX7_plans_81 : decode cX7_plans 81 = .ok (.iconst 0, 1) := by decide +kernel
theorem dX7_plans_82 : decode cX7_plans 82 = .ok (.bastore, 1) := by decide +kernel
theorem dX7_plans_83 : decode cX7_plans 83 = .ok (.iload 4, 2) := by decide +kernel
theorem dX7_plans_85 : decode cX7_plans 85 = .ok (.ireturn, 1) := by decide +kernel
theorem dX7_isPlan_0 : decode cX7_isPlan 0 = .ok (.aload_n 0, 1) := by decide +kernel
theorem dX7_isPlan_1 : decode cX7_isPlan 1 = .ok (.iload_n 1, 1) := by decide +kernel
theorem dX7_isPlan_2 : decode cX7_isPlan 2 = .ok (.invokevirtual 118, 3) := by decide +kernel
theorem dX7_isPlan_5 : decode cX7_isPlan 5 = .ok (.ifCond .eq 35, 3) := by decide +kernel
theorem dX7_isPlan_8 : decode cX7_isPlan 8 = .ok (.iload_n 2, 1) := by decide +kernel
theorem dX7_isPlan_9 : decode cX7_isPlan 9 = .ok (.i2l, 1) := by decide +kernel
theorem dX7_isPlan_10 : decode cX7_isPlan 10 = .ok (.ldc2_w 103, 3) := by decide +kernel
theorem dX7_isPlan_13 : decode cX7_isPlan 13 = .ok (.ldc2_w 154, 3) := by decide +kernel
theorem dX7_isPlan_16 : decode cX7_isPlan 16 = .ok (.invokestatic 97, 3) := by decide +kernel
theorem dX7_isPlan_19 : decode cX7_isPlan 19 = .ok (.ifCond .eq 21, 3) := by decide +kernel
theorem dX7_isPlan_22 : decode cX7_isPlan 22 = .ok (.iload_n 3, 1) := by decide +kernel
theorem dX7_isPlan_23 : decode cX7_isPlan 23 = .ok (.i2l, 1) := by decide +kernel
theorem dX7_isPlan_24 : decode cX7_isPlan 24 = .ok (.ldc2_w 156, 3) := by decide +kernel
theorem dX7_isPlan_27 : decode cX7_isPlan 27 = .ok (.ldc2_w 158, 3) := by decide +kernel
theorem dX7_isPlan_30 : decode cX7_isPlan 30 = .ok (.invokestatic 97, 3) := by decide +kernel
theorem dX7_isPlan_33 : decode cX7_isPlan 33 = .ok (.ifCond .eq 7, 3) := by decide +kernel
theorem dX7_isPlan_36 : decode cX7_isPlan 36 = .ok (.iconst 1, 1) := by decide +kernel
theorem dX7_isPlan_37 : decode cX7_isPlan 37 = .ok (.goto 4, 3) := by decide +kernel
theorem dX7_isPlan_40 : decode cX7_isPlan 40 = .ok (.iconst 0, 1) := by decide +kernel
theorem dX7_isPlan_41 : decode cX7_isPlan 41 = .ok (.ireturn, 1) := by decide +kernel
theorem dX7_plan_0 : decode cX7_plan 0 = .ok (.aload_n 0, 1) := by decide +kernel
theorem dX7_plan_1 : decode cX7_plan 1 = .ok (.iload_n 1, 1) := by decide +kernel
theorem dX7_plan_2 : decode cX7_plan 2 = .ok (.iload_n 2, 1) := by decide +kernel
theorem dX7_plan_3 : decode cX7_plan 3 = .ok (.iload_n 3, 1) := by decide +kernel
theorem dX7_plan_4 : decode cX7_plan 4 = .ok (.invokevirtual 160, 3) := by decide +kernel
theorem dX7_plan_7 : decode cX7_plan 7 = .ok (.ifCond .ne 6, 3) := by decide +kernel
theorem dX7_plan_10 : decode cX7_plan 10 = .ok (.bipush (-2), 2) := by decide +kernel
theorem dX7_plan_12 : decode cX7_plan 12 = .ok (.ireturn, 1) := by decide +kernel
theorem dX7_plan_13 : decode cX7_plan 13 = .ok (.aload_n 0, 1) := by decide +kernel
theorem dX7_plan_14 : decode cX7_plan 14 = .ok (.getfield 16, 3) := by decide +kernel
theorem dX7_plan_17 : decode cX7_plan 17 = .ok (.iload_n 1, 1) := by decide +kernel
theorem dX7_plan_18 : decode cX7_plan 18 = .ok (.iaload, 1) := by decide +kernel
theorem dX7_plan_19 : decode cX7_plan 19 = .ok (.ifCond .ne 7, 3) := by decide +kernel
theorem dX7_plan_22 : decode cX7_plan 22 = .ok (.iconst (-1), 1) := by decide +kernel
theorem dX7_plan_23 : decode cX7_plan 23 = .ok (.goto 5, 3) := by decide +kernel
theorem dX7_plan_26 : decode cX7_plan 26 = .ok (.bipush 24, 2) := by decide +kernel
theorem dX7_plan_28 : decode cX7_plan 28 = .ok (.istore 4, 2) := by decide +kernel
theorem dX7_plan_30 : decode cX7_plan 30 = .ok (.iload 4, 2) := by decide +kernel
theorem dX7_plan_32 : decode cX7_plan 32 = .ok (.ifCond .lt 21, 3) := by decide +kernel
theorem dX7_plan_35 : decode cX7_plan 35 = .ok (.aload_n 0, 1) := by decide +kernel
theorem dX7_plan_36 : decode cX7_plan 36 = .ok (.iload_n 1, 1) := by decide +kernel
theorem dX7_plan_37 : decode cX7_plan 37 = .ok (.iload_n 2, 1) := by decide +kernel
theorem dX7_plan_38 : decode cX7_plan 38 = .ok (.iload_n 3, 1) := by decide +kernel
theorem dX7_plan_39 : decode cX7_plan 39 = .ok (.iload 4, 2) := by decide +kernel
theorem dX7_plan_41 : decode cX7_plan 41 = .ok (.invokevirtual 164, 3) := by decide +kernel
theorem dX7_plan_44 : decode cX7_plan 44 = .ok (.ifCond .ne 9, 3) := by decide +kernel
theorem dX7_plan_47 : decode cX7_plan 47 = .ok (.iinc 4 (-1), 3) := by decide +kernel
theorem dX7_plan_50 : decode cX7_plan 50 = .ok (.goto (-20), 3) := by decide +kernel
theorem dX7_plan_53 : decode cX7_plan 53 = .ok (.iload 4, 2) := by decide +kernel
theorem dX7_plan_55 : decode cX7_plan 55 = .ok (.ifCond .ge 8, 3) := by decide +kernel
theorem dX7_plan_58 : decode cX7_plan 58 = .ok (.bipush (-3), 2) := by decide +kernel
theorem dX7_plan_60 : decode cX7_plan 60 = .ok (.goto 12, 3) := by decide +kernel
theorem dX7_plan_63 : decode cX7_plan 63 = .ok (.aload_n 0, 1) := by decide +kernel
theorem dX7_plan_64 : decode cX7_plan 64 = .ok (.iload_n 1, 1) := by decide +kernel
theorem dX7_plan_65 : decode cX7_plan 65 = .ok (.iload_n 2, 1) := by decide +kernel
theorem dX7_plan_66 : decode cX7_plan 66 = .ok (.iload_n 3, 1) := by decide +kernel
theorem dX7_plan_67 : decode cX7_plan 67 = .ok (.iload 4, 2) := by decide +kernel
theorem dX7_plan_69 : decode cX7_plan 69 = .ok (.invokevirtual 168, 3) := by decide +kernel
theorem dX7_plan_72 : decode cX7_plan 72 = .ok (.ireturn, 1) := by decide +kernel
theorem dX7_planAt_0 : decode cX7_planAt 0 = .ok (.aload_n 0, 1) := by decide +kernel
theorem dX7_planAt_1 : decode cX7_planAt 1 = .ok (.iload_n 1, 1) := by decide +kernel
theorem dX7_planAt_2 : decode cX7_planAt 2 = .ok (.iload_n 2, 1) := by decide +kernel
theorem dX7_planAt_3 : decode cX7_planAt 3 = .ok (.iload_n 3, 1) := by decide +kernel
theorem dX7_planAt_4 : decode cX7_planAt 4 = .ok (.invokevirtual 160, 3) := by decide +kernel
theorem dX7_planAt_7 : decode cX7_planAt 7 = .ok (.ifCond .eq 16, 3) := by decide +kernel
theorem dX7_planAt_10 : decode cX7_planAt 10 = .ok (.iload 4, 2) := by decide +kernel
theorem dX7_planAt_12 : decode cX7_planAt 12 = .ok (.i2l, 1) := by decide +kernel
theorem dX7_planAt_13 : decode cX7_planAt 13 = .ok (.lconst 0, 1) := by decide +kernel
theorem dX7_planAt_14 : decode cX7_planAt 14 = .ok (.ldc2_w 172, 3) := by decide +kernel
theorem dX7_planAt_17 : decode cX7_planAt 17 = .ok (.invokestatic 97, 3) := by decide +kernel
theorem dX7_planAt_20 : decode cX7_planAt 20 = .ok (.ifCond .ne 6, 3) := by decide +kernel
theorem dX7_planAt_23 : decode cX7_planAt 23 = .ok (.bipush (-2), 2) := by decide +kernel
theorem dX7_planAt_25 : decode cX7_planAt 25 = .ok (.ireturn, 1) := by decide +kernel
theorem dX7_planAt_26 : decode cX7_planAt 26 = .ok (.aload_n 0, 1) := by decide +kernel
theorem dX7_planAt_27 : decode cX7_planAt 27 = .ok (.getfield 16, 3) := by decide +kernel
theorem dX7_planAt_30 : decode cX7_planAt 30 = .ok (.iload_n 1, 1) := by decide +kernel
theorem dX7_planAt_31 : decode cX7_planAt 31 = .ok (.iaload, 1) := by decide +kernel
theorem dX7_planAt_32 : decode cX7_planAt 32 = .ok (.ifCond .eq 15, 3) := by decide +kernel
theorem dX7_planAt_35 : decode cX7_planAt 35 = .ok (.aload_n 0, 1) := by decide +kernel
theorem dX7_planAt_36 : decode cX7_planAt 36 = .ok (.iload_n 1, 1) := by decide +kernel
theorem dX7_planAt_37 : decode cX7_planAt 37 = .ok (.iload_n 2, 1) := by decide +kernel
theorem dX7_planAt_38 : decode cX7_planAt 38 = .ok (.iload_n 3, 1) := by decide +kernel
theorem dX7_planAt_39 : decode cX7_planAt 39 = .ok (.iload 4, 2) := by decide +kernel
theorem dX7_planAt_41 : decode cX7_planAt 41 = .ok (.invokevirtual 164, 3) := by decide +kernel
theorem dX7_planAt_44 : decode cX7_planAt 44 = .ok (.ifCond .ne 8, 3) := by decide +kernel
theorem dX7_planAt_47 : decode cX7_planAt 47 = .ok (.bipush (-3), 2) := by decide +kernel
theorem dX7_planAt_49 : decode cX7_planAt 49 = .ok (.goto 12, 3) := by decide +kernel
theorem dX7_planAt_52 : decode cX7_planAt 52 = .ok (.aload_n 0, 1) := by decide +kernel
theorem dX7_planAt_53 : decode cX7_planAt 53 = .ok (.iload_n 1, 1) := by decide +kernel
theorem dX7_planAt_54 : decode cX7_planAt 54 = .ok (.iload_n 2, 1) := by decide +kernel
theorem dX7_planAt_55 : decode cX7_planAt 55 = .ok (.iload_n 3, 1) := by decide +kernel
theorem dX7_planAt_56 : decode cX7_planAt 56 = .ok (.iload 4, 2) := by decide +kernel
theorem dX7_planAt_58 : decode cX7_planAt 58 = .ok (.invokevirtual 168, 3) := by decide +kernel
theorem dX7_planAt_61 : decode cX7_planAt 61 = .ok (.ireturn, 1) := by decide +kernel
theorem dX7_coefficient_0 : decode cX7_coefficient 0 = .ok (.aload_n 0, 1) := by decide +kernel
theorem dX7_coefficient_1 : decode cX7_coefficient 1 = .ok (.iload_n 1, 1) := by decide +kernel
theorem dX7_coefficient_2 : decode cX7_coefficient 2 = .ok (.invokevirtual 118, 3) := by decide +kernel
theorem dX7_coefficient_5 : decode cX7_coefficient 5 = .ok (.ifCond .eq 44, 3) := by decide +kernel
theorem dX7_coefficient_8 : decode cX7_coefficient 8 = .ok (.aload_n 0, 1) := by decide +kernel
theorem dX7_coefficient_9 : decode cX7_coefficient 9 = .ok (.getfield 29, 3) := by decide +kernel
theorem dX7_coefficient_12 : decode cX7_coefficient 12 = .ok (.iload_n 1, 1) := by decide +kernel
theorem dX7_coefficient_13 : decode cX7_coefficient 13 = .ok (.baload, 1) := by decide +kernel
theorem dX7_coefficient_14 : decode cX7_coefficient 14 = .ok (.ifCond .eq 35, 3) := by decide +kernel
theorem dX7_coefficient_17 : decode cX7_coefficient 17 = .ok (.iload_n 2, 1) := by decide +kernel
theorem dX7_coefficient_18 : decode cX7_coefficient 18 = .ok (.i2l, 1) := by decide +kernel
theorem dX7_coefficient_19 : decode cX7_coefficient 19 = .ok (.lconst 0, 1) := by decide +kernel
theorem dX7_coefficient_20 : decode cX7_coefficient 20 = .ok (.aload_n 0, 1) := by decide +kernel
theorem dX7_coefficient_21 : decode cX7_coefficient 21 = .ok (.getfield 16, 3) := by decide +kernel
theorem dX7_coefficient_24 : decode cX7_coefficient 24 = .ok (.iload_n 1, 1) := by decide +kernel
theorem dX7_coefficient_25 : decode cX7_coefficient 25 = .ok (.iaload, 1) := by decide +kernel
theorem dX7_coefficient_26 : decode cX7_coefficient 26 = .ok (.iconst 1, 1) := by decide +kernel
theorem dX7_coefficient_27 : decode cX7_coefficient 27 = .ok (.isub, 1) := by decide +kernel
theorem dX7_coefficient_28 : decode cX7_coefficient 28 = .ok (.i2l, 1) := by decide +kernel
theorem dX7_coefficient_29 : decode cX7_coefficient 29 = .ok (.invokestatic 97, 3) := by decide +kernel
theorem dX7_coefficient_32 : decode cX7_coefficient 32 = .ok (.ifCond .eq 17, 3) := by decide +kernel
theorem dX7_coefficient_35 : decode cX7_coefficient 35 = .ok (.aload_n 0, 1) := by decide +kernel
theorem dX7_coefficient_36 : decode cX7_coefficient 36 = .ok (.getfield 41, 3) := by decide +kernel
theorem dX7_coefficient_39 : decode cX7_coefficient 39 = .ok (.bipush 32, 2) := by decide +kernel
theorem dX7_coefficient_41 : decode cX7_coefficient 41 = .ok (.iload_n 1, 1) := by decide +kernel
theorem dX7_coefficient_42 : decode cX7_coefficient 42 = .ok (.imul, 1) := by decide +kernel
theorem dX7_coefficient_43 : decode cX7_coefficient 43 = .ok (.iload_n 2, 1) := by decide +kernel
theorem dX7_coefficient_44 : decode cX7_coefficient 44 = .ok (.iadd, 1) := by decide +kernel
theorem dX7_coefficient_45 : decode cX7_coefficient 45 = .ok (.iaload, 1) := by decide +kernel
theorem dX7_coefficient_46 : decode cX7_coefficient 46 = .ok (.goto 5, 3) := by decide +kernel
theorem dX7_coefficient_49 : decode cX7_coefficient 49 = .ok (.ldc 129, 2) := by decide +kernel
theorem dX7_coefficient_51 : decode cX7_coefficient 51 = .ok (.ireturn, 1) := by decide +kernel
theorem dX7_mirrored_0 : decode cX7_mirrored 0 = .ok (.iconst 3, 1) := by decide +kernel
theorem dX7_mirrored_1 : decode cX7_mirrored 1 = .ok (.istore_n 2, 1) := by decide +kernel
theorem dX7_mirrored_2 : decode cX7_mirrored 2 = .ok (.iconst 0, 1) := by decide +kernel
theorem dX7_mirrored_3 : decode cX7_mirrored 3 = .ok (.istore_n 3, 1) := by decide +kernel
theorem dX7_mirrored_4 : decode cX7_mirrored 4 = .ok (.iload_n 3, 1) := by decide +kernel
theorem dX7_mirrored_5 : decode cX7_mirrored 5 = .ok (.aload_n 0, 1) := by decide +kernel
theorem dX7_mirrored_6 : decode cX7_mirrored 6 = .ok (.getfield 16, 3) := by decide +kernel
theorem dX7_mirrored_9 : decode cX7_mirrored 9 = .ok (.iload_n 1, 1) := by decide +kernel
theorem dX7_mirrored_10 : decode cX7_mirrored 10 = .ok (.iaload, 1) := by decide +kernel
theorem dX7_mirrored_11 : decode cX7_mirrored 11 = .ok (.if_icmp .ge 73, 3) := by decide +kernel
theorem dX7_mirrored_14 : decode cX7_mirrored 14 = .ok (.aload_n 0, 1) := by decide +kernel
theorem dX7_mirrored_15 : decode cX7_mirrored 15 = .ok (.getfield 19, 3) := by decide +kernel
theorem dX7_mirrored_18 : decode cX7_mirrored 18 = .ok (.bipush 32, 2) := by decide +kernel
theorem dX7_mirrored_20 : decode cX7_mirrored 20 = .ok (.iload_n 1, 1) := by decide +kernel
theorem dX7_mirrored_21 : decode cX7_mirrored 21 = .ok (.imul, 1) := by decide +kernel
theorem dX7_mirrored_22 : decode cX7_mirrored 22 = .ok (.iload_n 3, 1) := by decide +kernel
theorem dX7_mirrored_23 : decode cX7_mirrored 23 = .ok (.iadd, 1) := by decide +kernel
theorem dX7_mirrored_24 : decode cX7_mirrored 24 = .ok (.iaload, 1) := by decide +kernel
theorem dX7_mirrored_25 : decode cX7_mirrored 25 = .ok (.istore 4, 2) := by decide +kernel
theorem dX7_mirrored_27 : decode cX7_mirrored 27 = .ok (.aload_n 0, 1) := by decide +kernel
theorem dX7_mirrored_28 : decode cX7_mirrored 28 = .ok (.getfield 19, 3) := by decide +kernel
theorem dX7_mirrored_31 : decode cX7_mirrored 31 = .ok (.bipush 32, 2) := by decide +kernel
theorem dX7_mirrored_33 : decode cX7_mirrored 33 = .ok (.iload_n 1, 1) := by decide +kernel
theorem dX7_mirrored_34 : decode cX7_mirrored 34 = .ok (.imul, 1) := by decide +kernel
theorem dX7_mirrored_35 : decode cX7_mirrored 35 = .ok (.aload_n 0, 1) := by decide +kernel
theorem dX7_mirrored_36 : decode cX7_mirrored 36 = .ok (.getfield 16, 3) := by decide +kernel
theorem dX7_mirrored_39 : decode cX7_mirrored 39 = .ok (.iload_n 1, 1) := by decide +kernel
theorem dX7_mirrored_40 : decode cX7_mirrored 40 = .ok (.iaload, 1) := by decide +kernel
theorem dX7_mirrored_41 : decode cX7_mirrored 41 = .ok (.iadd, 1) := by decide +kernel
theorem dX7_mirrored_42 : decode cX7_mirrored 42 = .ok (.iconst 1, 1) := by decide +kernel
theorem dX7_mirrored_43 : decode cX7_mirrored 43 = .ok (.isub, 1) := by decide +kernel
theorem dX7_mirrored_44 : decode cX7_mirrored 44 = .ok (.iload_n 3, 1) := by decide +kernel
theorem dX7_mirrored_45 : decode cX7_mirrored 45 = .ok (.isub, 1) := by decide +kernel
theorem dX7_mirrored_46 : decode cX7_mirrored 46 = .ok (.iaload, 1) := by decide +kernel
theorem dX7_mirrored_47 : decode cX7_mirrored 47 = .ok (.istore 5, 2) := by decide +kernel
theorem dX7_mirrored_49 : decode cX7_mirrored 49 = .ok (.iload_n 2, 1) := by decide +kernel
theorem dX7_mirrored_50 : decode cX7_mirrored 50 = .ok (.iload 4, 2) := by decide +kernel
theorem dX7_mirrored_52 : decode cX7_mirrored 52 = .ok (.iload 5, 2) := by decide +kernel
theorem dX7_mirrored_54 : decode cX7_mirrored 54 = .ok (.if_icmp .ne 7, 3) := by decide +kernel
theorem dX7_mirrored_57 : decode cX7_mirrored 57 = .ok (.iconst 1, 1) := by decide +kernel
theorem dX7_mirrored_58 : decode cX7_mirrored 58 = .ok (.goto 4, 3) := by decide +kernel
theorem dX7_mirrored_61 : decode cX7_mirrored 61 = .ok (.iconst 0, 1) := by decide +kernel
theorem dX7_mirrored_62 : decode cX7_mirrored 62 = .ok (.iload 4, 2) := by decide +kernel
theorem dX7_mirrored_64 : decode cX7_mirrored 64 = .ok (.iload 5, 2) := by decide +kernel
theorem dX7_mirrored_66 : decode cX7_mirrored 66 = .ok (.ineg, 1) := by decide +kernel
theorem dX7_mirrored_67 : decode cX7_mirrored 67 = .ok (.if_icmp .ne 7, 3) := by decide +kernel
theorem dX7_mirrored_70 : decode cX7_mirrored 70 = .ok (.iconst 2, 1) := by decide +kernel
theorem dX7_mirrored_71 : decode cX7_mirrored 71 = .ok (.goto 4, 3) := by decide +kernel
theorem dX7_mirrored_74 : decode cX7_mirrored 74 = .ok (.iconst 0, 1) := by decide +kernel
theorem dX7_mirrored_75 : decode cX7_mirrored 75 = .ok (.ior, 1) := by decide +kernel
theorem dX7_mirrored_76 : decode cX7_mirrored 76 = .ok (.iand, 1) := by decide +kernel
theorem dX7_mirrored_77 : decode cX7_mirrored 77 = .ok (.istore_n 2, 1) := by decide +kernel
theorem dX7_mirrored_78 : decode cX7_mirrored 78 = .ok (.iinc 3 1, 3) := by decide +kernel
theorem dX7_mirrored_81 : decode cX7_mirrored 81 = .ok (.goto (-77), 3) := by decide +kernel
theorem dX7_mirrored_84 : decode cX7_mirrored 84 = .ok (.iload_n 2, 1) := by decide +kernel
theorem dX7_mirrored_85 : decode cX7_mirrored 85 = .ok (.ireturn, 1) := by decide +kernel
theorem dX7_aboutOf_0 : decode cX7_aboutOf 0 = .ok (.iload_n 2, 1) := by decide +kernel
theorem dX7_aboutOf_1 : decode cX7_aboutOf 1 = .ok (.tableswitch 160 0 8 #[51, 58, 65, 72, 79, 94, 114, 134, 154], 51) := by decide +kernel
theorem dX7_aboutOf_52 : decode cX7_aboutOf 52 = .ok (.aload_n 0, 1) := by decide +kernel
theorem dX7_aboutOf_53 : decode cX7_aboutOf 53 = .ok (.getfield 16, 3) := by decide +kernel
theorem dX7_aboutOf_56 : decode cX7_aboutOf 56 = .ok (.iload_n 1, 1) := by decide +kernel
theorem dX7_aboutOf_57 : decode cX7_aboutOf 57 = .ok (.iaload, 1) := by decide +kernel
theorem dX7_aboutOf_58 : decode cX7_aboutOf 58 = .ok (.ireturn, 1) := by decide +kernel
theorem dX7_aboutOf_59 : decode cX7_aboutOf 59 = .ok (.aload_n 0, 1) := by decide +kernel
theorem dX7_aboutOf_60 : decode cX7_aboutOf 60 = .ok (.getfield 7, 3) := by decide +kernel
theorem dX7_aboutOf_63 : decode cX7_aboutOf 63 = .ok (.iload_n 1, 1) := by decide +kernel
theorem dX7_aboutOf_64 : decode cX7_aboutOf 64 = .ok (.iaload, 1) := by decide +kernel
theorem dX7_aboutOf_65 : decode cX7_aboutOf 65 = .ok (.ireturn, 1) := by decide +kernel
theorem dX7_aboutOf_66 : decode cX7_aboutOf 66 = .ok (.aload_n 0, 1) := by decide +kernel
theorem dX7_aboutOf_67 : decode cX7_aboutOf 67 = .ok (.getfield 13, 3) := by decide +kernel
theorem dX7_aboutOf_70 : decode cX7_aboutOf 70 = .ok (.iload_n 1, 1) := by decide +kernel
theorem dX7_aboutOf_71 : decode cX7_aboutOf 71 = .ok (.iaload, 1) := by decide +kernel
theorem dX7_aboutOf_72 : decode cX7_aboutOf 72 = .ok (.ireturn, 1) := by decide +kernel
theorem dX7_aboutOf_73 : decode cX7_aboutOf 73 = .ok (.aload_n 0, 1) := by decide +kernel
theorem dX7_aboutOf_74 : decode cX7_aboutOf 74 = .ok (.getfield 22, 3) := by decide +kernel
theorem dX7_aboutOf_77 : decode cX7_aboutOf 77 = .ok (.iload_n 1, 1) := by decide +kernel
theorem dX7_aboutOf_78 : decode cX7_aboutOf 78 = .ok (.iaload, 1) := by decide +kernel
theorem dX7_aboutOf_79 : decode cX7_aboutOf 79 = .ok (.ireturn, 1) := by decide +kernel
theorem dX7_aboutOf_80 : decode cX7_aboutOf 80 = .ok (.aload_n 0, 1) := by decide +kernel
theorem dX7_aboutOf_81 : decode cX7_aboutOf 81 = .ok (.getfield 25, 3) := by decide +kernel
theorem dX7_aboutOf_84 : decode cX7_aboutOf 84 = .ok (.iload_n 1, 1) := by decide +kernel
theorem dX7_aboutOf_85 : decode cX7_aboutOf 85 = .ok (.baload, 1) := by decide +kernel
theorem dX7_aboutOf_86 : decode cX7_aboutOf 86 = .ok (.ifCond .eq 7, 3) := by decide +kernel
theorem dX7_aboutOf_89 : decode cX7_aboutOf 89 = .ok (.iconst 1, 1) := by decide +kernel
theorem dX7_aboutOf_90 : decode cX7_aboutOf 90 = .ok (.goto 4, 3) := by decide +kernel
theorem dX7_aboutOf_93 : decode cX7_aboutOf 93 = .ok (.iconst 0, 1) := by decide +kernel
theorem dX7_aboutOf_94 : decode cX7_aboutOf 94 = .ok (.ireturn, 1) := by decide +kernel
theorem dX7_aboutOf_95 : decode cX7_aboutOf 95 = .ok (.aload_n 0, 1) := by decide +kernel
theorem dX7_aboutOf_96 : decode cX7_aboutOf 96 = .ok (.getfield 29, 3) := by decide +kernel
theorem dX7_aboutOf_99 : decode cX7_aboutOf 99 = .ok (.iload_n 1, 1) := by decide +kernel
theorem dX7_aboutOf_100 : decode cX7_aboutOf 100 = .ok (.baload, 1) := by decide +kernel
theorem dX7_aboutOf_101 : decode cX7_aboutOf 101 = .ok (.ifCond .eq 12, 3) := by decide +kernel
theorem dX7_aboutOf_104 : decode cX7_aboutOf 104 = .ok (.aload_n 0, 1) := by decide +kernel
theorem dX7_aboutOf_105 : decode cX7_aboutOf 105 = .ok (.getfield 38, 3) := by decide +kernel
theorem dX7_aboutOf_108 : decode cX7_aboutOf 108 = .ok (.iload_n 1, 1) := by decide +kernel
theorem dX7_aboutOf_109 : decode cX7_aboutOf 109 = .ok (.iaload, 1) := by decide +kernel
theorem dX7_aboutOf_110 : decode cX7_aboutOf 110 = .ok (.goto 4, 3) := by decide +kernel
theorem dX7_aboutOf_113 : decode cX7_aboutOf 113 = .ok (.iconst (-1), 1) := by decide +kernel
theorem dX7_aboutOf_114 : decode cX7_aboutOf 114 = .ok (.ireturn, 1) := by decide +kernel
theorem dX7_aboutOf_115 : decode cX7_aboutOf 115 = .ok (.aload_n 0, 1) := by decide +kernel
theorem dX7_aboutOf_116 : decode cX7_aboutOf 116 = .ok (.getfield 29, 3) := by decide +kernel
theorem dX7_aboutOf_119 : decode cX7_aboutOf 119 = .ok (.iload_n 1, 1) := by decide +kernel
theorem dX7_aboutOf_120 : decode cX7_aboutOf 120 = .ok (.baload, 1) := by decide +kernel
theorem dX7_aboutOf_121 : decode cX7_aboutOf 121 = .ok (.ifCond .eq 12, 3) := by decide +kernel
theorem dX7_aboutOf_124 : decode cX7_aboutOf 124 = .ok (.aload_n 0, 1) := by decide +kernel
theorem dX7_aboutOf_125 : decode cX7_aboutOf 125 = .ok (.getfield 32, 3) := by decide +kernel
theorem dX7_aboutOf_128 : decode cX7_aboutOf 128 = .ok (.iload_n 1, 1) := by decide +kernel
theorem dX7_aboutOf_129 : decode cX7_aboutOf 129 = .ok (.iaload, 1) := by decide +kernel
theorem dX7_aboutOf_130 : decode cX7_aboutOf 130 = .ok (.goto 4, 3) := by decide +kernel
theorem dX7_aboutOf_133 : decode cX7_aboutOf 133 = .ok (.iconst (-1), 1) := by decide +kernel
theorem dX7_aboutOf_134 : decode cX7_aboutOf 134 = .ok (.ireturn, 1) := by decide +kernel
theorem dX7_aboutOf_135 : decode cX7_aboutOf 135 = .ok (.aload_n 0, 1) := by decide +kernel
theorem dX7_aboutOf_136 : decode cX7_aboutOf 136 = .ok (.getfield 29, 3) := by decide +kernel
theorem dX7_aboutOf_139 : decode cX7_aboutOf 139 = .ok (.iload_n 1, 1) := by decide +kernel
theorem dX7_aboutOf_140 : decode cX7_aboutOf 140 = .ok (.baload, 1) := by decide +kernel
theorem dX7_aboutOf_141 : decode cX7_aboutOf 141 = .ok (.ifCond .eq 12, 3) := by decide +kernel
theorem dX7_aboutOf_144 : decode cX7_aboutOf 144 = .ok (.aload_n 0, 1) := by decide +kernel
theorem dX7_aboutOf_145 : decode cX7_aboutOf 145 = .ok (.getfield 35, 3) := by decide +kernel
theorem dX7_aboutOf_148 : decode cX7_aboutOf 148 = .ok (.iload_n 1, 1) := by decide +kernel
theorem dX7_aboutOf_149 : decode cX7_aboutOf 149 = .ok (.iaload, 1) := by decide +kernel
theorem dX7_aboutOf_150 : decode cX7_aboutOf 150 = .ok (.goto 4, 3) := by decide +kernel
theorem dX7_aboutOf_153 : decode cX7_aboutOf 153 = .ok (.iconst (-1), 1) := by decide +kernel
theorem dX7_aboutOf_154 : decode cX7_aboutOf 154 = .ok (.ireturn, 1) := by decide +kernel
theorem dX7_aboutOf_155 : decode cX7_aboutOf 155 = .ok (.aload_n 0, 1) := by decide +kernel
theorem dX7_aboutOf_156 : decode cX7_aboutOf 156 = .ok (.iload_n 1, 1) := by decide +kernel
theorem dX7_aboutOf_157 : decode cX7_aboutOf 157 = .ok (.invokevirtual 112, 3) := by decide +kernel
theorem dX7_aboutOf_160 : decode cX7_aboutOf 160 = .ok (.ireturn, 1) := by decide +kernel
theorem dX7_aboutOf_161 : decode cX7_aboutOf 161 = .ok (.aload_n 0, 1) := by decide +kernel
theorem dX7_aboutOf_162 : decode cX7_aboutOf 162 = .ok (.iload_n 1, 1) := by decide +kernel
theorem dX7_aboutOf_163 : decode cX7_aboutOf 163 = .ok (.invokevirtual 174, 3) := by decide +kernel
theorem dX7_aboutOf_166 : decode cX7_aboutOf 166 = .ok (.ireturn, 1) := by decide +kernel
theorem dX7_about_0 : decode cX7_about 0 = .ok (.aload_n 0, 1) := by decide +kernel
theorem dX7_about_1 : decode cX7_about 1 = .ok (.iload_n 1, 1) := by decide +kernel
theorem dX7_about_2 : decode cX7_about 2 = .ok (.invokevirtual 118, 3) := by decide +kernel
theorem dX7_about_5 : decode cX7_about 5 = .ok (.ifCond .eq 24, 3) := by decide +kernel
theorem dX7_about_8 : decode cX7_about 8 = .ok (.iload_n 2, 1) := by decide +kernel
theorem dX7_about_9 : decode cX7_about 9 = .ok (.i2l, 1) := by decide +kernel
theorem dX7_about_10 : decode cX7_about 10 = .ok (.lconst 0, 1) := by decide +kernel
theorem dX7_about_11 : decode cX7_about 11 = .ok (.ldc2_w 177, 3) := by decide +kernel
theorem dX7_about_14 : decode cX7_about 14 = .ok (.invokestatic 97, 3) := by decide +kernel
theorem dX7_about_17 : decode cX7_about 17 = .ok (.ifCond .eq 12, 3) := by decide +kernel
theorem dX7_about_20 : decode cX7_about 20 = .ok (.aload_n 0, 1) := by decide +kernel
theorem dX7_about_21 : decode cX7_about 21 = .ok (.iload_n 1, 1) := by decide +kernel
theorem dX7_about_22 : decode cX7_about 22 = .ok (.iload_n 2, 1) := by decide +kernel
theorem dX7_about_23 : decode cX7_about 23 = .ok (.invokevirtual 179, 3) := by decide +kernel
theorem dX7_about_26 : decode cX7_about 26 = .ok (.goto 5, 3) := by decide +kernel
theorem dX7_about_29 : decode cX7_about 29 = .ok (.bipush (-2), 2) := by decide +kernel
theorem dX7_about_31 : decode cX7_about 31 = .ok (.ireturn, 1) := by decide +kernel
theorem dX7_normOf_0 : decode cX7_normOf 0 = .ok (.lconst 0, 1) := by decide +kernel
theorem dX7_normOf_1 : decode cX7_normOf 1 = .ok (.lstore_n 2, 1) := by decide +kernel
theorem dX7_normOf_2 : decode cX7_normOf 2 = .ok (.iconst 0, 1) := by decide +kernel
theorem dX7_normOf_3 : decode cX7_normOf 3 = .ok (.istore 4, 2) := by decide +kernel
theorem dX7_normOf_5 : decode cX7_normOf 5 = .ok (.iload 4, 2) := by decide +kernel
theorem dX7_normOf_7 : decode cX7_normOf 7 = .ok (.aload_n 0, 1) := by decide +kernel
theorem dX7_normOf_8 : decode cX7_normOf 8 = .ok (.getfield 16, 3) := by decide +kernel
theorem dX7_normOf_11 : decode cX7_normOf 11 = .ok (.iload_n 1, 1) := by decide +kernel
theorem dX7_normOf_12 : decode cX7_normOf 12 = .ok (.iaload, 1) := by decide +kernel
theorem dX7_normOf_13 : decode cX7_normOf 13 = .ok (.if_icmp .ge 28, 3) := by decide +kernel
theorem dX7_normOf_16 : decode cX7_normOf 16 = .ok (.lload_n 2, 1) := by decide +kernel
theorem dX7_normOf_17 : decode cX7_normOf 17 = .ok (.aload_n 0, 1) := by decide +kernel
theorem dX7_normOf_18 : decode cX7_normOf 18 = .ok (.getfield 41, 3) := by decide +kernel
theorem dX7_normOf_21 : decode cX7_normOf 21 = .ok (.bipush 32, 2) := by decide +kernel
theorem dX7_normOf_23 : decode cX7_normOf 23 = .ok (.iload_n 1, 1) := by decide +kernel
theorem dX7_normOf_24 : decode cX7_normOf 24 = .ok (.imul, 1) := by decide +kernel
theorem dX7_normOf_25 : decode cX7_normOf 25 = .ok (.iload 4, 2) := by decide +kernel
theorem dX7_normOf_27 : decode cX7_normOf 27 = .ok (.iadd, 1) := by decide +kernel
theorem dX7_normOf_28 : decode cX7_normOf 28 = .ok (.iaload, 1) := by decide +kernel
theorem dX7_normOf_29 : decode cX7_normOf 29 = .ok (.i2l, 1) := by decide +kernel
theorem dX7_normOf_30 : decode cX7_normOf 30 = .ok (.invokestatic 145, 3) := by decide +kernel
theorem dX7_normOf_33 : decode cX7_normOf 33 = .ok (.ladd, 1) := by decide +kernel
theorem dX7_normOf_34 : decode cX7_normOf 34 = .ok (.lstore_n 2, 1) := by decide +kernel
theorem dX7_normOf_35 : decode cX7_normOf 35 = .ok (.iinc 4 1, 3) := by decide +kernel
theorem dX7_normOf_38 : decode cX7_normOf 38 = .ok (.goto (-33), 3) := by decide +kernel
theorem dX7_normOf_41 : decode cX7_normOf 41 = .ok (.lload_n 2, 1) := by decide +kernel
theorem dX7_normOf_42 : decode cX7_normOf 42 = .ok (.lreturn, 1) := by decide +kernel
theorem dX7_norm_0 : decode cX7_norm 0 = .ok (.aload_n 0, 1) := by decide +kernel
theorem dX7_norm_1 : decode cX7_norm 1 = .ok (.iload_n 1, 1) := by decide +kernel
theorem dX7_norm_2 : decode cX7_norm 2 = .ok (.invokevirtual 118, 3) := by decide +kernel
theorem dX7_norm_5 : decode cX7_norm 5 = .ok (.ifCond .eq 20, 3) := by decide +kernel
theorem dX7_norm_8 : decode cX7_norm 8 = .ok (.aload_n 0, 1) := by decide +kernel
theorem dX7_norm_9 : decode cX7_norm 9 = .ok (.getfield 29, 3) := by decide +kernel
theorem dX7_norm_12 : decode cX7_norm 12 = .ok (.iload_n 1, 1) := by decide +kernel
theorem dX7_norm_13 : decode cX7_norm 13 = .ok (.baload, 1) := by decide +kernel
theorem dX7_norm_14 : decode cX7_norm 14 = .ok (.ifCond .eq 11, 3) := by decide +kernel
theorem dX7_norm_17 : decode cX7_norm 17 = .ok (.aload_n 0, 1) := by decide +kernel
theorem dX7_norm_18 : decode cX7_norm 18 = .ok (.iload_n 1, 1) := by decide +kernel
theorem dX7_norm_19 : decode cX7_norm 19 = .ok (.invokevirtual 183, 3) := by decide +kernel
theorem dX7_norm_22 : decode cX7_norm 22 = .ok (.goto 6, 3) := by decide +kernel
theorem dX7_norm_25 : decode cX7_norm 25 = .ok (.ldc2_w 107, 3) := by decide +kernel
theorem dX7_norm_28 : decode cX7_norm 28 = .ok (.lreturn, 1) := by decide +kernel
theorem dX7_round_0 : decode cX7_round 0 = .ok (.lconst 1, 1) := by decide +kernel
theorem dX7_round_1 : decode cX7_round 1 = .ok (.iload_n 2, 1) := by decide +kernel
theorem dX7_round_2 : decode cX7_round 2 = .ok (.lshl, 1) := by decide +kernel
theorem dX7_round_3 : decode cX7_round 3 = .ok (.lstore 4, 2) := by decide +kernel
theorem dX7_round_5 : decode cX7_round 5 = .ok (.iload_n 3, 1) := by decide +kernel
theorem dX7_round_6 : decode cX7_round 6 = .ok (.tableswitch 56 0 2 #[26, 33, 38], 26) := by decide +kernel
theorem dX7_round_32 : decode cX7_round 32 = .ok (.lload_n 0, 1) := by decide +kernel
theorem dX7_round_33 : decode cX7_round 33 = .ok (.lload 4, 2) := by decide +kernel
theorem dX7_round_35 : decode cX7_round 35 = .ok (.invokestatic 132, 3) := by decide +kernel
theorem dX7_round_38 : decode cX7_round 38 = .ok (.lreturn, 1) := by decide +kernel
theorem dX7_round_39 : decode cX7_round 39 = .ok (.lload_n 0, 1) := by decide +kernel
theorem dX7_round_40 : decode cX7_round 40 = .ok (.lload 4, 2) := by decide +kernel
theorem dX7_round_42 : decode cX7_round 42 = .ok (.ldiv, 1) := by decide +kernel
theorem dX7_round_43 : decode cX7_round 43 = .ok (.lreturn, 1) := by decide +kernel
theorem dX7_round_44 : decode cX7_round 44 = .ok (.ldc2_w 136, 3) := by decide +kernel
theorem dX7_round_47 : decode cX7_round 47 = .ok (.lload_n 0, 1) := by decide +kernel
theorem dX7_round_48 : decode cX7_round 48 = .ok (.lmul, 1) := by decide +kernel
theorem dX7_round_49 : decode cX7_round 49 = .ok (.lload 4, 2) := by decide +kernel
theorem dX7_round_51 : decode cX7_round 51 = .ok (.ladd, 1) := by decide +kernel
theorem dX7_round_52 : decode cX7_round 52 = .ok (.ldc2_w 136, 3) := by decide +kernel
theorem dX7_round_55 : decode cX7_round 55 = .ok (.lload 4, 2) := by decide +kernel
theorem dX7_round_57 : decode cX7_round 57 = .ok (.lmul, 1) := by decide +kernel
theorem dX7_round_58 : decode cX7_round 58 = .ok (.invokestatic 132, 3) := by decide +kernel
theorem dX7_round_61 : decode cX7_round 61 = .ok (.lreturn, 1) := by decide +kernel
theorem dX7_round_62 : decode cX7_round 62 = .ok (.lload_n 0, 1) := by decide +kernel
theorem dX7_round_63 : decode cX7_round 63 = .ok (.lload 4, 2) := by decide +kernel
theorem dX7_round_65 : decode cX7_round 65 = .ok (.invokestatic 138, 3) := by decide +kernel
theorem dX7_round_68 : decode cX7_round 68 = .ok (.lreturn, 1) := by decide +kernel
theorem dX7_comes_0 : decode cX7_comes 0 = .ok (.bipush 31, 2) := by decide +kernel
theorem dX7_comes_2 : decode cX7_comes 2 = .ok (.istore_n 3, 1) := by decide +kernel
theorem dX7_comes_3 : decode cX7_comes 3 = .ok (.iload_n 3, 1) := by decide +kernel
theorem dX7_comes_4 : decode cX7_comes 4 = .ok (.ifCond .le 33, 3) := by decide +kernel
theorem dX7_comes_7 : decode cX7_comes 7 = .ok (.aload_n 0, 1) := by decide +kernel
theorem dX7_comes_8 : decode cX7_comes 8 = .ok (.getfield 44, 3) := by decide +kernel
theorem dX7_comes_11 : decode cX7_comes 11 = .ok (.bipush 32, 2) := by decide +kernel
theorem dX7_comes_13 : decode cX7_comes 13 = .ok (.iload_n 1, 1) := by decide +kernel
theorem dX7_comes_14 : decode cX7_comes 14 = .ok (.imul, 1) := by decide +kernel
theorem dX7_comes_15 : decode cX7_comes 15 = .ok (.iload_n 3, 1) := by decide +kernel
theorem dX7_comes_16 : decode cX7_comes 16 = .ok (.iadd, 1) := by decide +kernel
theorem dX7_comes_17 : decode cX7_comes 17 = .ok (.aload_n 0, 1) := by decide +kernel
theorem dX7_comes_18 : decode cX7_comes 18 = .ok (.getfield 44, 3) := by decide +kernel
theorem dX7_comes_21 : decode cX7_comes 21 = .ok (.bipush 32, 2) := by decide +kernel
theorem dX7_comes_23 : decode cX7_comes 23 = .ok (.iload_n 1, 1) := by decide +kernel
theorem dX7_comes_24 : decode cX7_comes 24 = .ok (.imul, 1) := by decide +kernel
theorem dX7_comes_25 : decode cX7_comes 25 = .ok (.iload_n 3, 1) := by decide +kernel
theorem dX7_comes_26 : decode cX7_comes 26 = .ok (.iadd, 1) := by decide +kernel
theorem dX7_comes_27 : decode cX7_comes 27 = .ok (.iconst 1, 1) := by decide +kernel
theorem dX7_comes_28 : decode cX7_comes 28 = .ok (.isub, 1) := by decide +kernel
theorem dX7_comes_29 : decode cX7_comes 29 = .ok (.iaload, 1) := by decide +kernel
theorem dX7_comes_30 : decode cX7_comes 30 = .ok (.iastore, 1) := by decide +kernel
theorem dX7_comes_31 : decode cX7_comes 31 = .ok (.iinc 3 (-1), 3) := by decide +kernel
theorem dX7_comes_34 : decode cX7_comes 34 = .ok (.goto (-31), 3) := by decide +kernel
theorem dX7_comes_37 : decode cX7_comes 37 = .ok (.aload_n 0, 1) := by decide +kernel
theorem dX7_comes_38 : decode cX7_comes 38 = .ok (.getfield 44, 3) := by decide +kernel
theorem dX7_comes_41 : decode cX7_comes 41 = .ok (.bipush 32, 2) := by decide +kernel
theorem dX7_comes_43 : decode cX7_comes 43 = .ok (.iload_n 1, 1) := by decide +kernel
theorem dX7_comes_44 : decode cX7_comes 44 = .ok (.imul, 1) := by decide +kernel
theorem dX7_comes_45 : decode cX7_comes 45 = .ok (.iload_n 2, 1) := by decide +kernel
theorem dX7_comes_46 : decode cX7_comes 46 = .ok (.iastore, 1) := by decide +kernel
theorem dX7_comes_47 : decode cX7_comes 47 = .ok (.lconst 0, 1) := by decide +kernel
theorem dX7_comes_48 : decode cX7_comes 48 = .ok (.lstore_n 3, 1) := by decide +kernel
theorem dX7_comes_49 : decode cX7_comes 49 = .ok (.lconst 0, 1) := by decide +kernel
theorem dX7_comes_50 : decode cX7_comes 50 = .ok (.lstore 5, 2) := by decide +kernel
theorem dX7_comes_52 : decode cX7_comes 52 = .ok (.lconst 0, 1) := by decide +kernel
theorem dX7_comes_53 : decode cX7_comes 53 = .ok (.lstore 7, 2) := by decide +kernel
theorem dX7_comes_55 : decode cX7_comes 55 = .ok (.iconst 0, 1) := by decide +kernel
theorem dX7_comes_56 : decode cX7_comes 56 = .ok (.istore 9, 2) := by decide +kernel
theorem dX7_comes_58 : decode cX7_comes 58 = .ok (.iload 9, 2) := by decide +kernel
theorem dX7_comes_60 : decode cX7_comes 60 = .ok (.aload_n 0, 1) := by decide +kernel
theorem dX7_comes_61 : decode cX7_comes 61 = .ok (.getfield 16, 3) := by decide +kernel
theorem dX7_comes_64 : decode cX7_comes 64 = .ok (.iload_n 1, 1) := by decide +kernel
theorem dX7_comes_65 : decode cX7_comes 65 = .ok (.iaload, 1) := by decide +kernel
theorem dX7_comes_66 : decode cX7_comes 66 = .ok (.if_icmp .ge 74, 3) := by decide +kernel
theorem dX7_comes_69 : decode cX7_comes 69 = .ok (.aload_n 0, 1) := by decide +kernel
theorem dX7_comes_70 : decode cX7_comes 70 = .ok (.getfield 44, 3) := by decide +kernel
theorem dX7_comes_73 : decode cX7_comes 73 = .ok (.bipush 32, 2) := by decide +kernel
theorem dX7_comes_75 : decode cX7_comes 75 = .ok (.iload_n 1, 1) := by decide +kernel
theorem dX7_comes_76 : decode cX7_comes 76 = .ok (.imul, 1) := by decide +kernel
theorem dX7_comes_77 : decode cX7_comes 77 = .ok (.iload 9, 2) := by decide +kernel
theorem dX7_comes_79 : decode cX7_comes 79 = .ok (.iadd, 1) := by decide +kernel
theorem dX7_comes_80 : decode cX7_comes 80 = .ok (.iaload, 1) := by decide +kernel
theorem dX7_comes_81 : decode cX7_comes 81 = .ok (.i2l, 1) := by decide +kernel
theorem dX7_comes_82 : decode cX7_comes 82 = .ok (.lstore 10, 2) := by decide +kernel
theorem dX7_comes_84 : decode cX7_comes 84 = .ok (.lload_n 3, 1) := by decide +kernel
theorem dX7_comes_85 : decode cX7_comes 85 = .ok (.lload 10, 2) := by decide +kernel
theorem dX7_comes_87 : decode cX7_comes 87 = .ok (.aload_n 0, 1) := by decide +kernel
theorem dX7_comes_88 : decode cX7_comes 88 = .ok (.getfield 41, 3) := by decide +kernel
theorem dX7_comes_91 : decode cX7_comes 91 = .ok (.bipush 32, 2) := by decide +kernel
theorem dX7_comes_93 : decode cX7_comes 93 = .ok (.iload_n 1, 1) := by decide +kernel
theorem dX7_comes_94 : decode cX7_comes 94 = .ok (.imul, 1) := by decide +kernel
theorem dX7_comes_95 : decode cX7_comes 95 = .ok (.iload 9, 2) := by decide +kernel
theorem dX7_comes_97 : decode cX7_comes 97 = .ok (.iadd, 1) := by decide +kernel
theorem dX7_comes_98 : decode cX7_comes 98 = .ok (.iaload, 1) := by decide +kernel
theorem dX7_comes_99 : decode cX7_comes 99 = .ok (.i2l, 1) := by decide +kernel
theorem dX7_comes_100 : decode cX7_comes 100 = .ok (.lmul, 1) := by decide +kernel
theorem dX7_comes_101 : decode cX7_comes 101 = .ok (.ladd, 1) := by decide +kernel
theorem dX7_comes_102 : decode cX7_comes 102 = .ok (.lstore_n 3, 1) := by decide +kernel
theorem dX7_comes_103 : decode cX7_comes 103 = .ok (.lload 5, 2) := by decide +kernel
theorem dX7_comes_105 : decode cX7_comes 105 = .ok (.lload 10, 2) := by decide +kernel
theorem dX7_comes_107 : decode cX7_comes 107 = .ok (.aload_n 0, 1) := by decide +kernel
theorem dX7_comes_108 : decode cX7_comes 108 = .ok (.getfield 19, 3) := by decide +kernel
theorem dX7_comes_111 : decode cX7_comes 111 = .ok (.bipush 32, 2) := by decide +kernel
theorem dX7_comes_113 : decode cX7_comes 113 = .ok (.iload_n 1, 1) := by decide +kernel
theorem dX7_comes_114 : decode cX7_comes 114 = .ok (.imul, 1) := by decide +kernel
theorem dX7_comes_115 : decode cX7_comes 115 = .ok (.iload 9, 2) := by decide +kernel
theorem dX7_comes_117 : decode cX7_comes 117 = .ok (.iadd, 1) := by decide +kernel
theorem dX7_comes_118 : decode cX7_comes 118 = .ok (.iaload, 1) := by decide +kernel
theorem dX7_comes_119 : decode cX7_comes 119 = .ok (.i2l, 1) := by decide +kernel
theorem dX7_comes_120 : decode cX7_comes 120 = .ok (.lmul, 1) := by decide +kernel
theorem dX7_comes_121 : decode cX7_comes 121 = .ok (.ladd, 1) := by decide +kernel
theorem dX7_comes_122 : decode cX7_comes 122 = .ok (.lstore 5, 2) := by decide +kernel
theorem dX7_comes_124 : decode cX7_comes 124 = .ok (.lload 7, 2) := by decide +kernel
theorem dX7_comes_126 : decode cX7_comes 126 = .ok (.lload 10, 2) := by decide +kernel
theorem dX7_comes_128 : decode cX7_comes 128 = .ok (.invokestatic 145, 3) := by decide +kernel
theorem dX7_comes_131 : decode cX7_comes 131 = .ok (.ladd, 1) := by decide +kernel
theorem dX7_comes_132 : decode cX7_comes 132 = .ok (.lstore 7, 2) := by decide +kernel
theorem dX7_comes_134 : decode cX7_comes 134 = .ok (.iinc 9 1, 3) := by decide +kernel
theorem dX7_comes_137 : decode cX7_comes 137 = .ok (.goto (-79), 3) := by decide +kernel
theorem dX7_comes_140 : decode cX7_comes 140 = .ok (.lload_n 3, 1) := by decide +kernel
theorem dX7_comes_141 : decode cX7_comes 141 = .ok (.aload_n 0, 1) := by decide +kernel
theorem dX7_comes_142 : decode cX7_comes 142 = .ok (.getfield 38, 3) := by decide +kernel
theorem dX7_comes_145 : decode cX7_comes 145 = .ok (.iload_n 1, 1) := by decide +kernel
theorem dX7_comes_146 : decode cX7_comes 146 = .ok (.iaload, 1) := by decide +kernel
theorem dX7_comes_147 : decode cX7_comes 147 = .ok (.aload_n 0, 1) := by decide +kernel
theorem dX7_comes_148 : decode cX7_comes 148 = .ok (.getfield 22, 3) := by decide +kernel
theorem dX7_comes_151 : decode cX7_comes 151 = .ok (.iload_n 1, 1) := by decide +kernel
theorem dX7_comes_152 : decode cX7_comes 152 = .ok (.iaload, 1) := by decide +kernel
theorem dX7_comes_153 : decode cX7_comes 153 = .ok (.invokestatic 187, 3) := by decide +kernel
theorem dX7_comes_156 : decode cX7_comes 156 = .ok (.lstore 9, 2) := by decide +kernel
theorem dX7_comes_158 : decode cX7_comes 158 = .ok (.aload_n 0, 1) := by decide +kernel
theorem dX7_comes_159 : decode cX7_comes 159 = .ok (.getfield 25, 3) := by decide +kernel
theorem dX7_comes_162 : decode cX7_comes 162 = .ok (.iload_n 1, 1) := by decide +kernel
theorem dX7_comes_163 : decode cX7_comes 163 = .ok (.baload, 1) := by decide +kernel
theorem dX7_comes_164 : decode cX7_comes 164 = .ok (.ifCond .eq 10, 3) := by decide +kernel
theorem dX7_comes_167 : decode cX7_comes 167 = .ok (.lload 9, 2) := by decide +kernel
theorem dX7_comes_169 : decode cX7_comes 169 = .ok (.l2i, 1) := by decide +kernel
theorem dX7_comes_170 : decode cX7_comes 170 = .ok (.i2s, 1) := by decide +kernel
theorem dX7_comes_171 : decode cX7_comes 171 = .ok (.goto 36, 3) := by decide +kernel
theorem dX7_comes_174 : decode cX7_comes 174 = .ok (.lload 9, 2) := by decide +kernel
theorem dX7_comes_176 : decode cX7_comes 176 = .ok (.ldc2_w 191, 3) := by decide +kernel
theorem dX7_comes_179 : decode cX7_comes 179 = .ok (.lcmp, 1) := by decide +kernel
theorem dX7_comes_180 : decode cX7_comes 180 = .ok (.ifCond .ge 9, 3) := by decide +kernel
theorem dX7_comes_183 : decode cX7_comes 183 = .ok (.sipush (-32768), 3) := by decide +kernel
theorem dX7_comes_186 : decode cX7_comes 186 = .ok (.goto 21, 3) := by decide +kernel
theorem dX7_comes_189 : decode cX7_comes 189 = .ok (.lload 9, 2) := by decide +kernel
theorem dX7_comes_191 : decode cX7_comes 191 = .ok (.ldc2_w 193, 3) := by decide +kernel
theorem dX7_comes_194 : decode cX7_comes 194 = .ok (.lcmp, 1) := by decide +kernel
theorem dX7_comes_195 : decode cX7_comes 195 = .ok (.ifCond .le 9, 3) := by decide +kernel
theorem dX7_comes_198 : decode cX7_comes 198 = .ok (.sipush 32767, 3) := by decide +kernel
theorem dX7_comes_201 : decode cX7_comes 201 = .ok (.goto 6, 3) := by decide +kernel
theorem dX7_comes_204 : decode cX7_comes 204 = .ok (.lload 9, 2) := by decide +kernel
theorem dX7_comes_206 : decode cX7_comes 206 = .ok (.l2i, 1) := by decide +kernel
theorem dX7_comes_207 : decode cX7_comes 207 = .ok (.istore 11, 2) := by decide +kernel
theorem dX7_comes_209 : decode cX7_comes 209 = .ok (.aload_n 0, 1) := by decide +kernel
theorem dX7_comes_210 : decode cX7_comes 210 = .ok (.getfield 60, 3) := by decide +kernel
theorem dX7_comes_213 : decode cX7_comes 213 = .ok (.iload_n 1, 1) := by decide +kernel
theorem dX7_comes_214 : decode cX7_comes 214 = .ok (.iconst 1, 1) := by decide +kernel
theorem dX7_comes_215 : decode cX7_comes 215 = .ok (.bastore, 1) := by decide +kernel
theorem dX7_comes_216 : decode cX7_comes 216 = .ok (.aload_n 0, 1) := by decide +kernel
theorem dX7_comes_217 : decode cX7_comes 217 = .ok (.getfield 63, 3) := by decide +kernel
theorem dX7_comes_220 : decode cX7_comes 220 = .ok (.iload_n 1, 1) := by decide +kernel
theorem dX7_comes_221 : decode cX7_comes 221 = .ok (.lload_n 3, 1) := by decide +kernel
theorem dX7_comes_222 : decode cX7_comes 222 = .ok (.lastore, 1) := by decide +kernel
theorem dX7_comes_223 : decode cX7_comes 223 = .ok (.aload_n 0, 1) := by decide +kernel
theorem dX7_comes_224 : decode cX7_comes 224 = .ok (.getfield 66, 3) := by decide +kernel
theorem dX7_comes_227 : decode cX7_comes 227 = .ok (.iload_n 1, 1) := by decide +kernel
theorem dX7_comes_228 : decode cX7_comes 228 = .ok (.lload 9, 2) := by decide +kernel
theorem dX7_comes_230 : decode cX7_comes 230 = .ok (.lastore, 1) := by decide +kernel
theorem dX7_comes_231 : decode cX7_comes 231 = .ok (.aload_n 0, 1) := by decide +kernel
theorem dX7_comes_232 : decode cX7_comes 232 = .ok (.getfield 69, 3) := by decide +kernel
theorem dX7_comes_235 : decode cX7_comes 235 = .ok (.iload_n 1, 1) := by decide +kernel
theorem dX7_comes_236 : decode cX7_comes 236 = .ok (.iload 11, 2) := by decide +kernel
theorem dX7_comes_238 : decode cX7_comes 238 = .ok (.iastore, 1) := by decide +kernel
theorem dX7_comes_239 : decode cX7_comes 239 = .ok (.aload_n 0, 1) := by decide +kernel
theorem dX7_comes_240 : decode cX7_comes 240 = .ok (.getfield 72, 3) := by decide +kernel
theorem dX7_comes_243 : decode cX7_comes 243 = .ok (.iload_n 1, 1) := by decide +kernel
theorem dX7_comes_244 : decode cX7_comes 244 = .ok (.lload 5, 2) := by decide +kernel
theorem dX7_comes_246 : decode cX7_comes 246 = .ok (.lastore, 1) := by decide +kernel
theorem dX7_comes_247 : decode cX7_comes 247 = .ok (.aload_n 0, 1) := by decide +kernel
theorem dX7_comes_248 : decode cX7_comes 248 = .ok (.getfield 75, 3) := by decide +kernel
theorem dX7_comes_251 : decode cX7_comes 251 = .ok (.iload_n 1, 1) := by decide +kernel
theorem dX7_comes_252 : decode cX7_comes 252 = .ok (.lload 7, 2) := by decide +kernel
theorem dX7_comes_254 : decode cX7_comes 254 = .ok (.lastore, 1) := by decide +kernel
theorem dX7_comes_255 : decode cX7_comes 255 = .ok (.aload_n 0, 1) := by decide +kernel
theorem dX7_comes_256 : decode cX7_comes 256 = .ok (.getfield 78, 3) := by decide +kernel
theorem dX7_comes_259 : decode cX7_comes 259 = .ok (.iload_n 1, 1) := by decide +kernel
theorem dX7_comes_260 : decode cX7_comes 260 = .ok (.aload_n 0, 1) := by decide +kernel
theorem dX7_comes_261 : decode cX7_comes 261 = .ok (.getfield 22, 3) := by decide +kernel
theorem dX7_comes_264 : decode cX7_comes 264 = .ok (.iload_n 1, 1) := by decide +kernel
theorem dX7_comes_265 : decode cX7_comes 265 = .ok (.iaload, 1) := by decide +kernel
theorem dX7_comes_266 : decode cX7_comes 266 = .ok (.iastore, 1) := by decide +kernel
theorem dX7_comes_267 : decode cX7_comes 267 = .ok (.aload_n 0, 1) := by decide +kernel
theorem dX7_comes_268 : decode cX7_comes 268 = .ok (.getfield 50, 3) := by decide +kernel
theorem dX7_comes_271 : decode cX7_comes 271 = .ok (.iload_n 1, 1) := by decide +kernel
theorem dX7_comes_272 : decode cX7_comes 272 = .ok (.dup2, 1) := by decide +kernel
theorem dX7_comes_273 : decode cX7_comes 273 = .ok (.laload, 1) := by decide +kernel
theorem dX7_comes_274 : decode cX7_comes 274 = .ok (.lconst 1, 1) := by decide +kernel
theorem dX7_comes_275 : decode cX7_comes 275 = .ok (.ladd, 1) := by decide +kernel
theorem dX7_comes_276 : decode cX7_comes 276 = .ok (.lastore, 1) := by decide +kernel
theorem dX7_comes_277 : decode cX7_comes 277 = .ok (.aload_n 0, 1) := by decide +kernel
theorem dX7_comes_278 : decode cX7_comes 278 = .ok (.getfield 54, 3) := by decide +kernel
theorem dX7_comes_281 : decode cX7_comes 281 = .ok (.iload_n 1, 1) := by decide +kernel
theorem dX7_comes_282 : decode cX7_comes 282 = .ok (.dup2, 1) := by decide +kernel
theorem dX7_comes_283 : decode cX7_comes 283 = .ok (.laload, 1) := by decide +kernel
theorem dX7_comes_284 : decode cX7_comes 284 = .ok (.iload 11, 2) := by decide +kernel
theorem dX7_comes_286 : decode cX7_comes 286 = .ok (.i2l, 1) := by decide +kernel
theorem dX7_comes_287 : decode cX7_comes 287 = .ok (.lload 9, 2) := by decide +kernel
theorem dX7_comes_289 : decode cX7_comes 289 = .ok (.lcmp, 1) := by decide +kernel
theorem dX7_comes_290 : decode cX7_comes 290 = .ok (.ifCond .ne 7, 3) := by decide +kernel
theorem dX7_comes_293 : decode cX7_comes 293 = .ok (.lconst 0, 1) := by decide +kernel
theorem dX7_comes_294 : decode cX7_comes 294 = .ok (.goto 4, 3) := by decide +kernel
theorem dX7_comes_297 : decode cX7_comes 297 = .ok (.lconst 1, 1) := by decide +kernel
theorem dX7_comes_298 : decode cX7_comes 298 = .ok (.ladd, 1) := by decide +kernel
theorem dX7_comes_299 : decode cX7_comes 299 = .ok (.lastore, 1) := by decide +kernel
theorem dX7_comes_300 : decode cX7_comes 300 = .ok (.aload_n 0, 1) := by decide +kernel
theorem dX7_comes_301 : decode cX7_comes 301 = .ok (.getfield 57, 3) := by decide +kernel
theorem dX7_comes_304 : decode cX7_comes 304 = .ok (.iload_n 1, 1) := by decide +kernel
theorem dX7_comes_305 : decode cX7_comes 305 = .ok (.lload_n 3, 1) := by decide +kernel
theorem dX7_comes_306 : decode cX7_comes 306 = .ok (.invokestatic 145, 3) := by decide +kernel
theorem dX7_comes_309 : decode cX7_comes 309 = .ok (.aload_n 0, 1) := by decide +kernel
theorem dX7_comes_310 : decode cX7_comes 310 = .ok (.getfield 57, 3) := by decide +kernel
theorem dX7_comes_313 : decode cX7_comes 313 = .ok (.iload_n 1, 1) := by decide +kernel
theorem dX7_comes_314 : decode cX7_comes 314 = .ok (.laload, 1) := by decide +kernel
theorem dX7_comes_315 : decode cX7_comes 315 = .ok (.lcmp, 1) := by decide +kernel
theorem dX7_comes_316 : decode cX7_comes 316 = .ok (.ifCond .le 10, 3) := by decide +kernel
theorem dX7_comes_319 : decode cX7_comes 319 = .ok (.lload_n 3, 1) := by decide +kernel
theorem dX7_comes_320 : decode cX7_comes 320 = .ok (.invokestatic 145, 3) := by decide +kernel
theorem dX7_comes_323 : decode cX7_comes 323 = .ok (.goto 9, 3) := by decide +kernel
theorem dX7_comes_326 : decode cX7_comes 326 = .ok (.aload_n 0, 1) := by decide +kernel
theorem dX7_comes_327 : decode cX7_comes 327 = .ok (.getfield 57, 3) := by decide +kernel
theorem dX7_comes_330 : decode cX7_comes 330 = .ok (.iload_n 1, 1) := by decide +kernel
theorem dX7_comes_331 : decode cX7_comes 331 = .ok (.laload, 1) := by decide +kernel
theorem dX7_comes_332 : decode cX7_comes 332 = .ok (.lastore, 1) := by decide +kernel
theorem dX7_comes_333 : decode cX7_comes 333 = .ok (.iload 11, 2) := by decide +kernel
theorem dX7_comes_335 : decode cX7_comes 335 = .ok (.ireturn, 1) := by decide +kernel
theorem dX7_goes_0 : decode cX7_goes 0 = .ok (.iconst 0, 1) := by decide +kernel
theorem dX7_goes_1 : decode cX7_goes 1 = .ok (.istore_n 3, 1) := by decide +kernel
theorem dX7_goes_2 : decode cX7_goes 2 = .ok (.aload_n 0, 1) := by decide +kernel
theorem dX7_goes_3 : decode cX7_goes 3 = .ok (.getfield 13, 3) := by decide +kernel
theorem dX7_goes_6 : decode cX7_goes 6 = .ok (.iload_n 1, 1) := by decide +kernel
theorem dX7_goes_7 : decode cX7_goes 7 = .ok (.iaload, 1) := by decide +kernel
theorem dX7_goes_8 : decode cX7_goes 8 = .ok (.ifCond .ge 13, 3) := by decide +kernel
theorem dX7_goes_11 : decode cX7_goes 11 = .ok (.aload_n 0, 1) := by decide +kernel
theorem dX7_goes_12 : decode cX7_goes 12 = .ok (.getfield 13, 3) := by decide +kernel
theorem dX7_goes_15 : decode cX7_goes 15 = .ok (.iload_n 1, 1) := by decide +kernel
theorem dX7_goes_16 : decode cX7_goes 16 = .ok (.iaload, 1) := by decide +kernel
theorem dX7_goes_17 : decode cX7_goes 17 = .ok (.ineg, 1) := by decide +kernel
theorem dX7_goes_18 : decode cX7_goes 18 = .ok (.goto 4, 3) := by decide +kernel
theorem dX7_goes_21 : decode cX7_goes 21 = .ok (.iconst 1, 1) := by decide +kernel
theorem dX7_goes_22 : decode cX7_goes 22 = .ok (.istore 4, 2) := by decide +kernel
theorem dX7_goes_24 : decode cX7_goes 24 = .ok (.aload_n 0, 1) := by decide +kernel
theorem dX7_goes_25 : decode cX7_goes 25 = .ok (.getfield 13, 3) := by decide +kernel
theorem dX7_goes_28 : decode cX7_goes 28 = .ok (.iload_n 1, 1) := by decide +kernel
theorem dX7_goes_29 : decode cX7_goes 29 = .ok (.iaload, 1) := by decide +kernel
theorem dX7_goes_30 : decode cX7_goes 30 = .ok (.iconst 1, 1) := by decide +kernel
theorem dX7_goes_31 : decode cX7_goes 31 = .ok (.if_icmp .le 12, 3) := by decide +kernel
theorem dX7_goes_34 : decode cX7_goes 34 = .ok (.aload_n 0, 1) := by decide +kernel
theorem dX7_goes_35 : decode cX7_goes 35 = .ok (.getfield 13, 3) := by decide +kernel
theorem dX7_goes_38 : decode cX7_goes 38 = .ok (.iload_n 1, 1) := by decide +kernel
theorem dX7_goes_39 : decode cX7_goes 39 = .ok (.iaload, 1) := by decide +kernel
theorem dX7_goes_40 : decode cX7_goes 40 = .ok (.goto 4, 3) := by decide +kernel
theorem dX7_goes_43 : decode cX7_goes 43 = .ok (.iconst 1, 1) := by decide +kernel
theorem dX7_goes_44 : decode cX7_goes 44 = .ok (.istore 5, 2) := by decide +kernel
theorem dX7_goes_46 : decode cX7_goes 46 = .ok (.iconst 0, 1) := by decide +kernel
theorem dX7_goes_47 : decode cX7_goes 47 = .ok (.istore 6, 2) := by decide +kernel
theorem dX7_goes_49 : decode cX7_goes 49 = .ok (.iload 6, 2) := by decide +kernel
theorem dX7_goes_51 : decode cX7_goes 51 = .ok (.iload_n 2, 1) := by decide +kernel
theorem dX7_goes_52 : decode cX7_goes 52 = .ok (.if_icmp .ge 99, 3) := by decide +kernel
theorem dX7_goes_55 : decode cX7_goes 55 = .ok (.iconst 0, 1) := by decide +kernel
theorem dX7_goes_56 : decode cX7_goes 56 = .ok (.istore 7, 2) := by decide +kernel
theorem dX7_goes_58 : decode cX7_goes 58 = .ok (.iload 7, 2) := by decide +kernel
theorem dX7_goes_60 : decode cX7_goes 60 = .ok (.iload 4, 2) := by decide +kernel
theorem dX7_goes_62 : decode cX7_goes 62 = .ok (.if_icmp .ge 83, 3) := by decide +kernel
theorem dX7_goes_65 : decode cX7_goes 65 = .ok (.aload_n 0, 1) := by decide +kernel
theorem dX7_goes_66 : decode cX7_goes 66 = .ok (.iload_n 1, 1) := by decide +kernel
theorem dX7_goes_67 : decode cX7_goes 67 = .ok (.iload 7, 2) := by decide +kernel
theorem dX7_goes_69 : decode cX7_goes 69 = .ok (.ifCond .ne 13, 3) := by decide +kernel
theorem dX7_goes_72 : decode cX7_goes 72 = .ok (.aload_n 0, 1) := by decide +kernel
theorem dX7_goes_73 : decode cX7_goes 73 = .ok (.getfield 87, 3) := by decide +kernel
theorem dX7_goes_76 : decode cX7_goes 76 = .ok (.iload 6, 2) := by decide +kernel
theorem dX7_goes_78 : decode cX7_goes 78 = .ok (.iaload, 1) := by decide +kernel
theorem dX7_goes_79 : decode cX7_goes 79 = .ok (.goto 4, 3) := by decide +kernel
theorem dX7_goes_82 : decode cX7_goes 82 = .ok (.iconst 0, 1) := by decide +kernel
theorem dX7_goes_83 : decode cX7_goes 83 = .ok (.invokevirtual 195, 3) := by decide +kernel
theorem dX7_goes_86 : decode cX7_goes 86 = .ok (.istore 8, 2) := by decide +kernel
theorem dX7_goes_88 : decode cX7_goes 88 = .ok (.aload_n 0, 1) := by decide +kernel
theorem dX7_goes_89 : decode cX7_goes 89 = .ok (.getfield 47, 3) := by decide +kernel
theorem dX7_goes_92 : decode cX7_goes 92 = .ok (.iload_n 1, 1) := by decide +kernel
theorem dX7_goes_93 : decode cX7_goes 93 = .ok (.iaload, 1) := by decide +kernel
theorem dX7_goes_94 : decode cX7_goes 94 = .ok (.ifCond .ne 14, 3) := by decide +kernel
theorem dX7_goes_97 : decode cX7_goes 97 = .ok (.aload_n 0, 1) := by decide +kernel
theorem dX7_goes_98 : decode cX7_goes 98 = .ok (.getfield 90, 3) := by decide +kernel
theorem dX7_goes_101 : decode cX7_goes 101 = .ok (.iload_n 3, 1) := by decide +kernel
theorem dX7_goes_102 : decode cX7_goes 102 = .ok (.iload 8, 2) := by decide +kernel
theorem dX7_goes_104 : decode cX7_goes 104 = .ok (.iastore, 1) := by decide +kernel
theorem dX7_goes_105 : decode cX7_goes 105 = .ok (.iinc 3 1, 3) := by decide +kernel
theorem dX7_goes_108 : decode cX7_goes 108 = .ok (.aload_n 0, 1) := by decide +kernel
theorem dX7_goes_109 : decode cX7_goes 109 = .ok (.getfield 47, 3) := by decide +kernel
theorem dX7_goes_112 : decode cX7_goes 112 = .ok (.iload_n 1, 1) := by decide +kernel
theorem dX7_goes_113 : decode cX7_goes 113 = .ok (.aload_n 0, 1) := by decide +kernel
theorem dX7_goes_114 : decode cX7_goes 114 = .ok (.getfield 47, 3) := by decide +kernel
theorem dX7_goes_117 : decode cX7_goes 117 = .ok (.iload_n 1, 1) := by decide +kernel
theorem dX7_goes_118 : decode cX7_goes 118 = .ok (.iaload, 1) := by decide +kernel
theorem dX7_goes_119 : decode cX7_goes 119 = .ok (.iconst 1, 1) := by decide +kernel
theorem dX7_goes_120 : decode cX7_goes 120 = .ok (.iadd, 1) := by decide +kernel
theorem dX7_goes_121 : decode cX7_goes 121 = .ok (.iload 5, 2) := by decide +kernel
theorem dX7_goes_123 : decode cX7_goes 123 = .ok (.if_icmp .ne 7, 3) := by decide +kernel
theorem dX7_goes_126 : decode cX7_goes 126 = .ok (.iconst 0, 1) := by decide +kernel
theorem dX7_goes_127 : decode cX7_goes 127 = .ok (.goto 11, 3) := by decide +kernel
theorem dX7_goes_130 : decode cX7_goes 130 = .ok (.aload_n 0, 1) := by decide +kernel
theorem dX7_goes_131 : decode cX7_goes 131 = .ok (.getfield 47, 3) := by decide +kernel
theorem dX7_goes_134 : decode cX7_goes 134 = .ok (.iload_n 1, 1) := by decide +kernel
theorem dX7_goes_135 : decode cX7_goes 135 = .ok (.iaload, 1) := by decide +kernel
theorem dX7_goes_136 : decode cX7_goes 136 = .ok (.iconst 1, 1) := by decide +kernel
theorem dX7_goes_137 : decode cX7_goes 137 = .ok (.iadd, 1) := by decide +kernel
theorem dX7_goes_138 : decode cX7_goes 138 = .ok (.iastore, 1) := by decide +kernel
theorem dX7_goes_139 : decode cX7_goes 139 = .ok (.iinc 7 1, 3) := by decide +kernel
theorem dX7_goes_142 : decode cX7_goes 142 = .ok (.goto (-84), 3) := by decide +kernel
theorem dX7_goes_145 : decode cX7_goes 145 = .ok (.iinc 6 1, 3) := by decide +kernel
theorem dX7_goes_148 : decode cX7_goes 148 = .ok (.goto (-99), 3) := by decide +kernel
theorem dX7_goes_151 : decode cX7_goes 151 = .ok (.iload_n 3, 1) := by decide +kernel
theorem dX7_goes_152 : decode cX7_goes 152 = .ok (.ireturn, 1) := by decide +kernel
theorem dX7_puts_0 : decode cX7_puts 0 = .ok (.iconst 1, 1) := by decide +kernel
theorem dX7_puts_1 : decode cX7_puts 1 = .ok (.istore_n 2, 1) := by decide +kernel
theorem dX7_puts_2 : decode cX7_puts 2 = .ok (.aload_n 0, 1) := by decide +kernel
theorem dX7_puts_3 : decode cX7_puts 3 = .ok (.getfield 87, 3) := by decide +kernel
theorem dX7_puts_6 : decode cX7_puts 6 = .ok (.iconst 0, 1) := by decide +kernel
theorem dX7_puts_7 : decode cX7_puts 7 = .ok (.iload_n 1, 1) := by decide +kernel
theorem dX7_puts_8 : decode cX7_puts 8 = .ok (.iastore, 1) := by decide +kernel
theorem dX7_puts_9 : decode cX7_puts 9 = .ok (.iconst 0, 1) := by decide +kernel
theorem dX7_puts_10 : decode cX7_puts 10 = .ok (.istore_n 3, 1) := by decide +kernel
theorem dX7_puts_11 : decode cX7_puts 11 = .ok (.iload_n 3, 1) := by decide +kernel
theorem dX7_puts_12 : decode cX7_puts 12 = .ok (.aload_n 0, 1) := by decide +kernel
theorem dX7_puts_13 : decode cX7_puts 13 = .ok (.getfield 109, 3) := by decide +kernel
theorem dX7_puts_16 : decode cX7_puts 16 = .ok (.if_icmp .ge 50, 3) := by decide +kernel
theorem dX7_puts_19 : decode cX7_puts 19 = .ok (.aload_n 0, 1) := by decide +kernel
theorem dX7_puts_20 : decode cX7_puts 20 = .ok (.aload_n 0, 1) := by decide +kernel
theorem dX7_puts_21 : decode cX7_puts 21 = .ok (.getfield 81, 3) := by decide +kernel
theorem dX7_puts_24 : decode cX7_puts 24 = .ok (.iload_n 3, 1) := by decide +kernel
theorem dX7_puts_25 : decode cX7_puts 25 = .ok (.iaload, 1) := by decide +kernel
theorem dX7_puts_26 : decode cX7_puts 26 = .ok (.iload_n 2, 1) := by decide +kernel
theorem dX7_puts_27 : decode cX7_puts 27 = .ok (.invokevirtual 198, 3) := by decide +kernel
theorem dX7_puts_30 : decode cX7_puts 30 = .ok (.istore_n 2, 1) := by decide +kernel
theorem dX7_puts_31 : decode cX7_puts 31 = .ok (.iconst 0, 1) := by decide +kernel
theorem dX7_puts_32 : decode cX7_puts 32 = .ok (.istore 4, 2) := by decide +kernel
theorem dX7_puts_34 : decode cX7_puts 34 = .ok (.iload 4, 2) := by decide +kernel
theorem dX7_puts_36 : decode cX7_puts 36 = .ok (.iload_n 2, 1) := by decide +kernel
theorem dX7_puts_37 : decode cX7_puts 37 = .ok (.if_icmp .ge 23, 3) := by decide +kernel
theorem dX7_puts_40 : decode cX7_puts 40 = .ok (.aload_n 0, 1) := by decide +kernel
theorem dX7_puts_41 : decode cX7_puts 41 = .ok (.getfield 87, 3) := by decide +kernel
theorem dX7_puts_44 : decode cX7_puts 44 = .ok (.iload 4, 2) := by decide +kernel
theorem dX7_puts_46 : decode cX7_puts 46 = .ok (.aload_n 0, 1) := by decide +kernel
theorem dX7_puts_47 : decode cX7_puts 47 = .ok (.getfield 90, 3) := by decide +kernel
theorem dX7_puts_50 : decode cX7_puts 50 = .ok (.iload 4, 2) := by decide +kernel
theorem dX7_puts_52 : decode cX7_puts 52 = .ok (.iaload, 1) := by decide +kernel
theorem dX7_puts_53 : decode cX7_puts 53 = .ok (.iastore, 1) := by decide +kernel
theorem dX7_puts_54 : decode cX7_puts 54 = .ok (.iinc 4 1, 3) := by decide +kernel
theorem dX7_puts_57 : decode cX7_puts 57 = .ok (.goto (-23), 3) := by decide +kernel
theorem dX7_puts_60 : decode cX7_puts 60 = .ok (.iinc 3 1, 3) := by decide +kernel
theorem dX7_puts_63 : decode cX7_puts 63 = .ok (.goto (-52), 3) := by decide +kernel
theorem dX7_puts_66 : decode cX7_puts 66 = .ok (.iconst 0, 1) := by decide +kernel
theorem dX7_puts_67 : decode cX7_puts 67 = .ok (.istore_n 3, 1) := by decide +kernel
theorem dX7_puts_68 : decode cX7_puts 68 = .ok (.iload_n 3, 1) := by decide +kernel
theorem dX7_puts_69 : decode cX7_puts 69 = .ok (.iload_n 2, 1) := by decide +kernel
theorem dX7_puts_70 : decode cX7_puts 70 = .ok (.if_icmp .ge 57, 3) := by decide +kernel
theorem dX7_puts_73 : decode cX7_puts 73 = .ok (.aload_n 0, 1) := by decide +kernel
theorem dX7_puts_74 : decode cX7_puts 74 = .ok (.getfield 201, 3) := by decide +kernel
theorem dX7_puts_77 : decode cX7_puts 77 = .ok (.sipush 600, 3) := by decide +kernel
theorem dX7_puts_80 : decode cX7_puts 80 = .ok (.if_icmp .ge 31, 3) := by decide +kernel
theorem dX7_puts_83 : decode cX7_puts 83 = .ok (.aload_n 0, 1) := by decide +kernel
theorem dX7_puts_84 : decode cX7_puts 84 = .ok (.getfield 84, 3) := by decide +kernel
theorem dX7_puts_87 : decode cX7_puts 87 = .ok (.aload_n 0, 1) := by decide +kernel
theorem dX7_puts_88 : decode cX7_puts 88 = .ok (.getfield 201, 3) := by decide +kernel
theorem dX7_puts_91 : decode cX7_puts 91 = .ok (.aload_n 0, 1) := by decide +kernel
theorem dX7_puts_92 : decode cX7_puts 92 = .ok (.getfield 87, 3) := by decide +kernel
theorem dX7_puts_95 : decode cX7_puts 95 = .ok (.iload_n 3, 1) := by decide +kernel
theorem dX7_puts_96 : decode cX7_puts 96 = .ok (.iaload, 1) := by decide +kernel
theorem dX7_puts_97 : decode cX7_puts 97 = .ok (.iastore, 1) := by decide +kernel
theorem dX7_puts_98 : decode cX7_puts 98 = .ok (.aload_n 0, 1) := by decide +kernel
theorem dX7_puts_99 : decode cX7_puts 99 = .ok (.dup, 1) := by decide +kernel
theorem dX7_puts_100 : decode cX7_puts 100 = .ok (.getfield 201, 3) := by decide +kernel
theorem dX7_puts_103 : decode cX7_puts 103 = .ok (.iconst 1, 1) := by decide +kernel
theorem dX7_puts_104 : decode cX7_puts 104 = .ok (.iadd, 1) := by decide +kernel
theorem dX7_puts_105 : decode cX7_puts 105 = .ok (.putfield 201, 3) := by decide +kernel
theorem dX7_puts_108 : decode cX7_puts 108 = .ok (.goto 13, 3) := by decide +kernel
theorem dX7_puts_111 : decode cX7_puts 111 = .ok (.aload_n 0, 1) := by decide +kernel
theorem dX7_puts_112 : decode cX7_puts 112 = .ok (.dup, 1) := by decide +kernel
theorem dX7_puts_113 : decode cX7_puts 113 = .ok (.getfield 204, 3) := by decide +kernel
theorem dX7_puts_116 : decode cX7_puts 116 = .ok (.iconst 1, 1) := by decide +kernel
theorem dX7_puts_117 : decode cX7_puts 117 = .ok (.iadd, 1) := by decide +kernel
theorem dX7_puts_118 : decode cX7_puts 118 = .ok (.putfield 204, 3) := by decide +kernel
theorem dX7_puts_121 : decode cX7_puts 121 = .ok (.iinc 3 1, 3) := by decide +kernel
theorem dX7_puts_124 : decode cX7_puts 124 = .ok (.goto (-56), 3) := by decide +kernel
theorem dX7_puts_127 : decode cX7_puts 127 = .ok (.iload_n 2, 1) := by decide +kernel
theorem dX7_puts_128 : decode cX7_puts 128 = .ok (.ireturn, 1) := by decide +kernel
theorem dX7_filled_0 : decode cX7_filled 0 = .ok (.aload_n 0, 1) := by decide +kernel
theorem dX7_filled_1 : decode cX7_filled 1 = .ok (.getfield 13, 3) := by decide +kernel
theorem dX7_filled_4 : decode cX7_filled 4 = .ok (.iload_n 1, 1) := by decide +kernel
theorem dX7_filled_5 : decode cX7_filled 5 = .ok (.iaload, 1) := by decide +kernel
theorem dX7_filled_6 : decode cX7_filled 6 = .ok (.ifCond .ge 13, 3) := by decide +kernel
theorem dX7_filled_9 : decode cX7_filled 9 = .ok (.aload_n 0, 1) := by decide +kernel
theorem dX7_filled_10 : decode cX7_filled 10 = .ok (.getfield 13, 3) := by decide +kernel
theorem dX7_filled_13 : decode cX7_filled 13 = .ok (.iload_n 1, 1) := by decide +kernel
theorem dX7_filled_14 : decode cX7_filled 14 = .ok (.iaload, 1) := by decide +kernel
theorem dX7_filled_15 : decode cX7_filled 15 = .ok (.ineg, 1) := by decide +kernel
theorem dX7_filled_16 : decode cX7_filled 16 = .ok (.goto 4, 3) := by decide +kernel
theorem dX7_filled_19 : decode cX7_filled 19 = .ok (.iconst 1, 1) := by decide +kernel
theorem dX7_filled_20 : decode cX7_filled 20 = .ok (.ireturn, 1) := by decide +kernel
theorem dX7_join_0 : decode cX7_join 0 = .ok (.aload_n 0, 1) := by decide +kernel
theorem dX7_join_1 : decode cX7_join 1 = .ok (.iload_n 1, 1) := by decide +kernel
theorem dX7_join_2 : decode cX7_join 2 = .ok (.invokevirtual 118, 3) := by decide +kernel
theorem dX7_join_5 : decode cX7_join 5 = .ok (.ifCond .ne 6, 3) := by decide +kernel
theorem dX7_join_8 : decode cX7_join 8 = .ok (.bipush (-2), 2) := by decide +kernel
theorem dX7_join_10 : decode cX7_join 10 = .ok (.ireturn, 1) := by decide +kernel
theorem dX7_join_11 : decode cX7_join 11 = .ok (.aload_n 0, 1) := by decide +kernel
theorem dX7_join_12 : decode cX7_join 12 = .ok (.iload_n 1, 1) := by decide +kernel
theorem dX7_join_13 : decode cX7_join 13 = .ok (.invokevirtual 207, 3) := by decide +kernel
theorem dX7_join_16 : decode cX7_join 16 = .ok (.istore_n 2, 1) := by decide +kernel
theorem dX7_join_17 : decode cX7_join 17 = .ok (.iconst 0, 1) := by decide +kernel
theorem dX7_join_18 : decode cX7_join 18 = .ok (.istore_n 3, 1) := by decide +kernel
theorem dX7_join_19 : decode cX7_join 19 = .ok (.iload_n 3, 1) := by decide +kernel
theorem dX7_join_20 : decode cX7_join 20 = .ok (.aload_n 0, 1) := by decide +kernel
theorem dX7_join_21 : decode cX7_join 21 = .ok (.getfield 109, 3) := by decide +kernel
theorem dX7_join_24 : decode cX7_join 24 = .ok (.if_icmp .ge 22, 3) := by decide +kernel
theorem dX7_join_27 : decode cX7_join 27 = .ok (.iload_n 2, 1) := by decide +kernel
theorem dX7_join_28 : decode cX7_join 28 = .ok (.aload_n 0, 1) := by decide +kernel
theorem dX7_join_29 : decode cX7_join 29 = .ok (.aload_n 0, 1) := by decide +kernel
theorem dX7_join_30 : decode cX7_join 30 = .ok (.getfield 81, 3) := by decide +kernel
theorem dX7_join_33 : decode cX7_join 33 = .ok (.iload_n 3, 1) := by decide +kernel
theorem dX7_join_34 : decode cX7_join 34 = .ok (.iaload, 1) := by decide +kernel
theorem dX7_join_35 : decode cX7_join 35 = .ok (.invokevirtual 207, 3) := by decide +kernel
theorem dX7_join_38 : decode cX7_join 38 = .ok (.imul, 1) := by decide +kernel
theorem dX7_join_39 : decode cX7_join 39 = .ok (.istore_n 2, 1) := by decide +kernel
theorem dX7_join_40 : decode cX7_join 40 = .ok (.iinc 3 1, 3) := by decide +kernel
theorem dX7_join_43 : decode cX7_join 43 = .ok (.goto (-24), 3) := by decide +kernel
theorem dX7_join_46 : decode cX7_join 46 = .ok (.aload_n 0, 1) := by decide +kernel
theorem dX7_join_47 : decode cX7_join 47 = .ok (.getfield 29, 3) := by decide +kernel
theorem dX7_join_50 : decode cX7_join 50 = .ok (.iload_n 1, 1) := by decide +kernel
theorem dX7_join_51 : decode cX7_join 51 = .ok (.baload, 1) := by decide +kernel
theorem dX7_join_52 : decode cX7_join 52 = .ok (.ifCond .eq 18, 3) := by decide +kernel
theorem dX7_join_55 : decode cX7_join 55 = .ok (.aload_n 0, 1) := by decide +kernel
theorem dX7_join_56 : decode cX7_join 56 = .ok (.iload_n 1, 1) := by decide +kernel
theorem dX7_join_57 : decode cX7_join 57 = .ok (.invokevirtual 112, 3) := by decide +kernel
theorem dX7_join_60 : decode cX7_join 60 = .ok (.iconst (-1), 1) := by decide +kernel
theorem dX7_join_61 : decode cX7_join 61 = .ok (.if_icmp .ne 9, 3) := by decide +kernel
theorem dX7_join_64 : decode cX7_join 64 = .ok (.iload_n 2, 1) := by decide +kernel
theorem dX7_join_65 : decode cX7_join 65 = .ok (.bipush 16, 2) := by decide +kernel
theorem dX7_join_67 : decode cX7_join 67 = .ok (.if_icmp .le 6, 3) := by decide +kernel
theorem dX7_join_70 : decode cX7_join 70 = .ok (.bipush (-3), 2) := by decide +kernel
theorem dX7_join_72 : decode cX7_join 72 = .ok (.ireturn, 1) := by decide +kernel
theorem dX7_join_73 : decode cX7_join 73 = .ok (.aload_n 0, 1) := by decide +kernel
theorem dX7_join_74 : decode cX7_join 74 = .ok (.getfield 81, 3) := by decide +kernel
theorem dX7_join_77 : decode cX7_join 77 = .ok (.aload_n 0, 1) := by decide +kernel
theorem dX7_join_78 : decode cX7_join 78 = .ok (.getfield 109, 3) := by decide +kernel
