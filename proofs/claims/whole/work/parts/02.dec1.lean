theorem dX0_init_0 : decode cX0_init 0 = .ok (.aload_n 0, 1) := by decide +kernel
theorem dX0_init_1 : decode cX0_init 1 = .ok (.invokespecial 3, 3) := by decide +kernel
theorem dX0_init_4 : decode cX0_init 4 = .ok (.aload_n 0, 1) := by decide +kernel
theorem dX0_init_5 : decode cX0_init 5 = .ok (.iconst 0, 1) := by decide +kernel
theorem dX0_init_6 : decode cX0_init 6 = .ok (.putfield 9, 3) := by decide +kernel
theorem dX0_init_9 : decode cX0_init 9 = .ok (.return_, 1) := by decide +kernel
theorem dX0_keepSums_0 : decode cX0_keepSums 0 = .ok (.aload_n 0, 1) := by decide +kernel
theorem dX0_keepSums_1 : decode cX0_keepSums 1 = .ok (.lload_n 1, 1) := by decide +kernel
theorem dX0_keepSums_2 : decode cX0_keepSums 2 = .ok (.putfield 15, 3) := by decide +kernel
theorem dX0_keepSums_5 : decode cX0_keepSums 5 = .ok (.aload_n 0, 1) := by decide +kernel
theorem dX0_keepSums_6 : decode cX0_keepSums 6 = .ok (.lload_n 3, 1) := by decide +kernel
theorem dX0_keepSums_7 : decode cX0_keepSums 7 = .ok (.putfield 19, 3) := by decide +kernel
theorem dX0_keepSums_10 : decode cX0_keepSums 10 = .ok (.aload_n 0, 1) := by decide +kernel
theorem dX0_keepSums_11 : decode cX0_keepSums 11 = .ok (.lload 5, 2) := by decide +kernel
theorem dX0_keepSums_13 : decode cX0_keepSums 13 = .ok (.putfield 22, 3) := by decide +kernel
theorem dX0_keepSums_16 : decode cX0_keepSums 16 = .ok (.return_, 1) := by decide +kernel
theorem dX0_keepOutput_0 : decode cX0_keepOutput 0 = .ok (.aload_n 0, 1) := by decide +kernel
theorem dX0_keepOutput_1 : decode cX0_keepOutput 1 = .ok (.lload_n 1, 1) := by decide +kernel
theorem dX0_keepOutput_2 : decode cX0_keepOutput 2 = .ok (.putfield 25, 3) := by decide +kernel
theorem dX0_keepOutput_5 : decode cX0_keepOutput 5 = .ok (.aload_n 0, 1) := by decide +kernel
theorem dX0_keepOutput_6 : decode cX0_keepOutput 6 = .ok (.iload_n 3, 1) := by decide +kernel
theorem dX0_keepOutput_7 : decode cX0_keepOutput 7 = .ok (.putfield 28, 3) := by decide +kernel
theorem dX0_keepOutput_10 : decode cX0_keepOutput 10 = .ok (.aload_n 0, 1) := by decide +kernel
theorem dX0_keepOutput_11 : decode cX0_keepOutput 11 = .ok (.iload 4, 2) := by decide +kernel
theorem dX0_keepOutput_13 : decode cX0_keepOutput 13 = .ok (.putfield 32, 3) := by decide +kernel
theorem dX0_keepOutput_16 : decode cX0_keepOutput 16 = .ok (.aload_n 0, 1) := by decide +kernel
theorem dX0_keepOutput_17 : decode cX0_keepOutput 17 = .ok (.iconst 1, 1) := by decide +kernel
theorem dX0_keepOutput_18 : decode cX0_keepOutput 18 = .ok (.putfield 9, 3) := by decide +kernel
theorem dX0_keepOutput_21 : decode cX0_keepOutput 21 = .ok (.return_, 1) := by decide +kernel
theorem dX0_isWithinBound_0 : decode cX0_isWithinBound 0 = .ok (.aload_n 0, 1) := by decide +kernel
theorem dX0_isWithinBound_1 : decode cX0_isWithinBound 1 = .ok (.getfield 25, 3) := by decide +kernel
theorem dX0_isWithinBound_4 : decode cX0_isWithinBound 4 = .ok (.iload_n 1, 1) := by decide +kernel
theorem dX0_isWithinBound_5 : decode cX0_isWithinBound 5 = .ok (.i2l, 1) := by decide +kernel
theorem dX0_isWithinBound_6 : decode cX0_isWithinBound 6 = .ok (.lmul, 1) := by decide +kernel
theorem dX0_isWithinBound_7 : decode cX0_isWithinBound 7 = .ok (.aload_n 0, 1) := by decide +kernel
theorem dX0_isWithinBound_8 : decode cX0_isWithinBound 8 = .ok (.getfield 19, 3) := by decide +kernel
theorem dX0_isWithinBound_11 : decode cX0_isWithinBound 11 = .ok (.lsub, 1) := by decide +kernel
theorem dX0_isWithinBound_12 : decode cX0_isWithinBound 12 = .ok (.invokestatic 35, 3) := by decide +kernel
theorem dX0_isWithinBound_15 : decode cX0_isWithinBound 15 = .ok (.lstore_n 3, 1) := by decide +kernel
theorem dX0_isWithinBound_16 : decode cX0_isWithinBound 16 = .ok (.lconst 1, 1) := by decide +kernel
theorem dX0_isWithinBound_17 : decode cX0_isWithinBound 17 = .ok (.iload_n 2, 1) := by decide +kernel
theorem dX0_isWithinBound_18 : decode cX0_isWithinBound 18 = .ok (.lshl, 1) := by decide +kernel
theorem dX0_isWithinBound_19 : decode cX0_isWithinBound 19 = .ok (.lstore 5, 2) := by decide +kernel
theorem dX0_isWithinBound_21 : decode cX0_isWithinBound 21 = .ok (.aload_n 0, 1) := by decide +kernel
theorem dX0_isWithinBound_22 : decode cX0_isWithinBound 22 = .ok (.getfield 32, 3) := by decide +kernel
theorem dX0_isWithinBound_25 : decode cX0_isWithinBound 25 = .ok (.ifCond .eq 11, 3) := by decide +kernel
theorem dX0_isWithinBound_28 : decode cX0_isWithinBound 28 = .ok (.aload_n 0, 1) := by decide +kernel
theorem dX0_isWithinBound_29 : decode cX0_isWithinBound 29 = .ok (.getfield 32, 3) := by decide +kernel
theorem dX0_isWithinBound_32 : decode cX0_isWithinBound 32 = .ok (.iconst 1, 1) := by decide +kernel
theorem dX0_isWithinBound_33 : decode cX0_isWithinBound 33 = .ok (.if_icmp .ne 12, 3) := by decide +kernel
theorem dX0_isWithinBound_36 : decode cX0_isWithinBound 36 = .ok (.ldc2_w 41, 3) := by decide +kernel
theorem dX0_isWithinBound_39 : decode cX0_isWithinBound 39 = .ok (.lload 5, 2) := by decide +kernel
theorem dX0_isWithinBound_41 : decode cX0_isWithinBound 41 = .ok (.lmul, 1) := by decide +kernel
theorem dX0_isWithinBound_42 : decode cX0_isWithinBound 42 = .ok (.goto 5, 3) := by decide +kernel
theorem dX0_isWithinBound_45 : decode cX0_isWithinBound 45 = .ok (.lload 5, 2) := by decide +kernel
theorem dX0_isWithinBound_47 : decode cX0_isWithinBound 47 = .ok (.lstore 7, 2) := by decide +kernel
theorem dX0_isWithinBound_49 : decode cX0_isWithinBound 49 = .ok (.lload_n 3, 1) := by decide +kernel
theorem dX0_isWithinBound_50 : decode cX0_isWithinBound 50 = .ok (.ldc2_w 41, 3) := by decide +kernel
theorem dX0_isWithinBound_53 : decode cX0_isWithinBound 53 = .ok (.lload 5, 2) := by decide +kernel
theorem dX0_isWithinBound_55 : decode cX0_isWithinBound 55 = .ok (.lmul, 1) := by decide +kernel
theorem dX0_isWithinBound_56 : decode cX0_isWithinBound 56 = .ok (.lmul, 1) := by decide +kernel
theorem dX0_isWithinBound_57 : decode cX0_isWithinBound 57 = .ok (.aload_n 0, 1) := by decide +kernel
theorem dX0_isWithinBound_58 : decode cX0_isWithinBound 58 = .ok (.getfield 22, 3) := by decide +kernel
theorem dX0_isWithinBound_61 : decode cX0_isWithinBound 61 = .ok (.lload 7, 2) := by decide +kernel
theorem dX0_isWithinBound_63 : decode cX0_isWithinBound 63 = .ok (.ladd, 1) := by decide +kernel
theorem dX0_isWithinBound_64 : decode cX0_isWithinBound 64 = .ok (.iload_n 1, 1) := by decide +kernel
theorem dX0_isWithinBound_65 : decode cX0_isWithinBound 65 = .ok (.i2l, 1) := by decide +kernel
theorem dX0_isWithinBound_66 : decode cX0_isWithinBound 66 = .ok (.lmul, 1) := by decide +kernel
theorem dX0_isWithinBound_67 : decode cX0_isWithinBound 67 = .ok (.lcmp, 1) := by decide +kernel
theorem dX0_isWithinBound_68 : decode cX0_isWithinBound 68 = .ok (.ifCond .gt 7, 3) := by decide +kernel
theorem dX0_isWithinBound_71 : decode cX0_isWithinBound 71 = .ok (.iconst 1, 1) := by decide +kernel
theorem dX0_isWithinBound_72 : decode cX0_isWithinBound 72 = .ok (.goto 4, 3) := by decide +kernel
theorem dX0_isWithinBound_75 : decode cX0_isWithinBound 75 = .ok (.iconst 0, 1) := by decide +kernel
theorem dX0_isWithinBound_76 : decode cX0_isWithinBound 76 = .ok (.ireturn, 1) := by decide +kernel
theorem dX1_init_0 : decode cX1_init 0 = .ok (.aload_n 0, 1) := by decide +kernel
theorem dX1_init_1 : decode cX1_init 1 = .ok (.invokespecial 3, 3) := by decide +kernel
theorem dX1_init_4 : decode cX1_init 4 = .ok (.aload_n 0, 1) := by decide +kernel
theorem dX1_init_5 : decode cX1_init 5 = .ok (.iconst 0, 1) := by decide +kernel
theorem dX1_init_6 : decode cX1_init 6 = .ok (.putfield 9, 3) := by decide +kernel
theorem dX1_init_9 : decode cX1_init 9 = .ok (.aload_n 0, 1) := by decide +kernel
theorem dX1_init_10 : decode cX1_init 10 = .ok (.bipush 32, 2) := by decide +kernel
theorem dX1_init_12 : decode cX1_init 12 = .ok (.newarray .int, 2) := by decide +kernel
theorem dX1_init_14 : decode cX1_init 14 = .ok (.putfield 15, 3) := by decide +kernel
theorem dX1_init_17 : decode cX1_init 17 = .ok (.return_, 1) := by decide +kernel
theorem dX1_begin_0 : decode cX1_begin 0 = .ok (.aload_n 0, 1) := by decide +kernel
theorem dX1_begin_1 : decode cX1_begin 1 = .ok (.iload_n 1, 1) := by decide +kernel
theorem dX1_begin_2 : decode cX1_begin 2 = .ok (.putfield 19, 3) := by decide +kernel
theorem dX1_begin_5 : decode cX1_begin 5 = .ok (.aload_n 0, 1) := by decide +kernel
theorem dX1_begin_6 : decode cX1_begin 6 = .ok (.iload_n 2, 1) := by decide +kernel
theorem dX1_begin_7 : decode cX1_begin 7 = .ok (.putfield 23, 3) := by decide +kernel
theorem dX1_begin_10 : decode cX1_begin 10 = .ok (.aload_n 0, 1) := by decide +kernel
theorem dX1_begin_11 : decode cX1_begin 11 = .ok (.iload_n 3, 1) := by decide +kernel
theorem dX1_begin_12 : decode cX1_begin 12 = .ok (.putfield 26, 3) := by decide +kernel
theorem dX1_begin_15 : decode cX1_begin 15 = .ok (.aload_n 0, 1) := by decide +kernel
theorem dX1_begin_16 : decode cX1_begin 16 = .ok (.lconst 0, 1) := by decide +kernel
theorem dX1_begin_17 : decode cX1_begin 17 = .ok (.putfield 29, 3) := by decide +kernel
theorem dX1_begin_20 : decode cX1_begin 20 = .ok (.aload_n 0, 1) := by decide +kernel
theorem dX1_begin_21 : decode cX1_begin 21 = .ok (.iconst 1, 1) := by decide +kernel
theorem dX1_begin_22 : decode cX1_begin 22 = .ok (.putfield 9, 3) := by decide +kernel
theorem dX1_begin_25 : decode cX1_begin 25 = .ok (.return_, 1) := by decide +kernel
theorem dX1_setFactor_0 : decode cX1_setFactor 0 = .ok (.iload_n 1, 1) := by decide +kernel
theorem dX1_setFactor_1 : decode cX1_setFactor 1 = .ok (.ifCond .lt 33, 3) := by decide +kernel
theorem dX1_setFactor_4 : decode cX1_setFactor 4 = .ok (.iload_n 1, 1) := by decide +kernel
theorem dX1_setFactor_5 : decode cX1_setFactor 5 = .ok (.aload_n 0, 1) := by decide +kernel
theorem dX1_setFactor_6 : decode cX1_setFactor 6 = .ok (.getfield 15, 3) := by decide +kernel
theorem dX1_setFactor_9 : decode cX1_setFactor 9 = .ok (.arraylength, 1) := by decide +kernel
theorem dX1_setFactor_10 : decode cX1_setFactor 10 = .ok (.if_icmp .ge 24, 3) := by decide +kernel
theorem dX1_setFactor_13 : decode cX1_setFactor 13 = .ok (.aload_n 0, 1) := by decide +kernel
theorem dX1_setFactor_14 : decode cX1_setFactor 14 = .ok (.getfield 15, 3) := by decide +kernel
theorem dX1_setFactor_17 : decode cX1_setFactor 17 = .ok (.iload_n 1, 1) := by decide +kernel
theorem dX1_setFactor_18 : decode cX1_setFactor 18 = .ok (.iload_n 2, 1) := by decide +kernel
theorem dX1_setFactor_19 : decode cX1_setFactor 19 = .ok (.iastore, 1) := by decide +kernel
theorem dX1_setFactor_20 : decode cX1_setFactor 20 = .ok (.aload_n 0, 1) := by decide +kernel
theorem dX1_setFactor_21 : decode cX1_setFactor 21 = .ok (.dup, 1) := by decide +kernel
theorem dX1_setFactor_22 : decode cX1_setFactor 22 = .ok (.getfield 29, 3) := by decide +kernel
theorem dX1_setFactor_25 : decode cX1_setFactor 25 = .ok (.iload_n 2, 1) := by decide +kernel
theorem dX1_setFactor_26 : decode cX1_setFactor 26 = .ok (.invokestatic 33, 3) := by decide +kernel
theorem dX1_setFactor_29 : decode cX1_setFactor 29 = .ok (.i2l, 1) := by decide +kernel
theorem dX1_setFactor_30 : decode cX1_setFactor 30 = .ok (.ladd, 1) := by decide +kernel
theorem dX1_setFactor_31 : decode cX1_setFactor 31 = .ok (.putfield 29, 3) := by decide +kernel
theorem dX1_setFactor_34 : decode cX1_setFactor 34 = .ok (.return_, 1) := by decide +kernel
theorem dX1_factor_0 : decode cX1_factor 0 = .ok (.iload_n 1, 1) := by decide +kernel
theorem dX1_factor_1 : decode cX1_factor 1 = .ok (.ifCond .lt 21, 3) := by decide +kernel
theorem dX1_factor_4 : decode cX1_factor 4 = .ok (.iload_n 1, 1) := by decide +kernel
theorem dX1_factor_5 : decode cX1_factor 5 = .ok (.aload_n 0, 1) := by decide +kernel
theorem dX1_factor_6 : decode cX1_factor 6 = .ok (.getfield 15, 3) := by decide +kernel
theorem dX1_factor_9 : decode cX1_factor 9 = .ok (.arraylength, 1) := by decide +kernel
theorem dX1_factor_10 : decode cX1_factor 10 = .ok (.if_icmp .ge 12, 3) := by decide +kernel
theorem dX1_factor_13 : decode cX1_factor 13 = .ok (.aload_n 0, 1) := by decide +kernel
theorem dX1_factor_14 : decode cX1_factor 14 = .ok (.getfield 15, 3) := by decide +kernel
theorem dX1_factor_17 : decode cX1_factor 17 = .ok (.iload_n 1, 1) := by decide +kernel
theorem dX1_factor_18 : decode cX1_factor 18 = .ok (.iaload, 1) := by decide +kernel
theorem dX1_factor_19 : decode cX1_factor 19 = .ok (.goto 4, 3) := by decide +kernel
theorem dX1_factor_22 : decode cX1_factor 22 = .ok (.iconst 0, 1) := by decide +kernel
theorem dX1_factor_23 : decode cX1_factor 23 = .ok (.ireturn, 1) := by decide +kernel
theorem dX2_init_0 : decode cX2_init 0 = .ok (.aload_n 0, 1) := by decide +kernel
theorem dX2_init_1 : decode cX2_init 1 = .ok (.invokespecial 3, 3) := by decide +kernel
theorem dX2_init_4 : decode cX2_init 4 = .ok (.aload_n 0, 1) := by decide +kernel
theorem dX2_init_5 : decode cX2_init 5 = .ok (.bipush 32, 2) := by decide +kernel
theorem dX2_init_7 : decode cX2_init 7 = .ok (.newarray .short, 2) := by decide +kernel
theorem dX2_init_9 : decode cX2_init 9 = .ok (.putfield 9, 3) := by decide +kernel
theorem dX2_init_12 : decode cX2_init 12 = .ok (.aload_n 0, 1) := by decide +kernel
theorem dX2_init_13 : decode cX2_init 13 = .ok (.iconst 0, 1) := by decide +kernel
theorem dX2_init_14 : decode cX2_init 14 = .ok (.putfield 15, 3) := by decide +kernel
theorem dX2_init_17 : decode cX2_init 17 = .ok (.return_, 1) := by decide +kernel
theorem dX2_push_0 : decode cX2_push 0 = .ok (.aload_n 0, 1) := by decide +kernel
theorem dX2_push_1 : decode cX2_push 1 = .ok (.aload_n 0, 1) := by decide +kernel
theorem dX2_push_2 : decode cX2_push 2 = .ok (.getfield 15, 3) := by decide +kernel
theorem dX2_push_5 : decode cX2_push 5 = .ok (.iconst 1, 1) := by decide +kernel
theorem dX2_push_6 : decode cX2_push 6 = .ok (.isub, 1) := by decide +kernel
theorem dX2_push_7 : decode cX2_push 7 = .ok (.bipush 31, 2) := by decide +kernel
theorem dX2_push_9 : decode cX2_push 9 = .ok (.iand, 1) := by decide +kernel
theorem dX2_push_10 : decode cX2_push 10 = .ok (.putfield 15, 3) := by decide +kernel
theorem dX2_push_13 : decode cX2_push 13 = .ok (.aload_n 0, 1) := by decide +kernel
theorem dX2_push_14 : decode cX2_push 14 = .ok (.getfield 15, 3) := by decide +kernel
theorem dX2_push_17 : decode cX2_push 17 = .ok (.aload_n 0, 1) := by decide +kernel
theorem dX2_push_18 : decode cX2_push 18 = .ok (.getfield 9, 3) := by decide +kernel
theorem dX2_push_21 : decode cX2_push 21 = .ok (.arraylength, 1) := by decide +kernel
theorem dX2_push_22 : decode cX2_push 22 = .ok (.if_icmp .ge 14, 3) := by decide +kernel
theorem dX2_push_25 : decode cX2_push 25 = .ok (.aload_n 0, 1) := by decide +kernel
theorem dX2_push_26 : decode cX2_push 26 = .ok (.getfield 9, 3) := by decide +kernel
theorem dX2_push_29 : decode cX2_push 29 = .ok (.aload_n 0, 1) := by decide +kernel
theorem dX2_push_30 : decode cX2_push 30 = .ok (.getfield 15, 3) := by decide +kernel
theorem dX2_push_33 : decode cX2_push 33 = .ok (.iload_n 1, 1) := by decide +kernel
theorem dX2_push_34 : decode cX2_push 34 = .ok (.i2s, 1) := by decide +kernel
theorem dX2_push_35 : decode cX2_push 35 = .ok (.sastore, 1) := by decide +kernel
theorem dX2_push_36 : decode cX2_push 36 = .ok (.return_, 1) := by decide +kernel
theorem dX2_back_0 : decode cX2_back 0 = .ok (.aload_n 0, 1) := by decide +kernel
theorem dX2_back_1 : decode cX2_back 1 = .ok (.getfield 15, 3) := by decide +kernel
theorem dX2_back_4 : decode cX2_back 4 = .ok (.iload_n 1, 1) := by decide +kernel
theorem dX2_back_5 : decode cX2_back 5 = .ok (.iadd, 1) := by decide +kernel
theorem dX2_back_6 : decode cX2_back 6 = .ok (.bipush 31, 2) := by decide +kernel
theorem dX2_back_8 : decode cX2_back 8 = .ok (.iand, 1) := by decide +kernel
theorem dX2_back_9 : decode cX2_back 9 = .ok (.istore_n 2, 1) := by decide +kernel
theorem dX2_back_10 : decode cX2_back 10 = .ok (.iload_n 2, 1) := by decide +kernel
theorem dX2_back_11 : decode cX2_back 11 = .ok (.aload_n 0, 1) := by decide +kernel
theorem dX2_back_12 : decode cX2_back 12 = .ok (.getfield 9, 3) := by decide +kernel
theorem dX2_back_15 : decode cX2_back 15 = .ok (.arraylength, 1) := by decide +kernel
theorem dX2_back_16 : decode cX2_back 16 = .ok (.if_icmp .ge 12, 3) := by decide +kernel
theorem dX2_back_19 : decode cX2_back 19 = .ok (.aload_n 0, 1) := by decide +kernel
theorem dX2_back_20 : decode cX2_back 20 = .ok (.getfield 9, 3) := by decide +kernel
theorem dX2_back_23 : decode cX2_back 23 = .ok (.iload_n 2, 1) := by decide +kernel
theorem dX2_back_24 : decode cX2_back 24 = .ok (.saload, 1) := by decide +kernel
theorem dX2_back_25 : decode cX2_back 25 = .ok (.goto 4, 3) := by decide +kernel
theorem dX2_back_28 : decode cX2_back 28 = .ok (.iconst 0, 1) := by decide +kernel
theorem dX2_back_29 : decode cX2_back 29 = .ok (.ireturn, 1) := by decide +kernel
theorem dX2_clear_0 : decode cX2_clear 0 = .ok (.iconst 0, 1) := by decide +kernel
theorem dX2_clear_1 : decode cX2_clear 1 = .ok (.istore_n 1, 1) := by decide +kernel
theorem dX2_clear_2 : decode cX2_clear 2 = .ok (.iload_n 1, 1) := by decide +kernel
theorem dX2_clear_3 : decode cX2_clear 3 = .ok (.aload_n 0, 1) := by decide +kernel
theorem dX2_clear_4 : decode cX2_clear 4 = .ok (.getfield 9, 3) := by decide +kernel
theorem dX2_clear_7 : decode cX2_clear 7 = .ok (.arraylength, 1) := by decide +kernel
theorem dX2_clear_8 : decode cX2_clear 8 = .ok (.if_icmp .ge 16, 3) := by decide +kernel
theorem dX2_clear_11 : decode cX2_clear 11 = .ok (.aload_n 0, 1) := by decide +kernel
theorem dX2_clear_12 : decode cX2_clear 12 = .ok (.getfield 9, 3) := by decide +kernel
theorem dX2_clear_15 : decode cX2_clear 15 = .ok (.iload_n 1, 1) := by decide +kernel
theorem dX2_clear_16 : decode cX2_clear 16 = .ok (.iconst 0, 1) := by decide +kernel
theorem dX2_clear_17 : decode cX2_clear 17 = .ok (.sastore, 1) := by decide +kernel
theorem dX2_clear_18 : decode cX2_clear 18 = .ok (.iinc 1 1, 3) := by decide +kernel
theorem dX2_clear_21 : decode cX2_clear 21 = .ok (.goto (-19), 3) := by decide +kernel
theorem dX2_clear_24 : decode cX2_clear 24 = .ok (.aload_n 0, 1) := by decide +kernel
theorem dX2_clear_25 : decode cX2_clear 25 = .ok (.iconst 0, 1) := by decide +kernel
theorem dX2_clear_26 : decode cX2_clear 26 = .ok (.putfield 15, 3) := by decide +kernel
theorem dX2_clear_29 : decode cX2_clear 29 = .ok (.return_, 1) := by decide +kernel
theorem dX3_init_0 : decode cX3_init 0 = .ok (.aload_n 0, 1) := by decide +kernel
theorem dX3_init_1 : decode cX3_init 1 = .ok (.invokespecial 3, 3) := by decide +kernel
theorem dX3_init_4 : decode cX3_init 4 = .ok (.aload_n 0, 1) := by decide +kernel
theorem dX3_init_5 : decode cX3_init 5 = .ok (.bipush 16, 2) := by decide +kernel
theorem dX3_init_7 : decode cX3_init 7 = .ok (.newarray .int, 2) := by decide +kernel
theorem dX3_init_9 : decode cX3_init 9 = .ok (.putfield 9, 3) := by decide +kernel
theorem dX3_init_12 : decode cX3_init 12 = .ok (.aload_n 0, 1) := by decide +kernel
theorem dX3_init_13 : decode cX3_init 13 = .ok (.iconst 0, 1) := by decide +kernel
theorem dX3_init_14 : decode cX3_init 14 = .ok (.putfield 15, 3) := by decide +kernel
theorem dX3_init_17 : decode cX3_init 17 = .ok (.return_, 1) := by decide +kernel
theorem dX3_clear_0 : decode cX3_clear 0 = .ok (.aload_n 0, 1) := by decide +kernel
theorem dX3_clear_1 : decode cX3_clear 1 = .ok (.iconst 0, 1) := by decide +kernel
theorem dX3_clear_2 : decode cX3_clear 2 = .ok (.putfield 15, 3) := by decide +kernel
theorem dX3_clear_5 : decode cX3_clear 5 = .ok (.return_, 1) := by decide +kernel
theorem dX3_add_0 : decode cX3_add 0 = .ok (.aload_n 0, 1) := by decide +kernel
theorem dX3_add_1 : decode cX3_add 1 = .ok (.getfield 15, 3) := by decide +kernel
theorem dX3_add_4 : decode cX3_add 4 = .ok (.ifCond .lt 35, 3) := by decide +kernel
theorem dX3_add_7 : decode cX3_add 7 = .ok (.aload_n 0, 1) := by decide +kernel
theorem dX3_add_8 : decode cX3_add 8 = .ok (.getfield 15, 3) := by decide +kernel
theorem dX3_add_11 : decode cX3_add 11 = .ok (.aload_n 0, 1) := by decide +kernel
theorem dX3_add_12 : decode cX3_add 12 = .ok (.getfield 9, 3) := by decide +kernel
theorem dX3_add_15 : decode cX3_add 15 = .ok (.arraylength, 1) := by decide +kernel
theorem dX3_add_16 : decode cX3_add 16 = .ok (.if_icmp .ge 23, 3) := by decide +kernel
theorem dX3_add_19 : decode cX3_add 19 = .ok (.aload_n 0, 1) := by decide +kernel
theorem dX3_add_20 : decode cX3_add 20 = .ok (.getfield 9, 3) := by decide +kernel
theorem dX3_add_23 : decode cX3_add 23 = .ok (.aload_n 0, 1) := by decide +kernel
theorem dX3_add_24 : decode cX3_add 24 = .ok (.getfield 15, 3) := by decide +kernel
theorem dX3_add_27 : decode cX3_add 27 = .ok (.iload_n 1, 1) := by decide +kernel
theorem dX3_add_28 : decode cX3_add 28 = .ok (.iastore, 1) := by decide +kernel
theorem dX3_add_29 : decode cX3_add 29 = .ok (.aload_n 0, 1) := by decide +kernel
theorem dX3_add_30 : decode cX3_add 30 = .ok (.dup, 1) := by decide +kernel
theorem dX3_add_31 : decode cX3_add 31 = .ok (.getfield 15, 3) := by decide +kernel
theorem dX3_add_34 : decode cX3_add 34 = .ok (.iconst 1, 1) := by decide +kernel
theorem dX3_add_35 : decode cX3_add 35 = .ok (.iadd, 1) := by decide +kernel
theorem dX3_add_36 : decode cX3_add 36 = .ok (.putfield 15, 3) := by decide +kernel
theorem dX3_add_39 : decode cX3_add 39 = .ok (.return_, 1) := by decide +kernel
theorem dX3_at_0 : decode cX3_at 0 = .ok (.iload_n 1, 1) := by decide +kernel
theorem dX3_at_1 : decode cX3_at 1 = .ok (.ifCond .lt 29, 3) := by decide +kernel
theorem dX3_at_4 : decode cX3_at 4 = .ok (.iload_n 1, 1) := by decide +kernel
theorem dX3_at_5 : decode cX3_at 5 = .ok (.aload_n 0, 1) := by decide +kernel
theorem dX3_at_6 : decode cX3_at 6 = .ok (.getfield 15, 3) := by decide +kernel
theorem dX3_at_9 : decode cX3_at 9 = .ok (.if_icmp .ge 21, 3) := by decide +kernel
theorem dX3_at_12 : decode cX3_at 12 = .ok (.iload_n 1, 1) := by decide +kernel
theorem dX3_at_13 : decode cX3_at 13 = .ok (.aload_n 0, 1) := by decide +kernel
theorem dX3_at_14 : decode cX3_at 14 = .ok (.getfield 9, 3) := by decide +kernel
theorem dX3_at_17 : decode cX3_at 17 = .ok (.arraylength, 1) := by decide +kernel
theorem dX3_at_18 : decode cX3_at 18 = .ok (.if_icmp .ge 12, 3) := by decide +kernel
theorem dX3_at_21 : decode cX3_at 21 = .ok (.aload_n 0, 1) := by decide +kernel
theorem dX3_at_22 : decode cX3_at 22 = .ok (.getfield 9, 3) := by decide +kernel
theorem dX3_at_25 : decode cX3_at 25 = .ok (.iload_n 1, 1) := by decide +kernel
theorem dX3_at_26 : decode cX3_at 26 = .ok (.iaload, 1) := by decide +kernel
theorem dX3_at_27 : decode cX3_at 27 = .ok (.goto 4, 3) := by decide +kernel
theorem dX3_at_30 : decode cX3_at 30 = .ok (.iconst 0, 1) := by decide +kernel
theorem dX3_at_31 : decode cX3_at 31 = .ok (.ireturn, 1) := by decide +kernel
theorem dX4_init_0 : decode cX4_init 0 = .ok (.aload_n 0, 1) := by decide +kernel
theorem dX4_init_1 : decode cX4_init 1 = .ok (.invokespecial 3, 3) := by decide +kernel
theorem dX4_init_4 : decode cX4_init 4 = .ok (.aload_n 0, 1) := by decide +kernel
theorem dX4_init_5 : decode cX4_init 5 = .ok (.iload_n 1, 1) := by decide +kernel
theorem dX4_init_6 : decode cX4_init 6 = .ok (.putfield 9, 3) := by decide +kernel
theorem dX4_init_9 : decode cX4_init 9 = .ok (.aload_n 0, 1) := by decide +kernel
theorem dX4_init_10 : decode cX4_init 10 = .ok (.iload_n 2, 1) := by decide +kernel
theorem dX4_init_11 : decode cX4_init 11 = .ok (.putfield 15, 3) := by decide +kernel
theorem dX4_init_14 : decode cX4_init 14 = .ok (.aload_n 0, 1) := by decide +kernel
theorem dX4_init_15 : decode cX4_init 15 = .ok (.bipush 32, 2) := by decide +kernel
theorem dX4_init_17 : decode cX4_init 17 = .ok (.newarray .int, 2) := by decide +kernel
theorem dX4_init_19 : decode cX4_init 19 = .ok (.putfield 18, 3) := by decide +kernel
theorem dX4_init_22 : decode cX4_init 22 = .ok (.aload_n 0, 1) := by decide +kernel
theorem dX4_init_23 : decode cX4_init 23 = .ok (.iconst 0, 1) := by decide +kernel
theorem dX4_init_24 : decode cX4_init 24 = .ok (.putfield 22, 3) := by decide +kernel
theorem dX4_init_27 : decode cX4_init 27 = .ok (.aload_n 0, 1) := by decide +kernel
theorem dX4_init_28 : decode cX4_init 28 = .ok (.iconst 0, 1) := by decide +kernel
theorem dX4_init_29 : decode cX4_init 29 = .ok (.putfield 25, 3) := by decide +kernel
theorem dX4_init_32 : decode cX4_init 32 = .ok (.aload_n 0, 1) := by decide +kernel
theorem dX4_init_33 : decode cX4_init 33 = .ok (.iconst 0, 1) := by decide +kernel
theorem dX4_init_34 : decode cX4_init 34 = .ok (.putfield 28, 3) := by decide +kernel
theorem dX4_init_37 : decode cX4_init 37 = .ok (.aload_n 0, 1) := by decide +kernel
theorem dX4_init_38 : decode cX4_init 38 = .ok (.new 32, 3) := by decide +kernel
theorem dX4_init_41 : decode cX4_init 41 = .ok (.dup, 1) := by decide +kernel
theorem dX4_init_42 : decode cX4_init 42 = .ok (.invokespecial 34, 3) := by decide +kernel
theorem dX4_init_45 : decode cX4_init 45 = .ok (.putfield 35, 3) := by decide +kernel
theorem dX4_init_48 : decode cX4_init 48 = .ok (.aload_n 0, 1) := by decide +kernel
theorem dX4_init_49 : decode cX4_init 49 = .ok (.new 39, 3) := by decide +kernel
theorem dX4_init_52 : decode cX4_init 52 = .ok (.dup, 1) := by decide +kernel
theorem dX4_init_53 : decode cX4_init 53 = .ok (.invokespecial 41, 3) := by decide +kernel
theorem dX4_init_56 : decode cX4_init 56 = .ok (.putfield 42, 3) := by decide +kernel
theorem dX4_init_59 : decode cX4_init 59 = .ok (.aload_n 0, 1) := by decide +kernel
theorem dX4_init_60 : decode cX4_init 60 = .ok (.new 46, 3) := by decide +kernel
theorem dX4_init_63 : decode cX4_init 63 = .ok (.dup, 1) := by decide +kernel
theorem dX4_init_64 : decode cX4_init 64 = .ok (.invokespecial 48, 3) := by decide +kernel
theorem dX4_init_67 : decode cX4_init 67 = .ok (.putfield 49, 3) := by decide +kernel
theorem dX4_init_70 : decode cX4_init 70 = .ok (.return_, 1) := by decide +kernel
theorem dX4_hasTap_0 : decode cX4_hasTap 0 = .ok (.iload_n 1, 1) := by decide +kernel
theorem dX4_hasTap_1 : decode cX4_hasTap 1 = .ok (.ifCond .lt 24, 3) := by decide +kernel
theorem dX4_hasTap_4 : decode cX4_hasTap 4 = .ok (.iload_n 1, 1) := by decide +kernel
theorem dX4_hasTap_5 : decode cX4_hasTap 5 = .ok (.aload_n 0, 1) := by decide +kernel
theorem dX4_hasTap_6 : decode cX4_hasTap 6 = .ok (.getfield 22, 3) := by decide +kernel
theorem dX4_hasTap_9 : decode cX4_hasTap 9 = .ok (.if_icmp .ge 16, 3) := by decide +kernel
theorem dX4_hasTap_12 : decode cX4_hasTap 12 = .ok (.iload_n 1, 1) := by decide +kernel
theorem dX4_hasTap_13 : decode cX4_hasTap 13 = .ok (.aload_n 0, 1) := by decide +kernel
theorem dX4_hasTap_14 : decode cX4_hasTap 14 = .ok (.getfield 18, 3) := by decide +kernel
theorem dX4_hasTap_17 : decode cX4_hasTap 17 = .ok (.arraylength, 1) := by decide +kernel
theorem dX4_hasTap_18 : decode cX4_hasTap 18 = .ok (.if_icmp .ge 7, 3) := by decide +kernel
theorem dX4_hasTap_21 : decode cX4_hasTap 21 = .ok (.iconst 1, 1) := by decide +kernel
theorem dX4_hasTap_22 : decode cX4_hasTap 22 = .ok (.goto 4, 3) := by decide +kernel
theorem dX4_hasTap_25 : decode cX4_hasTap 25 = .ok (.iconst 0, 1) := by decide +kernel
theorem dX4_hasTap_26 : decode cX4_hasTap 26 = .ok (.ireturn, 1) := by decide +kernel
theorem dX4_tapAt_0 : decode cX4_tapAt 0 = .ok (.aload_n 0, 1) := by decide +kernel
theorem dX4_tapAt_1 : decode cX4_tapAt 1 = .ok (.iload_n 1, 1) := by decide +kernel
theorem dX4_tapAt_2 : decode cX4_tapAt 2 = .ok (.invokevirtual 53, 3) := by decide +kernel
theorem dX4_tapAt_5 : decode cX4_tapAt 5 = .ok (.ifCond .eq 12, 3) := by decide +kernel
theorem dX4_tapAt_8 : decode cX4_tapAt 8 = .ok (.aload_n 0, 1) := by decide +kernel
theorem dX4_tapAt_9 : decode cX4_tapAt 9 = .ok (.getfield 18, 3) := by decide +kernel
theorem dX4_tapAt_12 : decode cX4_tapAt 12 = .ok (.iload_n 1, 1) := by decide +kernel
theorem dX4_tapAt_13 : decode cX4_tapAt 13 = .ok (.iaload, 1) := by decide +kernel
theorem dX4_tapAt_14 : decode cX4_tapAt 14 = .ok (.goto 4, 3) := by decide +kernel
theorem dX4_tapAt_17 : decode cX4_tapAt 17 = .ok (.iconst 0, 1) := by decide +kernel
theorem dX4_tapAt_18 : decode cX4_tapAt 18 = .ok (.ireturn, 1) := by decide +kernel
theorem dX4_setTap_0 : decode cX4_setTap 0 = .ok (.aload_n 0, 1) := by decide +kernel
theorem dX4_setTap_1 : decode cX4_setTap 1 = .ok (.iload_n 1, 1) := by decide +kernel
theorem dX4_setTap_2 : decode cX4_setTap 2 = .ok (.invokevirtual 53, 3) := by decide +kernel
theorem dX4_setTap_5 : decode cX4_setTap 5 = .ok (.ifCond .eq 10, 3) := by decide +kernel
theorem dX4_setTap_8 : decode cX4_setTap 8 = .ok (.aload_n 0, 1) := by decide +kernel
theorem dX4_setTap_9 : decode cX4_setTap 9 = .ok (.getfield 18, 3) := by decide +kernel
theorem dX4_setTap_12 : decode cX4_setTap 12 = .ok (.iload_n 1, 1) := by decide +kernel
theorem dX4_setTap_13 : decode cX4_setTap 13 = .ok (.iload_n 2, 1) := by decide +kernel
theorem dX4_setTap_14 : decode cX4_setTap 14 = .ok (.iastore, 1) := by decide +kernel
theorem dX4_setTap_15 : decode cX4_setTap 15 = .ok (.return_, 1) := by decide +kernel
theorem dX4_addTap_0 : decode cX4_addTap 0 = .ok (.aload_n 0, 1) := by decide +kernel
theorem dX4_addTap_1 : decode cX4_addTap 1 = .ok (.getfield 22, 3) := by decide +kernel
theorem dX4_addTap_4 : decode cX4_addTap 4 = .ok (.ifCond .lt 15, 3) := by decide +kernel
theorem dX4_addTap_7 : decode cX4_addTap 7 = .ok (.aload_n 0, 1) := by decide +kernel
theorem dX4_addTap_8 : decode cX4_addTap 8 = .ok (.getfield 22, 3) := by decide +kernel
theorem dX4_addTap_11 : decode cX4_addTap 11 = .ok (.aload_n 0, 1) := by decide +kernel
theorem dX4_addTap_12 : decode cX4_addTap 12 = .ok (.getfield 18, 3) := by decide +kernel
theorem dX4_addTap_15 : decode cX4_addTap 15 = .ok (.arraylength, 1) := by decide +kernel
theorem dX4_addTap_16 : decode cX4_addTap 16 = .ok (.if_icmp .lt 5, 3) := by decide +kernel
theorem dX4_addTap_19 : decode cX4_addTap 19 = .ok (.iconst 0, 1) := by decide +kernel
theorem dX4_addTap_20 : decode cX4_addTap 20 = .ok (.ireturn, 1) := by decide +kernel
theorem dX4_addTap_21 : decode cX4_addTap 21 = .ok (.aload_n 0, 1) := by decide +kernel
theorem dX4_addTap_22 : decode cX4_addTap 22 = .ok (.getfield 18, 3) := by decide +kernel
theorem dX4_addTap_25 : decode cX4_addTap 25 = .ok (.aload_n 0, 1) := by decide +kernel
theorem dX4_addTap_26 : decode cX4_addTap 26 = .ok (.getfield 22, 3) := by decide +kernel
theorem dX4_addTap_29 : decode cX4_addTap 29 = .ok (.iload_n 1, 1) := by decide +kernel
theorem dX4_addTap_30 : decode cX4_addTap 30 = .ok (.iastore, 1) := by decide +kernel
theorem dX4_addTap_31 : decode cX4_addTap 31 = .ok (.aload_n 0, 1) := by decide +kernel
theorem dX4_addTap_32 : decode cX4_addTap 32 = .ok (.dup, 1) := by decide +kernel
theorem dX4_addTap_33 : decode cX4_addTap 33 = .ok (.getfield 22, 3) := by decide +kernel
theorem dX4_addTap_36 : decode cX4_addTap 36 = .ok (.iconst 1, 1) := by decide +kernel
theorem dX4_addTap_37 : decode cX4_addTap 37 = .ok (.iadd, 1) := by decide +kernel
theorem dX4_addTap_38 : decode cX4_addTap 38 = .ok (.putfield 22, 3) := by decide +kernel
theorem dX4_addTap_41 : decode cX4_addTap 41 = .ok (.iconst 1, 1) := by decide +kernel
theorem dX4_addTap_42 : decode cX4_addTap 42 = .ok (.ireturn, 1) := by decide +kernel
theorem dX4_filling_0 : decode cX4_filling 0 = .ok (.aload_n 0, 1) := by decide +kernel
theorem dX4_filling_1 : decode cX4_filling 1 = .ok (.getfield 15, 3) := by decide +kernel
theorem dX4_filling_4 : decode cX4_filling 4 = .ok (.ifCond .ge 11, 3) := by decide +kernel
theorem dX4_filling_7 : decode cX4_filling 7 = .ok (.aload_n 0, 1) := by decide +kernel
theorem dX4_filling_8 : decode cX4_filling 8 = .ok (.getfield 15, 3) := by decide +kernel
theorem dX4_filling_11 : decode cX4_filling 11 = .ok (.ineg, 1) := by decide +kernel
theorem dX4_filling_12 : decode cX4_filling 12 = .ok (.goto 4, 3) := by decide +kernel
theorem dX4_filling_15 : decode cX4_filling 15 = .ok (.iconst 1, 1) := by decide +kernel
theorem dX4_filling_16 : decode cX4_filling 16 = .ok (.ireturn, 1) := by decide +kernel
theorem dX4_symmetry_0 : decode cX4_symmetry 0 = .ok (.iconst 1, 1) := by decide +kernel
theorem dX4_symmetry_1 : decode cX4_symmetry 1 = .ok (.istore_n 1, 1) := by decide +kernel
theorem dX4_symmetry_2 : decode cX4_symmetry 2 = .ok (.iconst 1, 1) := by decide +kernel
theorem dX4_symmetry_3 : decode cX4_symmetry 3 = .ok (.istore_n 2, 1) := by decide +kernel
theorem dX4_symmetry_4 : decode cX4_symmetry 4 = .ok (.iconst 0, 1) := by decide +kernel
theorem dX4_symmetry_5 : decode cX4_symmetry 5 = .ok (.istore_n 3, 1) := by decide +kernel
theorem dX4_symmetry_6 : decode cX4_symmetry 6 = .ok (.iload_n 3, 1) := by decide +kernel
theorem dX4_symmetry_7 : decode cX4_symmetry 7 = .ok (.aload_n 0, 1) := by decide +kernel
theorem dX4_symmetry_8 : decode cX4_symmetry 8 = .ok (.getfield 22, 3) := by decide +kernel
theorem dX4_symmetry_11 : decode cX4_symmetry 11 = .ok (.if_icmp .ge 65, 3) := by decide +kernel
theorem dX4_symmetry_14 : decode cX4_symmetry 14 = .ok (.aload_n 0, 1) := by decide +kernel
theorem dX4_symmetry_15 : decode cX4_symmetry 15 = .ok (.iload_n 3, 1) := by decide +kernel
theorem dX4_symmetry_16 : decode cX4_symmetry 16 = .ok (.invokevirtual 57, 3) := by decide +kernel
theorem dX4_symmetry_19 : decode cX4_symmetry 19 = .ok (.istore 4, 2) := by decide +kernel
theorem dX4_symmetry_21 : decode cX4_symmetry 21 = .ok (.aload_n 0, 1) := by decide +kernel
theorem dX4_symmetry_22 : decode cX4_symmetry 22 = .ok (.aload_n 0, 1) := by decide +kernel
theorem dX4_symmetry_23 : decode cX4_symmetry 23 = .ok (.getfield 22, 3) := by decide +kernel
theorem dX4_symmetry_26 : decode cX4_symmetry 26 = .ok (.iconst 1, 1) := by decide +kernel
theorem dX4_symmetry_27 : decode cX4_symmetry 27 = .ok (.isub, 1) := by decide +kernel
theorem dX4_symmetry_28 : decode cX4_symmetry 28 = .ok (.iload_n 3, 1) := by decide +kernel
theorem dX4_symmetry_29 : decode cX4_symmetry 29 = .ok (.isub, 1) := by decide +kernel
theorem dX4_symmetry_30 : decode cX4_symmetry 30 = .ok (.invokevirtual 57, 3) := by decide +kernel
theorem dX4_symmetry_33 : decode cX4_symmetry 33 = .ok (.istore 5, 2) := by decide +kernel
theorem dX4_symmetry_35 : decode cX4_symmetry 35 = .ok (.iload_n 1, 1) := by decide +kernel
theorem dX4_symmetry_36 : decode cX4_symmetry 36 = .ok (.ifCond .eq 14, 3) := by decide +kernel
theorem dX4_symmetry_39 : decode cX4_symmetry 39 = .ok (.iload 4, 2) := by decide +kernel
theorem dX4_symmetry_41 : decode cX4_symmetry 41 = .ok (.iload 5, 2) := by decide +kernel
theorem dX4_symmetry_43 : decode cX4_symmetry 43 = .ok (.if_icmp .ne 7, 3) := by decide +kernel
theorem dX4_symmetry_46 : decode cX4_symmetry 46 = .ok (.iconst 1, 1) := by decide +kernel
theorem dX4_symmetry_47 : decode cX4_symmetry 47 = .ok (.goto 4, 3) := by decide +kernel
theorem dX4_symmetry_50 : decode cX4_symmetry 50 = .ok (.iconst 0, 1) := by decide +kernel
theorem dX4_symmetry_51 : decode cX4_symmetry 51 = .ok (.istore_n 1, 1) := by decide +kernel
theorem dX4_symmetry_52 : decode cX4_symmetry 52 = .ok (.iload_n 2, 1) := by decide +kernel
theorem dX4_symmetry_53 : decode cX4_symmetry 53 = .ok (.ifCond .eq 15, 3) := by decide +kernel
theorem dX4_symmetry_56 : decode cX4_symmetry 56 = .ok (.iload 4, 2) := by decide +kernel
theorem dX4_symmetry_58 : decode cX4_symmetry 58 = .ok (.iload 5, 2) := by decide +kernel
theorem dX4_symmetry_60 : decode cX4_symmetry 60 = .ok (.ineg, 1) := by decide +kernel
theorem dX4_symmetry_61 : decode cX4_symmetry 61 = .ok (.if_icmp .ne 7, 3) := by decide +kernel
theorem dX4_symmetry_64 : decode cX4_symmetry 64 = .ok (.iconst 1, 1) := by decide +kernel
theorem dX4_symmetry_65 : decode cX4_symmetry 65 = .ok (.goto 4, 3) := by decide +kernel
theorem dX4_symmetry_68 : decode cX4_symmetry 68 = .ok (.iconst 0, 1) := by decide +kernel
theorem dX4_symmetry_69 : decode cX4_symmetry 69 = .ok (.istore_n 2, 1) := by decide +kernel
theorem dX4_symmetry_70 : decode cX4_symmetry 70 = .ok (.iinc 3 1, 3) := by decide +kernel
theorem dX4_symmetry_73 : decode cX4_symmetry 73 = .ok (.goto (-67), 3) := by decide +kernel
theorem dX4_symmetry_76 : decode cX4_symmetry 76 = .ok (.iload_n 1, 1) := by decide +kernel
theorem dX4_symmetry_77 : decode cX4_symmetry 77 = .ok (.ifCond .eq 7, 3) := by decide +kernel
theorem dX4_symmetry_80 : decode cX4_symmetry 80 = .ok (.iconst 1, 1) := by decide +kernel
theorem dX4_symmetry_81 : decode cX4_symmetry 81 = .ok (.goto 4, 3) := by decide +kernel
theorem dX4_symmetry_84 : decode cX4_symmetry 84 = .ok (.iconst 0, 1) := by decide +kernel
theorem dX4_symmetry_85 : decode cX4_symmetry 85 = .ok (.iload_n 2, 1) := by decide +kernel
theorem dX4_symmetry_86 : decode cX4_symmetry 86 = .ok (.ifCond .eq 7, 3) := by decide +kernel
theorem dX4_symmetry_89 : decode cX4_symmetry 89 = .ok (.iconst 2, 1) := by decide +kernel
theorem dX4_symmetry_90 : decode cX4_symmetry 90 = .ok (.goto 4, 3) := by decide +kernel
theorem dX4_symmetry_93 : decode cX4_symmetry 93 = .ok (.iconst 0, 1) := by decide +kernel
theorem dX4_symmetry_94 : decode cX4_symmetry 94 = .ok (.iadd, 1) := by decide +kernel
theorem dX4_symmetry_95 : decode cX4_symmetry 95 = .ok (.ireturn, 1) := by decide +kernel
theorem dX4_isSafe_0 : decode cX4_isSafe 0 = .ok (.lconst 1, 1) := by decide +kernel
theorem dX4_isSafe_1 : decode cX4_isSafe 1 = .ok (.iload_n 1, 1) := by decide +kernel
theorem dX4_isSafe_2 : decode cX4_isSafe 2 = .ok (.iconst 1, 1) := by decide +kernel
theorem dX4_isSafe_3 : decode cX4_isSafe 3 = .ok (.isub, 1) := by decide +kernel
theorem dX4_isSafe_4 : decode cX4_isSafe 4 = .ok (.lshl, 1) := by decide +kernel
theorem dX4_isSafe_5 : decode cX4_isSafe 5 = .ok (.lconst 1, 1) := by decide +kernel
theorem dX4_isSafe_6 : decode cX4_isSafe 6 = .ok (.lsub, 1) := by decide +kernel
theorem dX4_isSafe_7 : decode cX4_isSafe 7 = .ok (.lstore 4, 2) := by decide +kernel
theorem dX4_isSafe_9 : decode cX4_isSafe 9 = .ok (.lconst 1, 1) := by decide +kernel
theorem dX4_isSafe_10 : decode cX4_isSafe 10 = .ok (.iload_n 2, 1) := by decide +kernel
theorem dX4_isSafe_11 : decode cX4_isSafe 11 = .ok (.iconst 1, 1) := by decide +kernel
theorem dX4_isSafe_12 : decode cX4_isSafe 12 = .ok (.isub, 1) := by decide +kernel
theorem dX4_isSafe_13 : decode cX4_isSafe 13 = .ok (.lshl, 1) := by decide +kernel
theorem dX4_isSafe_14 : decode cX4_isSafe 14 = .ok (.lconst 1, 1) := by decide +kernel
theorem dX4_isSafe_15 : decode cX4_isSafe 15 = .ok (.lsub, 1) := by decide +kernel
theorem dX4_isSafe_16 : decode cX4_isSafe 16 = .ok (.lstore 6, 2) := by decide +kernel
theorem dX4_isSafe_18 : decode cX4_isSafe 18 = .ok (.lconst 0, 1) := by decide +kernel
theorem dX4_isSafe_19 : decode cX4_isSafe 19 = .ok (.lstore 8, 2) := by decide +kernel
theorem dX4_isSafe_21 : decode cX4_isSafe 21 = .ok (.iconst 0, 1) := by decide +kernel
theorem dX4_isSafe_22 : decode cX4_isSafe 22 = .ok (.istore 10, 2) := by decide +kernel
theorem dX4_isSafe_24 : decode cX4_isSafe 24 = .ok (.iload 10, 2) := by decide +kernel
theorem dX4_isSafe_26 : decode cX4_isSafe 26 = .ok (.aload_n 0, 1) := by decide +kernel
theorem dX4_isSafe_27 : decode cX4_isSafe 27 = .ok (.getfield 22, 3) := by decide +kernel
theorem dX4_isSafe_30 : decode cX4_isSafe 30 = .ok (.if_icmp .ge 45, 3) := by decide +kernel
theorem dX4_isSafe_33 : decode cX4_isSafe 33 = .ok (.aload_n 0, 1) := by decide +kernel
theorem dX4_isSafe_34 : decode cX4_isSafe 34 = .ok (.iload 10, 2) := by decide +kernel
theorem dX4_isSafe_36 : decode cX4_isSafe 36 = .ok (.invokevirtual 57, 3) := by decide +kernel
theorem dX4_isSafe_39 : decode cX4_isSafe 39 = .ok (.aload_n 0, 1) := by decide +kernel
theorem dX4_isSafe_40 : decode cX4_isSafe 40 = .ok (.getfield 9, 3) := by decide +kernel
theorem dX4_isSafe_43 : decode cX4_isSafe 43 = .ok (.iload_n 3, 1) := by decide +kernel
theorem dX4_isSafe_44 : decode cX4_isSafe 44 = .ok (.invokestatic 61, 3) := by decide +kernel
theorem dX4_isSafe_47 : decode cX4_isSafe 47 = .ok (.invokestatic 65, 3) := by decide +kernel
theorem dX4_isSafe_50 : decode cX4_isSafe 50 = .ok (.lstore 11, 2) := by decide +kernel
theorem dX4_isSafe_52 : decode cX4_isSafe 52 = .ok (.lload 11, 2) := by decide +kernel
theorem dX4_isSafe_54 : decode cX4_isSafe 54 = .ok (.lload 4, 2) := by decide +kernel
theorem dX4_isSafe_56 : decode cX4_isSafe 56 = .ok (.lcmp, 1) := by decide +kernel
theorem dX4_isSafe_57 : decode cX4_isSafe 57 = .ok (.ifCond .le 5, 3) := by decide +kernel
theorem dX4_isSafe_60 : decode cX4_isSafe 60 = .ok (.iconst 0, 1) := by decide +kernel
theorem dX4_isSafe_61 : decode cX4_isSafe 61 = .ok (.ireturn, 1) := by decide +kernel
theorem dX4_isSafe_62 : decode cX4_isSafe 62 = .ok (.lload 8, 2) := by decide +kernel
theorem dX4_isSafe_64 : decode cX4_isSafe 64 = .ok (.lload 11, 2) := by decide +kernel
theorem dX4_isSafe_66 : decode cX4_isSafe 66 = .ok (.ladd, 1) := by decide +kernel
theorem dX4_isSafe_67 : decode cX4_isSafe 67 = .ok (.lstore 8, 2) := by decide +kernel
theorem dX4_isSafe_69 : decode cX4_isSafe 69 = .ok (.iinc 10 1, 3) := by decide +kernel
theorem dX4_isSafe_72 : decode cX4_isSafe 72 = .ok (.goto (-48), 3) := by decide +kernel
theorem dX4_isSafe_75 : decode cX4_isSafe 75 = .ok (.aload_n 0, 1) := by decide +kernel
theorem dX4_isSafe_76 : decode cX4_isSafe 76 = .ok (.getfield 22, 3) := by decide +kernel
theorem dX4_isSafe_79 : decode cX4_isSafe 79 = .ok (.ifCond .le 19, 3) := by decide +kernel
theorem dX4_isSafe_82 : decode cX4_isSafe 82 = .ok (.lload 8, 2) := by decide +kernel
theorem dX4_isSafe_84 : decode cX4_isSafe 84 = .ok (.ldc2_w 71, 3) := by decide +kernel
theorem dX4_isSafe_87 : decode cX4_isSafe 87 = .ok (.lmul, 1) := by decide +kernel
theorem dX4_isSafe_88 : decode cX4_isSafe 88 = .ok (.lload 6, 2) := by decide +kernel
theorem dX4_isSafe_90 : decode cX4_isSafe 90 = .ok (.lcmp, 1) := by decide +kernel
theorem dX4_isSafe_91 : decode cX4_isSafe 91 = .ok (.ifCond .gt 7, 3) := by decide +kernel
theorem dX4_isSafe_94 : decode cX4_isSafe 94 = .ok (.iconst 1, 1) := by decide +kernel
theorem dX4_isSafe_95 : decode cX4_isSafe 95 = .ok (.goto 4, 3) := by decide +kernel
theorem dX4_isSafe_98 : decode cX4_isSafe 98 = .ok (.iconst 0, 1) := by decide +kernel
theorem dX4_isSafe_99 : decode cX4_isSafe 99 = .ok (.ireturn, 1) := by decide +kernel
theorem dX4_setPlan_0 : decode cX4_setPlan 0 = .ok (.aload_n 0, 1) := by decide +kernel
theorem dX4_setPlan_1 : decode cX4_setPlan 1 = .ok (.getfield 35, 3) := by decide +kernel
theorem dX4_setPlan_4 : decode cX4_setPlan 4 = .ok (.iload_n 1, 1) := by decide +kernel
theorem dX4_setPlan_5 : decode cX4_setPlan 5 = .ok (.iload_n 2, 1) := by decide +kernel
theorem dX4_setPlan_6 : decode cX4_setPlan 6 = .ok (.iload_n 3, 1) := by decide +kernel
theorem dX4_setPlan_7 : decode cX4_setPlan 7 = .ok (.invokevirtual 73, 3) := by decide +kernel
theorem dX4_setPlan_10 : decode cX4_setPlan 10 = .ok (.iconst 0, 1) := by decide +kernel
theorem dX4_setPlan_11 : decode cX4_setPlan 11 = .ok (.istore 4, 2) := by decide +kernel
theorem dX4_setPlan_13 : decode cX4_setPlan 13 = .ok (.iload 4, 2) := by decide +kernel
theorem dX4_setPlan_15 : decode cX4_setPlan 15 = .ok (.aload_n 0, 1) := by decide +kernel
theorem dX4_setPlan_16 : decode cX4_setPlan 16 = .ok (.getfield 22, 3) := by decide +kernel
theorem dX4_setPlan_19 : decode cX4_setPlan 19 = .ok (.if_icmp .ge 33, 3) := by decide +kernel
theorem dX4_setPlan_22 : decode cX4_setPlan 22 = .ok (.aload_n 0, 1) := by decide +kernel
theorem dX4_setPlan_23 : decode cX4_setPlan 23 = .ok (.getfield 35, 3) := by decide +kernel
theorem dX4_setPlan_26 : decode cX4_setPlan 26 = .ok (.iload 4, 2) := by decide +kernel
theorem dX4_setPlan_28 : decode cX4_setPlan 28 = .ok (.aload_n 0, 1) := by decide +kernel
theorem dX4_setPlan_29 : decode cX4_setPlan 29 = .ok (.iload 4, 2) := by decide +kernel
theorem dX4_setPlan_31 : decode cX4_setPlan 31 = .ok (.invokevirtual 57, 3) := by decide +kernel
theorem dX4_setPlan_34 : decode cX4_setPlan 34 = .ok (.aload_n 0, 1) := by decide +kernel
theorem dX4_setPlan_35 : decode cX4_setPlan 35 = .ok (.getfield 9, 3) := by decide +kernel
theorem dX4_setPlan_38 : decode cX4_setPlan 38 = .ok (.iload_n 3, 1) := by decide +kernel
theorem dX4_setPlan_39 : decode cX4_setPlan 39 = .ok (.invokestatic 61, 3) := by decide +kernel
theorem dX4_setPlan_42 : decode cX4_setPlan 42 = .ok (.l2i, 1) := by decide +kernel
theorem dX4_setPlan_43 : decode cX4_setPlan 43 = .ok (.invokevirtual 77, 3) := by decide +kernel
theorem dX4_setPlan_46 : decode cX4_setPlan 46 = .ok (.iinc 4 1, 3) := by decide +kernel
theorem dX4_setPlan_49 : decode cX4_setPlan 49 = .ok (.goto (-36), 3) := by decide +kernel
theorem dX4_setPlan_52 : decode cX4_setPlan 52 = .ok (.aload_n 0, 1) := by decide +kernel
theorem dX4_setPlan_53 : decode cX4_setPlan 53 = .ok (.getfield 42, 3) := by decide +kernel
theorem dX4_setPlan_56 : decode cX4_setPlan 56 = .ok (.iconst 0, 1) := by decide +kernel
theorem dX4_setPlan_57 : decode cX4_setPlan 57 = .ok (.putfield 81, 3) := by decide +kernel
theorem dX4_setPlan_60 : decode cX4_setPlan 60 = .ok (.aload_n 0, 1) := by decide +kernel
theorem dX4_setPlan_61 : decode cX4_setPlan 61 = .ok (.invokevirtual 84, 3) := by decide +kernel
theorem dX4_setPlan_64 : decode cX4_setPlan 64 = .ok (.return_, 1) := by decide +kernel
theorem dX4_dropPlan_0 : decode cX4_dropPlan 0 = .ok (.aload_n 0, 1) := by decide +kernel
theorem dX4_dropPlan_1 : decode cX4_dropPlan 1 = .ok (.getfield 35, 3) := by decide +kernel
theorem dX4_dropPlan_4 : decode cX4_dropPlan 4 = .ok (.iconst 0, 1) := by decide +kernel
theorem dX4_dropPlan_5 : decode cX4_dropPlan 5 = .ok (.putfield 87, 3) := by decide +kernel
theorem dX4_dropPlan_8 : decode cX4_dropPlan 8 = .ok (.aload_n 0, 1) := by decide +kernel
theorem dX4_dropPlan_9 : decode cX4_dropPlan 9 = .ok (.getfield 42, 3) := by decide +kernel
theorem dX4_dropPlan_12 : decode cX4_dropPlan 12 = .ok (.iconst 0, 1) := by decide +kernel
theorem dX4_dropPlan_13 : decode cX4_dropPlan 13 = .ok (.putfield 81, 3) := by decide +kernel
theorem dX4_dropPlan_16 : decode cX4_dropPlan 16 = .ok (.return_, 1) := by decide +kernel
theorem dX4_forget_0 : decode cX4_forget 0 = .ok (.aload_n 0, 1) := by decide +kernel
theorem dX4_forget_1 : decode cX4_forget 1 = .ok (.getfield 49, 3) := by decide +kernel
theorem dX4_forget_4 : decode cX4_forget 4 = .ok (.invokevirtual 88, 3) := by decide +kernel
theorem dX4_forget_7 : decode cX4_forget 7 = .ok (.aload_n 0, 1) := by decide +kernel
theorem dX4_forget_8 : decode cX4_forget 8 = .ok (.iconst 0, 1) := by decide +kernel
theorem dX4_forget_9 : decode cX4_forget 9 = .ok (.putfield 91, 3) := by decide +kernel
theorem dX4_forget_12 : decode cX4_forget 12 = .ok (.aload_n 0, 1) := by decide +kernel
theorem dX4_forget_13 : decode cX4_forget 13 = .ok (.lconst 0, 1) := by decide +kernel
theorem dX4_forget_14 : decode cX4_forget 14 = .ok (.putfield 94, 3) := by decide +kernel
theorem dX4_forget_17 : decode cX4_forget 17 = .ok (.aload_n 0, 1) := by decide +kernel
theorem dX4_forget_18 : decode cX4_forget 18 = .ok (.lconst 0, 1) := by decide +kernel
theorem dX4_forget_19 : decode cX4_forget 19 = .ok (.putfield 98, 3) := by decide +kernel
theorem dX4_forget_22 : decode cX4_forget 22 = .ok (.aload_n 0, 1) := by decide +kernel
theorem dX4_forget_23 : decode cX4_forget 23 = .ok (.lconst 0, 1) := by decide +kernel
theorem dX4_forget_24 : decode cX4_forget 24 = .ok (.putfield 101, 3) := by decide +kernel
theorem dX4_forget_27 : decode cX4_forget 27 = .ok (.return_, 1) := by decide +kernel
theorem dX4_pass_0 : decode cX4_pass 0 = .ok (.aload_n 2, 1) := by decide +kernel
theorem dX4_pass_1 : decode cX4_pass 1 = .ok (.invokevirtual 104, 3) := by decide +kernel
theorem dX4_pass_4 : decode cX4_pass 4 = .ok (.aload_n 0, 1) := by decide +kernel
theorem dX4_pass_5 : decode cX4_pass 5 = .ok (.invokevirtual 107, 3) := by decide +kernel
theorem dX4_pass_8 : decode cX4_pass 8 = .ok (.istore_n 3, 1) := by decide +kernel
theorem dX4_pass_9 : decode cX4_pass 9 = .ok (.aload_n 1, 1) := by decide +kernel
theorem dX4_pass_10 : decode cX4_pass 10 = .ok (.getfield 111, 3) := by decide +kernel
theorem dX4_pass_13 : decode cX4_pass 13 = .ok (.istore 4, 2) := by decide +kernel
theorem dX4_pass_15 : decode cX4_pass 15 = .ok (.iconst 0, 1) := by decide +kernel
theorem dX4_pass_16 : decode cX4_pass 16 = .ok (.istore 5, 2) := by decide +kernel
theorem dX4_pass_18 : decode cX4_pass 18 = .ok (.iload 5, 2) := by decide +kernel
theorem dX4_pass_20 : decode cX4_pass 20 = .ok (.iload 4, 2) := by decide +kernel
theorem dX4_pass_22 : decode cX4_pass 22 = .ok (.if_icmp .ge 58, 3) := by decide +kernel
theorem dX4_pass_25 : decode cX4_pass 25 = .ok (.iconst 0, 1) := by decide +kernel
theorem dX4_pass_26 : decode cX4_pass 26 = .ok (.istore 6, 2) := by decide +kernel
theorem dX4_pass_28 : decode cX4_pass 28 = .ok (.iload 6, 2) := by decide +kernel
theorem dX4_pass_30 : decode cX4_pass 30 = .ok (.iload_n 3, 1) := by decide +kernel
theorem dX4_pass_31 : decode cX4_pass 31 = .ok (.if_icmp .ge 43, 3) := by decide +kernel
theorem dX4_pass_34 : decode cX4_pass 34 = .ok (.aload_n 0, 1) := by decide +kernel
theorem dX4_pass_35 : decode cX4_pass 35 = .ok (.iload 6, 2) := by decide +kernel
theorem dX4_pass_37 : decode cX4_pass 37 = .ok (.ifCond .ne 12, 3) := by decide +kernel
theorem dX4_pass_40 : decode cX4_pass 40 = .ok (.aload_n 1, 1) := by decide +kernel
theorem dX4_pass_41 : decode cX4_pass 41 = .ok (.iload 5, 2) := by decide +kernel
theorem dX4_pass_43 : decode cX4_pass 43 = .ok (.invokevirtual 114, 3) := by decide +kernel
theorem dX4_pass_46 : decode cX4_pass 46 = .ok (.goto 4, 3) := by decide +kernel
theorem dX4_pass_49 : decode cX4_pass 49 = .ok (.iconst 0, 1) := by decide +kernel
theorem dX4_pass_50 : decode cX4_pass 50 = .ok (.invokevirtual 117, 3) := by decide +kernel
theorem dX4_pass_53 : decode cX4_pass 53 = .ok (.istore 7, 2) := by decide +kernel
theorem dX4_pass_55 : decode cX4_pass 55 = .ok (.aload_n 0, 1) := by decide +kernel
theorem dX4_pass_56 : decode cX4_pass 56 = .ok (.invokevirtual 120, 3) := by decide +kernel
theorem dX4_pass_59 : decode cX4_pass 59 = .ok (.ifCond .eq 9, 3) := by decide +kernel
theorem dX4_pass_62 : decode cX4_pass 62 = .ok (.aload_n 2, 1) := by decide +kernel
theorem dX4_pass_63 : decode cX4_pass 63 = .ok (.iload 7, 2) := by decide +kernel
theorem dX4_pass_65 : decode cX4_pass 65 = .ok (.invokevirtual 124, 3) := by decide +kernel
theorem dX4_pass_68 : decode cX4_pass 68 = .ok (.iinc 6 1, 3) := by decide +kernel
theorem dX4_pass_71 : decode cX4_pass 71 = .ok (.goto (-43), 3) := by decide +kernel
theorem dX4_pass_74 : decode cX4_pass 74 = .ok (.iinc 5 1, 3) := by decide +kernel
theorem dX4_pass_77 : decode cX4_pass 77 = .ok (.goto (-59), 3) := by decide +kernel
theorem dX4_pass_80 : decode cX4_pass 80 = .ok (.return_, 1) := by decide +kernel
theorem dX4_comesOut_0 : decode cX4_comesOut 0 = .ok (.aload_n 0, 1) := by decide +kernel
theorem dX4_comesOut_1 : decode cX4_comesOut 1 = .ok (.getfield 91, 3) := by decide +kernel
theorem dX4_comesOut_4 : decode cX4_comesOut 4 = .ok (.ifCond .le 15, 3) := by decide +kernel
theorem dX4_comesOut_7 : decode cX4_comesOut 7 = .ok (.aload_n 0, 1) := by decide +kernel
theorem dX4_comesOut_8 : decode cX4_comesOut 8 = .ok (.dup, 1) := by decide +kernel
theorem dX4_comesOut_9 : decode cX4_comesOut 9 = .ok (.getfield 91, 3) := by decide +kernel
theorem dX4_comesOut_12 : decode cX4_comesOut 12 = .ok (.iconst 1, 1) := by decide +kernel
theorem dX4_comesOut_13 : decode cX4_comesOut 13 = .ok (.isub, 1) := by decide +kernel
theorem dX4_comesOut_14 : decode cX4_comesOut 14 = .ok (.putfield 91, 3) := by decide +kernel
theorem dX4_comesOut_17 : decode cX4_comesOut 17 = .ok (.iconst 0, 1) := by decide +kernel
theorem dX4_comesOut_18 : decode cX4_comesOut 18 = .ok (.ireturn, 1) := by decide +kernel
theorem dX4_comesOut_19 : decode cX4_comesOut 19 = .ok (.aload_n 0, 1) := by decide +kernel
theorem dX4_comesOut_20 : decode cX4_comesOut 20 = .ok (.aload_n 0, 1) := by decide +kernel
theorem dX4_comesOut_21 : decode cX4_comesOut 21 = .ok (.getfield 15, 3) := by decide +kernel
theorem dX4_comesOut_24 : decode cX4_comesOut 24 = .ok (.iconst 1, 1) := by decide +kernel
theorem dX4_comesOut_25 : decode cX4_comesOut 25 = .ok (.if_icmp .le 12, 3) := by decide +kernel
theorem dX4_comesOut_28 : decode cX4_comesOut 28 = .ok (.aload_n 0, 1) := by decide +kernel
theorem dX4_comesOut_29 : decode cX4_comesOut 29 = .ok (.getfield 15, 3) := by decide +kernel
theorem dX4_comesOut_32 : decode cX4_comesOut 32 = .ok (.iconst 1, 1) := by decide +kernel
theorem dX4_comesOut_33 : decode cX4_comesOut 33 = .ok (.isub, 1) := by decide +kernel
theorem dX4_comesOut_34 : decode cX4_comesOut 34 = .ok (.goto 4, 3) := by decide +kernel
theorem dX4_comesOut_37 : decode cX4_comesOut 37 = .ok (.iconst 0, 1) := by decide +kernel
theorem dX4_comesOut_38 : decode cX4_comesOut 38 = .ok (.putfield 91, 3) := by decide +kernel
theorem dX4_comesOut_41 : decode cX4_comesOut 41 = .ok (.iconst 1, 1) := by decide +kernel
theorem dX4_comesOut_42 : decode cX4_comesOut 42 = .ok (.ireturn, 1) := by decide +kernel
theorem dX4_take_0 : decode cX4_take 0 = .ok (.aload_n 0, 1) := by decide +kernel
theorem dX4_take_1 : decode cX4_take 1 = .ok (.getfield 49, 3) := by decide +kernel
theorem dX4_take_4 : decode cX4_take 4 = .ok (.iload_n 1, 1) := by decide +kernel
theorem dX4_take_5 : decode cX4_take 5 = .ok (.invokevirtual 128, 3) := by decide +kernel
theorem dX4_take_8 : decode cX4_take 8 = .ok (.lconst 0, 1) := by decide +kernel
theorem dX4_take_9 : decode cX4_take 9 = .ok (.lstore_n 2, 1) := by decide +kernel
theorem dX4_take_10 : decode cX4_take 10 = .ok (.lconst 0, 1) := by decide +kernel
theorem dX4_take_11 : decode cX4_take 11 = .ok (.lstore 4, 2) := by decide +kernel
theorem dX4_take_13 : decode cX4_take 13 = .ok (.lconst 0, 1) := by decide +kernel
theorem dX4_take_14 : decode cX4_take 14 = .ok (.lstore 6, 2) := by decide +kernel
theorem dX4_take_16 : decode cX4_take 16 = .ok (.iconst 0, 1) := by decide +kernel
theorem dX4_take_17 : decode cX4_take 17 = .ok (.istore 8, 2) := by decide +kernel
theorem dX4_take_19 : decode cX4_take 19 = .ok (.iload 8, 2) := by decide +kernel
theorem dX4_take_21 : decode cX4_take 21 = .ok (.aload_n 0, 1) := by decide +kernel
theorem dX4_take_22 : decode cX4_take 22 = .ok (.getfield 22, 3) := by decide +kernel
theorem dX4_take_25 : decode cX4_take 25 = .ok (.if_icmp .ge 62, 3) := by decide +kernel
theorem dX4_take_28 : decode cX4_take 28 = .ok (.aload_n 0, 1) := by decide +kernel
theorem dX4_take_29 : decode cX4_take 29 = .ok (.getfield 49, 3) := by decide +kernel
theorem dX4_take_32 : decode cX4_take 32 = .ok (.iload 8, 2) := by decide +kernel
theorem dX4_take_34 : decode cX4_take 34 = .ok (.invokevirtual 131, 3) := by decide +kernel
theorem dX4_take_37 : decode cX4_take 37 = .ok (.i2l, 1) := by decide +kernel
theorem dX4_take_38 : decode cX4_take 38 = .ok (.lstore 9, 2) := by decide +kernel
theorem dX4_take_40 : decode cX4_take 40 = .ok (.lload_n 2, 1) := by decide +kernel
theorem dX4_take_41 : decode cX4_take 41 = .ok (.aload_n 0, 1) := by decide +kernel
theorem dX4_take_42 : decode cX4_take 42 = .ok (.getfield 35, 3) := by decide +kernel
theorem dX4_take_45 : decode cX4_take 45 = .ok (.iload 8, 2) := by decide +kernel
theorem dX4_take_47 : decode cX4_take 47 = .ok (.invokevirtual 134, 3) := by decide +kernel
theorem dX4_take_50 : decode cX4_take 50 = .ok (.i2l, 1) := by decide +kernel
theorem dX4_take_51 : decode cX4_take 51 = .ok (.lload 9, 2) := by decide +kernel
theorem dX4_take_53 : decode cX4_take 53 = .ok (.lmul, 1) := by decide +kernel
theorem dX4_take_54 : decode cX4_take 54 = .ok (.ladd, 1) := by decide +kernel
theorem dX4_take_55 : decode cX4_take 55 = .ok (.lstore_n 2, 1) := by decide +kernel
theorem dX4_take_56 : decode cX4_take 56 = .ok (.lload 4, 2) := by decide +kernel
theorem dX4_take_58 : decode cX4_take 58 = .ok (.aload_n 0, 1) := by decide +kernel
theorem dX4_take_59 : decode cX4_take 59 = .ok (.iload 8, 2) := by decide +kernel
theorem dX4_take_61 : decode cX4_take 61 = .ok (.invokevirtual 57, 3) := by decide +kernel
theorem dX4_take_64 : decode cX4_take 64 = .ok (.i2l, 1) := by decide +kernel
theorem dX4_take_65 : decode cX4_take 65 = .ok (.lload 9, 2) := by decide +kernel
theorem dX4_take_67 : decode cX4_take 67 = .ok (.lmul, 1) := by decide +kernel
theorem dX4_take_68 : decode cX4_take 68 = .ok (.ladd, 1) := by decide +kernel
theorem dX4_take_69 : decode cX4_take 69 = .ok (.lstore 4, 2) := by decide +kernel
theorem dX4_take_71 : decode cX4_take 71 = .ok (.lload 6, 2) := by decide +kernel
theorem dX4_take_73 : decode cX4_take 73 = .ok (.lload 9, 2) := by decide +kernel
theorem dX4_take_75 : decode cX4_take 75 = .ok (.invokestatic 65, 3) := by decide +kernel
theorem dX4_take_78 : decode cX4_take 78 = .ok (.ladd, 1) := by decide +kernel
theorem dX4_take_79 : decode cX4_take 79 = .ok (.lstore 6, 2) := by decide +kernel
theorem dX4_take_81 : decode cX4_take 81 = .ok (.iinc 8 1, 3) := by decide +kernel
theorem dX4_take_84 : decode cX4_take 84 = .ok (.goto (-65), 3) := by decide +kernel
theorem dX4_take_87 : decode cX4_take 87 = .ok (.lload_n 2, 1) := by decide +kernel
theorem dX4_take_88 : decode cX4_take 88 = .ok (.aload_n 0, 1) := by decide +kernel
theorem dX4_take_89 : decode cX4_take 89 = .ok (.getfield 35, 3) := by decide +kernel
theorem dX4_take_92 : decode cX4_take 92 = .ok (.getfield 137, 3) := by decide +kernel
theorem dX4_take_95 : decode cX4_take 95 = .ok (.aload_n 0, 1) := by decide +kernel
theorem dX4_take_96 : decode cX4_take 96 = .ok (.getfield 25, 3) := by decide +kernel
theorem dX4_take_99 : decode cX4_take 99 = .ok (.invokestatic 140, 3) := by decide +kernel
theorem dX4_take_102 : decode cX4_take 102 = .ok (.lstore 8, 2) := by decide +kernel
theorem dX4_take_104 : decode cX4_take 104 = .ok (.lload 8, 2) := by decide +kernel
theorem dX4_take_106 : decode cX4_take 106 = .ok (.aload_n 0, 1) := by decide +kernel
theorem dX4_take_107 : decode cX4_take 107 = .ok (.getfield 28, 3) := by decide +kernel
theorem dX4_take_110 : decode cX4_take 110 = .ok (.invokestatic 144, 3) := by decide +kernel
theorem dX4_take_113 : decode cX4_take 113 = .ok (.istore 10, 2) := by decide +kernel
theorem dX4_take_115 : decode cX4_take 115 = .ok (.aload_n 0, 1) := by decide +kernel
theorem dX4_take_116 : decode cX4_take 116 = .ok (.getfield 42, 3) := by decide +kernel
theorem dX4_take_119 : decode cX4_take 119 = .ok (.lload_n 2, 1) := by decide +kernel
theorem dX4_take_120 : decode cX4_take 120 = .ok (.lload 4, 2) := by decide +kernel
theorem dX4_take_122 : decode cX4_take 122 = .ok (.lload 6, 2) := by decide +kernel
theorem dX4_take_124 : decode cX4_take 124 = .ok (.invokevirtual 148, 3) := by decide +kernel
theorem dX4_take_127 : decode cX4_take 127 = .ok (.aload_n 0, 1) := by decide +kernel
theorem dX4_take_128 : decode cX4_take 128 = .ok (.getfield 42, 3) := by decide +kernel
theorem dX4_take_131 : decode cX4_take 131 = .ok (.lload 8, 2) := by decide +kernel
theorem dX4_take_133 : decode cX4_take 133 = .ok (.iload 10, 2) := by decide +kernel
theorem dX4_take_135 : decode cX4_take 135 = .ok (.aload_n 0, 1) := by decide +kernel
theorem dX4_take_136 : decode cX4_take 136 = .ok (.getfield 25, 3) := by decide +kernel
theorem dX4_take_139 : decode cX4_take 139 = .ok (.invokevirtual 152, 3) := by decide +kernel
theorem dX4_take_142 : decode cX4_take 142 = .ok (.aload_n 0, 1) := by decide +kernel
theorem dX4_take_143 : decode cX4_take 143 = .ok (.dup, 1) := by decide +kernel
theorem dX4_take_144 : decode cX4_take 144 = .ok (.getfield 94, 3) := by decide +kernel
theorem dX4_take_147 : decode cX4_take 147 = .ok (.lconst 1, 1) := by decide +kernel
theorem dX4_take_148 : decode cX4_take 148 = .ok (.ladd, 1) := by decide +kernel
theorem dX4_take_149 : decode cX4_take 149 = .ok (.putfield 94, 3) := by decide +kernel
theorem dX4_take_152 : decode cX4_take 152 = .ok (.iload 10, 2) := by decide +kernel
theorem dX4_take_154 : decode cX4_take 154 = .ok (.i2l, 1) := by decide +kernel
theorem dX4_take_155 : decode cX4_take 155 = .ok (.lload 8, 2) := by decide +kernel
theorem dX4_take_157 : decode cX4_take 157 = .ok (.lcmp, 1) := by decide +kernel
theorem dX4_take_158 : decode cX4_take 158 = .ok (.ifCond .eq 13, 3) := by decide +kernel
theorem dX4_take_161 : decode cX4_take 161 = .ok (.aload_n 0, 1) := by decide +kernel
theorem dX4_take_162 : decode cX4_take 162 = .ok (.dup, 1) := by decide +kernel
theorem dX4_take_163 : decode cX4_take 163 = .ok (.getfield 98, 3) := by decide +kernel
theorem dX4_take_166 : decode cX4_take 166 = .ok (.lconst 1, 1) := by decide +kernel
theorem dX4_take_167 : decode cX4_take 167 = .ok (.ladd, 1) := by decide +kernel
theorem dX4_take_168 : decode cX4_take 168 = .ok (.putfield 98, 3) := by decide +kernel
theorem dX4_take_171 : decode cX4_take 171 = .ok (.aload_n 0, 1) := by decide +kernel
theorem dX4_take_172 : decode cX4_take 172 = .ok (.aload_n 0, 1) := by decide +kernel
theorem dX4_take_173 : decode cX4_take 173 = .ok (.getfield 101, 3) := by decide +kernel
theorem dX4_take_176 : decode cX4_take 176 = .ok (.lload_n 2, 1) := by decide +kernel
theorem dX4_take_177 : decode cX4_take 177 = .ok (.invokestatic 65, 3) := by decide +kernel
theorem dX4_take_180 : decode cX4_take 180 = .ok (.invokestatic 156, 3) := by decide +kernel
theorem dX4_take_183 : decode cX4_take 183 = .ok (.putfield 101, 3) := by decide +kernel
theorem dX4_take_186 : decode cX4_take 186 = .ok (.iload 10, 2) := by decide +kernel
theorem dX4_take_188 : decode cX4_take 188 = .ok (.ireturn, 1) := by decide +kernel
theorem dX4_mixRows_0 : decode cX4_mixRows 0 = .ok (.iconst 0, 1) := by decide +kernel
theorem dX4_mixRows_1 : decode cX4_mixRows 1 = .ok (.istore_n 3, 1) := by decide +kernel
theorem dX4_mixRows_2 : decode cX4_mixRows 2 = .ok (.iload_n 3, 1) := by decide +kernel
theorem dX4_mixRows_3 : decode cX4_mixRows 3 = .ok (.aload_n 0, 1) := by decide +kernel
theorem dX4_mixRows_4 : decode cX4_mixRows 4 = .ok (.getfield 22, 3) := by decide +kernel
theorem dX4_mixRows_7 : decode cX4_mixRows 7 = .ok (.if_icmp .ge 22, 3) := by decide +kernel
theorem dX4_mixRows_10 : decode cX4_mixRows 10 = .ok (.ldc2_w 160, 3) := by decide +kernel
theorem dX4_mixRows_13 : decode cX4_mixRows 13 = .ok (.lload_n 1, 1) := by decide +kernel
theorem dX4_mixRows_14 : decode cX4_mixRows 14 = .ok (.lmul, 1) := by decide +kernel
theorem dX4_mixRows_15 : decode cX4_mixRows 15 = .ok (.aload_n 0, 1) := by decide +kernel
theorem dX4_mixRows_16 : decode cX4_mixRows 16 = .ok (.iload_n 3, 1) := by decide +kernel
theorem dX4_mixRows_17 : decode cX4_mixRows 17 = .ok (.invokevirtual 57, 3) := by decide +kernel
theorem dX4_mixRows_20 : decode cX4_mixRows 20 = .ok (.i2l, 1) := by decide +kernel
theorem dX4_mixRows_21 : decode cX4_mixRows 21 = .ok (.ladd, 1) := by decide +kernel
theorem dX4_mixRows_22 : decode cX4_mixRows 22 = .ok (.lstore_n 1, 1) := by decide +kernel
theorem dX4_mixRows_23 : decode cX4_mixRows 23 = .ok (.iinc 3 1, 3) := by decide +kernel
theorem dX4_mixRows_26 : decode cX4_mixRows 26 = .ok (.goto (-24), 3) := by decide +kernel
theorem dX4_mixRows_29 : decode cX4_mixRows 29 = .ok (.aload_n 0, 1) := by decide +kernel
theorem dX4_mixRows_30 : decode cX4_mixRows 30 = .ok (.getfield 35, 3) := by decide +kernel
theorem dX4_mixRows_33 : decode cX4_mixRows 33 = .ok (.getfield 87, 3) := by decide +kernel
theorem dX4_mixRows_36 : decode cX4_mixRows 36 = .ok (.ifCond .ne 5, 3) := by decide +kernel
theorem dX4_mixRows_39 : decode cX4_mixRows 39 = .ok (.lload_n 1, 1) := by decide +kernel
theorem dX4_mixRows_40 : decode cX4_mixRows 40 = .ok (.lreturn, 1) := by decide +kernel
theorem dX4_mixRows_41 : decode cX4_mixRows 41 = .ok (.iconst 0, 1) := by decide +kernel
theorem dX4_mixRows_42 : decode cX4_mixRows 42 = .ok (.istore_n 3, 1) := by decide +kernel
theorem dX4_mixRows_43 : decode cX4_mixRows 43 = .ok (.iload_n 3, 1) := by decide +kernel
theorem dX4_mixRows_44 : decode cX4_mixRows 44 = .ok (.aload_n 0, 1) := by decide +kernel
theorem dX4_mixRows_45 : decode cX4_mixRows 45 = .ok (.getfield 22, 3) := by decide +kernel
theorem dX4_mixRows_48 : decode cX4_mixRows 48 = .ok (.if_icmp .ge 25, 3) := by decide +kernel
theorem dX4_mixRows_51 : decode cX4_mixRows 51 = .ok (.ldc2_w 160, 3) := by decide +kernel
theorem dX4_mixRows_54 : decode cX4_mixRows 54 = .ok (.lload_n 1, 1) := by decide +kernel
theorem dX4_mixRows_55 : decode cX4_mixRows 55 = .ok (.lmul, 1) := by decide +kernel
theorem dX4_mixRows_56 : decode cX4_mixRows 56 = .ok (.aload_n 0, 1) := by decide +kernel
theorem dX4_mixRows_57 : decode cX4_mixRows 57 = .ok (.getfield 35, 3) := by decide +kernel
theorem dX4_mixRows_60 : decode cX4_mixRows 60 = .ok (.iload_n 3, 1) := by decide +kernel
theorem dX4_mixRows_61 : decode cX4_mixRows 61 = .ok (.invokevirtual 134, 3) := by decide +kernel
theorem dX4_mixRows_64 : decode cX4_mixRows 64 = .ok (.i2l, 1) := by decide +kernel
theorem dX4_mixRows_65 : decode cX4_mixRows 65 = .ok (.ladd, 1) := by decide +kernel
theorem dX4_mixRows_66 : decode cX4_mixRows 66 = .ok (.lstore_n 1, 1) := by decide +kernel
theorem dX4_mixRows_67 : decode cX4_mixRows 67 = .ok (.iinc 3 1, 3) := by decide +kernel
theorem dX4_mixRows_70 : decode cX4_mixRows 70 = .ok (.goto (-27), 3) := by decide +kernel
theorem dX4_mixRows_73 : decode cX4_mixRows 73 = .ok (.iconst 0, 1) := by decide +kernel
theorem dX4_mixRows_74 : decode cX4_mixRows 74 = .ok (.istore_n 3, 1) := by decide +kernel
theorem dX4_mixRows_75 : decode cX4_mixRows 75 = .ok (.iload_n 3, 1) := by decide +kernel
theorem dX4_mixRows_76 : decode cX4_mixRows 76 = .ok (.aload_n 0, 1) := by decide +kernel
theorem dX4_mixRows_77 : decode cX4_mixRows 77 = .ok (.getfield 22, 3) := by decide +kernel
theorem dX4_mixRows_80 : decode cX4_mixRows 80 = .ok (.if_icmp .ge 25, 3) := by decide +kernel
theorem dX4_mixRows_83 : decode cX4_mixRows 83 = .ok (.ldc2_w 160, 3) := by decide +kernel
theorem dX4_mixRows_86 : decode cX4_mixRows 86 = .ok (.lload_n 1, 1) := by decide +kernel
theorem dX4_mixRows_87 : decode cX4_mixRows 87 = .ok (.lmul, 1) := by decide +kernel
theorem dX4_mixRows_88 : decode cX4_mixRows 88 = .ok (.aload_n 0, 1) := by decide +kernel
theorem dX4_mixRows_89 : decode cX4_mixRows 89 = .ok (.getfield 49, 3) := by decide +kernel
theorem dX4_mixRows_92 : decode cX4_mixRows 92 = .ok (.iload_n 3, 1) := by decide +kernel
theorem dX4_mixRows_93 : decode cX4_mixRows 93 = .ok (.invokevirtual 131, 3) := by decide +kernel
theorem dX4_mixRows_96 : decode cX4_mixRows 96 = .ok (.i2l, 1) := by decide +kernel
theorem dX4_mixRows_97 : decode cX4_mixRows 97 = .ok (.ladd, 1) := by decide +kernel
theorem dX4_mixRows_98 : decode cX4_mixRows 98 = .ok (.lstore_n 1, 1) := by decide +kernel
theorem dX4_mixRows_99 : decode cX4_mixRows 99 = .ok (.iinc 3 1, 3) := by decide +kernel
theorem dX4_mixRows_102 : decode cX4_mixRows 102 = .ok (.goto (-27), 3) := by decide +kernel
theorem dX4_mixRows_105 : decode cX4_mixRows 105 = .ok (.lload_n 1, 1) := by decide +kernel
theorem dX4_mixRows_106 : decode cX4_mixRows 106 = .ok (.lreturn, 1) := by decide +kernel
theorem dX4_nearest_0 : decode cX4_nearest 0 = .ok (.iload_n 1, 1) := by decide +kernel
theorem dX4_nearest_1 : decode cX4_nearest 1 = .ok (.iconst 1, 1) := by decide +kernel
theorem dX4_nearest_2 : decode cX4_nearest 2 = .ok (.if_icmp .ge 5, 3) := by decide +kernel
theorem dX4_nearest_5 : decode cX4_nearest 5 = .ok (.lconst 0, 1) := by decide +kernel
theorem dX4_nearest_6 : decode cX4_nearest 6 = .ok (.lreturn, 1) := by decide +kernel
theorem dX4_nearest_7 : decode cX4_nearest 7 = .ok (.iload_n 0, 1) := by decide +kernel
theorem dX4_nearest_8 : decode cX4_nearest 8 = .ok (.i2l, 1) := by decide +kernel
theorem dX4_nearest_9 : decode cX4_nearest 9 = .ok (.lconst 1, 1) := by decide +kernel
theorem dX4_nearest_10 : decode cX4_nearest 10 = .ok (.iload_n 2, 1) := by decide +kernel
theorem dX4_nearest_11 : decode cX4_nearest 11 = .ok (.lshl, 1) := by decide +kernel
theorem dX4_nearest_12 : decode cX4_nearest 12 = .ok (.lmul, 1) := by decide +kernel
theorem dX4_nearest_13 : decode cX4_nearest 13 = .ok (.lstore_n 3, 1) := by decide +kernel
theorem dX4_nearest_14 : decode cX4_nearest 14 = .ok (.lload_n 3, 1) := by decide +kernel
theorem dX4_nearest_15 : decode cX4_nearest 15 = .ok (.iload_n 1, 1) := by decide +kernel
theorem dX4_nearest_16 : decode cX4_nearest 16 = .ok (.i2l, 1) := by decide +kernel
theorem dX4_nearest_17 : decode cX4_nearest 17 = .ok (.invokestatic 162, 3) := by decide +kernel
theorem dX4_nearest_20 : decode cX4_nearest 20 = .ok (.lstore 5, 2) := by decide +kernel
theorem dX4_nearest_22 : decode cX4_nearest 22 = .ok (.ldc2_w 165, 3) := by decide +kernel
theorem dX4_nearest_25 : decode cX4_nearest 25 = .ok (.lload_n 3, 1) := by decide +kernel
theorem dX4_nearest_26 : decode cX4_nearest 26 = .ok (.lload 5, 2) := by decide +kernel
theorem dX4_nearest_28 : decode cX4_nearest 28 = .ok (.iload_n 1, 1) := by decide +kernel
theorem dX4_nearest_29 : decode cX4_nearest 29 = .ok (.i2l, 1) := by decide +kernel
theorem dX4_nearest_30 : decode cX4_nearest 30 = .ok (.lmul, 1) := by decide +kernel
theorem dX4_nearest_31 : decode cX4_nearest 31 = .ok (.lsub, 1) := by decide +kernel
theorem dX4_nearest_32 : decode cX4_nearest 32 = .ok (.lmul, 1) := by decide +kernel
theorem dX4_nearest_33 : decode cX4_nearest 33 = .ok (.lstore 7, 2) := by decide +kernel
theorem dX4_nearest_35 : decode cX4_nearest 35 = .ok (.lload 7, 2) := by decide +kernel
theorem dX4_nearest_37 : decode cX4_nearest 37 = .ok (.iload_n 1, 1) := by decide +kernel
theorem dX4_nearest_38 : decode cX4_nearest 38 = .ok (.i2l, 1) := by decide +kernel
theorem dX4_nearest_39 : decode cX4_nearest 39 = .ok (.lcmp, 1) := by decide +kernel
theorem dX4_nearest_40 : decode cX4_nearest 40 = .ok (.ifCond .gt 19, 3) := by decide +kernel
theorem dX4_nearest_43 : decode cX4_nearest 43 = .ok (.lload 7, 2) := by decide +kernel
theorem dX4_nearest_45 : decode cX4_nearest 45 = .ok (.iload_n 1, 1) := by decide +kernel
theorem dX4_nearest_46 : decode cX4_nearest 46 = .ok (.i2l, 1) := by decide +kernel
theorem dX4_nearest_47 : decode cX4_nearest 47 = .ok (.lcmp, 1) := by decide +kernel
theorem dX4_nearest_48 : decode cX4_nearest 48 = .ok (.ifCond .ne 16, 3) := by decide +kernel
theorem dX4_nearest_51 : decode cX4_nearest 51 = .ok (.lload 5, 2) := by decide +kernel
theorem dX4_nearest_53 : decode cX4_nearest 53 = .ok (.invokestatic 167, 3) := by decide +kernel
theorem dX4_nearest_56 : decode cX4_nearest 56 = .ok (.ifCond .eq 8, 3) := by decide +kernel
theorem dX4_nearest_59 : decode cX4_nearest 59 = .ok (.lload 5, 2) := by decide +kernel
theorem dX4_nearest_61 : decode cX4_nearest 61 = .ok (.lconst 1, 1) := by decide +kernel
theorem dX4_nearest_62 : decode cX4_nearest 62 = .ok (.ladd, 1) := by decide +kernel
theorem dX4_nearest_63 : decode cX4_nearest 63 = .ok (.lreturn, 1) := by decide +kernel
theorem dX4_nearest_64 : decode cX4_nearest 64 = .ok (.lload 5, 2) := by decide +kernel
theorem dX4_nearest_66 : decode cX4_nearest 66 = .ok (.lreturn, 1) := by decide +kernel
theorem dX4_roundedSum_0 : decode cX4_roundedSum 0 = .ok (.lconst 1, 1) := by decide +kernel
theorem dX4_roundedSum_1 : decode cX4_roundedSum 1 = .ok (.iload_n 2, 1) := by decide +kernel
theorem dX4_roundedSum_2 : decode cX4_roundedSum 2 = .ok (.lshl, 1) := by decide +kernel
theorem dX4_roundedSum_3 : decode cX4_roundedSum 3 = .ok (.lstore 4, 2) := by decide +kernel
theorem dX4_roundedSum_5 : decode cX4_roundedSum 5 = .ok (.lload_n 0, 1) := by decide +kernel
theorem dX4_roundedSum_6 : decode cX4_roundedSum 6 = .ok (.iload_n 2, 1) := by decide +kernel
theorem dX4_roundedSum_7 : decode cX4_roundedSum 7 = .ok (.lshr, 1) := by decide +kernel
theorem dX4_roundedSum_8 : decode cX4_roundedSum 8 = .ok (.lstore 6, 2) := by decide +kernel
theorem dX4_roundedSum_10 : decode cX4_roundedSum 10 = .ok (.lload_n 0, 1) := by decide +kernel
theorem dX4_roundedSum_11 : decode cX4_roundedSum 11 = .ok (.lload 6, 2) := by decide +kernel
theorem dX4_roundedSum_13 : decode cX4_roundedSum 13 = .ok (.lload 4, 2) := by decide +kernel
theorem dX4_roundedSum_15 : decode cX4_roundedSum 15 = .ok (.lmul, 1) := by decide +kernel
theorem dX4_roundedSum_16 : decode cX4_roundedSum 16 = .ok (.lsub, 1) := by decide +kernel
theorem dX4_roundedSum_17 : decode cX4_roundedSum 17 = .ok (.lstore 8, 2) := by decide +kernel
theorem dX4_roundedSum_19 : decode cX4_roundedSum 19 = .ok (.iload_n 3, 1) := by decide +kernel
theorem dX4_roundedSum_20 : decode cX4_roundedSum 20 = .ok (.tableswitch 115 1 3 #[28, 51, 73], 28) := by decide +kernel
theorem dX4_roundedSum_48 : decode cX4_roundedSum 48 = .ok (.lload_n 0, 1) := by decide +kernel
theorem dX4_roundedSum_49 : decode cX4_roundedSum 49 = .ok (.lconst 0, 1) := by decide +kernel
theorem dX4_roundedSum_50 : decode cX4_roundedSum 50 = .ok (.lcmp, 1) := by decide +kernel
theorem dX4_roundedSum_51 : decode cX4_roundedSum 51 = .ok (.ifCond .ge 14, 3) := by decide +kernel
theorem dX4_roundedSum_54 : decode cX4_roundedSum 54 = .ok (.lload 8, 2) := by decide +kernel
theorem dX4_roundedSum_56 : decode cX4_roundedSum 56 = .ok (.lconst 0, 1) := by decide +kernel
theorem dX4_roundedSum_57 : decode cX4_roundedSum 57 = .ok (.lcmp, 1) := by decide +kernel
theorem dX4_roundedSum_58 : decode cX4_roundedSum 58 = .ok (.ifCond .le 7, 3) := by decide +kernel
theorem dX4_roundedSum_61 : decode cX4_roundedSum 61 = .ok (.iconst 1, 1) := by decide +kernel
theorem dX4_roundedSum_62 : decode cX4_roundedSum 62 = .ok (.goto 4, 3) := by decide +kernel
theorem dX4_roundedSum_65 : decode cX4_roundedSum 65 = .ok (.iconst 0, 1) := by decide +kernel
theorem dX4_roundedSum_66 : decode cX4_roundedSum 66 = .ok (.istore 10, 2) := by decide +kernel
theorem dX4_roundedSum_68 : decode cX4_roundedSum 68 = .ok (.goto 70, 3) := by decide +kernel
theorem dX4_roundedSum_71 : decode cX4_roundedSum 71 = .ok (.ldc2_w 165, 3) := by decide +kernel
theorem dX4_roundedSum_74 : decode cX4_roundedSum 74 = .ok (.lload 8, 2) := by decide +kernel
theorem dX4_roundedSum_76 : decode cX4_roundedSum 76 = .ok (.lmul, 1) := by decide +kernel
theorem dX4_roundedSum_77 : decode cX4_roundedSum 77 = .ok (.lload 4, 2) := by decide +kernel
theorem dX4_roundedSum_79 : decode cX4_roundedSum 79 = .ok (.lcmp, 1) := by decide +kernel
theorem dX4_roundedSum_80 : decode cX4_roundedSum 80 = .ok (.ifCond .lt 7, 3) := by decide +kernel
theorem dX4_roundedSum_83 : decode cX4_roundedSum 83 = .ok (.iconst 1, 1) := by decide +kernel
theorem dX4_roundedSum_84 : decode cX4_roundedSum 84 = .ok (.goto 4, 3) := by decide +kernel
theorem dX4_roundedSum_87 : decode cX4_roundedSum 87 = .ok (.iconst 0, 1) := by decide +kernel
theorem dX4_roundedSum_88 : decode cX4_roundedSum 88 = .ok (.istore 10, 2) := by decide +kernel
theorem dX4_roundedSum_90 : decode cX4_roundedSum 90 = .ok (.goto 48, 3) := by decide +kernel
theorem dX4_roundedSum_93 : decode cX4_roundedSum 93 = .ok (.ldc2_w 165, 3) := by decide +kernel
theorem dX4_roundedSum_96 : decode cX4_roundedSum 96 = .ok (.lload 8, 2) := by decide +kernel
theorem dX4_roundedSum_98 : decode cX4_roundedSum 98 = .ok (.lmul, 1) := by decide +kernel
theorem dX4_roundedSum_99 : decode cX4_roundedSum 99 = .ok (.lload 4, 2) := by decide +kernel
theorem dX4_roundedSum_101 : decode cX4_roundedSum 101 = .ok (.lcmp, 1) := by decide +kernel
theorem dX4_roundedSum_102 : decode cX4_roundedSum 102 = .ok (.ifCond .gt 23, 3) := by decide +kernel
theorem dX4_roundedSum_105 : decode cX4_roundedSum 105 = .ok (.ldc2_w 165, 3) := by decide +kernel
theorem dX4_roundedSum_108 : decode cX4_roundedSum 108 = .ok (.lload 8, 2) := by decide +kernel
theorem dX4_roundedSum_110 : decode cX4_roundedSum 110 = .ok (.lmul, 1) := by decide +kernel
theorem dX4_roundedSum_111 : decode cX4_roundedSum 111 = .ok (.lload 4, 2) := by decide +kernel
theorem dX4_roundedSum_113 : decode cX4_roundedSum 113 = .ok (.lcmp, 1) := by decide +kernel
theorem dX4_roundedSum_114 : decode cX4_roundedSum 114 = .ok (.ifCond .ne 15, 3) := by decide +kernel
theorem dX4_roundedSum_117 : decode cX4_roundedSum 117 = .ok (.lload 6, 2) := by decide +kernel
theorem dX4_roundedSum_119 : decode cX4_roundedSum 119 = .ok (.invokestatic 167, 3) := by decide +kernel
theorem dX4_roundedSum_122 : decode cX4_roundedSum 122 = .ok (.ifCond .eq 7, 3) := by decide +kernel
theorem dX4_roundedSum_125 : decode cX4_roundedSum 125 = .ok (.iconst 1, 1) := by decide +kernel
theorem dX4_roundedSum_126 : decode cX4_roundedSum 126 = .ok (.goto 4, 3) := by decide +kernel
theorem dX4_roundedSum_129 : decode cX4_roundedSum 129 = .ok (.iconst 0, 1) := by decide +kernel
theorem dX4_roundedSum_130 : decode cX4_roundedSum 130 = .ok (.istore 10, 2) := by decide +kernel
theorem dX4_roundedSum_132 : decode cX4_roundedSum 132 = .ok (.goto 6, 3) := by decide +kernel
theorem dX4_roundedSum_135 : decode cX4_roundedSum 135 = .ok (.iconst 0, 1) := by decide +kernel
theorem dX4_roundedSum_136 : decode cX4_roundedSum 136 = .ok (.istore 10, 2) := by decide +kernel
theorem dX4_roundedSum_138 : decode cX4_roundedSum 138 = .ok (.iload 10, 2) := by decide +kernel
theorem dX4_roundedSum_140 : decode cX4_roundedSum 140 = .ok (.ifCond .eq 10, 3) := by decide +kernel
theorem dX4_roundedSum_143 : decode cX4_roundedSum 143 = .ok (.lload 6, 2) := by decide +kernel
theorem dX4_roundedSum_145 : decode cX4_roundedSum 145 = .ok (.lconst 1, 1) := by decide +kernel
theorem dX4_roundedSum_146 : decode cX4_roundedSum 146 = .ok (.ladd, 1) := by decide +kernel
theorem dX4_roundedSum_147 : decode cX4_roundedSum 147 = .ok (.goto 5, 3) := by decide +kernel
theorem dX4_roundedSum_150 : decode cX4_roundedSum 150 = .ok (.lload 6, 2) := by decide +kernel
theorem dX4_roundedSum_152 : decode cX4_roundedSum 152 = .ok (.lreturn, 1) := by decide +kernel
theorem dX4_heldNumber_0 : decode cX4_heldNumber 0 = .ok (.iload_n 2, 1) := by decide +kernel
theorem dX4_heldNumber_1 : decode cX4_heldNumber 1 = .ok (.ifCond .eq 7, 3) := by decide +kernel
theorem dX4_heldNumber_4 : decode cX4_heldNumber 4 = .ok (.lload_n 0, 1) := by decide +kernel
theorem dX4_heldNumber_5 : decode cX4_heldNumber 5 = .ok (.l2i, 1) := by decide +kernel
theorem dX4_heldNumber_6 : decode cX4_heldNumber 6 = .ok (.i2s, 1) := by decide +kernel
theorem dX4_heldNumber_7 : decode cX4_heldNumber 7 = .ok (.ireturn, 1) := by decide +kernel
theorem dX4_heldNumber_8 : decode cX4_heldNumber 8 = .ok (.ldc2_w 171, 3) := by decide +kernel
theorem dX4_heldNumber_11 : decode cX4_heldNumber 11 = .ok (.ldc2_w 173, 3) := by decide +kernel
theorem dX4_heldNumber_14 : decode cX4_heldNumber 14 = .ok (.lload_n 0, 1) := by decide +kernel
theorem dX4_heldNumber_15 : decode cX4_heldNumber 15 = .ok (.invokestatic 175, 3) := by decide +kernel
theorem dX4_heldNumber_18 : decode cX4_heldNumber 18 = .ok (.invokestatic 156, 3) := by decide +kernel
theorem dX4_heldNumber_21 : decode cX4_heldNumber 21 = .ok (.l2i, 1) := by decide +kernel
theorem dX4_heldNumber_22 : decode cX4_heldNumber 22 = .ok (.ireturn, 1) := by decide +kernel
theorem dX4_isOdd_0 : decode cX4_isOdd 0 = .ok (.lload_n 0, 1) := by decide +kernel
theorem dX4_isOdd_1 : decode cX4_isOdd 1 = .ok (.lconst 1, 1) := by decide +kernel
theorem dX4_isOdd_2 : decode cX4_isOdd 2 = .ok (.land, 1) := by decide +kernel
theorem dX4_isOdd_3 : decode cX4_isOdd 3 = .ok (.lconst 0, 1) := by decide +kernel
theorem dX4_isOdd_4 : decode cX4_isOdd 4 = .ok (.lcmp, 1) := by decide +kernel
theorem dX4_isOdd_5 : decode cX4_isOdd 5 = .ok (.ifCond .eq 7, 3) := by decide +kernel
theorem dX4_isOdd_8 : decode cX4_isOdd 8 = .ok (.iconst 1, 1) := by decide +kernel
theorem dX4_isOdd_9 : decode cX4_isOdd 9 = .ok (.goto 4, 3) := by decide +kernel
theorem dX4_isOdd_12 : decode cX4_isOdd 12 = .ok (.iconst 0, 1) := by decide +kernel
theorem dX4_isOdd_13 : decode cX4_isOdd 13 = .ok (.ireturn, 1) := by decide +kernel
theorem dX5_init_0 : decode cX5_init 0 = .ok (.aload_n 0, 1) := by decide +kernel
theorem dX5_init_1 : decode cX5_init 1 = .ok (.invokespecial 3, 3) := by decide +kernel
theorem dX5_init_4 : decode cX5_init 4 = .ok (.aload_n 0, 1) := by decide +kernel
theorem dX5_init_5 : decode cX5_init 5 = .ok (.sipush 600, 3) := by decide +kernel
theorem dX5_init_8 : decode cX5_init 8 = .ok (.newarray .short, 2) := by decide +kernel
theorem dX5_init_10 : decode cX5_init 10 = .ok (.putfield 9, 3) := by decide +kernel
theorem dX5_init_13 : decode cX5_init 13 = .ok (.aload_n 0, 1) := by decide +kernel
theorem dX5_init_14 : decode cX5_init 14 = .ok (.iconst 0, 1) := by decide +kernel
theorem dX5_init_15 : decode cX5_init 15 = .ok (.putfield 15, 3) := by decide +kernel
theorem dX5_init_18 : decode cX5_init 18 = .ok (.aload_n 0, 1) := by decide +kernel
theorem dX5_init_19 : decode cX5_init 19 = .ok (.iconst 0, 1) := by decide +kernel
theorem dX5_init_20 : decode cX5_init 20 = .ok (.putfield 19, 3) := by decide +kernel
theorem dX5_init_23 : decode cX5_init 23 = .ok (.return_, 1) := by decide +kernel
theorem dX5_add_0 : decode cX5_add 0 = .ok (.aload_n 0, 1) := by decide +kernel
theorem dX5_add_1 : decode cX5_add 1 = .ok (.getfield 15, 3) := by decide +kernel
theorem dX5_add_4 : decode cX5_add 4 = .ok (.ifCond .lt 15, 3) := by decide +kernel
theorem dX5_add_7 : decode cX5_add 7 = .ok (.aload_n 0, 1) := by decide +kernel
theorem dX5_add_8 : decode cX5_add 8 = .ok (.getfield 15, 3) := by decide +kernel
theorem dX5_add_11 : decode cX5_add 11 = .ok (.aload_n 0, 1) := by decide +kernel
theorem dX5_add_12 : decode cX5_add 12 = .ok (.getfield 9, 3) := by decide +kernel
theorem dX5_add_15 : decode cX5_add 15 = .ok (.arraylength, 1) := by decide +kernel
theorem dX5_add_16 : decode cX5_add 16 = .ok (.if_icmp .lt 14, 3) := by decide +kernel
theorem dX5_add_19 : decode cX5_add 19 = .ok (.aload_n 0, 1) := by decide +kernel
theorem dX5_add_20 : decode cX5_add 20 = .ok (.dup, 1) := by decide +kernel
theorem dX5_add_21 : decode cX5_add 21 = .ok (.getfield 19, 3) := by decide +kernel
theorem dX5_add_24 : decode cX5_add 24 = .ok (.iconst 1, 1) := by decide +kernel
theorem dX5_add_25 : decode cX5_add 25 = .ok (.iadd, 1) := by decide +kernel
theorem dX5_add_26 : decode cX5_add 26 = .ok (.putfield 19, 3) := by decide +kernel
theorem dX5_add_29 : decode cX5_add 29 = .ok (.return_, 1) := by decide +kernel
theorem dX5_add_30 : decode cX5_add 30 = .ok (.aload_n 0, 1) := by decide +kernel
theorem dX5_add_31 : decode cX5_add 31 = .ok (.getfield 9, 3) := by decide +kernel
theorem dX5_add_34 : decode cX5_add 34 = .ok (.aload_n 0, 1) := by decide +kernel
theorem dX5_add_35 : decode cX5_add 35 = .ok (.getfield 15, 3) := by decide +kernel
theorem dX5_add_38 : decode cX5_add 38 = .ok (.iload_n 1, 1) := by decide +kernel
theorem dX5_add_39 : decode cX5_add 39 = .ok (.i2s, 1) := by decide +kernel
theorem dX5_add_40 : decode cX5_add 40 = .ok (.sastore, 1) := by decide +kernel
theorem dX5_add_41 : decode cX5_add 41 = .ok (.aload_n 0, 1) := by decide +kernel
theorem dX5_add_42 : decode cX5_add 42 = .ok (.dup, 1) := by decide +kernel
theorem dX5_add_43 : decode cX5_add 43 = .ok (.getfield 15, 3) := by decide +kernel
theorem dX5_add_46 : decode cX5_add 46 = .ok (.iconst 1, 1) := by decide +kernel
theorem dX5_add_47 : decode cX5_add 47 = .ok (.iadd, 1) := by decide +kernel
theorem dX5_add_48 : decode cX5_add 48 = .ok (.putfield 15, 3) := by decide +kernel
theorem dX5_add_51 : decode cX5_add 51 = .ok (.return_, 1) := by decide +kernel
theorem dX5_has_0 : decode cX5_has 0 = .ok (.iload_n 1, 1) := by decide +kernel
theorem dX5_has_1 : decode cX5_has 1 = .ok (.ifCond .lt 24, 3) := by decide +kernel
theorem dX5_has_4 : decode cX5_has 4 = .ok (.iload_n 1, 1) := by decide +kernel
theorem dX5_has_5 : decode cX5_has 5 = .ok (.aload_n 0, 1) := by decide +kernel
theorem dX5_has_6 : decode cX5_has 6 = .ok (.getfield 15, 3) := by decide +kernel
theorem dX5_has_9 : decode cX5_has 9 = .ok (.if_icmp .ge 16, 3) := by decide +kernel
theorem dX5_has_12 : decode cX5_has 12 = .ok (.iload_n 1, 1) := by decide +kernel
theorem dX5_has_13 : decode cX5_has 13 = .ok (.aload_n 0, 1) := by decide +kernel
theorem dX5_has_14 : decode cX5_has 14 = .ok (.getfield 9, 3) := by decide +kernel
theorem dX5_has_17 : decode cX5_has 17 = .ok (.arraylength, 1) := by decide +kernel
theorem dX5_has_18 : decode cX5_has 18 = .ok (.if_icmp .ge 7, 3) := by decide +kernel
theorem dX5_has_21 : decode cX5_has 21 = .ok (.iconst 1, 1) := by decide +kernel
theorem dX5_has_22 : decode cX5_has 22 = .ok (.goto 4, 3) := by decide +kernel
theorem dX5_has_25 : decode cX5_has 25 = .ok (.iconst 0, 1) := by decide +kernel
theorem dX5_has_26 : decode cX5_has 26 = .ok (.ireturn, 1) := by decide +kernel
theorem dX5_at_0 : decode cX5_at 0 = .ok (.aload_n 0, 1) := by decide +kernel
theorem dX5_at_1 : decode cX5_at 1 = .ok (.iload_n 1, 1) := by decide +kernel
theorem dX5_at_2 : decode cX5_at 2 = .ok (.invokevirtual 22, 3) := by decide +kernel
theorem dX5_at_5 : decode cX5_at 5 = .ok (.ifCond .eq 12, 3) := by decide +kernel
theorem dX5_at_8 : decode cX5_at 8 = .ok (.aload_n 0, 1) := by decide +kernel
theorem dX5_at_9 : decode cX5_at 9 = .ok (.getfield 9, 3) := by decide +kernel
theorem dX5_at_12 : decode cX5_at 12 = .ok (.iload_n 1, 1) := by decide +kernel
theorem dX5_at_13 : decode cX5_at 13 = .ok (.saload, 1) := by decide +kernel
theorem dX5_at_14 : decode cX5_at 14 = .ok (.goto 4, 3) := by decide +kernel
theorem dX5_at_17 : decode cX5_at 17 = .ok (.iconst 0, 1) := by decide +kernel
theorem dX5_at_18 : decode cX5_at 18 = .ok (.ireturn, 1) := by decide +kernel
theorem dX5_mixSamples_0 : decode cX5_mixSamples 0 = .ok (.iconst 0, 1) := by decide +kernel
theorem dX5_mixSamples_1 : decode cX5_mixSamples 1 = .ok (.istore_n 3, 1) := by decide +kernel
theorem dX5_mixSamples_2 : decode cX5_mixSamples 2 = .ok (.iload_n 3, 1) := by decide +kernel
theorem dX5_mixSamples_3 : decode cX5_mixSamples 3 = .ok (.aload_n 0, 1) := by decide +kernel
theorem dX5_mixSamples_4 : decode cX5_mixSamples 4 = .ok (.getfield 15, 3) := by decide +kernel
theorem dX5_mixSamples_7 : decode cX5_mixSamples 7 = .ok (.if_icmp .ge 22, 3) := by decide +kernel
theorem dX5_mixSamples_10 : decode cX5_mixSamples 10 = .ok (.ldc2_w 26, 3) := by decide +kernel
theorem dX5_mixSamples_13 : decode cX5_mixSamples 13 = .ok (.lload_n 1, 1) := by decide +kernel
theorem dX5_mixSamples_14 : decode cX5_mixSamples 14 = .ok (.lmul, 1) := by decide +kernel
theorem dX5_mixSamples_15 : decode cX5_mixSamples 15 = .ok (.aload_n 0, 1) := by decide +kernel
theorem dX5_mixSamples_16 : decode cX5_mixSamples 16 = .ok (.iload_n 3, 1) := by decide +kernel
theorem dX5_mixSamples_17 : decode cX5_mixSamples 17 = .ok (.invokevirtual 28, 3) := by decide +kernel
theorem dX5_mixSamples_20 : decode cX5_mixSamples 20 = .ok (.i2l, 1) := by decide +kernel
theorem dX5_mixSamples_21 : decode cX5_mixSamples 21 = .ok (.ladd, 1) := by decide +kernel
theorem dX5_mixSamples_22 : decode cX5_mixSamples 22 = .ok (.lstore_n 1, 1) := by decide +kernel
theorem dX5_mixSamples_23 : decode cX5_mixSamples 23 = .ok (.iinc 3 1, 3) := by decide +kernel
theorem dX5_mixSamples_26 : decode cX5_mixSamples 26 = .ok (.goto (-24), 3) := by decide +kernel
theorem dX5_mixSamples_29 : decode cX5_mixSamples 29 = .ok (.lload_n 1, 1) := by decide +kernel
theorem dX5_mixSamples_30 : decode cX5_mixSamples 30 = .ok (.lreturn, 1) := by decide +kernel
theorem dX6_init_0 : decode cX6_init 0 = .ok (.aload_n 0, 1) := by decide +kernel
theorem dX6_init_1 : decode cX6_init 1 = .ok (.invokespecial 1, 3) := by decide +kernel
theorem dX6_init_4 : decode cX6_init 4 = .ok (.aload_n 0, 1) := by decide +kernel
theorem dX6_init_5 : decode cX6_init 5 = .ok (.bipush 8, 2) := by decide +kernel
theorem dX6_init_7 : decode cX6_init 7 = .ok (.anewarray 9, 3) := by decide +kernel
theorem dX6_init_10 : decode cX6_init 10 = .ok (.putfield 11, 3) := by decide +kernel
theorem dX6_init_13 : decode cX6_init 13 = .ok (.aload_n 0, 1) := by decide +kernel
theorem dX6_init_14 : decode cX6_init 14 = .ok (.iconst 0, 1) := by decide +kernel
theorem dX6_init_15 : decode cX6_init 15 = .ok (.putfield 15, 3) := by decide +kernel
theorem dX6_init_18 : decode cX6_init 18 = .ok (.aload_n 0, 1) := by decide +kernel
theorem dX6_init_19 : decode cX6_init 19 = .ok (.bipush 8, 2) := by decide +kernel
theorem dX6_init_21 : decode cX6_init 21 = .ok (.newarray .int, 2) := by decide +kernel
theorem dX6_init_23 : decode cX6_init 23 = .ok (.putfield 19, 3) := by decide +kernel
theorem dX6_init_26 : decode cX6_init 26 = .ok (.aload_n 0, 1) := by decide +kernel
theorem dX6_init_27 : decode cX6_init 27 = .ok (.iconst 0, 1) := by decide +kernel
theorem dX6_init_28 : decode cX6_init 28 = .ok (.putfield 23, 3) := by decide +kernel
theorem dX6_init_31 : decode cX6_init 31 = .ok (.aload_n 0, 1) := by decide +kernel
theorem dX6_init_32 : decode cX6_init 32 = .ok (.new 26, 3) := by decide +kernel
theorem dX6_init_35 : decode cX6_init 35 = .ok (.dup, 1) := by decide +kernel
theorem dX6_init_36 : decode cX6_init 36 = .ok (.invokespecial 28, 3) := by decide +kernel
theorem dX6_init_39 : decode cX6_init 39 = .ok (.putfield 29, 3) := by decide +kernel
theorem dX6_init_42 : decode cX6_init 42 = .ok (.aload_n 0, 1) := by decide +kernel
theorem dX6_init_43 : decode cX6_init 43 = .ok (.new 33, 3) := by decide +kernel
theorem dX6_init_46 : decode cX6_init 46 = .ok (.dup, 1) := by decide +kernel
theorem dX6_init_47 : decode cX6_init 47 = .ok (.invokespecial 35, 3) := by decide +kernel
theorem dX6_init_50 : decode cX6_init 50 = .ok (.putfield 36, 3) := by decide +kernel
theorem dX6_init_53 : decode cX6_init 53 = .ok (.aload_n 0, 1) := by decide +kernel
theorem dX6_init_54 : decode cX6_init 54 = .ok (.new 33, 3) := by decide +kernel
theorem dX6_init_57 : decode cX6_init 57 = .ok (.dup, 1) := by decide +kernel
theorem dX6_init_58 : decode cX6_init 58 = .ok (.invokespecial 35, 3) := by decide +kernel
theorem dX6_init_61 : decode cX6_init 61 = .ok (.putfield 40, 3) := by decide +kernel
theorem dX6_init_64 : decode cX6_init 64 = .ok (.return_, 1) := by decide +kernel
theorem dX6_stage_0 : decode cX6_stage 0 = .ok (.iload_n 1, 1) := by decide +kernel
theorem dX6_stage_1 : decode cX6_stage 1 = .ok (.iconst 1, 1) := by decide +kernel
theorem dX6_stage_2 : decode cX6_stage 2 = .ok (.ldc 43, 2) := by decide +kernel
theorem dX6_stage_4 : decode cX6_stage 4 = .ok (.invokestatic 44, 3) := by decide +kernel
theorem dX6_stage_7 : decode cX6_stage 7 = .ok (.ifCond .eq 10, 3) := by decide +kernel
theorem dX6_stage_10 : decode cX6_stage 10 = .ok (.iload_n 2, 1) := by decide +kernel
theorem dX6_stage_11 : decode cX6_stage 11 = .ok (.invokestatic 48, 3) := by decide +kernel
theorem dX6_stage_14 : decode cX6_stage 14 = .ok (.ifCond .ne 6, 3) := by decide +kernel
theorem dX6_stage_17 : decode cX6_stage 17 = .ok (.bipush (-2), 2) := by decide +kernel
theorem dX6_stage_19 : decode cX6_stage 19 = .ok (.ireturn, 1) := by decide +kernel
theorem dX6_stage_20 : decode cX6_stage 20 = .ok (.aload_n 0, 1) := by decide +kernel
theorem dX6_stage_21 : decode cX6_stage 21 = .ok (.getfield 15, 3) := by decide +kernel
theorem dX6_stage_24 : decode cX6_stage 24 = .ok (.iconst 0, 1) := by decide +kernel
theorem dX6_stage_25 : decode cX6_stage 25 = .ok (.aload_n 0, 1) := by decide +kernel
theorem dX6_stage_26 : decode cX6_stage 26 = .ok (.getfield 11, 3) := by decide +kernel
theorem dX6_stage_29 : decode cX6_stage 29 = .ok (.arraylength, 1) := by decide +kernel
theorem dX6_stage_30 : decode cX6_stage 30 = .ok (.iconst 1, 1) := by decide +kernel
theorem dX6_stage_31 : decode cX6_stage 31 = .ok (.isub, 1) := by decide +kernel
theorem dX6_stage_32 : decode cX6_stage 32 = .ok (.invokestatic 44, 3) := by decide +kernel
theorem dX6_stage_35 : decode cX6_stage 35 = .ok (.ifCond .ne 6, 3) := by decide +kernel
theorem dX6_stage_38 : decode cX6_stage 38 = .ok (.bipush (-4), 2) := by decide +kernel
theorem dX6_stage_40 : decode cX6_stage 40 = .ok (.ireturn, 1) := by decide +kernel
theorem dX6_stage_41 : decode cX6_stage 41 = .ok (.aload_n 0, 1) := by decide +kernel
theorem dX6_stage_42 : decode cX6_stage 42 = .ok (.getfield 11, 3) := by decide +kernel
theorem dX6_stage_45 : decode cX6_stage 45 = .ok (.aload_n 0, 1) := by decide +kernel
theorem dX6_stage_46 : decode cX6_stage 46 = .ok (.getfield 15, 3) := by decide +kernel
theorem dX6_stage_49 : decode cX6_stage 49 = .ok (.new 9, 3) := by decide +kernel
theorem dX6_stage_52 : decode cX6_stage 52 = .ok (.dup, 1) := by decide +kernel
theorem dX6_stage_53 : decode cX6_stage 53 = .ok (.iload_n 1, 1) := by decide +kernel
theorem dX6_stage_54 : decode cX6_stage 54 = .ok (.iload_n 2, 1) := by decide +kernel
theorem dX6_stage_55 : decode cX6_stage 55 = .ok (.invokespecial 52, 3) := by decide +kernel
theorem dX6_stage_58 : decode cX6_stage 58 = .ok (.aastore, 1) := by decide +kernel
theorem dX6_stage_59 : decode cX6_stage 59 = .ok (.aload_n 0, 1) := by decide +kernel
theorem dX6_stage_60 : decode cX6_stage 60 = .ok (.dup, 1) := by decide +kernel
theorem dX6_stage_61 : decode cX6_stage 61 = .ok (.getfield 15, 3) := by decide +kernel
theorem dX6_stage_64 : decode cX6_stage 64 = .ok (.iconst 1, 1) := by decide +kernel
theorem dX6_stage_65 : decode cX6_stage 65 = .ok (.iadd, 1) := by decide +kernel
theorem dX6_stage_66 : decode cX6_stage 66 = .ok (.putfield 15, 3) := by decide +kernel
theorem dX6_stage_69 : decode cX6_stage 69 = .ok (.aload_n 0, 1) := by decide +kernel
theorem dX6_stage_70 : decode cX6_stage 70 = .ok (.getfield 15, 3) := by decide +kernel
theorem dX6_stage_73 : decode cX6_stage 73 = .ok (.iconst 1, 1) := by decide +kernel
theorem dX6_stage_74 : decode cX6_stage 74 = .ok (.isub, 1) := by decide +kernel
theorem dX6_stage_75 : decode cX6_stage 75 = .ok (.ireturn, 1) := by decide +kernel
theorem dX6_tap_0 : decode cX6_tap 0 = .ok (.aload_n 0, 1) := by decide +kernel
theorem dX6_tap_1 : decode cX6_tap 1 = .ok (.iload_n 1, 1) := by decide +kernel
theorem dX6_tap_2 : decode cX6_tap 2 = .ok (.invokevirtual 55, 3) := by decide +kernel
theorem dX6_tap_5 : decode cX6_tap 5 = .ok (.astore_n 3, 1) := by decide +kernel
theorem dX6_tap_6 : decode cX6_tap 6 = .ok (.aload_n 3, 1) := by decide +kernel
theorem dX6_tap_7 : decode cX6_tap 7 = .ok (.ifnull 14, 3) := by decide +kernel
theorem dX6_tap_10 : decode cX6_tap 10 = .ok (.iload_n 2, 1) := by decide +kernel
theorem dX6_tap_11 : decode cX6_tap 11 = .ok (.ldc 59, 2) := by decide +kernel
theorem dX6_tap_13 : decode cX6_tap 13 = .ok (.ldc 43, 2) := by decide +kernel
theorem dX6_tap_15 : decode cX6_tap 15 = .ok (.invokestatic 44, 3) := by decide +kernel
theorem dX6_tap_18 : decode cX6_tap 18 = .ok (.ifCond .ne 6, 3) := by decide +kernel
theorem dX6_tap_21 : decode cX6_tap 21 = .ok (.bipush (-2), 2) := by decide +kernel
theorem dX6_tap_23 : decode cX6_tap 23 = .ok (.ireturn, 1) := by decide +kernel
theorem dX6_tap_24 : decode cX6_tap 24 = .ok (.aload_n 3, 1) := by decide +kernel
theorem dX6_tap_25 : decode cX6_tap 25 = .ok (.iload_n 2, 1) := by decide +kernel
theorem dX6_tap_26 : decode cX6_tap 26 = .ok (.invokevirtual 60, 3) := by decide +kernel
