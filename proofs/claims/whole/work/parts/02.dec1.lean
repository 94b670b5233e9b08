theorem dX0_init_0 : decode cX0_init 0 = .ok (.aload_n 0, 1) := by decide +kernel
theorem dX0_init_1 : decode cX0_init 1 = .ok (.invokespecial 3, 3) := by decide +kernel
theorem dX0_init_4 : decode cX0_init 4 = .ok (.aload_n 0, 1) := by decide +kernel
theorem dX0_init_5 : decode cX0_init 5 = .ok (.iconst 0, 1) := by decide +kernel
theorem dX0_init_6 : decode cX0_init 6 = .ok (.putfield 9, 3) := by decide +kernel
theorem dX0_init_9 : decode cX0_init 9 = .ok (.return_, 1) := by decide +kernel
theorem dX0_keepSums_0 : decode cX0_keepSums 0 = .ok (.aload_n 0, 1) := by decide +kernel
theorem dX0_keepSums_1 : decode cX0_keepSums 1 = .ok (.lload_n 1, 1) := by decide +kernel
theorem dX0_keepSums_2 : decode cX0_keepSums 2 = .ok (.putfield 15, 3) := by decide +kernel
theorem dX0_keepSums_5 : decode cX0_keepSums 5 = .ok (.aload_n 0, 1) := by decide +kernel
theorem dX0_keepSums_6 : decode cX0_keepSums 6 = .ok (.lload_n 3, 1) := by decide +kernel
theorem dX0_keepSums_7 : decode cX0_keepSums 7 = .ok (.putfield 19, 3) := by decide +kernel
theorem dX0_keepSums_10 : decode cX0_keepSums 10 = .ok (.aload_n 0, 1) := by decide +kernel
theorem dX0_keepSums_11 : decode cX0_keepSums 11 = .ok (.lload 5, 2) := by decide +kernel
theorem dX0_keepSums_13 : decode cX0_keepSums 13 = .ok (.putfield 22, 3) := by decide +kernel
theorem dX0_keepSums_16 : decode cX0_keepSums 16 = .ok (.return_, 1) := by decide +kernel
theorem dX0_keepOutput_0 : decode cX0_keepOutput 0 = .ok (.aload_n 0, 1) := by decide +kernel
theorem dX0_keepOutput_1 : decode cX0_keepOutput 1 = .ok (.lload_n 1, 1) := by decide +kernel
theorem dX0_keepOutput_2 : decode cX0_keepOutput 2 = .ok (.putfield 25, 3) := by decide +kernel
theorem dX0_keepOutput_5 : decode cX0_keepOutput 5 = .ok (.aload_n 0, 1) := by decide +kernel
theorem dX0_keepOutput_6 : decode cX0_keepOutput 6 = .ok (.iload_n 3, 1) := by decide +kernel
theorem dX0_keepOutput_7 : decode cX0_keepOutput 7 = .ok (.putfield 28, 3) := by decide +kernel
theorem dX0_keepOutput_10 : decode cX0_keepOutput 10 = .ok (.aload_n 0, 1) := by decide +kernel
theorem dX0_keepOutput_11 : decode cX0_keepOutput 11 = .ok (.iload 4, 2) := by decide +kernel
theorem dX0_keepOutput_13 : decode cX0_keepOutput 13 = .ok (.putfield 32, 3) := by decide +kernel
theorem dX0_keepOutput_16 : decode cX0_keepOutput 16 = .ok (.aload_n 0, 1) := by decide +kernel
theorem dX0_keepOutput_17 : decode cX0_keepOutput 17 = .ok (.iconst 1, 1) := by decide +kernel
theorem dX0_keepOutput_18 : decode cX0_keepOutput 18 = .ok (.putfield 9, 3) := by decide +kernel
theorem dX0_keepOutput_21 : decode cX0_keepOutput 21 = .ok (.return_, 1) := by decide +kernel
theorem dX0_isWithinBound_0 : decode cX0_isWithinBound 0 = .ok (.aload_n 0, 1) := by decide +kernel
theorem dX0_isWithinBound_1 : decode cX0_isWithinBound 1 = .ok (.getfield 25, 3) := by decide +kernel
theorem dX0_isWithinBound_4 : decode cX0_isWithinBound 4 = .ok (.iload_n 1, 1) := by decide +kernel
theorem dX0_isWithinBound_5 : decode cX0_isWithinBound 5 = .ok (.i2l, 1) := by decide +kernel
theorem dX0_isWithinBound_6 : decode cX0_isWithinBound 6 = .ok (.lmul, 1) := by decide +kernel
theorem dX0_isWithinBound_7 : decode cX0_isWithinBound 7 = .ok (.aload_n 0, 1) := by decide +kernel
theorem dX0_isWithinBound_8 : decode cX0_isWithinBound 8 = .ok (.getfield 19, 3) := by decide +kernel
theorem dX0_isWithinBound_11 : decode cX0_isWithinBound 11 = .ok (.lsub, 1) := by decide +kernel
theorem dX0_isWithinBound_12 : decode cX0_isWithinBound 12 = .ok (.invokestatic 35, 3) := by decide +kernel
theorem dX0_isWithinBound_15 : decode cX0_isWithinBound 15 = .ok (.lstore_n 3, 1) := by decide +kernel
theorem dX0_isWithinBound_16 : decode cX0_isWithinBound 16 = .ok (.lconst 1, 1) := by decide +kernel
theorem dX0_isWithinBound_17 : decode cX0_isWithinBound 17 = .ok (.iload_n 2, 1) := by decide +kernel
theorem dX0_isWithinBound_18 : decode cX0_isWithinBound 18 = .ok (.lshl, 1) := by decide +kernel
theorem dX0_isWithinBound_19 : decode cX0_isWithinBound 19 = .ok (.lstore 5, 2) := by decide +kernel
theorem dX0_isWithinBound_21 : decode cX0_isWithinBound 21 = .ok (.aload_n 0, 1) := by decide +kernel
theorem dX0_isWithinBound_22 : decode cX0_isWithinBound 22 = .ok (.getfield 32, 3) := by decide +kernel
theorem dX0_isWithinBound_25 : decode cX0_isWithinBound 25 = .ok (.ifCond .eq 11, 3) := by decide +kernel
theorem dX0_isWithinBound_28 : decode cX0_isWithinBound 28 = .ok (.aload_n 0, 1) := by decide +kernel
theorem dX0_isWithinBound_29 : decode cX0_isWithinBound 29 = .ok (.getfield 32, 3) := by decide +kernel
theorem dX0_isWithinBound_32 : decode cX0_isWithinBound 32 = .ok (.iconst 1, 1) := by decide +kernel
theorem dX0_isWithinBound_33 : decode cX0_isWithinBound 33 = .ok (.if_icmp .ne 12, 3) := by decide +kernel
theorem dX0_isWithinBound_36 : decode cX0_isWithinBound 36 = .ok (.ldc2_w 41, 3) := by decide +kernel
theorem dX0_isWithinBound_39 : decode cX0_isWithinBound 39 = .ok (.lload 5, 2) := by decide +kernel
theorem dX0_isWithinBound_41 : decode cX0_isWithinBound 41 = .ok (.lmul, 1) := by decide +kernel
theorem dX0_isWithinBound_42 : decode cX0_isWithinBound 42 = .ok (.goto 5, 3) := by decide +kernel
theorem dX0_isWithinBound_45 : decode cX0_isWithinBound 45 = .ok (.lload 5, 2) := by decide +kernel
theorem dX0_isWithinBound_47 : decode cX0_isWithinBound 47 = .ok (.lstore 7, 2) := by decide +kernel
theorem dX0_isWithinBound_49 : decode cX0_isWithinBound 49 = .ok (.lload_n 3, 1) := by decide +kernel
theorem dX0_isWithinBound_50 : decode cX0_isWithinBound 50 = .ok (.ldc2_w 41, 3) := by decide +kernel
theorem dX0_isWithinBound_53 : decode cX0_isWithinBound 53 = .ok (.lload 5, 2) := by decide +kernel
theorem dX0_isWithinBound_55 : decode cX0_isWithinBound 55 = .ok (.lmul, 1) := by decide +kernel
theorem dX0_isWithinBound_56 : decode cX0_isWithinBound 56 = .ok (.lmul, 1) := by decide +kernel
theorem dX0_isWithinBound_57 : decode cX0_isWithinBound 57 = .ok (.aload_n 0, 1) := by decide +kernel
theorem dX0_isWithinBound_58 : decode cX0_isWithinBound 58 = .ok (.getfield 22, 3) := by decide +kernel
theorem dX0_isWithinBound_61 : decode cX0_isWithinBound 61 = .ok (.lload 7, 2) := by decide +kernel
theorem dX0_isWithinBound_63 : decode cX0_isWithinBound 63 = .ok (.ladd, 1) := by decide +kernel
theorem dX0_isWithinBound_64 : decode cX0_isWithinBound 64 = .ok (.iload_n 1, 1) := by decide +kernel
theorem dX0_isWithinBound_65 : decode cX0_isWithinBound 65 = .ok (.i2l, 1) := by decide +kernel
theorem dX0_isWithinBound_66 : decode cX0_isWithinBound 66 = .ok (.lmul, 1) := by decide +kernel
theorem dX0_isWithinBound_67 : decode cX0_isWithinBound 67 = .ok (.lcmp, 1) := by decide +kernel
theorem dX0_isWithinBound_68 : decode cX0_isWithinBound 68 = .ok (.ifCond .gt 7, 3) := by decide +kernel
theorem dX0_isWithinBound_71 : decode cX0_isWithinBound 71 = .ok (.iconst 1, 1) := by decide +kernel
theorem dX0_isWithinBound_72 : decode cX0_isWithinBound 72 = .ok (.goto 4, 3) := by decide +kernel
theorem dX0_isWithinBound_75 : decode cX0_isWithinBound 75 = .ok (.iconst 0, 1) := by decide +kernel
theorem dX0_isWithinBound_76 : decode cX0_isWithinBound 76 = .ok (.ireturn, 1) := by decide +kernel
theorem dX1_init_0 : decode cX1_init 0 = .ok (.aload_n 0, 1) := by decide +kernel
theorem dX1_init_1 : decode cX1_init 1 = .ok (.invokespecial 3, 3) := by decide +kernel
theorem dX1_init_4 : decode cX1_init 4 = .ok (.aload_n 0, 1) := by decide +kernel
theorem dX1_init_5 : decode cX1_init 5 = .ok (.iconst 0, 1) := by decide +kernel
theorem dX1_init_6 : decode cX1_init 6 = .ok (.putfield 9, 3) := by decide +kernel
theorem dX1_init_9 : decode cX1_init 9 = .ok (.aload_n 0, 1) := by decide +kernel
theorem dX1_init_10 : decode cX1_init 10 = .ok (.bipush 32, 2) := by decide +kernel
theorem dX1_init_12 : decode cX1_init 12 = .ok (.newarray .int, 2) := by decide +kernel
theorem dX1_init_14 : decode cX1_init 14 = .ok (.putfield 15, 3) := by decide +kernel
theorem dX1_init_17 : decode cX1_init 17 = .ok (.return_, 1) := by decide +kernel
theorem dX1_begin_0 : decode cX1_begin 0 = .ok (.aload_n 0, 1) := by decide +kernel
theorem dX1_begin_1 : decode cX1_begin 1 = .ok (.iload_n 1, 1) := by decide +kernel
theorem dX1_begin_2 : decode cX1_begin 2 = .ok (.putfield 19, 3) := by decide +kernel
theorem dX1_begin_5 : decode cX1_begin 5 = .ok (.aload_n 0, 1) := by decide +kernel
theorem dX1_begin_6 : decode cX1_begin 6 = .ok (.iload_n 2, 1) := by decide +kernel
theorem dX1_begin_7 : decode cX1_begin 7 = .ok (.putfield 23, 3) := by decide +kernel
theorem dX1_begin_10 : decode cX1_begin 10 = .ok (.aload_n 0, 1) := by decide +kernel
theorem dX1_begin_11 : decode cX1_begin 11 = .ok (.iload_n 3, 1) := by decide +kernel
theorem dX1_begin_12 : decode cX1_begin 12 = .ok (.putfield 26, 3) := by decide +kernel
theorem dX1_begin_15 : decode cX1_begin 15 = .ok (.aload_n 0, 1) := by decide +kernel
theorem dX1_begin_16 : decode cX1_begin 16 = .ok (.lconst 0, 1) := by decide +kernel
theorem dX1_begin_17 : decode cX1_begin 17 = .ok (.putfield 29, 3) := by decide +kernel
theorem dX1_begin_20 : decode cX1_begin 20 = .ok (.aload_n 0, 1) := by decide +kernel
theorem dX1_begin_21 : decode cX1_begin 21 = .ok (.iconst 1, 1) := by decide +kernel
theorem dX1_begin_22 : decode cX1_begin 22 = .ok (.putfield 9, 3) := by decide +kernel
theorem dX1_begin_25 : decode cX1_begin 25 = .ok (.return_, 1) := by decide +kernel
theorem dX1_setFactor_0 : decode cX1_setFactor 0 = .ok (.iload_n 1, 1) := by decide +kernel
theorem dX1_setFactor_1 : decode cX1_setFactor 1 = .ok (.ifCond .lt 33, 3) := by decide +kernel
theorem dX1_setFactor_4 : decode cX1_setFactor 4 = .ok (.iload_n 1, 1) := by decide +kernel
theorem dX1_setFactor_5 : decode cX1_setFactor 5 = .ok (.aload_n 0, 1) := by decide +kernel
theorem dX1_setFactor_6 : decode cX1_setFactor 6 = .ok (.getfield 15, 3) := by decide +kernel
theorem dX1_setFactor_9 : decode cX1_setFactor 9 = .ok (.arraylength, 1) := by decide +kernel
theorem dX1_setFactor_10 : decode cX1_setFactor 10 = .ok (.if_icmp .ge 24, 3) := by decide +kernel
theorem dX1_setFactor_13 : decode cX1_setFactor 13 = .ok (.aload_n 0, 1) := by decide +kernel
theorem dX1_setFactor_14 : decode cX1_setFactor 14 = .ok (.getfield 15, 3) := by decide +kernel
theorem dX1_setFactor_17 : decode cX1_setFactor 17 = .ok (.iload_n 1, 1) := by decide +kernel
theorem dX1_setFactor_18 : decode cX1_setFactor 18 = .ok (.iload_n 2, 1) := by decide +kernel
theorem dX1_setFactor_19 : decode cX1_setFactor 19 = .ok (.iastore, 1) := by decide +kernel
theorem dX1_setFactor_20 : decode cX1_setFactor 20 = .ok (.aload_n 0, 1) := by decide +kernel
theorem dX1_setFactor_21 : decode cX1_setFactor 21 = .ok (.dup, 1) := by decide +kernel
theorem dX1_setFactor_22 : decode cX1_setFactor 22 = .ok (.getfield 29, 3) := by decide +kernel
theorem dX1_setFactor_25 : decode cX1_setFactor 25 = .ok (.iload_n 2, 1) := by decide +kernel
theorem dX1_setFactor_26 : decode cX1_setFactor 26 = .ok (.invokestatic 33, 3) := by decide +kernel
theorem dX1_setFactor_29 : decode cX1_setFactor 29 = .ok (.i2l, 1) := by decide +kernel
theorem dX1_setFactor_30 : decode cX1_setFactor 30 = .ok (.ladd, 1) := by decide +kernel
theorem dX1_setFactor_31 : decode cX1_setFactor 31 = .ok (.putfield 29, 3) := by decide +kernel
theorem dX1_setFactor_34 : decode cX1_setFactor 34 = .ok (.return_, 1) := by decide +kernel
theorem dX1_factor_0 : decode cX1_factor 0 = .ok (.iload_n 1, 1) := by decide +kernel
theorem dX1_factor_1 : decode cX1_factor 1 = .ok (.ifCond .lt 21, 3) := by decide +kernel
theorem dX1_factor_4 : decode cX1_factor 4 = .ok (.iload_n 1, 1) := by decide +kernel
theorem dX1_factor_5 : decode cX1_factor 5 = .ok (.aload_n 0, 1) := by decide +kernel
theorem dX1_factor_6 : decode cX1_factor 6 = .ok (.getfield 15, 3) := by decide +kernel
theorem dX1_factor_9 : decode cX1_factor 9 = .ok (.arraylength, 1) := by decide +kernel
theorem dX1_factor_10 : decode cX1_factor 10 = .ok (.if_icmp .ge 12, 3) := by decide +kernel
theorem dX1_factor_13 : decode cX1_factor 13 = .ok (.aload_n 0, 1) := by decide +kernel
theorem dX1_factor_14 : decode cX1_factor 14 = .ok (.getfield 15, 3) := by decide +kernel
theorem dX1_factor_17 : decode cX1_factor 17 = .ok (.iload_n 1, 1) := by decide +kernel
theorem dX1_factor_18 : decode cX1_factor 18 = .ok (.iaload, 1) := by decide +kernel
theorem dX1_factor_19 : decode cX1_factor 19 = .ok (.goto 4, 3) := by decide +kernel
theorem dX1_factor_22 : decode cX1_factor 22 = .ok (.iconst 0, 1) := by decide +kernel
theorem dX1_factor_23 : decode cX1_factor 23 = .ok (.ireturn, 1) := by decide +kernel
theorem dX2_init_0 : decode cX2_init 0 = .ok (.aload_n 0, 1) := by decide +kernel
theorem dX2_init_1 : decode cX2_init 1 = .ok (.invokespecial 3, 3) := by decide +kernel
theorem dX2_init_4 : decode cX2_init 4 = .ok (.aload_n 0, 1) := by decide +kernel
theorem dX2_init_5 : decode cX2_init 5 = .ok (.bipush 32, 2) := by decide +kernel
theorem dX2_init_7 : decode cX2_init 7 = .ok (.newarray .short, 2) := by decide +kernel
theorem dX2_init_9 : decode cX2_init 9 = .ok (.putfield 9, 3) := by decide +kernel
theorem dX2_init_12 : decode cX2_init 12 = .ok (.aload_n 0, 1) := by decide +kernel
theorem dX2_init_13 : decode cX2_init 13 = .ok (.iconst 0, 1) := by decide +kernel
theorem dX2_init_14 : decode cX2_init 14 = .ok (.putfield 15, 3) := by decide +kernel
theorem dX2_init_17 : decode cX2_init 17 = .ok (.return_, 1) := by decide +kernel
theorem dX2_push_0 : decode cX2_push 0 = .ok (.aload_n 0, 1) := by decide +kernel
theorem dX2_push_1 : decode cX2_push 1 = .ok (.aload_n 0, 1) := by decide +kernel
theorem dX2_push_2 : decode cX2_push 2 = .ok (.getfield 15, 3) := by decide +kernel
theorem dX2_push_5 : decode cX2_push 5 = .ok (.iconst 1, 1) := by decide +kernel
theorem dX2_push_6 : decode cX2_push 6 = .ok (.isub, 1) := by decide +kernel
theorem dX2_push_7 : decode cX2_push 7 = .ok (.bipush 31, 2) := by decide +kernel
theorem dX2_push_9 : decode cX2_push 9 = .ok (.iand, 1) := by decide +kernel
theorem dX2_push_10 : decode cX2_push 10 = .ok (.putfield 15, 3) := by decide +kernel
theorem dX2_push_13 : decode cX2_push 13 = .ok (.aload_n 0, 1) := by decide +kernel
theorem dX2_push_14 : decode cX2_push 14 = .ok (.getfield 9, 3) := by decide +kernel
theorem dX2_push_17 : decode cX2_push 17 = .ok (.aload_n 0, 1) := by decide +kernel
theorem dX2_push_18 : decode cX2_push 18 = .ok (.getfield 15, 3) := by decide +kernel
theorem dX2_push_21 : decode cX2_push 21 = .ok (.iload_n 1, 1) := by decide +kernel
theorem dX2_push_22 : decode cX2_push 22 = .ok (.i2s, 1) := by decide +kernel
theorem dX2_push_23 : decode cX2_push 23 = .ok (.sastore, 1) := by decide +kernel
theorem dX2_push_24 : decode cX2_push 24 = .ok (.return_, 1) := by decide +kernel
theorem dX2_back_0 : decode cX2_back 0 = .ok (.aload_n 0, 1) := by decide +kernel
theorem dX2_back_1 : decode cX2_back 1 = .ok (.getfield 9, 3) := by decide +kernel
theorem dX2_back_4 : decode cX2_back 4 = .ok (.aload_n 0, 1) := by decide +kernel
theorem dX2_back_5 : decode cX2_back 5 = .ok (.getfield 15, 3) := by decide +kernel
theorem dX2_back_8 : decode cX2_back 8 = .ok (.iload_n 1, 1) := by decide +kernel
theorem dX2_back_9 : decode cX2_back 9 = .ok (.iadd, 1) := by decide +kernel
theorem dX2_back_10 : decode cX2_back 10 = .ok (.bipush 31, 2) := by decide +kernel
theorem dX2_back_12 : decode cX2_back 12 = .ok (.iand, 1) := by decide +kernel
theorem dX2_back_13 : decode cX2_back 13 = .ok (.saload, 1) := by decide +kernel
theorem dX2_back_14 : decode cX2_back 14 = .ok (.ireturn, 1) := by decide +kernel
theorem dX2_clear_0 : decode cX2_clear 0 = .ok (.iconst 0, 1) := by decide +kernel
theorem dX2_clear_1 : decode cX2_clear 1 = .ok (.istore_n 1, 1) := by decide +kernel
theorem dX2_clear_2 : decode cX2_clear 2 = .ok (.iload_n 1, 1) := by decide +kernel
theorem dX2_clear_3 : decode cX2_clear 3 = .ok (.aload_n 0, 1) := by decide +kernel
theorem dX2_clear_4 : decode cX2_clear 4 = .ok (.getfield 9, 3) := by decide +kernel
theorem dX2_clear_7 : decode cX2_clear 7 = .ok (.arraylength, 1) := by decide +kernel
theorem dX2_clear_8 : decode cX2_clear 8 = .ok (.if_icmp .ge 16, 3) := by decide +kernel
theorem dX2_clear_11 : decode cX2_clear 11 = .ok (.aload_n 0, 1) := by decide +kernel
theorem dX2_clear_12 : decode cX2_clear 12 = .ok (.getfield 9, 3) := by decide +kernel
theorem dX2_clear_15 : decode cX2_clear 15 = .ok (.iload_n 1, 1) := by decide +kernel
theorem dX2_clear_16 : decode cX2_clear 16 = .ok (.iconst 0, 1) := by decide +kernel
theorem dX2_clear_17 : decode cX2_clear 17 = .ok (.sastore, 1) := by decide +kernel
theorem dX2_clear_18 : decode cX2_clear 18 = .ok (.iinc 1 1, 3) := by decide +kernel
theorem dX2_clear_21 : decode cX2_clear 21 = .ok (.goto (-19), 3) := by decide +kernel
theorem dX2_clear_24 : decode cX2_clear 24 = .ok (.aload_n 0, 1) := by decide +kernel
theorem dX2_clear_25 : decode cX2_clear 25 = .ok (.iconst 0, 1) := by decide +kernel
theorem dX2_clear_26 : decode cX2_clear 26 = .ok (.putfield 15, 3) := by decide +kernel
theorem dX2_clear_29 : decode cX2_clear 29 = .ok (.return_, 1) := by decide +kernel
theorem dX3_init_0 : decode cX3_init 0 = .ok (.aload_n 0, 1) := by decide +kernel
theorem dX3_init_1 : decode cX3_init 1 = .ok (.invokespecial 3, 3) := by decide +kernel
theorem dX3_init_4 : decode cX3_init 4 = .ok (.aload_n 0, 1) := by decide +kernel
theorem dX3_init_5 : decode cX3_init 5 = .ok (.iload_n 1, 1) := by decide +kernel
theorem dX3_init_6 : decode cX3_init 6 = .ok (.putfield 9, 3) := by decide +kernel
theorem dX3_init_9 : decode cX3_init 9 = .ok (.aload_n 0, 1) := by decide +kernel
theorem dX3_init_10 : decode cX3_init 10 = .ok (.iload_n 2, 1) := by decide +kernel
theorem dX3_init_11 : decode cX3_init 11 = .ok (.putfield 15, 3) := by decide +kernel
theorem dX3_init_14 : decode cX3_init 14 = .ok (.aload_n 0, 1) := by decide +kernel
theorem dX3_init_15 : decode cX3_init 15 = .ok (.bipush 32, 2) := by decide +kernel
theorem dX3_init_17 : decode cX3_init 17 = .ok (.newarray .int, 2) := by decide +kernel
theorem dX3_init_19 : decode cX3_init 19 = .ok (.putfield 18, 3) := by decide +kernel
theorem dX3_init_22 : decode cX3_init 22 = .ok (.aload_n 0, 1) := by decide +kernel
theorem dX3_init_23 : decode cX3_init 23 = .ok (.iconst 0, 1) := by decide +kernel
theorem dX3_init_24 : decode cX3_init 24 = .ok (.putfield 22, 3) := by decide +kernel
theorem dX3_init_27 : decode cX3_init 27 = .ok (.aload_n 0, 1) := by decide +kernel
theorem dX3_init_28 : decode cX3_init 28 = .ok (.iconst 0, 1) := by decide +kernel
theorem dX3_init_29 : decode cX3_init 29 = .ok (.putfield 25, 3) := by decide +kernel
theorem dX3_init_32 : decode cX3_init 32 = .ok (.aload_n 0, 1) := by decide +kernel
theorem dX3_init_33 : decode cX3_init 33 = .ok (.iconst 0, 1) := by decide +kernel
theorem dX3_init_34 : decode cX3_init 34 = .ok (.putfield 28, 3) := by decide +kernel
theorem dX3_init_37 : decode cX3_init 37 = .ok (.aload_n 0, 1) := by decide +kernel
theorem dX3_init_38 : decode cX3_init 38 = .ok (.new 32, 3) := by decide +kernel
theorem dX3_init_41 : decode cX3_init 41 = .ok (.dup, 1) := by decide +kernel
theorem dX3_init_42 : decode cX3_init 42 = .ok (.invokespecial 34, 3) := by decide +kernel
theorem dX3_init_45 : decode cX3_init 45 = .ok (.putfield 35, 3) := by decide +kernel
theorem dX3_init_48 : decode cX3_init 48 = .ok (.aload_n 0, 1) := by decide +kernel
theorem dX3_init_49 : decode cX3_init 49 = .ok (.new 39, 3) := by decide +kernel
theorem dX3_init_52 : decode cX3_init 52 = .ok (.dup, 1) := by decide +kernel
theorem dX3_init_53 : decode cX3_init 53 = .ok (.invokespecial 41, 3) := by decide +kernel
theorem dX3_init_56 : decode cX3_init 56 = .ok (.putfield 42, 3) := by decide +kernel
theorem dX3_init_59 : decode cX3_init 59 = .ok (.aload_n 0, 1) := by decide +kernel
theorem dX3_init_60 : decode cX3_init 60 = .ok (.new 46, 3) := by decide +kernel
theorem dX3_init_63 : decode cX3_init 63 = .ok (.dup, 1) := by decide +kernel
theorem dX3_init_64 : decode cX3_init 64 = .ok (.invokespecial 48, 3) := by decide +kernel
theorem dX3_init_67 : decode cX3_init 67 = .ok (.putfield 49, 3) := by decide +kernel
theorem dX3_init_70 : decode cX3_init 70 = .ok (.return_, 1) := by decide +kernel
theorem dX3_hasTap_0 : decode cX3_hasTap 0 = .ok (.iload_n 1, 1) := by decide +kernel
theorem dX3_hasTap_1 : decode cX3_hasTap 1 = .ok (.ifCond .lt 24, 3) := by decide +kernel
theorem dX3_hasTap_4 : decode cX3_hasTap 4 = .ok (.iload_n 1, 1) := by decide +kernel
theorem dX3_hasTap_5 : decode cX3_hasTap 5 = .ok (.aload_n 0, 1) := by decide +kernel
theorem dX3_hasTap_6 : decode cX3_hasTap 6 = .ok (.getfield 22, 3) := by decide +kernel
theorem dX3_hasTap_9 : decode cX3_hasTap 9 = .ok (.if_icmp .ge 16, 3) := by decide +kernel
theorem dX3_hasTap_12 : decode cX3_hasTap 12 = .ok (.iload_n 1, 1) := by decide +kernel
theorem dX3_hasTap_13 : decode cX3_hasTap 13 = .ok (.aload_n 0, 1) := by decide +kernel
theorem dX3_hasTap_14 : decode cX3_hasTap 14 = .ok (.getfield 18, 3) := by decide +kernel
theorem dX3_hasTap_17 : decode cX3_hasTap 17 = .ok (.arraylength, 1) := by decide +kernel
theorem dX3_hasTap_18 : decode cX3_hasTap 18 = .ok (.if_icmp .ge 7, 3) := by decide +kernel
theorem dX3_hasTap_21 : decode cX3_hasTap 21 = .ok (.iconst 1, 1) := by decide +kernel
theorem dX3_hasTap_22 : decode cX3_hasTap 22 = .ok (.goto 4, 3) := by decide +kernel
theorem dX3_hasTap_25 : decode cX3_hasTap 25 = .ok (.iconst 0, 1) := by decide +kernel
theorem dX3_hasTap_26 : decode cX3_hasTap 26 = .ok (.ireturn, 1) := by decide +kernel
theorem dX3_tapAt_0 : decode cX3_tapAt 0 = .ok (.aload_n 0, 1) := by decide +kernel
theorem dX3_tapAt_1 : decode cX3_tapAt 1 = .ok (.iload_n 1, 1) := by decide +kernel
theorem dX3_tapAt_2 : decode cX3_tapAt 2 = .ok (.invokevirtual 53, 3) := by decide +kernel
theorem dX3_tapAt_5 : decode cX3_tapAt 5 = .ok (.ifCond .eq 12, 3) := by decide +kernel
theorem dX3_tapAt_8 : decode cX3_tapAt 8 = .ok (.aload_n 0, 1) := by decide +kernel
theorem dX3_tapAt_9 : decode cX3_tapAt 9 = .ok (.getfield 18, 3) := by decide +kernel
theorem dX3_tapAt_12 : decode cX3_tapAt 12 = .ok (.iload_n 1, 1) := by decide +kernel
theorem dX3_tapAt_13 : decode cX3_tapAt 13 = .ok (.iaload, 1) := by decide +kernel
theorem dX3_tapAt_14 : decode cX3_tapAt 14 = .ok (.goto 4, 3) := by decide +kernel
theorem dX3_tapAt_17 : decode cX3_tapAt 17 = .ok (.iconst 0, 1) := by decide +kernel
theorem dX3_tapAt_18 : decode cX3_tapAt 18 = .ok (.ireturn, 1) := by decide +kernel
theorem dX3_setTap_0 : decode cX3_setTap 0 = .ok (.aload_n 0, 1) := by decide +kernel
theorem dX3_setTap_1 : decode cX3_setTap 1 = .ok (.iload_n 1, 1) := by decide +kernel
theorem dX3_setTap_2 : decode cX3_setTap 2 = .ok (.invokevirtual 53, 3) := by decide +kernel
theorem dX3_setTap_5 : decode cX3_setTap 5 = .ok (.ifCond .eq 10, 3) := by decide +kernel
theorem dX3_setTap_8 : decode cX3_setTap 8 = .ok (.aload_n 0, 1) := by decide +kernel
theorem dX3_setTap_9 : decode cX3_setTap 9 = .ok (.getfield 18, 3) := by decide +kernel
theorem dX3_setTap_12 : decode cX3_setTap 12 = .ok (.iload_n 1, 1) := by decide +kernel
theorem dX3_setTap_13 : decode cX3_setTap 13 = .ok (.iload_n 2, 1) := by decide +kernel
theorem dX3_setTap_14 : decode cX3_setTap 14 = .ok (.iastore, 1) := by decide +kernel
theorem dX3_setTap_15 : decode cX3_setTap 15 = .ok (.return_, 1) := by decide +kernel
theorem dX3_addTap_0 : decode cX3_addTap 0 = .ok (.aload_n 0, 1) := by decide +kernel
theorem dX3_addTap_1 : decode cX3_addTap 1 = .ok (.getfield 22, 3) := by decide +kernel
theorem dX3_addTap_4 : decode cX3_addTap 4 = .ok (.ifCond .lt 15, 3) := by decide +kernel
theorem dX3_addTap_7 : decode cX3_addTap 7 = .ok (.aload_n 0, 1) := by decide +kernel
theorem dX3_addTap_8 : decode cX3_addTap 8 = .ok (.getfield 22, 3) := by decide +kernel
theorem dX3_addTap_11 : decode cX3_addTap 11 = .ok (.aload_n 0, 1) := by decide +kernel
theorem dX3_addTap_12 : decode cX3_addTap 12 = .ok (.getfield 18, 3) := by decide +kernel
theorem dX3_addTap_15 : decode cX3_addTap 15 = .ok (.arraylength, 1) := by decide +kernel
theorem dX3_addTap_16 : decode cX3_addTap 16 = .ok (.if_icmp .lt 5, 3) := by decide +kernel
theorem dX3_addTap_19 : decode cX3_addTap 19 = .ok (.iconst 0, 1) := by decide +kernel
theorem dX3_addTap_20 : decode cX3_addTap 20 = .ok (.ireturn, 1) := by decide +kernel
theorem dX3_addTap_21 : decode cX3_addTap 21 = .ok (.aload_n 0, 1) := by decide +kernel
theorem dX3_addTap_22 : decode cX3_addTap 22 = .ok (.getfield 18, 3) := by decide +kernel
theorem dX3_addTap_25 : decode cX3_addTap 25 = .ok (.aload_n 0, 1) := by decide +kernel
theorem dX3_addTap_26 : decode cX3_addTap 26 = .ok (.getfield 22, 3) := by decide +kernel
theorem dX3_addTap_29 : decode cX3_addTap 29 = .ok (.iload_n 1, 1) := by decide +kernel
theorem dX3_addTap_30 : decode cX3_addTap 30 = .ok (.iastore, 1) := by decide +kernel
theorem dX3_addTap_31 : decode cX3_addTap 31 = .ok (.aload_n 0, 1) := by decide +kernel
theorem dX3_addTap_32 : decode cX3_addTap 32 = .ok (.dup, 1) := by decide +kernel
theorem dX3_addTap_33 : decode cX3_addTap 33 = .ok (.getfield 22, 3) := by decide +kernel
theorem dX3_addTap_36 : decode cX3_addTap 36 = .ok (.iconst 1, 1) := by decide +kernel
theorem dX3_addTap_37 : decode cX3_addTap 37 = .ok (.iadd, 1) := by decide +kernel
theorem dX3_addTap_38 : decode cX3_addTap 38 = .ok (.putfield 22, 3) := by decide +kernel
theorem dX3_addTap_41 : decode cX3_addTap 41 = .ok (.iconst 1, 1) := by decide +kernel
theorem dX3_addTap_42 : decode cX3_addTap 42 = .ok (.ireturn, 1) := by decide +kernel
theorem dX3_filling_0 : decode cX3_filling 0 = .ok (.aload_n 0, 1) := by decide +kernel
theorem dX3_filling_1 : decode cX3_filling 1 = .ok (.getfield 15, 3) := by decide +kernel
theorem dX3_filling_4 : decode cX3_filling 4 = .ok (.ifCond .ge 11, 3) := by decide +kernel
theorem dX3_filling_7 : decode cX3_filling 7 = .ok (.aload_n 0, 1) := by decide +kernel
theorem dX3_filling_8 : decode cX3_filling 8 = .ok (.getfield 15, 3) := by decide +kernel
theorem dX3_filling_11 : decode cX3_filling 11 = .ok (.ineg, 1) := by decide +kernel
theorem dX3_filling_12 : decode cX3_filling 12 = .ok (.goto 4, 3) := by decide +kernel
theorem dX3_filling_15 : decode cX3_filling 15 = .ok (.iconst 1, 1) := by decide +kernel
theorem dX3_filling_16 : decode cX3_filling 16 = .ok (.ireturn, 1) := by decide +kernel
theorem dX3_symmetry_0 : decode cX3_symmetry 0 = .ok (.iconst 1, 1) := by decide +kernel
theorem dX3_symmetry_1 : decode cX3_symmetry 1 = .ok (.istore_n 1, 1) := by decide +kernel
theorem dX3_symmetry_2 : decode cX3_symmetry 2 = .ok (.iconst 1, 1) := by decide +kernel
theorem dX3_symmetry_3 : decode cX3_symmetry 3 = .ok (.istore_n 2, 1) := by decide +kernel
theorem dX3_symmetry_4 : decode cX3_symmetry 4 = .ok (.iconst 0, 1) := by decide +kernel
theorem dX3_symmetry_5 : decode cX3_symmetry 5 = .ok (.istore_n 3, 1) := by decide +kernel
theorem dX3_symmetry_6 : decode cX3_symmetry 6 = .ok (.iload_n 3, 1) := by decide +kernel
theorem dX3_symmetry_7 : decode cX3_symmetry 7 = .ok (.aload_n 0, 1) := by decide +kernel
theorem dX3_symmetry_8 : decode cX3_symmetry 8 = .ok (.getfield 22, 3) := by decide +kernel
theorem dX3_symmetry_11 : decode cX3_symmetry 11 = .ok (.if_icmp .ge 65, 3) := by decide +kernel
theorem dX3_symmetry_14 : decode cX3_symmetry 14 = .ok (.aload_n 0, 1) := by decide +kernel
theorem dX3_symmetry_15 : decode cX3_symmetry 15 = .ok (.iload_n 3, 1) := by decide +kernel
theorem dX3_symmetry_16 : decode cX3_symmetry 16 = .ok (.invokevirtual 57, 3) := by decide +kernel
theorem dX3_symmetry_19 : decode cX3_symmetry 19 = .ok (.istore 4, 2) := by decide +kernel
theorem dX3_symmetry_21 : decode cX3_symmetry 21 = .ok (.aload_n 0, 1) := by decide +kernel
theorem dX3_symmetry_22 : decode cX3_symmetry 22 = .ok (.aload_n 0, 1) := by decide +kernel
theorem dX3_symmetry_23 : decode cX3_symmetry 23 = .ok (.getfield 22, 3) := by decide +kernel
theorem dX3_symmetry_26 : decode cX3_symmetry 26 = .ok (.iconst 1, 1) := by decide +kernel
theorem dX3_symmetry_27 : decode cX3_symmetry 27 = .ok (.isub, 1) := by decide +kernel
theorem dX3_symmetry_28 : decode cX3_symmetry 28 = .ok (.iload_n 3, 1) := by decide +kernel
theorem dX3_symmetry_29 : decode cX3_symmetry 29 = .ok (.isub, 1) := by decide +kernel
theorem dX3_symmetry_30 : decode cX3_symmetry 30 = .ok (.invokevirtual 57, 3) := by decide +kernel
theorem dX3_symmetry_33 : decode cX3_symmetry 33 = .ok (.istore 5, 2) := by decide +kernel
theorem dX3_symmetry_35 : decode cX3_symmetry 35 = .ok (.iload_n 1, 1) := by decide +kernel
theorem dX3_symmetry_36 : decode cX3_symmetry 36 = .ok (.ifCond .eq 14, 3) := by decide +kernel
theorem dX3_symmetry_39 : decode cX3_symmetry 39 = .ok (.iload 4, 2) := by decide +kernel
theorem dX3_symmetry_41 : decode cX3_symmetry 41 = .ok (.iload 5, 2) := by decide +kernel
theorem dX3_symmetry_43 : decode cX3_symmetry 43 = .ok (.if_icmp .ne 7, 3) := by decide +kernel
theorem dX3_symmetry_46 : decode cX3_symmetry 46 = .ok (.iconst 1, 1) := by decide +kernel
theorem dX3_symmetry_47 : decode cX3_symmetry 47 = .ok (.goto 4, 3) := by decide +kernel
theorem dX3_symmetry_50 : decode cX3_symmetry 50 = .ok (.iconst 0, 1) := by decide +kernel
theorem dX3_symmetry_51 : decode cX3_symmetry 51 = .ok (.istore_n 1, 1) := by decide +kernel
theorem dX3_symmetry_52 : decode cX3_symmetry 52 = .ok (.iload_n 2, 1) := by decide +kernel
theorem dX3_symmetry_53 : decode cX3_symmetry 53 = .ok (.ifCond .eq 15, 3) := by decide +kernel
theorem dX3_symmetry_56 : decode cX3_symmetry 56 = .ok (.iload 4, 2) := by decide +kernel
theorem dX3_symmetry_58 : decode cX3_symmetry 58 = .ok (.iload 5, 2) := by decide +kernel
theorem dX3_symmetry_60 : decode cX3_symmetry 60 = .ok (.ineg, 1) := by decide +kernel
theorem dX3_symmetry_61 : decode cX3_symmetry 61 = .ok (.if_icmp .ne 7, 3) := by decide +kernel
theorem dX3_symmetry_64 : decode cX3_symmetry 64 = .ok (.iconst 1, 1) := by decide +kernel
theorem dX3_symmetry_65 : decode cX3_symmetry 65 = .ok (.goto 4, 3) := by decide +kernel
theorem dX3_symmetry_68 : decode cX3_symmetry 68 = .ok (.iconst 0, 1) := by decide +kernel
theorem dX3_symmetry_69 : decode cX3_symmetry 69 = .ok (.istore_n 2, 1) := by decide +kernel
theorem dX3_symmetry_70 : decode cX3_symmetry 70 = .ok (.iinc 3 1, 3) := by decide +kernel
theorem dX3_symmetry_73 : decode cX3_symmetry 73 = .ok (.goto (-67), 3) := by decide +kernel
theorem dX3_symmetry_76 : decode cX3_symmetry 76 = .ok (.iload_n 1, 1) := by decide +kernel
theorem dX3_symmetry_77 : decode cX3_symmetry 77 = .ok (.ifCond .eq 7, 3) := by decide +kernel
theorem dX3_symmetry_80 : decode cX3_symmetry 80 = .ok (.iconst 1, 1) := by decide +kernel
theorem dX3_symmetry_81 : decode cX3_symmetry 81 = .ok (.goto 4, 3) := by decide +kernel
theorem dX3_symmetry_84 : decode cX3_symmetry 84 = .ok (.iconst 0, 1) := by decide +kernel
theorem dX3_symmetry_85 : decode cX3_symmetry 85 = .ok (.iload_n 2, 1) := by decide +kernel
theorem dX3_symmetry_86 : decode cX3_symmetry 86 = .ok (.ifCond .eq 7, 3) := by decide +kernel
theorem dX3_symmetry_89 : decode cX3_symmetry 89 = .ok (.iconst 2, 1) := by decide +kernel
theorem dX3_symmetry_90 : decode cX3_symmetry 90 = .ok (.goto 4, 3) := by decide +kernel
theorem dX3_symmetry_93 : decode cX3_symmetry 93 = .ok (.iconst 0, 1) := by decide +kernel
theorem dX3_symmetry_94 : decode cX3_symmetry 94 = .ok (.iadd, 1) := by decide +kernel
theorem dX3_symmetry_95 : decode cX3_symmetry 95 = .ok (.ireturn, 1) := by decide +kernel
theorem dX3_isSafe_0 : decode cX3_isSafe 0 = .ok (.lconst 1, 1) := by decide +kernel
theorem dX3_isSafe_1 : decode cX3_isSafe 1 = .ok (.iload_n 1, 1) := by decide +kernel
theorem dX3_isSafe_2 : decode cX3_isSafe 2 = .ok (.iconst 1, 1) := by decide +kernel
theorem dX3_isSafe_3 : decode cX3_isSafe 3 = .ok (.isub, 1) := by decide +kernel
theorem dX3_isSafe_4 : decode cX3_isSafe 4 = .ok (.lshl, 1) := by decide +kernel
theorem dX3_isSafe_5 : decode cX3_isSafe 5 = .ok (.lconst 1, 1) := by decide +kernel
theorem dX3_isSafe_6 : decode cX3_isSafe 6 = .ok (.lsub, 1) := by decide +kernel
theorem dX3_isSafe_7 : decode cX3_isSafe 7 = .ok (.lstore 4, 2) := by decide +kernel
theorem dX3_isSafe_9 : decode cX3_isSafe 9 = .ok (.lconst 1, 1) := by decide +kernel
theorem dX3_isSafe_10 : decode cX3_isSafe 10 = .ok (.iload_n 2, 1) := by decide +kernel
theorem dX3_isSafe_11 : decode cX3_isSafe 11 = .ok (.iconst 1, 1) := by decide +kernel
theorem dX3_isSafe_12 : decode cX3_isSafe 12 = .ok (.isub, 1) := by decide +kernel
theorem dX3_isSafe_13 : decode cX3_isSafe 13 = .ok (.lshl, 1) := by decide +kernel
theorem dX3_isSafe_14 : decode cX3_isSafe 14 = .ok (.lconst 1, 1) := by decide +kernel
theorem dX3_isSafe_15 : decode cX3_isSafe 15 = .ok (.lsub, 1) := by decide +kernel
theorem dX3_isSafe_16 : decode cX3_isSafe 16 = .ok (.lstore 6, 2) := by decide +kernel
theorem dX3_isSafe_18 : decode cX3_isSafe 18 = .ok (.lconst 0, 1) := by decide +kernel
theorem dX3_isSafe_19 : decode cX3_isSafe 19 = .ok (.lstore 8, 2) := by decide +kernel
theorem dX3_isSafe_21 : decode cX3_isSafe 21 = .ok (.iconst 0, 1) := by decide +kernel
theorem dX3_isSafe_22 : decode cX3_isSafe 22 = .ok (.istore 10, 2) := by decide +kernel
theorem dX3_isSafe_24 : decode cX3_isSafe 24 = .ok (.iload 10, 2) := by decide +kernel
theorem dX3_isSafe_26 : decode cX3_isSafe 26 = .ok (.aload_n 0, 1) := by decide +kernel
theorem dX3_isSafe_27 : decode cX3_isSafe 27 = .ok (.getfield 22, 3) := by decide +kernel
theorem dX3_isSafe_30 : decode cX3_isSafe 30 = .ok (.if_icmp .ge 45, 3) := by decide +kernel
theorem dX3_isSafe_33 : decode cX3_isSafe 33 = .ok (.aload_n 0, 1) := by decide +kernel
theorem dX3_isSafe_34 : decode cX3_isSafe 34 = .ok (.iload 10, 2) := by decide +kernel
theorem dX3_isSafe_36 : decode cX3_isSafe 36 = .ok (.invokevirtual 57, 3) := by decide +kernel
theorem dX3_isSafe_39 : decode cX3_isSafe 39 = .ok (.aload_n 0, 1) := by decide +kernel
theorem dX3_isSafe_40 : decode cX3_isSafe 40 = .ok (.getfield 9, 3) := by decide +kernel
theorem dX3_isSafe_43 : decode cX3_isSafe 43 = .ok (.iload_n 3, 1) := by decide +kernel
theorem dX3_isSafe_44 : decode cX3_isSafe 44 = .ok (.invokestatic 61, 3) := by decide +kernel
theorem dX3_isSafe_47 : decode cX3_isSafe 47 = .ok (.invokestatic 65, 3) := by decide +kernel
theorem dX3_isSafe_50 : decode cX3_isSafe 50 = .ok (.lstore 11, 2) := by decide +kernel
theorem dX3_isSafe_52 : decode cX3_isSafe 52 = .ok (.lload 11, 2) := by decide +kernel
theorem dX3_isSafe_54 : decode cX3_isSafe 54 = .ok (.lload 4, 2) := by decide +kernel
theorem dX3_isSafe_56 : decode cX3_isSafe 56 = .ok (.lcmp, 1) := by decide +kernel
theorem dX3_isSafe_57 : decode cX3_isSafe 57 = .ok (.ifCond .le 5, 3) := by decide +kernel
theorem dX3_isSafe_60 : decode cX3_isSafe 60 = .ok (.iconst 0, 1) := by decide +kernel
theorem dX3_isSafe_61 : decode cX3_isSafe 61 = .ok (.ireturn, 1) := by decide +kernel
theorem dX3_isSafe_62 : decode cX3_isSafe 62 = .ok (.lload 8, 2) := by decide +kernel
theorem dX3_isSafe_64 : decode cX3_isSafe 64 = .ok (.lload 11, 2) := by decide +kernel
theorem dX3_isSafe_66 : decode cX3_isSafe 66 = .ok (.ladd, 1) := by decide +kernel
theorem dX3_isSafe_67 : decode cX3_isSafe 67 = .ok (.lstore 8, 2) := by decide +kernel
theorem dX3_isSafe_69 : decode cX3_isSafe 69 = .ok (.iinc 10 1, 3) := by decide +kernel
theorem dX3_isSafe_72 : decode cX3_isSafe 72 = .ok (.goto (-48), 3) := by decide +kernel
theorem dX3_isSafe_75 : decode cX3_isSafe 75 = .ok (.aload_n 0, 1) := by decide +kernel
theorem dX3_isSafe_76 : decode cX3_isSafe 76 = .ok (.getfield 22, 3) := by decide +kernel
theorem dX3_isSafe_79 : decode cX3_isSafe 79 = .ok (.ifCond .le 19, 3) := by decide +kernel
theorem dX3_isSafe_82 : decode cX3_isSafe 82 = .ok (.lload 8, 2) := by decide +kernel
theorem dX3_isSafe_84 : decode cX3_isSafe 84 = .ok (.ldc2_w 71, 3) := by decide +kernel
theorem dX3_isSafe_87 : decode cX3_isSafe 87 = .ok (.lmul, 1) := by decide +kernel
theorem dX3_isSafe_88 : decode cX3_isSafe 88 = .ok (.lload 6, 2) := by decide +kernel
theorem dX3_isSafe_90 : decode cX3_isSafe 90 = .ok (.lcmp, 1) := by decide +kernel
theorem dX3_isSafe_91 : decode cX3_isSafe 91 = .ok (.ifCond .gt 7, 3) := by decide +kernel
theorem dX3_isSafe_94 : decode cX3_isSafe 94 = .ok (.iconst 1, 1) := by decide +kernel
theorem dX3_isSafe_95 : decode cX3_isSafe 95 = .ok (.goto 4, 3) := by decide +kernel
theorem dX3_isSafe_98 : decode cX3_isSafe 98 = .ok (.iconst 0, 1) := by decide +kernel
theorem dX3_isSafe_99 : decode cX3_isSafe 99 = .ok (.ireturn, 1) := by decide +kernel
theorem dX3_setPlan_0 : decode cX3_setPlan 0 = .ok (.aload_n 0, 1) := by decide +kernel
theorem dX3_setPlan_1 : decode cX3_setPlan 1 = .ok (.getfield 35, 3) := by decide +kernel
theorem dX3_setPlan_4 : decode cX3_setPlan 4 = .ok (.iload_n 1, 1) := by decide +kernel
theorem dX3_setPlan_5 : decode cX3_setPlan 5 = .ok (.iload_n 2, 1) := by decide +kernel
theorem dX3_setPlan_6 : decode cX3_setPlan 6 = .ok (.iload_n 3, 1) := by decide +kernel
theorem dX3_setPlan_7 : decode cX3_setPlan 7 = .ok (.invokevirtual 73, 3) := by decide +kernel
theorem dX3_setPlan_10 : decode cX3_setPlan 10 = .ok (.iconst 0, 1) := by decide +kernel
theorem dX3_setPlan_11 : decode cX3_setPlan 11 = .ok (.istore 4, 2) := by decide +kernel
theorem dX3_setPlan_13 : decode cX3_setPlan 13 = .ok (.iload 4, 2) := by decide +kernel
theorem dX3_setPlan_15 : decode cX3_setPlan 15 = .ok (.aload_n 0, 1) := by decide +kernel
theorem dX3_setPlan_16 : decode cX3_setPlan 16 = .ok (.getfield 22, 3) := by decide +kernel
theorem dX3_setPlan_19 : decode cX3_setPlan 19 = .ok (.if_icmp .ge 33, 3) := by decide +kernel
theorem dX3_setPlan_22 : decode cX3_setPlan 22 = .ok (.aload_n 0, 1) := by decide +kernel
theorem dX3_setPlan_23 : decode cX3_setPlan 23 = .ok (.getfield 35, 3) := by decide +kernel
theorem dX3_setPlan_26 : decode cX3_setPlan 26 = .ok (.iload 4, 2) := by decide +kernel
theorem dX3_setPlan_28 : decode cX3_setPlan 28 = .ok (.aload_n 0, 1) := by decide +kernel
theorem dX3_setPlan_29 : decode cX3_setPlan 29 = .ok (.iload 4, 2) := by decide +kernel
theorem dX3_setPlan_31 : decode cX3_setPlan 31 = .ok (.invokevirtual 57, 3) := by decide +kernel
theorem dX3_setPlan_34 : decode cX3_setPlan 34 = .ok (.aload_n 0, 1) := by decide +kernel
theorem dX3_setPlan_35 : decode cX3_setPlan 35 = .ok (.getfield 9, 3) := by decide +kernel
theorem dX3_setPlan_38 : decode cX3_setPlan 38 = .ok (.iload_n 3, 1) := by decide +kernel
theorem dX3_setPlan_39 : decode cX3_setPlan 39 = .ok (.invokestatic 61, 3) := by decide +kernel
theorem dX3_setPlan_42 : decode cX3_setPlan 42 = .ok (.l2i, 1) := by decide +kernel
theorem dX3_setPlan_43 : decode cX3_setPlan 43 = .ok (.invokevirtual 77, 3) := by decide +kernel
theorem dX3_setPlan_46 : decode cX3_setPlan 46 = .ok (.iinc 4 1, 3) := by decide +kernel
theorem dX3_setPlan_49 : decode cX3_setPlan 49 = .ok (.goto (-36), 3) := by decide +kernel
theorem dX3_setPlan_52 : decode cX3_setPlan 52 = .ok (.aload_n 0, 1) := by decide +kernel
theorem dX3_setPlan_53 : decode cX3_setPlan 53 = .ok (.getfield 42, 3) := by decide +kernel
theorem dX3_setPlan_56 : decode cX3_setPlan 56 = .ok (.iconst 0, 1) := by decide +kernel
theorem dX3_setPlan_57 : decode cX3_setPlan 57 = .ok (.putfield 81, 3) := by decide +kernel
theorem dX3_setPlan_60 : decode cX3_setPlan 60 = .ok (.aload_n 0, 1) := by decide +kernel
theorem dX3_setPlan_61 : decode cX3_setPlan 61 = .ok (.invokevirtual 84, 3) := by decide +kernel
theorem dX3_setPlan_64 : decode cX3_setPlan 64 = .ok (.return_, 1) := by decide +kernel
theorem dX3_dropPlan_0 : decode cX3_dropPlan 0 = .ok (.aload_n 0, 1) := by decide +kernel
theorem dX3_dropPlan_1 : decode cX3_dropPlan 1 = .ok (.getfield 35, 3) := by decide +kernel
theorem dX3_dropPlan_4 : decode cX3_dropPlan 4 = .ok (.iconst 0, 1) := by decide +kernel
theorem dX3_dropPlan_5 : decode cX3_dropPlan 5 = .ok (.putfield 87, 3) := by decide +kernel
theorem dX3_dropPlan_8 : decode cX3_dropPlan 8 = .ok (.aload_n 0, 1) := by decide +kernel
theorem dX3_dropPlan_9 : decode cX3_dropPlan 9 = .ok (.getfield 42, 3) := by decide +kernel
theorem dX3_dropPlan_12 : decode cX3_dropPlan 12 = .ok (.iconst 0, 1) := by decide +kernel
theorem dX3_dropPlan_13 : decode cX3_dropPlan 13 = .ok (.putfield 81, 3) := by decide +kernel
theorem dX3_dropPlan_16 : decode cX3_dropPlan 16 = .ok (.return_, 1) := by decide +kernel
theorem dX3_forget_0 : decode cX3_forget 0 = .ok (.aload_n 0, 1) := by decide +kernel
theorem dX3_forget_1 : decode cX3_forget 1 = .ok (.getfield 49, 3) := by decide +kernel
theorem dX3_forget_4 : decode cX3_forget 4 = .ok (.invokevirtual 88, 3) := by decide +kernel
theorem dX3_forget_7 : decode cX3_forget 7 = .ok (.aload_n 0, 1) := by decide +kernel
theorem dX3_forget_8 : decode cX3_forget 8 = .ok (.iconst 0, 1) := by decide +kernel
theorem dX3_forget_9 : decode cX3_forget 9 = .ok (.putfield 91, 3) := by decide +kernel
theorem dX3_forget_12 : decode cX3_forget 12 = .ok (.aload_n 0, 1) := by decide +kernel
theorem dX3_forget_13 : decode cX3_forget 13 = .ok (.lconst 0, 1) := by decide +kernel
theorem dX3_forget_14 : decode cX3_forget 14 = .ok (.putfield 94, 3) := by decide +kernel
theorem dX3_forget_17 : decode cX3_forget 17 = .ok (.aload_n 0, 1) := by decide +kernel
theorem dX3_forget_18 : decode cX3_forget 18 = .ok (.lconst 0, 1) := by decide +kernel
theorem dX3_forget_19 : decode cX3_forget 19 = .ok (.putfield 98, 3) := by decide +kernel
theorem dX3_forget_22 : decode cX3_forget 22 = .ok (.aload_n 0, 1) := by decide +kernel
theorem dX3_forget_23 : decode cX3_forget 23 = .ok (.lconst 0, 1) := by decide +kernel
theorem dX3_forget_24 : decode cX3_forget 24 = .ok (.putfield 101, 3) := by decide +kernel
theorem dX3_forget_27 : decode cX3_forget 27 = .ok (.return_, 1) := by decide +kernel
theorem dX3_pass_0 : decode cX3_pass 0 = .ok (.iconst 0, 1) := by decide +kernel
theorem dX3_pass_1 : decode cX3_pass 1 = .ok (.istore 4, 2) := by decide +kernel
theorem dX3_pass_3 : decode cX3_pass 3 = .ok (.aload_n 0, 1) := by decide +kernel
theorem dX3_pass_4 : decode cX3_pass 4 = .ok (.invokevirtual 104, 3) := by decide +kernel
theorem dX3_pass_7 : decode cX3_pass 7 = .ok (.istore 5, 2) := by decide +kernel
theorem dX3_pass_9 : decode cX3_pass 9 = .ok (.iconst 0, 1) := by decide +kernel
theorem dX3_pass_10 : decode cX3_pass 10 = .ok (.istore 6, 2) := by decide +kernel
theorem dX3_pass_12 : decode cX3_pass 12 = .ok (.iload 6, 2) := by decide +kernel
theorem dX3_pass_14 : decode cX3_pass 14 = .ok (.iload_n 2, 1) := by decide +kernel
theorem dX3_pass_15 : decode cX3_pass 15 = .ok (.if_icmp .ge 74, 3) := by decide +kernel
theorem dX3_pass_18 : decode cX3_pass 18 = .ok (.iload 6, 2) := by decide +kernel
theorem dX3_pass_20 : decode cX3_pass 20 = .ok (.aload_n 1, 1) := by decide +kernel
theorem dX3_pass_21 : decode cX3_pass 21 = .ok (.arraylength, 1) := by decide +kernel
theorem dX3_pass_22 : decode cX3_pass 22 = .ok (.if_icmp .ge 67, 3) := by decide +kernel
theorem dX3_pass_25 : decode cX3_pass 25 = .ok (.iconst 0, 1) := by decide +kernel
theorem dX3_pass_26 : decode cX3_pass 26 = .ok (.istore 7, 2) := by decide +kernel
theorem dX3_pass_28 : decode cX3_pass 28 = .ok (.iload 7, 2) := by decide +kernel
theorem dX3_pass_30 : decode cX3_pass 30 = .ok (.iload 5, 2) := by decide +kernel
theorem dX3_pass_32 : decode cX3_pass 32 = .ok (.if_icmp .ge 51, 3) := by decide +kernel
theorem dX3_pass_35 : decode cX3_pass 35 = .ok (.aload_n 0, 1) := by decide +kernel
theorem dX3_pass_36 : decode cX3_pass 36 = .ok (.iload 7, 2) := by decide +kernel
theorem dX3_pass_38 : decode cX3_pass 38 = .ok (.ifCond .ne 10, 3) := by decide +kernel
theorem dX3_pass_41 : decode cX3_pass 41 = .ok (.aload_n 1, 1) := by decide +kernel
theorem dX3_pass_42 : decode cX3_pass 42 = .ok (.iload 6, 2) := by decide +kernel
theorem dX3_pass_44 : decode cX3_pass 44 = .ok (.iaload, 1) := by decide +kernel
theorem dX3_pass_45 : decode cX3_pass 45 = .ok (.goto 4, 3) := by decide +kernel
theorem dX3_pass_48 : decode cX3_pass 48 = .ok (.iconst 0, 1) := by decide +kernel
theorem dX3_pass_49 : decode cX3_pass 49 = .ok (.invokevirtual 108, 3) := by decide +kernel
theorem dX3_pass_52 : decode cX3_pass 52 = .ok (.istore 8, 2) := by decide +kernel
theorem dX3_pass_54 : decode cX3_pass 54 = .ok (.aload_n 0, 1) := by decide +kernel
theorem dX3_pass_55 : decode cX3_pass 55 = .ok (.invokevirtual 111, 3) := by decide +kernel
theorem dX3_pass_58 : decode cX3_pass 58 = .ok (.ifCond .eq 19, 3) := by decide +kernel
theorem dX3_pass_61 : decode cX3_pass 61 = .ok (.iload 4, 2) := by decide +kernel
theorem dX3_pass_63 : decode cX3_pass 63 = .ok (.aload_n 3, 1) := by decide +kernel
theorem dX3_pass_64 : decode cX3_pass 64 = .ok (.arraylength, 1) := by decide +kernel
theorem dX3_pass_65 : decode cX3_pass 65 = .ok (.if_icmp .ge 12, 3) := by decide +kernel
theorem dX3_pass_68 : decode cX3_pass 68 = .ok (.aload_n 3, 1) := by decide +kernel
theorem dX3_pass_69 : decode cX3_pass 69 = .ok (.iload 4, 2) := by decide +kernel
theorem dX3_pass_71 : decode cX3_pass 71 = .ok (.iload 8, 2) := by decide +kernel
theorem dX3_pass_73 : decode cX3_pass 73 = .ok (.iastore, 1) := by decide +kernel
theorem dX3_pass_74 : decode cX3_pass 74 = .ok (.iinc 4 1, 3) := by decide +kernel
theorem dX3_pass_77 : decode cX3_pass 77 = .ok (.iinc 7 1, 3) := by decide +kernel
theorem dX3_pass_80 : decode cX3_pass 80 = .ok (.goto (-52), 3) := by decide +kernel
theorem dX3_pass_83 : decode cX3_pass 83 = .ok (.iinc 6 1, 3) := by decide +kernel
theorem dX3_pass_86 : decode cX3_pass 86 = .ok (.goto (-74), 3) := by decide +kernel
theorem dX3_pass_89 : decode cX3_pass 89 = .ok (.iload 4, 2) := by decide +kernel
theorem dX3_pass_91 : decode cX3_pass 91 = .ok (.ireturn, 1) := by decide +kernel
theorem dX3_comesOut_0 : decode cX3_comesOut 0 = .ok (.aload_n 0, 1) := by decide +kernel
theorem dX3_comesOut_1 : decode cX3_comesOut 1 = .ok (.getfield 91, 3) := by decide +kernel
theorem dX3_comesOut_4 : decode cX3_comesOut 4 = .ok (.ifCond .le 15, 3) := by decide +kernel
theorem dX3_comesOut_7 : decode cX3_comesOut 7 = .ok (.aload_n 0, 1) := by decide +kernel
theorem dX3_comesOut_8 : decode cX3_comesOut 8 = .ok (.dup, 1) := by decide +kernel
theorem dX3_comesOut_9 : decode cX3_comesOut 9 = .ok (.getfield 91, 3) := by decide +kernel
theorem dX3_comesOut_12 : decode cX3_comesOut 12 = .ok (.iconst 1, 1) := by decide +kernel
theorem dX3_comesOut_13 : decode cX3_comesOut 13 = .ok (.isub, 1) := by decide +kernel
theorem dX3_comesOut_14 : decode cX3_comesOut 14 = .ok (.putfield 91, 3) := by decide +kernel
theorem dX3_comesOut_17 : decode cX3_comesOut 17 = .ok (.iconst 0, 1) := by decide +kernel
theorem dX3_comesOut_18 : decode cX3_comesOut 18 = .ok (.ireturn, 1) := by decide +kernel
theorem dX3_comesOut_19 : decode cX3_comesOut 19 = .ok (.aload_n 0, 1) := by decide +kernel
theorem dX3_comesOut_20 : decode cX3_comesOut 20 = .ok (.aload_n 0, 1) := by decide +kernel
theorem dX3_comesOut_21 : decode cX3_comesOut 21 = .ok (.getfield 15, 3) := by decide +kernel
theorem dX3_comesOut_24 : decode cX3_comesOut 24 = .ok (.iconst 1, 1) := by decide +kernel
theorem dX3_comesOut_25 : decode cX3_comesOut 25 = .ok (.if_icmp .le 12, 3) := by decide +kernel
theorem dX3_comesOut_28 : decode cX3_comesOut 28 = .ok (.aload_n 0, 1) := by decide +kernel
theorem dX3_comesOut_29 : decode cX3_comesOut 29 = .ok (.getfield 15, 3) := by decide +kernel
theorem dX3_comesOut_32 : decode cX3_comesOut 32 = .ok (.iconst 1, 1) := by decide +kernel
theorem dX3_comesOut_33 : decode cX3_comesOut 33 = .ok (.isub, 1) := by decide +kernel
theorem dX3_comesOut_34 : decode cX3_comesOut 34 = .ok (.goto 4, 3) := by decide +kernel
theorem dX3_comesOut_37 : decode cX3_comesOut 37 = .ok (.iconst 0, 1) := by decide +kernel
theorem dX3_comesOut_38 : decode cX3_comesOut 38 = .ok (.putfield 91, 3) := by decide +kernel
theorem dX3_comesOut_41 : decode cX3_comesOut 41 = .ok (.iconst 1, 1) := by decide +kernel
theorem dX3_comesOut_42 : decode cX3_comesOut 42 = .ok (.ireturn, 1) := by decide +kernel
theorem dX3_take_0 : decode cX3_take 0 = .ok (.aload_n 0, 1) := by decide +kernel
theorem dX3_take_1 : decode cX3_take 1 = .ok (.getfield 49, 3) := by decide +kernel
theorem dX3_take_4 : decode cX3_take 4 = .ok (.iload_n 1, 1) := by decide +kernel
theorem dX3_take_5 : decode cX3_take 5 = .ok (.invokevirtual 115, 3) := by decide +kernel
theorem dX3_take_8 : decode cX3_take 8 = .ok (.lconst 0, 1) := by decide +kernel
theorem dX3_take_9 : decode cX3_take 9 = .ok (.lstore_n 2, 1) := by decide +kernel
theorem dX3_take_10 : decode cX3_take 10 = .ok (.lconst 0, 1) := by decide +kernel
theorem dX3_take_11 : decode cX3_take 11 = .ok (.lstore 4, 2) := by decide +kernel
theorem dX3_take_13 : decode cX3_take 13 = .ok (.lconst 0, 1) := by decide +kernel
theorem dX3_take_14 : decode cX3_take 14 = .ok (.lstore 6, 2) := by decide +kernel
theorem dX3_take_16 : decode cX3_take 16 = .ok (.iconst 0, 1) := by decide +kernel
theorem dX3_take_17 : decode cX3_take 17 = .ok (.istore 8, 2) := by decide +kernel
theorem dX3_take_19 : decode cX3_take 19 = .ok (.iload 8, 2) := by decide +kernel
theorem dX3_take_21 : decode cX3_take 21 = .ok (.aload_n 0, 1) := by decide +kernel
theorem dX3_take_22 : decode cX3_take 22 = .ok (.getfield 22, 3) := by decide +kernel
theorem dX3_take_25 : decode cX3_take 25 = .ok (.if_icmp .ge 62, 3) := by decide +kernel
theorem dX3_take_28 : decode cX3_take 28 = .ok (.aload_n 0, 1) := by decide +kernel
theorem dX3_take_29 : decode cX3_take 29 = .ok (.getfield 49, 3) := by decide +kernel
theorem dX3_take_32 : decode cX3_take 32 = .ok (.iload 8, 2) := by decide +kernel
theorem dX3_take_34 : decode cX3_take 34 = .ok (.invokevirtual 119, 3) := by decide +kernel
theorem dX3_take_37 : decode cX3_take 37 = .ok (.i2l, 1) := by decide +kernel
theorem dX3_take_38 : decode cX3_take 38 = .ok (.lstore 9, 2) := by decide +kernel
theorem dX3_take_40 : decode cX3_take 40 = .ok (.lload_n 2, 1) := by decide +kernel
theorem dX3_take_41 : decode cX3_take 41 = .ok (.aload_n 0, 1) := by decide +kernel
theorem dX3_take_42 : decode cX3_take 42 = .ok (.getfield 35, 3) := by decide +kernel
theorem dX3_take_45 : decode cX3_take 45 = .ok (.iload 8, 2) := by decide +kernel
theorem dX3_take_47 : decode cX3_take 47 = .ok (.invokevirtual 122, 3) := by decide +kernel
theorem dX3_take_50 : decode cX3_take 50 = .ok (.i2l, 1) := by decide +kernel
theorem dX3_take_51 : decode cX3_take 51 = .ok (.lload 9, 2) := by decide +kernel
theorem dX3_take_53 : decode cX3_take 53 = .ok (.lmul, 1) := by decide +kernel
theorem dX3_take_54 : decode cX3_take 54 = .ok (.ladd, 1) := by decide +kernel
theorem dX3_take_55 : decode cX3_take 55 = .ok (.lstore_n 2, 1) := by decide +kernel
theorem dX3_take_56 : decode cX3_take 56 = .ok (.lload 4, 2) := by decide +kernel
theorem dX3_take_58 : decode cX3_take 58 = .ok (.aload_n 0, 1) := by decide +kernel
theorem dX3_take_59 : decode cX3_take 59 = .ok (.iload 8, 2) := by decide +kernel
theorem dX3_take_61 : decode cX3_take 61 = .ok (.invokevirtual 57, 3) := by decide +kernel
theorem dX3_take_64 : decode cX3_take 64 = .ok (.i2l, 1) := by decide +kernel
theorem dX3_take_65 : decode cX3_take 65 = .ok (.lload 9, 2) := by decide +kernel
theorem dX3_take_67 : decode cX3_take 67 = .ok (.lmul, 1) := by decide +kernel
theorem dX3_take_68 : decode cX3_take 68 = .ok (.ladd, 1) := by decide +kernel
theorem dX3_take_69 : decode cX3_take 69 = .ok (.lstore 4, 2) := by decide +kernel
theorem dX3_take_71 : decode cX3_take 71 = .ok (.lload 6, 2) := by decide +kernel
theorem dX3_take_73 : decode cX3_take 73 = .ok (.lload 9, 2) := by decide +kernel
theorem dX3_take_75 : decode cX3_take 75 = .ok (.invokestatic 65, 3) := by decide +kernel
theorem dX3_take_78 : decode cX3_take 78 = .ok (.ladd, 1) := by decide +kernel
theorem dX3_take_79 : decode cX3_take 79 = .ok (.lstore 6, 2) := by decide +kernel
theorem dX3_take_81 : decode cX3_take 81 = .ok (.iinc 8 1, 3) := by decide +kernel
theorem dX3_take_84 : decode cX3_take 84 = .ok (.goto (-65), 3) := by decide +kernel
theorem dX3_take_87 : decode cX3_take 87 = .ok (.lload_n 2, 1) := by decide +kernel
theorem dX3_take_88 : decode cX3_take 88 = .ok (.aload_n 0, 1) := by decide +kernel
theorem dX3_take_89 : decode cX3_take 89 = .ok (.getfield 35, 3) := by decide +kernel
theorem dX3_take_92 : decode cX3_take 92 = .ok (.getfield 125, 3) := by decide +kernel
theorem dX3_take_95 : decode cX3_take 95 = .ok (.aload_n 0, 1) := by decide +kernel
theorem dX3_take_96 : decode cX3_take 96 = .ok (.getfield 25, 3) := by decide +kernel
theorem dX3_take_99 : decode cX3_take 99 = .ok (.invokestatic 128, 3) := by decide +kernel
theorem dX3_take_102 : decode cX3_take 102 = .ok (.lstore 8, 2) := by decide +kernel
theorem dX3_take_104 : decode cX3_take 104 = .ok (.lload 8, 2) := by decide +kernel
theorem dX3_take_106 : decode cX3_take 106 = .ok (.aload_n 0, 1) := by decide +kernel
theorem dX3_take_107 : decode cX3_take 107 = .ok (.getfield 28, 3) := by decide +kernel
theorem dX3_take_110 : decode cX3_take 110 = .ok (.invokestatic 132, 3) := by decide +kernel
theorem dX3_take_113 : decode cX3_take 113 = .ok (.istore 10, 2) := by decide +kernel
theorem dX3_take_115 : decode cX3_take 115 = .ok (.aload_n 0, 1) := by decide +kernel
theorem dX3_take_116 : decode cX3_take 116 = .ok (.getfield 42, 3) := by decide +kernel
theorem dX3_take_119 : decode cX3_take 119 = .ok (.lload_n 2, 1) := by decide +kernel
theorem dX3_take_120 : decode cX3_take 120 = .ok (.lload 4, 2) := by decide +kernel
theorem dX3_take_122 : decode cX3_take 122 = .ok (.lload 6, 2) := by decide +kernel
theorem dX3_take_124 : decode cX3_take 124 = .ok (.invokevirtual 136, 3) := by decide +kernel
theorem dX3_take_127 : decode cX3_take 127 = .ok (.aload_n 0, 1) := by decide +kernel
theorem dX3_take_128 : decode cX3_take 128 = .ok (.getfield 42, 3) := by decide +kernel
theorem dX3_take_131 : decode cX3_take 131 = .ok (.lload 8, 2) := by decide +kernel
theorem dX3_take_133 : decode cX3_take 133 = .ok (.iload 10, 2) := by decide +kernel
theorem dX3_take_135 : decode cX3_take 135 = .ok (.aload_n 0, 1) := by decide +kernel
theorem dX3_take_136 : decode cX3_take 136 = .ok (.getfield 25, 3) := by decide +kernel
theorem dX3_take_139 : decode cX3_take 139 = .ok (.invokevirtual 140, 3) := by decide +kernel
theorem dX3_take_142 : decode cX3_take 142 = .ok (.aload_n 0, 1) := by decide +kernel
theorem dX3_take_143 : decode cX3_take 143 = .ok (.dup, 1) := by decide +kernel
theorem dX3_take_144 : decode cX3_take 144 = .ok (.getfield 94, 3) := by decide +kernel
theorem dX3_take_147 : decode cX3_take 147 = .ok (.lconst 1, 1) := by decide +kernel
theorem dX3_take_148 : decode cX3_take 148 = .ok (.ladd, 1) := by decide +kernel
theorem dX3_take_149 : decode cX3_take 149 = .ok (.putfield 94, 3) := by decide +kernel
theorem dX3_take_152 : decode cX3_take 152 = .ok (.iload 10, 2) := by decide +kernel
theorem dX3_take_154 : decode cX3_take 154 = .ok (.i2l, 1) := by decide +kernel
theorem dX3_take_155 : decode cX3_take 155 = .ok (.lload 8, 2) := by decide +kernel
theorem dX3_take_157 : decode cX3_take 157 = .ok (.lcmp, 1) := by decide +kernel
theorem dX3_take_158 : decode cX3_take 158 = .ok (.ifCond .eq 13, 3) := by decide +kernel
theorem dX3_take_161 : decode cX3_take 161 = .ok (.aload_n 0, 1) := by decide +kernel
theorem dX3_take_162 : decode cX3_take 162 = .ok (.dup, 1) := by decide +kernel
theorem dX3_take_163 : decode cX3_take 163 = .ok (.getfield 98, 3) := by decide +kernel
theorem dX3_take_166 : decode cX3_take 166 = .ok (.lconst 1, 1) := by decide +kernel
theorem dX3_take_167 : decode cX3_take 167 = .ok (.ladd, 1) := by decide +kernel
theorem dX3_take_168 : decode cX3_take 168 = .ok (.putfield 98, 3) := by decide +kernel
theorem dX3_take_171 : decode cX3_take 171 = .ok (.aload_n 0, 1) := by decide +kernel
theorem dX3_take_172 : decode cX3_take 172 = .ok (.aload_n 0, 1) := by decide +kernel
theorem dX3_take_173 : decode cX3_take 173 = .ok (.getfield 101, 3) := by decide +kernel
theorem dX3_take_176 : decode cX3_take 176 = .ok (.lload_n 2, 1) := by decide +kernel
theorem dX3_take_177 : decode cX3_take 177 = .ok (.invokestatic 65, 3) := by decide +kernel
theorem dX3_take_180 : decode cX3_take 180 = .ok (.invokestatic 144, 3) := by decide +kernel
theorem dX3_take_183 : decode cX3_take 183 = .ok (.putfield 101, 3) := by decide +kernel
theorem dX3_take_186 : decode cX3_take 186 = .ok (.iload 10, 2) := by decide +kernel
theorem dX3_take_188 : decode cX3_take 188 = .ok (.ireturn, 1) := by decide +kernel
theorem dX3_mixRows_0 : decode cX3_mixRows 0 = .ok (.iconst 0, 1) := by decide +kernel
theorem dX3_mixRows_1 : decode cX3_mixRows 1 = .ok (.istore_n 3, 1) := by decide +kernel
theorem dX3_mixRows_2 : decode cX3_mixRows 2 = .ok (.iload_n 3, 1) := by decide +kernel
theorem dX3_mixRows_3 : decode cX3_mixRows 3 = .ok (.aload_n 0, 1) := by decide +kernel
theorem dX3_mixRows_4 : decode cX3_mixRows 4 = .ok (.getfield 22, 3) := by decide +kernel
theorem dX3_mixRows_7 : decode cX3_mixRows 7 = .ok (.if_icmp .ge 22, 3) := by decide +kernel
theorem dX3_mixRows_10 : decode cX3_mixRows 10 = .ok (.ldc2_w 148, 3) := by decide +kernel
theorem dX3_mixRows_13 : decode cX3_mixRows 13 = .ok (.lload_n 1, 1) := by decide +kernel
theorem dX3_mixRows_14 : decode cX3_mixRows 14 = .ok (.lmul, 1) := by decide +kernel
theorem dX3_mixRows_15 : decode cX3_mixRows 15 = .ok (.aload_n 0, 1) := by decide +kernel
theorem dX3_mixRows_16 : decode cX3_mixRows 16 = .ok (.iload_n 3, 1) := by decide +kernel
theorem dX3_mixRows_17 : decode cX3_mixRows 17 = .ok (.invokevirtual 57, 3) := by decide +kernel
theorem dX3_mixRows_20 : decode cX3_mixRows 20 = .ok (.i2l, 1) := by decide +kernel
theorem dX3_mixRows_21 : decode cX3_mixRows 21 = .ok (.ladd, 1) := by decide +kernel
theorem dX3_mixRows_22 : decode cX3_mixRows 22 = .ok (.lstore_n 1, 1) := by decide +kernel
theorem dX3_mixRows_23 : decode cX3_mixRows 23 = .ok (.iinc 3 1, 3) := by decide +kernel
theorem dX3_mixRows_26 : decode cX3_mixRows 26 = .ok (.goto (-24), 3) := by decide +kernel
theorem dX3_mixRows_29 : decode cX3_mixRows 29 = .ok (.aload_n 0, 1) := by decide +kernel
theorem dX3_mixRows_30 : decode cX3_mixRows 30 = .ok (.getfield 35, 3) := by decide +kernel
theorem dX3_mixRows_33 : decode cX3_mixRows 33 = .ok (.getfield 87, 3) := by decide +kernel
theorem dX3_mixRows_36 : decode cX3_mixRows 36 = .ok (.ifCond .ne 5, 3) := by decide +kernel
theorem dX3_mixRows_39 : decode cX3_mixRows 39 = .ok (.lload_n 1, 1) := by decide +kernel
theorem dX3_mixRows_40 : decode cX3_mixRows 40 = .ok (.lreturn, 1) := by decide +kernel
theorem dX3_mixRows_41 : decode cX3_mixRows 41 = .ok (.iconst 0, 1) := by decide +kernel
theorem dX3_mixRows_42 : decode cX3_mixRows 42 = .ok (.istore_n 3, 1) := by decide +kernel
theorem dX3_mixRows_43 : decode cX3_mixRows 43 = .ok (.iload_n 3, 1) := by decide +kernel
theorem dX3_mixRows_44 : decode cX3_mixRows 44 = .ok (.aload_n 0, 1) := by decide +kernel
theorem dX3_mixRows_45 : decode cX3_mixRows 45 = .ok (.getfield 22, 3) := by decide +kernel
theorem dX3_mixRows_48 : decode cX3_mixRows 48 = .ok (.if_icmp .ge 25, 3) := by decide +kernel
theorem dX3_mixRows_51 : decode cX3_mixRows 51 = .ok (.ldc2_w 148, 3) := by decide +kernel
theorem dX3_mixRows_54 : decode cX3_mixRows 54 = .ok (.lload_n 1, 1) := by decide +kernel
theorem dX3_mixRows_55 : decode cX3_mixRows 55 = .ok (.lmul, 1) := by decide +kernel
theorem dX3_mixRows_56 : decode cX3_mixRows 56 = .ok (.aload_n 0, 1) := by decide +kernel
theorem dX3_mixRows_57 : decode cX3_mixRows 57 = .ok (.getfield 35, 3) := by decide +kernel
theorem dX3_mixRows_60 : decode cX3_mixRows 60 = .ok (.iload_n 3, 1) := by decide +kernel
theorem dX3_mixRows_61 : decode cX3_mixRows 61 = .ok (.invokevirtual 122, 3) := by decide +kernel
theorem dX3_mixRows_64 : decode cX3_mixRows 64 = .ok (.i2l, 1) := by decide +kernel
theorem dX3_mixRows_65 : decode cX3_mixRows 65 = .ok (.ladd, 1) := by decide +kernel
theorem dX3_mixRows_66 : decode cX3_mixRows 66 = .ok (.lstore_n 1, 1) := by decide +kernel
theorem dX3_mixRows_67 : decode cX3_mixRows 67 = .ok (.iinc 3 1, 3) := by decide +kernel
theorem dX3_mixRows_70 : decode cX3_mixRows 70 = .ok (.goto (-27), 3) := by decide +kernel
theorem dX3_mixRows_73 : decode cX3_mixRows 73 = .ok (.iconst 0, 1) := by decide +kernel
theorem dX3_mixRows_74 : decode cX3_mixRows 74 = .ok (.istore_n 3, 1) := by decide +kernel
theorem dX3_mixRows_75 : decode cX3_mixRows 75 = .ok (.iload_n 3, 1) := by decide +kernel
theorem dX3_mixRows_76 : decode cX3_mixRows 76 = .ok (.aload_n 0, 1) := by decide +kernel
theorem dX3_mixRows_77 : decode cX3_mixRows 77 = .ok (.getfield 22, 3) := by decide +kernel
theorem dX3_mixRows_80 : decode cX3_mixRows 80 = .ok (.if_icmp .ge 25, 3) := by decide +kernel
theorem dX3_mixRows_83 : decode cX3_mixRows 83 = .ok (.ldc2_w 148, 3) := by decide +kernel
theorem dX3_mixRows_86 : decode cX3_mixRows 86 = .ok (.lload_n 1, 1) := by decide +kernel
theorem dX3_mixRows_87 : decode cX3_mixRows 87 = .ok (.lmul, 1) := by decide +kernel
theorem dX3_mixRows_88 : decode cX3_mixRows 88 = .ok (.aload_n 0, 1) := by decide +kernel
theorem dX3_mixRows_89 : decode cX3_mixRows 89 = .ok (.getfield 49, 3) := by decide +kernel
theorem dX3_mixRows_92 : decode cX3_mixRows 92 = .ok (.iload_n 3, 1) := by decide +kernel
theorem dX3_mixRows_93 : decode cX3_mixRows 93 = .ok (.invokevirtual 119, 3) := by decide +kernel
theorem dX3_mixRows_96 : decode cX3_mixRows 96 = .ok (.i2l, 1) := by decide +kernel
theorem dX3_mixRows_97 : decode cX3_mixRows 97 = .ok (.ladd, 1) := by decide +kernel
theorem dX3_mixRows_98 : decode cX3_mixRows 98 = .ok (.lstore_n 1, 1) := by decide +kernel
theorem dX3_mixRows_99 : decode cX3_mixRows 99 = .ok (.iinc 3 1, 3) := by decide +kernel
theorem dX3_mixRows_102 : decode cX3_mixRows 102 = .ok (.goto (-27), 3) := by decide +kernel
theorem dX3_mixRows_105 : decode cX3_mixRows 105 = .ok (.lload_n 1, 1) := by decide +kernel
theorem dX3_mixRows_106 : decode cX3_mixRows 106 = .ok (.lreturn, 1) := by decide +kernel
theorem dX3_nearest_0 : decode cX3_nearest 0 = .ok (.iload_n 1, 1) := by decide +kernel
theorem dX3_nearest_1 : decode cX3_nearest 1 = .ok (.iconst 1, 1) := by decide +kernel
theorem dX3_nearest_2 : decode cX3_nearest 2 = .ok (.if_icmp .ge 5, 3) := by decide +kernel
theorem dX3_nearest_5 : decode cX3_nearest 5 = .ok (.lconst 0, 1) := by decide +kernel
theorem dX3_nearest_6 : decode cX3_nearest 6 = .ok (.lreturn, 1) := by decide +kernel
theorem dX3_nearest_7 : decode cX3_nearest 7 = .ok (.iload_n 0, 1) := by decide +kernel
theorem dX3_nearest_8 : decode cX3_nearest 8 = .ok (.i2l, 1) := by decide +kernel
theorem dX3_nearest_9 : decode cX3_nearest 9 = .ok (.lconst 1, 1) := by decide +kernel
theorem dX3_nearest_10 : decode cX3_nearest 10 = .ok (.iload_n 2, 1) := by decide +kernel
theorem dX3_nearest_11 : decode cX3_nearest 11 = .ok (.lshl, 1) := by decide +kernel
theorem dX3_nearest_12 : decode cX3_nearest 12 = .ok (.lmul, 1) := by decide +kernel
theorem dX3_nearest_13 : decode cX3_nearest 13 = .ok (.lstore_n 3, 1) := by decide +kernel
theorem dX3_nearest_14 : decode cX3_nearest 14 = .ok (.lload_n 3, 1) := by decide +kernel
theorem dX3_nearest_15 : decode cX3_nearest 15 = .ok (.iload_n 1, 1) := by decide +kernel
theorem dX3_nearest_16 : decode cX3_nearest 16 = .ok (.i2l, 1) := by decide +kernel
theorem dX3_nearest_17 : decode cX3_nearest 17 = .ok (.invokestatic 150, 3) := by decide +kernel
theorem dX3_nearest_20 : decode cX3_nearest 20 = .ok (.lstore 5, 2) := by decide +kernel
theorem dX3_nearest_22 : decode cX3_nearest 22 = .ok (.ldc2_w 153, 3) := by decide +kernel
theorem dX3_nearest_25 : decode cX3_nearest 25 = .ok (.lload_n 3, 1) := by decide +kernel
theorem dX3_nearest_26 : decode cX3_nearest 26 = .ok (.lload 5, 2) := by decide +kernel
theorem dX3_nearest_28 : decode cX3_nearest 28 = .ok (.iload_n 1, 1) := by decide +kernel
theorem dX3_nearest_29 : decode cX3_nearest 29 = .ok (.i2l, 1) := by decide +kernel
theorem dX3_nearest_30 : decode cX3_nearest 30 = .ok (.lmul, 1) := by decide +kernel
theorem dX3_nearest_31 : decode cX3_nearest 31 = .ok (.lsub, 1) := by decide +kernel
theorem dX3_nearest_32 : decode cX3_nearest 32 = .ok (.lmul, 1) := by decide +kernel
theorem dX3_nearest_33 : decode cX3_nearest 33 = .ok (.lstore 7, 2) := by decide +kernel
theorem dX3_nearest_35 : decode cX3_nearest 35 = .ok (.lload 7, 2) := by decide +kernel
theorem dX3_nearest_37 : decode cX3_nearest 37 = .ok (.iload_n 1, 1) := by decide +kernel
theorem dX3_nearest_38 : decode cX3_nearest 38 = .ok (.i2l, 1) := by decide +kernel
theorem dX3_nearest_39 : decode cX3_nearest 39 = .ok (.lcmp, 1) := by decide +kernel
theorem dX3_nearest_40 : decode cX3_nearest 40 = .ok (.ifCond .gt 19, 3) := by decide +kernel
theorem dX3_nearest_43 : decode cX3_nearest 43 = .ok (.lload 7, 2) := by decide +kernel
theorem dX3_nearest_45 : decode cX3_nearest 45 = .ok (.iload_n 1, 1) := by decide +kernel
theorem dX3_nearest_46 : decode cX3_nearest 46 = .ok (.i2l, 1) := by decide +kernel
theorem dX3_nearest_47 : decode cX3_nearest 47 = .ok (.lcmp, 1) := by decide +kernel
theorem dX3_nearest_48 : decode cX3_nearest 48 = .ok (.ifCond .ne 16, 3) := by decide +kernel
theorem dX3_nearest_51 : decode cX3_nearest 51 = .ok (.lload 5, 2) := by decide +kernel
theorem dX3_nearest_53 : decode cX3_nearest 53 = .ok (.invokestatic 155, 3) := by decide +kernel
theorem dX3_nearest_56 : decode cX3_nearest 56 = .ok (.ifCond .eq 8, 3) := by decide +kernel
theorem dX3_nearest_59 : decode cX3_nearest 59 = .ok (.lload 5, 2) := by decide +kernel
theorem dX3_nearest_61 : decode cX3_nearest 61 = .ok (.lconst 1, 1) := by decide +kernel
theorem dX3_nearest_62 : decode cX3_nearest 62 = .ok (.ladd, 1) := by decide +kernel
theorem dX3_nearest_63 : decode cX3_nearest 63 = .ok (.lreturn, 1) := by decide +kernel
theorem dX3_nearest_64 : decode cX3_nearest 64 = .ok (.lload 5, 2) := by decide +kernel
theorem dX3_nearest_66 : decode cX3_nearest 66 = .ok (.lreturn, 1) := by decide +kernel
theorem dX3_roundedSum_0 : decode cX3_roundedSum 0 = .ok (.lconst 1, 1) := by decide +kernel
theorem dX3_roundedSum_1 : decode cX3_roundedSum 1 = .ok (.iload_n 2, 1) := by decide +kernel
theorem dX3_roundedSum_2 : decode cX3_roundedSum 2 = .ok (.lshl, 1) := by decide +kernel
theorem dX3_roundedSum_3 : decode cX3_roundedSum 3 = .ok (.lstore 4, 2) := by decide +kernel
theorem dX3_roundedSum_5 : decode cX3_roundedSum 5 = .ok (.lload_n 0, 1) := by decide +kernel
theorem dX3_roundedSum_6 : decode cX3_roundedSum 6 = .ok (.iload_n 2, 1) := by decide +kernel
theorem dX3_roundedSum_7 : decode cX3_roundedSum 7 = .ok (.lshr, 1) := by decide +kernel
theorem dX3_roundedSum_8 : decode cX3_roundedSum 8 = .ok (.lstore 6, 2) := by decide +kernel
theorem dX3_roundedSum_10 : decode cX3_roundedSum 10 = .ok (.lload_n 0, 1) := by decide +kernel
theorem dX3_roundedSum_11 : decode cX3_roundedSum 11 = .ok (.lload 6, 2) := by decide +kernel
theorem dX3_roundedSum_13 : decode cX3_roundedSum 13 = .ok (.lload 4, 2) := by decide +kernel
theorem dX3_roundedSum_15 : decode cX3_roundedSum 15 = .ok (.lmul, 1) := by decide +kernel
theorem dX3_roundedSum_16 : decode cX3_roundedSum 16 = .ok (.lsub, 1) := by decide +kernel
theorem dX3_roundedSum_17 : decode cX3_roundedSum 17 = .ok (.lstore 8, 2) := by decide +kernel
theorem dX3_roundedSum_19 : decode cX3_roundedSum 19 = .ok (.iload_n 3, 1) := by decide +kernel
theorem dX3_roundedSum_20 : decode cX3_roundedSum 20 = .ok (.tableswitch 115 1 3 #[28, 51, 73], 28) := by decide +kernel
theorem dX3_roundedSum_48 : decode cX3_roundedSum 48 = .ok (.lload_n 0, 1) := by decide +kernel
theorem dX3_roundedSum_49 : decode cX3_roundedSum 49 = .ok (.lconst 0, 1) := by decide +kernel
theorem dX3_roundedSum_50 : decode cX3_roundedSum 50 = .ok (.lcmp, 1) := by decide +kernel
theorem dX3_roundedSum_51 : decode cX3_roundedSum 51 = .ok (.ifCond .ge 14, 3) := by decide +kernel
theorem dX3_roundedSum_54 : decode cX3_roundedSum 54 = .ok (.lload 8, 2) := by decide +kernel
theorem dX3_roundedSum_56 : decode cX3_roundedSum 56 = .ok (.lconst 0, 1) := by decide +kernel
theorem dX3_roundedSum_57 : decode cX3_roundedSum 57 = .ok (.lcmp, 1) := by decide +kernel
theorem dX3_roundedSum_58 : decode cX3_roundedSum 58 = .ok (.ifCond .le 7, 3) := by decide +kernel
theorem dX3_roundedSum_61 : decode cX3_roundedSum 61 = .ok (.iconst 1, 1) := by decide +kernel
theorem dX3_roundedSum_62 : decode cX3_roundedSum 62 = .ok (.goto 4, 3) := by decide +kernel
theorem dX3_roundedSum_65 : decode cX3_roundedSum 65 = .ok (.iconst 0, 1) := by decide +kernel
theorem dX3_roundedSum_66 : decode cX3_roundedSum 66 = .ok (.istore 10, 2) := by decide +kernel
theorem dX3_roundedSum_68 : decode cX3_roundedSum 68 = .ok (.goto 70, 3) := by decide +kernel
theorem dX3_roundedSum_71 : decode cX3_roundedSum 71 = .ok (.ldc2_w 153, 3) := by decide +kernel
theorem dX3_roundedSum_74 : decode cX3_roundedSum 74 = .ok (.lload 8, 2) := by decide +kernel
theorem dX3_roundedSum_76 : decode cX3_roundedSum 76 = .ok (.lmul, 1) := by decide +kernel
theorem dX3_roundedSum_77 : decode cX3_roundedSum 77 = .ok (.lload 4, 2) := by decide +kernel
theorem dX3_roundedSum_79 : decode cX3_roundedSum 79 = .ok (.lcmp, 1) := by decide +kernel
theorem dX3_roundedSum_80 : decode cX3_roundedSum 80 = .ok (.ifCond .lt 7, 3) := by decide +kernel
theorem dX3_roundedSum_83 : decode cX3_roundedSum 83 = .ok (.iconst 1, 1) := by decide +kernel
theorem dX3_roundedSum_84 : decode cX3_roundedSum 84 = .ok (.goto 4, 3) := by decide +kernel
theorem dX3_roundedSum_87 : decode cX3_roundedSum 87 = .ok (.iconst 0, 1) := by decide +kernel
theorem dX3_roundedSum_88 : decode cX3_roundedSum 88 = .ok (.istore 10, 2) := by decide +kernel
theorem dX3_roundedSum_90 : decode cX3_roundedSum 90 = .ok (.goto 48, 3) := by decide +kernel
theorem dX3_roundedSum_93 : decode cX3_roundedSum 93 = .ok (.ldc2_w 153, 3) := by decide +kernel
theorem dX3_roundedSum_96 : decode cX3_roundedSum 96 = .ok (.lload 8, 2) := by decide +kernel
theorem dX3_roundedSum_98 : decode cX3_roundedSum 98 = .ok (.lmul, 1) := by decide +kernel
theorem dX3_roundedSum_99 : decode cX3_roundedSum 99 = .ok (.lload 4, 2) := by decide +kernel
theorem dX3_roundedSum_101 : decode cX3_roundedSum 101 = .ok (.lcmp, 1) := by decide +kernel
theorem dX3_roundedSum_102 : decode cX3_roundedSum 102 = .ok (.ifCond .gt 23, 3) := by decide +kernel
theorem dX3_roundedSum_105 : decode cX3_roundedSum 105 = .ok (.ldc2_w 153, 3) := by decide +kernel
theorem dX3_roundedSum_108 : decode cX3_roundedSum 108 = .ok (.lload 8, 2) := by decide +kernel
theorem dX3_roundedSum_110 : decode cX3_roundedSum 110 = .ok (.lmul, 1) := by decide +kernel
theorem dX3_roundedSum_111 : decode cX3_roundedSum 111 = .ok (.lload 4, 2) := by decide +kernel
theorem dX3_roundedSum_113 : decode cX3_roundedSum 113 = .ok (.lcmp, 1) := by decide +kernel
theorem dX3_roundedSum_114 : decode cX3_roundedSum 114 = .ok (.ifCond .ne 15, 3) := by decide +kernel
theorem dX3_roundedSum_117 : decode cX3_roundedSum 117 = .ok (.lload 6, 2) := by decide +kernel
theorem dX3_roundedSum_119 : decode cX3_roundedSum 119 = .ok (.invokestatic 155, 3) := by decide +kernel
theorem dX3_roundedSum_122 : decode cX3_roundedSum 122 = .ok (.ifCond .eq 7, 3) := by decide +kernel
theorem dX3_roundedSum_125 : decode cX3_roundedSum 125 = .ok (.iconst 1, 1) := by decide +kernel
theorem dX3_roundedSum_126 : decode cX3_roundedSum 126 = .ok (.goto 4, 3) := by decide +kernel
theorem dX3_roundedSum_129 : decode cX3_roundedSum 129 = .ok (.iconst 0, 1) := by decide +kernel
theorem dX3_roundedSum_130 : decode cX3_roundedSum 130 = .ok (.istore 10, 2) := by decide +kernel
theorem dX3_roundedSum_132 : decode cX3_roundedSum 132 = .ok (.goto 6, 3) := by decide +kernel
theorem dX3_roundedSum_135 : decode cX3_roundedSum 135 = .ok (.iconst 0, 1) := by decide +kernel
theorem dX3_roundedSum_136 : decode cX3_roundedSum 136 = .ok (.istore 10, 2) := by decide +kernel
theorem dX3_roundedSum_138 : decode cX3_roundedSum 138 = .ok (.iload 10, 2) := by decide +kernel
theorem dX3_roundedSum_140 : decode cX3_roundedSum 140 = .ok (.ifCond .eq 10, 3) := by decide +kernel
theorem dX3_roundedSum_143 : decode cX3_roundedSum 143 = .ok (.lload 6, 2) := by decide +kernel
theorem dX3_roundedSum_145 : decode cX3_roundedSum 145 = .ok (.lconst 1, 1) := by decide +kernel
theorem dX3_roundedSum_146 : decode cX3_roundedSum 146 = .ok (.ladd, 1) := by decide +kernel
theorem dX3_roundedSum_147 : decode cX3_roundedSum 147 = .ok (.goto 5, 3) := by decide +kernel
theorem dX3_roundedSum_150 : decode cX3_roundedSum 150 = .ok (.lload 6, 2) := by decide +kernel
theorem dX3_roundedSum_152 : decode cX3_roundedSum 152 = .ok (.lreturn, 1) := by decide +kernel
theorem dX3_heldNumber_0 : decode cX3_heldNumber 0 = .ok (.iload_n 2, 1) := by decide +kernel
theorem dX3_heldNumber_1 : decode cX3_heldNumber 1 = .ok (.ifCond .eq 7, 3) := by decide +kernel
theorem dX3_heldNumber_4 : decode cX3_heldNumber 4 = .ok (.lload_n 0, 1) := by decide +kernel
theorem dX3_heldNumber_5 : decode cX3_heldNumber 5 = .ok (.l2i, 1) := by decide +kernel
theorem dX3_heldNumber_6 : decode cX3_heldNumber 6 = .ok (.i2s, 1) := by decide +kernel
theorem dX3_heldNumber_7 : decode cX3_heldNumber 7 = .ok (.ireturn, 1) := by decide +kernel
theorem dX3_heldNumber_8 : decode cX3_heldNumber 8 = .ok (.ldc2_w 159, 3) := by decide +kernel
theorem dX3_heldNumber_11 : decode cX3_heldNumber 11 = .ok (.ldc2_w 161, 3) := by decide +kernel
theorem dX3_heldNumber_14 : decode cX3_heldNumber 14 = .ok (.lload_n 0, 1) := by decide +kernel
theorem dX3_heldNumber_15 : decode cX3_heldNumber 15 = .ok (.invokestatic 163, 3) := by decide +kernel
theorem dX3_heldNumber_18 : decode cX3_heldNumber 18 = .ok (.invokestatic 144, 3) := by decide +kernel
theorem dX3_heldNumber_21 : decode cX3_heldNumber 21 = .ok (.l2i, 1) := by decide +kernel
theorem dX3_heldNumber_22 : decode cX3_heldNumber 22 = .ok (.ireturn, 1) := by decide +kernel
theorem dX3_isOdd_0 : decode cX3_isOdd 0 = .ok (.lload_n 0, 1) := by decide +kernel
theorem dX3_isOdd_1 : decode cX3_isOdd 1 = .ok (.lconst 1, 1) := by decide +kernel
theorem dX3_isOdd_2 : decode cX3_isOdd 2 = .ok (.land, 1) := by decide +kernel
theorem dX3_isOdd_3 : decode cX3_isOdd 3 = .ok (.lconst 0, 1) := by decide +kernel
theorem dX3_isOdd_4 : decode cX3_isOdd 4 = .ok (.lcmp, 1) := by decide +kernel
theorem dX3_isOdd_5 : decode cX3_isOdd 5 = .ok (.ifCond .eq 7, 3) := by decide +kernel
theorem dX3_isOdd_8 : decode cX3_isOdd 8 = .ok (.iconst 1, 1) := by decide +kernel
theorem dX3_isOdd_9 : decode cX3_isOdd 9 = .ok (.goto 4, 3) := by decide +kernel
theorem dX3_isOdd_12 : decode cX3_isOdd 12 = .ok (.iconst 0, 1) := by decide +kernel
theorem dX3_isOdd_13 : decode cX3_isOdd 13 = .ok (.ireturn, 1) := by decide +kernel
theorem dX4_init_0 : decode cX4_init 0 = .ok (.aload_n 0, 1) := by decide +kernel
theorem dX4_init_1 : decode cX4_init 1 = .ok (.invokespecial 3, 3) := by decide +kernel
theorem dX4_init_4 : decode cX4_init 4 = .ok (.aload_n 0, 1) := by decide +kernel
theorem dX4_init_5 : decode cX4_init 5 = .ok (.sipush 600, 3) := by decide +kernel
theorem dX4_init_8 : decode cX4_init 8 = .ok (.newarray .short, 2) := by decide +kernel
theorem dX4_init_10 : decode cX4_init 10 = .ok (.putfield 9, 3) := by decide +kernel
theorem dX4_init_13 : decode cX4_init 13 = .ok (.aload_n 0, 1) := by decide +kernel
theorem dX4_init_14 : decode cX4_init 14 = .ok (.iconst 0, 1) := by decide +kernel
theorem dX4_init_15 : decode cX4_init 15 = .ok (.putfield 15, 3) := by decide +kernel
theorem dX4_init_18 : decode cX4_init 18 = .ok (.aload_n 0, 1) := by decide +kernel
theorem dX4_init_19 : decode cX4_init 19 = .ok (.iconst 0, 1) := by decide +kernel
theorem dX4_init_20 : decode cX4_init 20 = .ok (.putfield 19, 3) := by decide +kernel
theorem dX4_init_23 : decode cX4_init 23 = .ok (.return_, 1) := by decide +kernel
theorem dX4_add_0 : decode cX4_add 0 = .ok (.aload_n 0, 1) := by decide +kernel
theorem dX4_add_1 : decode cX4_add 1 = .ok (.getfield 15, 3) := by decide +kernel
theorem dX4_add_4 : decode cX4_add 4 = .ok (.ifCond .lt 15, 3) := by decide +kernel
theorem dX4_add_7 : decode cX4_add 7 = .ok (.aload_n 0, 1) := by decide +kernel
theorem dX4_add_8 : decode cX4_add 8 = .ok (.getfield 15, 3) := by decide +kernel
theorem dX4_add_11 : decode cX4_add 11 = .ok (.aload_n 0, 1) := by decide +kernel
theorem dX4_add_12 : decode cX4_add 12 = .ok (.getfield 9, 3) := by decide +kernel
theorem dX4_add_15 : decode cX4_add 15 = .ok (.arraylength, 1) := by decide +kernel
theorem dX4_add_16 : decode cX4_add 16 = .ok (.if_icmp .lt 14, 3) := by decide +kernel
theorem dX4_add_19 : decode cX4_add 19 = .ok (.aload_n 0, 1) := by decide +kernel
theorem dX4_add_20 : decode cX4_add 20 = .ok (.dup, 1) := by decide +kernel
theorem dX4_add_21 : decode cX4_add 21 = .ok (.getfield 19, 3) := by decide +kernel
theorem dX4_add_24 : decode cX4_add 24 = .ok (.iconst 1, 1) := by decide +kernel
theorem dX4_add_25 : decode cX4_add 25 = .ok (.iadd, 1) := by decide +kernel
theorem dX4_add_26 : decode cX4_add 26 = .ok (.putfield 19, 3) := by decide +kernel
theorem dX4_add_29 : decode cX4_add 29 = .ok (.return_, 1) := by decide +kernel
theorem dX4_add_30 : decode cX4_add 30 = .ok (.aload_n 0, 1) := by decide +kernel
theorem dX4_add_31 : decode cX4_add 31 = .ok (.getfield 9, 3) := by decide +kernel
theorem dX4_add_34 : decode cX4_add 34 = .ok (.aload_n 0, 1) := by decide +kernel
theorem dX4_add_35 : decode cX4_add 35 = .ok (.getfield 15, 3) := by decide +kernel
theorem dX4_add_38 : decode cX4_add 38 = .ok (.iload_n 1, 1) := by decide +kernel
theorem dX4_add_39 : decode cX4_add 39 = .ok (.i2s, 1) := by decide +kernel
theorem dX4_add_40 : decode cX4_add 40 = .ok (.sastore, 1) := by decide +kernel
theorem dX4_add_41 : decode cX4_add 41 = .ok (.aload_n 0, 1) := by decide +kernel
theorem dX4_add_42 : decode cX4_add 42 = .ok (.dup, 1) := by decide +kernel
theorem dX4_add_43 : decode cX4_add 43 = .ok (.getfield 15, 3) := by decide +kernel
theorem dX4_add_46 : decode cX4_add 46 = .ok (.iconst 1, 1) := by decide +kernel
theorem dX4_add_47 : decode cX4_add 47 = .ok (.iadd, 1) := by decide +kernel
theorem dX4_add_48 : decode cX4_add 48 = .ok (.putfield 15, 3) := by decide +kernel
theorem dX4_add_51 : decode cX4_add 51 = .ok (.return_, 1) := by decide +kernel
theorem dX4_has_0 : decode cX4_has 0 = .ok (.iload_n 1, 1) := by decide +kernel
theorem dX4_has_1 : decode cX4_has 1 = .ok (.ifCond .lt 24, 3) := by decide +kernel
theorem dX4_has_4 : decode cX4_has 4 = .ok (.iload_n 1, 1) := by decide +kernel
theorem dX4_has_5 : decode cX4_has 5 = .ok (.aload_n 0, 1) := by decide +kernel
theorem dX4_has_6 : decode cX4_has 6 = .ok (.getfield 15, 3) := by decide +kernel
theorem dX4_has_9 : decode cX4_has 9 = .ok (.if_icmp .ge 16, 3) := by decide +kernel
theorem dX4_has_12 : decode cX4_has 12 = .ok (.iload_n 1, 1) := by decide +kernel
theorem dX4_has_13 : decode cX4_has 13 = .ok (.aload_n 0, 1) := by decide +kernel
theorem dX4_has_14 : decode cX4_has 14 = .ok (.getfield 9, 3) := by decide +kernel
theorem dX4_has_17 : decode cX4_has 17 = .ok (.arraylength, 1) := by decide +kernel
theorem dX4_has_18 : decode cX4_has 18 = .ok (.if_icmp .ge 7, 3) := by decide +kernel
theorem dX4_has_21 : decode cX4_has 21 = .ok (.iconst 1, 1) := by decide +kernel
theorem dX4_has_22 : decode cX4_has 22 = .ok (.goto 4, 3) := by decide +kernel
theorem dX4_has_25 : decode cX4_has 25 = .ok (.iconst 0, 1) := by decide +kernel
theorem dX4_has_26 : decode cX4_has 26 = .ok (.ireturn, 1) := by decide +kernel
theorem dX4_at_0 : decode cX4_at 0 = .ok (.aload_n 0, 1) := by decide +kernel
theorem dX4_at_1 : decode cX4_at 1 = .ok (.iload_n 1, 1) := by decide +kernel
theorem dX4_at_2 : decode cX4_at 2 = .ok (.invokevirtual 22, 3) := by decide +kernel
theorem dX4_at_5 : decode cX4_at 5 = .ok (.ifCond .eq 12, 3) := by decide +kernel
theorem dX4_at_8 : decode cX4_at 8 = .ok (.aload_n 0, 1) := by decide +kernel
theorem dX4_at_9 : decode cX4_at 9 = .ok (.getfield 9, 3) := by decide +kernel
theorem dX4_at_12 : decode cX4_at 12 = .ok (.iload_n 1, 1) := by decide +kernel
theorem dX4_at_13 : decode cX4_at 13 = .ok (.saload, 1) := by decide +kernel
theorem dX4_at_14 : decode cX4_at 14 = .ok (.goto 4, 3) := by decide +kernel
theorem dX4_at_17 : decode cX4_at 17 = .ok (.iconst 0, 1) := by decide +kernel
theorem dX4_at_18 : decode cX4_at 18 = .ok (.ireturn, 1) := by decide +kernel
theorem dX4_mixSamples_0 : decode cX4_mixSamples 0 = .ok (.iconst 0, 1) := by decide +kernel
theorem dX4_mixSamples_1 : decode cX4_mixSamples 1 = .ok (.istore_n 3, 1) := by decide +kernel
theorem dX4_mixSamples_2 : decode cX4_mixSamples 2 = .ok (.iload_n 3, 1) := by decide +kernel
theorem dX4_mixSamples_3 : decode cX4_mixSamples 3 = .ok (.aload_n 0, 1) := by decide +kernel
theorem dX4_mixSamples_4 : decode cX4_mixSamples 4 = .ok (.getfield 15, 3) := by decide +kernel
theorem dX4_mixSamples_7 : decode cX4_mixSamples 7 = .ok (.if_icmp .ge 22, 3) := by decide +kernel
theorem dX4_mixSamples_10 : decode cX4_mixSamples 10 = .ok (.ldc2_w 26, 3) := by decide +kernel
theorem dX4_mixSamples_13 : decode cX4_mixSamples 13 = .ok (.lload_n 1, 1) := by decide +kernel
theorem dX4_mixSamples_14 : decode cX4_mixSamples 14 = .ok (.lmul, 1) := by decide +kernel
theorem dX4_mixSamples_15 : decode cX4_mixSamples 15 = .ok (.aload_n 0, 1) := by decide +kernel
theorem dX4_mixSamples_16 : decode cX4_mixSamples 16 = .ok (.iload_n 3, 1) := by decide +kernel
theorem dX4_mixSamples_17 : decode cX4_mixSamples 17 = .ok (.invokevirtual 28, 3) := by decide +kernel
theorem dX4_mixSamples_20 : decode cX4_mixSamples 20 = .ok (.i2l, 1) := by decide +kernel
theorem dX4_mixSamples_21 : decode cX4_mixSamples 21 = .ok (.ladd, 1) := by decide +kernel
theorem dX4_mixSamples_22 : decode cX4_mixSamples 22 = .ok (.lstore_n 1, 1) := by decide +kernel
theorem dX4_mixSamples_23 : decode cX4_mixSamples 23 = .ok (.iinc 3 1, 3) := by decide +kernel
theorem dX4_mixSamples_26 : decode cX4_mixSamples 26 = .ok (.goto (-24), 3) := by decide +kernel
theorem dX4_mixSamples_29 : decode cX4_mixSamples 29 = .ok (.lload_n 1, 1) := by decide +kernel
theorem dX4_mixSamples_30 : decode cX4_mixSamples 30 = .ok (.lreturn, 1) := by decide +kernel
theorem dX5_init_0 : decode cX5_init 0 = .ok (.aload_n 0, 1) := by decide +kernel
theorem dX5_init_1 : decode cX5_init 1 = .ok (.invokespecial 1, 3) := by decide +kernel
theorem dX5_init_4 : decode cX5_init 4 = .ok (.aload_n 0, 1) := by decide +kernel
theorem dX5_init_5 : decode cX5_init 5 = .ok (.bipush 8, 2) := by decide +kernel
theorem dX5_init_7 : decode cX5_init 7 = .ok (.anewarray 9, 3) := by decide +kernel
theorem dX5_init_10 : decode cX5_init 10 = .ok (.putfield 11, 3) := by decide +kernel
theorem dX5_init_13 : decode cX5_init 13 = .ok (.aload_n 0, 1) := by decide +kernel
theorem dX5_init_14 : decode cX5_init 14 = .ok (.iconst 0, 1) := by decide +kernel
theorem dX5_init_15 : decode cX5_init 15 = .ok (.putfield 15, 3) := by decide +kernel
theorem dX5_init_18 : decode cX5_init 18 = .ok (.aload_n 0, 1) := by decide +kernel
theorem dX5_init_19 : decode cX5_init 19 = .ok (.bipush 8, 2) := by decide +kernel
theorem dX5_init_21 : decode cX5_init 21 = .ok (.newarray .int, 2) := by decide +kernel
theorem dX5_init_23 : decode cX5_init 23 = .ok (.putfield 19, 3) := by decide +kernel
theorem dX5_init_26 : decode cX5_init 26 = .ok (.aload_n 0, 1) := by decide +kernel
theorem dX5_init_27 : decode cX5_init 27 = .ok (.iconst 0, 1) := by decide +kernel
theorem dX5_init_28 : decode cX5_init 28 = .ok (.putfield 23, 3) := by decide +kernel
theorem dX5_init_31 : decode cX5_init 31 = .ok (.aload_n 0, 1) := by decide +kernel
theorem dX5_init_32 : decode cX5_init 32 = .ok (.new 26, 3) := by decide +kernel
theorem dX5_init_35 : decode cX5_init 35 = .ok (.dup, 1) := by decide +kernel
theorem dX5_init_36 : decode cX5_init 36 = .ok (.invokespecial 28, 3) := by decide +kernel
theorem dX5_init_39 : decode cX5_init 39 = .ok (.putfield 29, 3) := by decide +kernel
theorem dX5_init_42 : decode cX5_init 42 = .ok (.aload_n 0, 1) := by decide +kernel
theorem dX5_init_43 : decode cX5_init 43 = .ok (.bipush 16, 2) := by decide +kernel
theorem dX5_init_45 : decode cX5_init 45 = .ok (.newarray .int, 2) := by decide +kernel
theorem dX5_init_47 : decode cX5_init 47 = .ok (.putfield 33, 3) := by decide +kernel
theorem dX5_init_50 : decode cX5_init 50 = .ok (.aload_n 0, 1) := by decide +kernel
theorem dX5_init_51 : decode cX5_init 51 = .ok (.bipush 16, 2) := by decide +kernel
theorem dX5_init_53 : decode cX5_init 53 = .ok (.newarray .int, 2) := by decide +kernel
theorem dX5_init_55 : decode cX5_init 55 = .ok (.putfield 36, 3) := by decide +kernel
theorem dX5_init_58 : decode cX5_init 58 = .ok (.return_, 1) := by decide +kernel
theorem dX5_stage_0 : decode cX5_stage 0 = .ok (.iload_n 1, 1) := by decide +kernel
theorem dX5_stage_1 : decode cX5_stage 1 = .ok (.iconst 1, 1) := by decide +kernel
theorem dX5_stage_2 : decode cX5_stage 2 = .ok (.ldc 39, 2) := by decide +kernel
theorem dX5_stage_4 : decode cX5_stage 4 = .ok (.invokestatic 40, 3) := by decide +kernel
theorem dX5_stage_7 : decode cX5_stage 7 = .ok (.ifCond .eq 10, 3) := by decide +kernel
theorem dX5_stage_10 : decode cX5_stage 10 = .ok (.iload_n 2, 1) := by decide +kernel
theorem dX5_stage_11 : decode cX5_stage 11 = .ok (.invokestatic 44, 3) := by decide +kernel
theorem dX5_stage_14 : decode cX5_stage 14 = .ok (.ifCond .ne 6, 3) := by decide +kernel
theorem dX5_stage_17 : decode cX5_stage 17 = .ok (.bipush (-2), 2) := by decide +kernel
theorem dX5_stage_19 : decode cX5_stage 19 = .ok (.ireturn, 1) := by decide +kernel
theorem dX5_stage_20 : decode cX5_stage 20 = .ok (.aload_n 0, 1) := by decide +kernel
theorem dX5_stage_21 : decode cX5_stage 21 = .ok (.getfield 15, 3) := by decide +kernel
theorem dX5_stage_24 : decode cX5_stage 24 = .ok (.aload_n 0, 1) := by decide +kernel
theorem dX5_stage_25 : decode cX5_stage 25 = .ok (.getfield 11, 3) := by decide +kernel
theorem dX5_stage_28 : decode cX5_stage 28 = .ok (.arraylength, 1) := by decide +kernel
theorem dX5_stage_29 : decode cX5_stage 29 = .ok (.if_icmp .lt 6, 3) := by decide +kernel
theorem dX5_stage_32 : decode cX5_stage 32 = .ok (.bipush (-4), 2) := by decide +kernel
theorem dX5_stage_34 : decode cX5_stage 34 = .ok (.ireturn, 1) := by decide +kernel
theorem dX5_stage_35 : decode cX5_stage 35 = .ok (.aload_n 0, 1) := by decide +kernel
theorem dX5_stage_36 : decode cX5_stage 36 = .ok (.getfield 11, 3) := by decide +kernel
theorem dX5_stage_39 : decode cX5_stage 39 = .ok (.aload_n 0, 1) := by decide +kernel
theorem dX5_stage_40 : decode cX5_stage 40 = .ok (.getfield 15, 3) := by decide +kernel
theorem dX5_stage_43 : decode cX5_stage 43 = .ok (.new 9, 3) := by decide +kernel
theorem dX5_stage_46 : decode cX5_stage 46 = .ok (.dup, 1) := by decide +kernel
theorem dX5_stage_47 : decode cX5_stage 47 = .ok (.iload_n 1, 1) := by decide +kernel
theorem dX5_stage_48 : decode cX5_stage 48 = .ok (.iload_n 2, 1) := by decide +kernel
theorem dX5_stage_49 : decode cX5_stage 49 = .ok (.invokespecial 48, 3) := by decide +kernel
theorem dX5_stage_52 : decode cX5_stage 52 = .ok (.aastore, 1) := by decide +kernel
theorem dX5_stage_53 : decode cX5_stage 53 = .ok (.aload_n 0, 1) := by decide +kernel
theorem dX5_stage_54 : decode cX5_stage 54 = .ok (.dup, 1) := by decide +kernel
theorem dX5_stage_55 : decode cX5_stage 55 = .ok (.getfield 15, 3) := by decide +kernel
theorem dX5_stage_58 : decode cX5_stage 58 = .ok (.iconst 1, 1) := by decide +kernel
theorem dX5_stage_59 : decode cX5_stage 59 = .ok (.iadd, 1) := by decide +kernel
theorem dX5_stage_60 : decode cX5_stage 60 = .ok (.putfield 15, 3) := by decide +kernel
theorem dX5_stage_63 : decode cX5_stage 63 = .ok (.aload_n 0, 1) := by decide +kernel
theorem dX5_stage_64 : decode cX5_stage 64 = .ok (.getfield 15, 3) := by decide +kernel
theorem dX5_stage_67 : decode cX5_stage 67 = .ok (.iconst 1, 1) := by decide +kernel
theorem dX5_stage_68 : decode cX5_stage 68 = .ok (.isub, 1) := by decide +kernel
theorem dX5_stage_69 : decode cX5_stage 69 = .ok (.ireturn, 1) := by decide +kernel
theorem dX5_tap_0 : decode cX5_tap 0 = .ok (.aload_n 0, 1) := by decide +kernel
theorem dX5_tap_1 : decode cX5_tap 1 = .ok (.iload_n 1, 1) := by decide +kernel
theorem dX5_tap_2 : decode cX5_tap 2 = .ok (.invokevirtual 51, 3) := by decide +kernel
theorem dX5_tap_5 : decode cX5_tap 5 = .ok (.astore_n 3, 1) := by decide +kernel
theorem dX5_tap_6 : decode cX5_tap 6 = .ok (.aload_n 3, 1) := by decide +kernel
theorem dX5_tap_7 : decode cX5_tap 7 = .ok (.ifnull 14, 3) := by decide +kernel
theorem dX5_tap_10 : decode cX5_tap 10 = .ok (.iload_n 2, 1) := by decide +kernel
theorem dX5_tap_11 : decode cX5_tap 11 = .ok (.ldc 55, 2) := by decide +kernel
theorem dX5_tap_13 : decode cX5_tap 13 = .ok (.ldc 39, 2) := by decide +kernel
theorem dX5_tap_15 : decode cX5_tap 15 = .ok (.invokestatic 40, 3) := by decide +kernel
theorem dX5_tap_18 : decode cX5_tap 18 = .ok (.ifCond .ne 6, 3) := by decide +kernel
theorem dX5_tap_21 : decode cX5_tap 21 = .ok (.bipush (-2), 2) := by decide +kernel
theorem dX5_tap_23 : decode cX5_tap 23 = .ok (.ireturn, 1) := by decide +kernel
theorem dX5_tap_24 : decode cX5_tap 24 = .ok (.aload_n 3, 1) := by decide +kernel
theorem dX5_tap_25 : decode cX5_tap 25 = .ok (.iload_n 2, 1) := by decide +kernel
theorem dX5_tap_26 : decode cX5_tap 26 = .ok (.invokevirtual 56, 3) := by decide +kernel
theorem dX5_tap_29 : decode cX5_tap 29 = .ok (.ifCond .ne 6, 3) := by decide +kernel
theorem dX5_tap_32 : decode cX5_tap 32 = .ok (.bipush (-4), 2) := by decide +kernel
theorem dX5_tap_34 : decode cX5_tap 34 = .ok (.ireturn, 1) := by decide +kernel
theorem dX5_tap_35 : decode cX5_tap 35 = .ok (.aload_n 0, 1) := by decide +kernel
theorem dX5_tap_36 : decode cX5_tap 36 = .ok (.iload_n 1, 1) := by decide +kernel
theorem dX5_tap_37 : decode cX5_tap 37 = .ok (.aload_n 3, 1) := by decide +kernel
theorem dX5_tap_38 : decode cX5_tap 38 = .ok (.invokevirtual 59, 3) := by decide +kernel
theorem dX5_tap_41 : decode cX5_tap 41 = .ok (.aload_n 3, 1) := by decide +kernel
theorem dX5_tap_42 : decode cX5_tap 42 = .ok (.getfield 63, 3) := by decide +kernel
theorem dX5_tap_45 : decode cX5_tap 45 = .ok (.ireturn, 1) := by decide +kernel
theorem dX5_change_0 : decode cX5_change 0 = .ok (.aload_n 0, 1) := by decide +kernel
theorem dX5_change_1 : decode cX5_change 1 = .ok (.iload_n 1, 1) := by decide +kernel
theorem dX5_change_2 : decode cX5_change 2 = .ok (.invokevirtual 51, 3) := by decide +kernel
theorem dX5_change_5 : decode cX5_change 5 = .ok (.astore 4, 2) := by decide +kernel
theorem dX5_change_7 : decode cX5_change 7 = .ok (.aload 4, 2) := by decide +kernel
theorem dX5_change_9 : decode cX5_change 9 = .ok (.ifnull 23, 3) := by decide +kernel
theorem dX5_change_12 : decode cX5_change 12 = .ok (.aload 4, 2) := by decide +kernel
theorem dX5_change_14 : decode cX5_change 14 = .ok (.iload_n 2, 1) := by decide +kernel
theorem dX5_change_15 : decode cX5_change 15 = .ok (.invokevirtual 66, 3) := by decide +kernel
theorem dX5_change_18 : decode cX5_change 18 = .ok (.ifCond .eq 14, 3) := by decide +kernel
theorem dX5_change_21 : decode cX5_change 21 = .ok (.iload_n 3, 1) := by decide +kernel
theorem dX5_change_22 : decode cX5_change 22 = .ok (.ldc 55, 2) := by decide +kernel
theorem dX5_change_24 : decode cX5_change 24 = .ok (.ldc 39, 2) := by decide +kernel
theorem dX5_change_26 : decode cX5_change 26 = .ok (.invokestatic 40, 3) := by decide +kernel
theorem dX5_change_29 : decode cX5_change 29 = .ok (.ifCond .ne 6, 3) := by decide +kernel
theorem dX5_change_32 : decode cX5_change 32 = .ok (.ldc 69, 2) := by decide +kernel
theorem dX5_change_34 : decode cX5_change 34 = .ok (.ireturn, 1) := by decide +kernel
theorem dX5_change_35 : decode cX5_change 35 = .ok (.aload 4, 2) := by decide +kernel
theorem dX5_change_37 : decode cX5_change 37 = .ok (.iload_n 2, 1) := by decide +kernel
theorem dX5_change_38 : decode cX5_change 38 = .ok (.invokevirtual 70, 3) := by decide +kernel
theorem dX5_change_41 : decode cX5_change 41 = .ok (.istore 5, 2) := by decide +kernel
theorem dX5_change_43 : decode cX5_change 43 = .ok (.aload 4, 2) := by decide +kernel
theorem dX5_change_45 : decode cX5_change 45 = .ok (.iload_n 2, 1) := by decide +kernel
theorem dX5_change_46 : decode cX5_change 46 = .ok (.iload_n 3, 1) := by decide +kernel
theorem dX5_change_47 : decode cX5_change 47 = .ok (.invokevirtual 74, 3) := by decide +kernel
theorem dX5_change_50 : decode cX5_change 50 = .ok (.aload_n 0, 1) := by decide +kernel
theorem dX5_change_51 : decode cX5_change 51 = .ok (.iload_n 1, 1) := by decide +kernel
theorem dX5_change_52 : decode cX5_change 52 = .ok (.aload 4, 2) := by decide +kernel
theorem dX5_change_54 : decode cX5_change 54 = .ok (.invokevirtual 59, 3) := by decide +kernel
theorem dX5_change_57 : decode cX5_change 57 = .ok (.iload 5, 2) := by decide +kernel
theorem dX5_change_59 : decode cX5_change 59 = .ok (.ireturn, 1) := by decide +kernel
theorem dX5_way_0 : decode cX5_way 0 = .ok (.aload_n 0, 1) := by decide +kernel
theorem dX5_way_1 : decode cX5_way 1 = .ok (.iload_n 1, 1) := by decide +kernel
theorem dX5_way_2 : decode cX5_way 2 = .ok (.invokevirtual 51, 3) := by decide +kernel
theorem dX5_way_5 : decode cX5_way 5 = .ok (.astore 4, 2) := by decide +kernel
theorem dX5_way_7 : decode cX5_way 7 = .ok (.aload 4, 2) := by decide +kernel
theorem dX5_way_9 : decode cX5_way 9 = .ok (.ifnull 12, 3) := by decide +kernel
theorem dX5_way_12 : decode cX5_way 12 = .ok (.iload_n 2, 1) := by decide +kernel
theorem dX5_way_13 : decode cX5_way 13 = .ok (.iconst 0, 1) := by decide +kernel
theorem dX5_way_14 : decode cX5_way 14 = .ok (.iconst 3, 1) := by decide +kernel
theorem dX5_way_15 : decode cX5_way 15 = .ok (.invokestatic 40, 3) := by decide +kernel
