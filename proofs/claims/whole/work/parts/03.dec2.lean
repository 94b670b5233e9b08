theorem dX6_tap_29 : decode cX6_tap 29 = .ok (.ifCond .ne 6, 3) := by decide +kernel
theorem dX6_tap_32 : decode cX6_tap 32 = .ok (.bipush (-4), 2) := by decide +kernel
theorem dX6_tap_34 : decode cX6_tap 34 = .ok (.ireturn, 1) := by decide +kernel
theorem dX6_tap_35 : decode cX6_tap 35 = .ok (.aload_n 0, 1) := by decide +kernel
theorem dX6_tap_36 : decode cX6_tap 36 = .ok (.iload_n 1, 1) := by decide +kernel
theorem dX6_tap_37 : decode cX6_tap 37 = .ok (.aload_n 3, 1) := by decide +kernel
theorem dX6_tap_38 : decode cX6_tap 38 = .ok (.invokevirtual 63, 3) := by decide +kernel
theorem dX6_tap_41 : decode cX6_tap 41 = .ok (.aload_n 3, 1) := by decide +kernel
theorem dX6_tap_42 : decode cX6_tap 42 = .ok (.getfield 67, 3) := by decide +kernel
theorem dX6_tap_45 : decode cX6_tap 45 = .ok (.ireturn, 1) := by decide +kernel
theorem dX6_change_0 : decode cX6_change 0 = .ok (.aload_n 0, 1) := by decide +kernel
theorem dX6_change_1 : decode cX6_change 1 = .ok (.iload_n 1, 1) := by decide +kernel
theorem dX6_change_2 : decode cX6_change 2 = .ok (.invokevirtual 55, 3) := by decide +kernel
theorem dX6_change_5 : decode cX6_change 5 = .ok (.astore 4, 2) := by decide +kernel
theorem dX6_change_7 : decode cX6_change 7 = .ok (.aload 4, 2) := by decide +kernel
theorem dX6_change_9 : decode cX6_change 9 = .ok (.ifnull 23, 3) := by decide +kernel
theorem dX6_change_12 : decode cX6_change 12 = .ok (.aload 4, 2) := by decide +kernel
theorem dX6_change_14 : decode cX6_change 14 = .ok (.iload_n 2, 1) := by decide +kernel
theorem dX6_change_15 : decode cX6_change 15 = .ok (.invokevirtual 70, 3) := by decide +kernel
theorem dX6_change_18 : decode cX6_change 18 = .ok (.ifCond .eq 14, 3) := by decide +kernel
theorem dX6_change_21 : decode cX6_change 21 = .ok (.iload_n 3, 1) := by decide +kernel
theorem dX6_change_22 : decode cX6_change 22 = .ok (.ldc 59, 2) := by decide +kernel
theorem dX6_change_24 : decode cX6_change 24 = .ok (.ldc 43, 2) := by decide +kernel
theorem dX6_change_26 : decode cX6_change 26 = .ok (.invokestatic 44, 3) := by decide +kernel
theorem dX6_change_29 : decode cX6_change 29 = .ok (.ifCond .ne 6, 3) := by decide +kernel
theorem dX6_change_32 : decode cX6_change 32 = .ok (.ldc 73, 2) := by decide +kernel
theorem dX6_change_34 : decode cX6_change 34 = .ok (.ireturn, 1) := by decide +kernel
theorem dX6_change_35 : decode cX6_change 35 = .ok (.aload 4, 2) := by decide +kernel
theorem dX6_change_37 : decode cX6_change 37 = .ok (.iload_n 2, 1) := by decide +kernel
theorem dX6_change_38 : decode cX6_change 38 = .ok (.invokevirtual 74, 3) := by decide +kernel
theorem dX6_change_41 : decode cX6_change 41 = .ok (.istore 5, 2) := by decide +kernel
theorem dX6_change_43 : decode cX6_change 43 = .ok (.aload 4, 2) := by decide +kernel
theorem dX6_change_45 : decode cX6_change 45 = .ok (.iload_n 2, 1) := by decide +kernel
theorem dX6_change_46 : decode cX6_change 46 = .ok (.iload_n 3, 1) := by decide +kernel
theorem dX6_change_47 : decode cX6_change 47 = .ok (.invokevirtual 78, 3) := by decide +kernel
theorem dX6_change_50 : decode cX6_change 50 = .ok (.aload_n 0, 1) := by decide +kernel
theorem dX6_change_51 : decode cX6_change 51 = .ok (.iload_n 1, 1) := by decide +kernel
theorem dX6_change_52 : decode cX6_change 52 = .ok (.aload 4, 2) := by decide +kernel
theorem dX6_change_54 : decode cX6_change 54 = .ok (.invokevirtual 63, 3) := by decide +kernel
theorem dX6_change_57 : decode cX6_change 57 = .ok (.iload 5, 2) := by decide +kernel
theorem dX6_change_59 : decode cX6_change 59 = .ok (.ireturn, 1) := by decide +kernel
theorem dX6_way_0 : decode cX6_way 0 = .ok (.aload_n 0, 1) := by decide +kernel
theorem dX6_way_1 : decode cX6_way 1 = .ok (.iload_n 1, 1) := by decide +kernel
theorem dX6_way_2 : decode cX6_way 2 = .ok (.invokevirtual 55, 3) := by decide +kernel
theorem dX6_way_5 : decode cX6_way 5 = .ok (.astore 4, 2) := by decide +kernel
theorem dX6_way_7 : decode cX6_way 7 = .ok (.aload 4, 2) := by decide +kernel
theorem dX6_way_9 : decode cX6_way 9 = .ok (.ifnull 12, 3) := by decide +kernel
theorem dX6_way_12 : decode cX6_way 12 = .ok (.iload_n 2, 1) := by decide +kernel
theorem dX6_way_13 : decode cX6_way 13 = .ok (.iconst 0, 1) := by decide +kernel
theorem dX6_way_14 : decode cX6_way 14 = .ok (.iconst 3, 1) := by decide +kernel
theorem dX6_way_15 : decode cX6_way 15 = .ok (.invokestatic 44, 3) := by decide +kernel
theorem dX6_way_18 : decode cX6_way 18 = .ok (.ifCond .ne 6, 3) := by decide +kernel
theorem dX6_way_21 : decode cX6_way 21 = .ok (.bipush (-2), 2) := by decide +kernel
theorem dX6_way_23 : decode cX6_way 23 = .ok (.ireturn, 1) := by decide +kernel
theorem dX6_way_24 : decode cX6_way 24 = .ok (.aload 4, 2) := by decide +kernel
theorem dX6_way_26 : decode cX6_way 26 = .ok (.getfield 81, 3) := by decide +kernel
theorem dX6_way_29 : decode cX6_way 29 = .ok (.istore 5, 2) := by decide +kernel
theorem dX6_way_31 : decode cX6_way 31 = .ok (.aload 4, 2) := by decide +kernel
theorem dX6_way_33 : decode cX6_way 33 = .ok (.iload_n 2, 1) := by decide +kernel
theorem dX6_way_34 : decode cX6_way 34 = .ok (.putfield 81, 3) := by decide +kernel
theorem dX6_way_37 : decode cX6_way 37 = .ok (.aload 4, 2) := by decide +kernel
theorem dX6_way_39 : decode cX6_way 39 = .ok (.iload_n 3, 1) := by decide +kernel
theorem dX6_way_40 : decode cX6_way 40 = .ok (.putfield 84, 3) := by decide +kernel
theorem dX6_way_43 : decode cX6_way 43 = .ok (.iload 5, 2) := by decide +kernel
theorem dX6_way_45 : decode cX6_way 45 = .ok (.ireturn, 1) := by decide +kernel
theorem dX6_plan_0 : decode cX6_plan 0 = .ok (.aload_n 0, 1) := by decide +kernel
theorem dX6_plan_1 : decode cX6_plan 1 = .ok (.iload_n 1, 1) := by decide +kernel
theorem dX6_plan_2 : decode cX6_plan 2 = .ok (.invokevirtual 55, 3) := by decide +kernel
theorem dX6_plan_5 : decode cX6_plan 5 = .ok (.astore 4, 2) := by decide +kernel
theorem dX6_plan_7 : decode cX6_plan 7 = .ok (.aload 4, 2) := by decide +kernel
theorem dX6_plan_9 : decode cX6_plan 9 = .ok (.ifnull 11, 3) := by decide +kernel
theorem dX6_plan_12 : decode cX6_plan 12 = .ok (.iload_n 2, 1) := by decide +kernel
theorem dX6_plan_13 : decode cX6_plan 13 = .ok (.iload_n 3, 1) := by decide +kernel
theorem dX6_plan_14 : decode cX6_plan 14 = .ok (.invokestatic 88, 3) := by decide +kernel
theorem dX6_plan_17 : decode cX6_plan 17 = .ok (.ifCond .ne 6, 3) := by decide +kernel
theorem dX6_plan_20 : decode cX6_plan 20 = .ok (.bipush (-2), 2) := by decide +kernel
theorem dX6_plan_22 : decode cX6_plan 22 = .ok (.ireturn, 1) := by decide +kernel
theorem dX6_plan_23 : decode cX6_plan 23 = .ok (.bipush 24, 2) := by decide +kernel
theorem dX6_plan_25 : decode cX6_plan 25 = .ok (.istore 5, 2) := by decide +kernel
theorem dX6_plan_27 : decode cX6_plan 27 = .ok (.iload 5, 2) := by decide +kernel
theorem dX6_plan_29 : decode cX6_plan 29 = .ok (.ifCond .lt 33, 3) := by decide +kernel
theorem dX6_plan_32 : decode cX6_plan 32 = .ok (.aload 4, 2) := by decide +kernel
theorem dX6_plan_34 : decode cX6_plan 34 = .ok (.iload_n 2, 1) := by decide +kernel
theorem dX6_plan_35 : decode cX6_plan 35 = .ok (.iload_n 3, 1) := by decide +kernel
theorem dX6_plan_36 : decode cX6_plan 36 = .ok (.iload 5, 2) := by decide +kernel
theorem dX6_plan_38 : decode cX6_plan 38 = .ok (.invokevirtual 92, 3) := by decide +kernel
theorem dX6_plan_41 : decode cX6_plan 41 = .ok (.ifCond .eq 15, 3) := by decide +kernel
theorem dX6_plan_44 : decode cX6_plan 44 = .ok (.aload 4, 2) := by decide +kernel
theorem dX6_plan_46 : decode cX6_plan 46 = .ok (.iload_n 2, 1) := by decide +kernel
theorem dX6_plan_47 : decode cX6_plan 47 = .ok (.iload_n 3, 1) := by decide +kernel
theorem dX6_plan_48 : decode cX6_plan 48 = .ok (.iload 5, 2) := by decide +kernel
theorem dX6_plan_50 : decode cX6_plan 50 = .ok (.invokevirtual 95, 3) := by decide +kernel
theorem dX6_plan_53 : decode cX6_plan 53 = .ok (.iload 5, 2) := by decide +kernel
theorem dX6_plan_55 : decode cX6_plan 55 = .ok (.ireturn, 1) := by decide +kernel
theorem dX6_plan_56 : decode cX6_plan 56 = .ok (.iinc 5 (-1), 3) := by decide +kernel
theorem dX6_plan_59 : decode cX6_plan 59 = .ok (.goto (-32), 3) := by decide +kernel
theorem dX6_plan_62 : decode cX6_plan 62 = .ok (.bipush (-3), 2) := by decide +kernel
theorem dX6_plan_64 : decode cX6_plan 64 = .ok (.ireturn, 1) := by decide +kernel
theorem dX6_planAt_0 : decode cX6_planAt 0 = .ok (.aload_n 0, 1) := by decide +kernel
theorem dX6_planAt_1 : decode cX6_planAt 1 = .ok (.iload_n 1, 1) := by decide +kernel
theorem dX6_planAt_2 : decode cX6_planAt 2 = .ok (.invokevirtual 55, 3) := by decide +kernel
theorem dX6_planAt_5 : decode cX6_planAt 5 = .ok (.astore 5, 2) := by decide +kernel
theorem dX6_planAt_7 : decode cX6_planAt 7 = .ok (.aload 5, 2) := by decide +kernel
theorem dX6_planAt_9 : decode cX6_planAt 9 = .ok (.ifnull 22, 3) := by decide +kernel
theorem dX6_planAt_12 : decode cX6_planAt 12 = .ok (.iload_n 2, 1) := by decide +kernel
theorem dX6_planAt_13 : decode cX6_planAt 13 = .ok (.iload_n 3, 1) := by decide +kernel
theorem dX6_planAt_14 : decode cX6_planAt 14 = .ok (.invokestatic 88, 3) := by decide +kernel
theorem dX6_planAt_17 : decode cX6_planAt 17 = .ok (.ifCond .eq 14, 3) := by decide +kernel
theorem dX6_planAt_20 : decode cX6_planAt 20 = .ok (.iload 4, 2) := by decide +kernel
theorem dX6_planAt_22 : decode cX6_planAt 22 = .ok (.iconst 0, 1) := by decide +kernel
theorem dX6_planAt_23 : decode cX6_planAt 23 = .ok (.bipush 24, 2) := by decide +kernel
theorem dX6_planAt_25 : decode cX6_planAt 25 = .ok (.invokestatic 44, 3) := by decide +kernel
theorem dX6_planAt_28 : decode cX6_planAt 28 = .ok (.ifCond .ne 6, 3) := by decide +kernel
theorem dX6_planAt_31 : decode cX6_planAt 31 = .ok (.bipush (-2), 2) := by decide +kernel
theorem dX6_planAt_33 : decode cX6_planAt 33 = .ok (.ireturn, 1) := by decide +kernel
theorem dX6_planAt_34 : decode cX6_planAt 34 = .ok (.aload 5, 2) := by decide +kernel
theorem dX6_planAt_36 : decode cX6_planAt 36 = .ok (.iload_n 2, 1) := by decide +kernel
theorem dX6_planAt_37 : decode cX6_planAt 37 = .ok (.iload_n 3, 1) := by decide +kernel
theorem dX6_planAt_38 : decode cX6_planAt 38 = .ok (.iload 4, 2) := by decide +kernel
theorem dX6_planAt_40 : decode cX6_planAt 40 = .ok (.invokevirtual 92, 3) := by decide +kernel
theorem dX6_planAt_43 : decode cX6_planAt 43 = .ok (.ifCond .ne 6, 3) := by decide +kernel
theorem dX6_planAt_46 : decode cX6_planAt 46 = .ok (.bipush (-3), 2) := by decide +kernel
theorem dX6_planAt_48 : decode cX6_planAt 48 = .ok (.ireturn, 1) := by decide +kernel
theorem dX6_planAt_49 : decode cX6_planAt 49 = .ok (.aload 5, 2) := by decide +kernel
theorem dX6_planAt_51 : decode cX6_planAt 51 = .ok (.iload_n 2, 1) := by decide +kernel
theorem dX6_planAt_52 : decode cX6_planAt 52 = .ok (.iload_n 3, 1) := by decide +kernel
theorem dX6_planAt_53 : decode cX6_planAt 53 = .ok (.iload 4, 2) := by decide +kernel
theorem dX6_planAt_55 : decode cX6_planAt 55 = .ok (.invokevirtual 95, 3) := by decide +kernel
theorem dX6_planAt_58 : decode cX6_planAt 58 = .ok (.iload 4, 2) := by decide +kernel
theorem dX6_planAt_60 : decode cX6_planAt 60 = .ok (.ireturn, 1) := by decide +kernel
theorem dX6_coefficient_0 : decode cX6_coefficient 0 = .ok (.aload_n 0, 1) := by decide +kernel
theorem dX6_coefficient_1 : decode cX6_coefficient 1 = .ok (.iload_n 1, 1) := by decide +kernel
theorem dX6_coefficient_2 : decode cX6_coefficient 2 = .ok (.invokevirtual 55, 3) := by decide +kernel
theorem dX6_coefficient_5 : decode cX6_coefficient 5 = .ok (.astore_n 3, 1) := by decide +kernel
theorem dX6_coefficient_6 : decode cX6_coefficient 6 = .ok (.aload_n 3, 1) := by decide +kernel
theorem dX6_coefficient_7 : decode cX6_coefficient 7 = .ok (.ifnull 21, 3) := by decide +kernel
theorem dX6_coefficient_10 : decode cX6_coefficient 10 = .ok (.aload_n 3, 1) := by decide +kernel
theorem dX6_coefficient_11 : decode cX6_coefficient 11 = .ok (.getfield 99, 3) := by decide +kernel
theorem dX6_coefficient_14 : decode cX6_coefficient 14 = .ok (.getfield 103, 3) := by decide +kernel
theorem dX6_coefficient_17 : decode cX6_coefficient 17 = .ok (.ifCond .eq 11, 3) := by decide +kernel
theorem dX6_coefficient_20 : decode cX6_coefficient 20 = .ok (.aload_n 3, 1) := by decide +kernel
theorem dX6_coefficient_21 : decode cX6_coefficient 21 = .ok (.iload_n 2, 1) := by decide +kernel
theorem dX6_coefficient_22 : decode cX6_coefficient 22 = .ok (.invokevirtual 70, 3) := by decide +kernel
theorem dX6_coefficient_25 : decode cX6_coefficient 25 = .ok (.ifCond .ne 6, 3) := by decide +kernel
theorem dX6_coefficient_28 : decode cX6_coefficient 28 = .ok (.ldc 73, 2) := by decide +kernel
theorem dX6_coefficient_30 : decode cX6_coefficient 30 = .ok (.ireturn, 1) := by decide +kernel
theorem dX6_coefficient_31 : decode cX6_coefficient 31 = .ok (.aload_n 3, 1) := by decide +kernel
theorem dX6_coefficient_32 : decode cX6_coefficient 32 = .ok (.getfield 99, 3) := by decide +kernel
theorem dX6_coefficient_35 : decode cX6_coefficient 35 = .ok (.iload_n 2, 1) := by decide +kernel
theorem dX6_coefficient_36 : decode cX6_coefficient 36 = .ok (.invokevirtual 108, 3) := by decide +kernel
theorem dX6_coefficient_39 : decode cX6_coefficient 39 = .ok (.ireturn, 1) := by decide +kernel
theorem dX6_about_0 : decode cX6_about 0 = .ok (.aload_n 0, 1) := by decide +kernel
theorem dX6_about_1 : decode cX6_about 1 = .ok (.iload_n 1, 1) := by decide +kernel
theorem dX6_about_2 : decode cX6_about 2 = .ok (.invokevirtual 55, 3) := by decide +kernel
theorem dX6_about_5 : decode cX6_about 5 = .ok (.astore_n 3, 1) := by decide +kernel
theorem dX6_about_6 : decode cX6_about 6 = .ok (.aload_n 3, 1) := by decide +kernel
theorem dX6_about_7 : decode cX6_about 7 = .ok (.ifnonnull 6, 3) := by decide +kernel
theorem dX6_about_10 : decode cX6_about 10 = .ok (.bipush (-2), 2) := by decide +kernel
theorem dX6_about_12 : decode cX6_about 12 = .ok (.ireturn, 1) := by decide +kernel
theorem dX6_about_13 : decode cX6_about 13 = .ok (.aload_n 3, 1) := by decide +kernel
theorem dX6_about_14 : decode cX6_about 14 = .ok (.getfield 99, 3) := by decide +kernel
theorem dX6_about_17 : decode cX6_about 17 = .ok (.astore 4, 2) := by decide +kernel
theorem dX6_about_19 : decode cX6_about 19 = .ok (.iload_n 2, 1) := by decide +kernel
theorem dX6_about_20 : decode cX6_about 20 = .ok (.tableswitch 154 0 9 #[56, 61, 66, 71, 76, 89, 107, 125, 143, 149], 56) := by decide +kernel
theorem dX6_about_76 : decode cX6_about 76 = .ok (.aload_n 3, 1) := by decide +kernel
theorem dX6_about_77 : decode cX6_about 77 = .ok (.getfield 67, 3) := by decide +kernel
theorem dX6_about_80 : decode cX6_about 80 = .ok (.ireturn, 1) := by decide +kernel
theorem dX6_about_81 : decode cX6_about 81 = .ok (.aload_n 3, 1) := by decide +kernel
theorem dX6_about_82 : decode cX6_about 82 = .ok (.getfield 111, 3) := by decide +kernel
theorem dX6_about_85 : decode cX6_about 85 = .ok (.ireturn, 1) := by decide +kernel
theorem dX6_about_86 : decode cX6_about 86 = .ok (.aload_n 3, 1) := by decide +kernel
theorem dX6_about_87 : decode cX6_about 87 = .ok (.getfield 114, 3) := by decide +kernel
theorem dX6_about_90 : decode cX6_about 90 = .ok (.ireturn, 1) := by decide +kernel
theorem dX6_about_91 : decode cX6_about 91 = .ok (.aload_n 3, 1) := by decide +kernel
theorem dX6_about_92 : decode cX6_about 92 = .ok (.getfield 81, 3) := by decide +kernel
theorem dX6_about_95 : decode cX6_about 95 = .ok (.ireturn, 1) := by decide +kernel
theorem dX6_about_96 : decode cX6_about 96 = .ok (.aload_n 3, 1) := by decide +kernel
theorem dX6_about_97 : decode cX6_about 97 = .ok (.getfield 84, 3) := by decide +kernel
theorem dX6_about_100 : decode cX6_about 100 = .ok (.ifCond .eq 7, 3) := by decide +kernel
theorem dX6_about_103 : decode cX6_about 103 = .ok (.iconst 1, 1) := by decide +kernel
theorem dX6_about_104 : decode cX6_about 104 = .ok (.goto 4, 3) := by decide +kernel
theorem dX6_about_107 : decode cX6_about 107 = .ok (.iconst 0, 1) := by decide +kernel
theorem dX6_about_108 : decode cX6_about 108 = .ok (.ireturn, 1) := by decide +kernel
theorem dX6_about_109 : decode cX6_about 109 = .ok (.aload 4, 2) := by decide +kernel
theorem dX6_about_111 : decode cX6_about 111 = .ok (.getfield 103, 3) := by decide +kernel
theorem dX6_about_114 : decode cX6_about 114 = .ok (.ifCond .eq 11, 3) := by decide +kernel
theorem dX6_about_117 : decode cX6_about 117 = .ok (.aload 4, 2) := by decide +kernel
theorem dX6_about_119 : decode cX6_about 119 = .ok (.getfield 117, 3) := by decide +kernel
theorem dX6_about_122 : decode cX6_about 122 = .ok (.goto 4, 3) := by decide +kernel
theorem dX6_about_125 : decode cX6_about 125 = .ok (.iconst (-1), 1) := by decide +kernel
theorem dX6_about_126 : decode cX6_about 126 = .ok (.ireturn, 1) := by decide +kernel
theorem dX6_about_127 : decode cX6_about 127 = .ok (.aload 4, 2) := by decide +kernel
theorem dX6_about_129 : decode cX6_about 129 = .ok (.getfield 103, 3) := by decide +kernel
theorem dX6_about_132 : decode cX6_about 132 = .ok (.ifCond .eq 11, 3) := by decide +kernel
theorem dX6_about_135 : decode cX6_about 135 = .ok (.aload 4, 2) := by decide +kernel
theorem dX6_about_137 : decode cX6_about 137 = .ok (.getfield 120, 3) := by decide +kernel
theorem dX6_about_140 : decode cX6_about 140 = .ok (.goto 4, 3) := by decide +kernel
theorem dX6_about_143 : decode cX6_about 143 = .ok (.iconst (-1), 1) := by decide +kernel
theorem dX6_about_144 : decode cX6_about 144 = .ok (.ireturn, 1) := by decide +kernel
theorem dX6_about_145 : decode cX6_about 145 = .ok (.aload 4, 2) := by decide +kernel
theorem dX6_about_147 : decode cX6_about 147 = .ok (.getfield 103, 3) := by decide +kernel
theorem dX6_about_150 : decode cX6_about 150 = .ok (.ifCond .eq 11, 3) := by decide +kernel
theorem dX6_about_153 : decode cX6_about 153 = .ok (.aload 4, 2) := by decide +kernel
theorem dX6_about_155 : decode cX6_about 155 = .ok (.getfield 123, 3) := by decide +kernel
theorem dX6_about_158 : decode cX6_about 158 = .ok (.goto 4, 3) := by decide +kernel
theorem dX6_about_161 : decode cX6_about 161 = .ok (.iconst (-1), 1) := by decide +kernel
theorem dX6_about_162 : decode cX6_about 162 = .ok (.ireturn, 1) := by decide +kernel
theorem dX6_about_163 : decode cX6_about 163 = .ok (.aload_n 0, 1) := by decide +kernel
theorem dX6_about_164 : decode cX6_about 164 = .ok (.iload_n 1, 1) := by decide +kernel
theorem dX6_about_165 : decode cX6_about 165 = .ok (.invokevirtual 126, 3) := by decide +kernel
theorem dX6_about_168 : decode cX6_about 168 = .ok (.ireturn, 1) := by decide +kernel
theorem dX6_about_169 : decode cX6_about 169 = .ok (.aload_n 3, 1) := by decide +kernel
theorem dX6_about_170 : decode cX6_about 170 = .ok (.invokevirtual 129, 3) := by decide +kernel
theorem dX6_about_173 : decode cX6_about 173 = .ok (.ireturn, 1) := by decide +kernel
theorem dX6_about_174 : decode cX6_about 174 = .ok (.bipush (-2), 2) := by decide +kernel
theorem dX6_about_176 : decode cX6_about 176 = .ok (.ireturn, 1) := by decide +kernel
theorem dX6_norm_0 : decode cX6_norm 0 = .ok (.aload_n 0, 1) := by decide +kernel
theorem dX6_norm_1 : decode cX6_norm 1 = .ok (.iload_n 1, 1) := by decide +kernel
theorem dX6_norm_2 : decode cX6_norm 2 = .ok (.invokevirtual 55, 3) := by decide +kernel
theorem dX6_norm_5 : decode cX6_norm 5 = .ok (.astore_n 2, 1) := by decide +kernel
theorem dX6_norm_6 : decode cX6_norm 6 = .ok (.aload_n 2, 1) := by decide +kernel
theorem dX6_norm_7 : decode cX6_norm 7 = .ok (.ifnull 13, 3) := by decide +kernel
theorem dX6_norm_10 : decode cX6_norm 10 = .ok (.aload_n 2, 1) := by decide +kernel
theorem dX6_norm_11 : decode cX6_norm 11 = .ok (.getfield 99, 3) := by decide +kernel
theorem dX6_norm_14 : decode cX6_norm 14 = .ok (.getfield 103, 3) := by decide +kernel
theorem dX6_norm_17 : decode cX6_norm 17 = .ok (.ifCond .ne 7, 3) := by decide +kernel
theorem dX6_norm_20 : decode cX6_norm 20 = .ok (.ldc2_w 133, 3) := by decide +kernel
theorem dX6_norm_23 : decode cX6_norm 23 = .ok (.lreturn, 1) := by decide +kernel
theorem dX6_norm_24 : decode cX6_norm 24 = .ok (.aload_n 2, 1) := by decide +kernel
theorem dX6_norm_25 : decode cX6_norm 25 = .ok (.getfield 99, 3) := by decide +kernel
theorem dX6_norm_28 : decode cX6_norm 28 = .ok (.getfield 135, 3) := by decide +kernel
theorem dX6_norm_31 : decode cX6_norm 31 = .ok (.lreturn, 1) := by decide +kernel
theorem dX6_join_0 : decode cX6_join 0 = .ok (.aload_n 0, 1) := by decide +kernel
theorem dX6_join_1 : decode cX6_join 1 = .ok (.iload_n 1, 1) := by decide +kernel
theorem dX6_join_2 : decode cX6_join 2 = .ok (.invokevirtual 55, 3) := by decide +kernel
theorem dX6_join_5 : decode cX6_join 5 = .ok (.astore_n 2, 1) := by decide +kernel
theorem dX6_join_6 : decode cX6_join 6 = .ok (.aload_n 2, 1) := by decide +kernel
theorem dX6_join_7 : decode cX6_join 7 = .ok (.ifnonnull 6, 3) := by decide +kernel
theorem dX6_join_10 : decode cX6_join 10 = .ok (.bipush (-2), 2) := by decide +kernel
theorem dX6_join_12 : decode cX6_join 12 = .ok (.ireturn, 1) := by decide +kernel
theorem dX6_join_13 : decode cX6_join 13 = .ok (.aload_n 2, 1) := by decide +kernel
theorem dX6_join_14 : decode cX6_join 14 = .ok (.getfield 99, 3) := by decide +kernel
theorem dX6_join_17 : decode cX6_join 17 = .ok (.getfield 103, 3) := by decide +kernel
theorem dX6_join_20 : decode cX6_join 20 = .ok (.ifCond .eq 44, 3) := by decide +kernel
theorem dX6_join_23 : decode cX6_join 23 = .ok (.aload_n 0, 1) := by decide +kernel
theorem dX6_join_24 : decode cX6_join 24 = .ok (.iload_n 1, 1) := by decide +kernel
theorem dX6_join_25 : decode cX6_join 25 = .ok (.invokevirtual 126, 3) := by decide +kernel
theorem dX6_join_28 : decode cX6_join 28 = .ok (.iconst (-1), 1) := by decide +kernel
theorem dX6_join_29 : decode cX6_join 29 = .ok (.if_icmp .ne 35, 3) := by decide +kernel
theorem dX6_join_32 : decode cX6_join 32 = .ok (.aload_n 0, 1) := by decide +kernel
theorem dX6_join_33 : decode cX6_join 33 = .ok (.invokevirtual 139, 3) := by decide +kernel
theorem dX6_join_36 : decode cX6_join 36 = .ok (.aload_n 2, 1) := by decide +kernel
theorem dX6_join_37 : decode cX6_join 37 = .ok (.invokevirtual 142, 3) := by decide +kernel
theorem dX6_join_40 : decode cX6_join 40 = .ok (.imul, 1) := by decide +kernel
theorem dX6_join_41 : decode cX6_join 41 = .ok (.bipush 16, 2) := by decide +kernel
theorem dX6_join_43 : decode cX6_join 43 = .ok (.if_icmp .gt 21, 3) := by decide +kernel
theorem dX6_join_46 : decode cX6_join 46 = .ok (.aload_n 0, 1) := by decide +kernel
theorem dX6_join_47 : decode cX6_join 47 = .ok (.getfield 23, 3) := by decide +kernel
theorem dX6_join_50 : decode cX6_join 50 = .ok (.iconst 0, 1) := by decide +kernel
theorem dX6_join_51 : decode cX6_join 51 = .ok (.aload_n 0, 1) := by decide +kernel
theorem dX6_join_52 : decode cX6_join 52 = .ok (.getfield 19, 3) := by decide +kernel
theorem dX6_join_55 : decode cX6_join 55 = .ok (.arraylength, 1) := by decide +kernel
theorem dX6_join_56 : decode cX6_join 56 = .ok (.iconst 1, 1) := by decide +kernel
theorem dX6_join_57 : decode cX6_join 57 = .ok (.isub, 1) := by decide +kernel
theorem dX6_join_58 : decode cX6_join 58 = .ok (.invokestatic 44, 3) := by decide +kernel
theorem dX6_join_61 : decode cX6_join 61 = .ok (.ifCond .ne 6, 3) := by decide +kernel
theorem dX6_join_64 : decode cX6_join 64 = .ok (.bipush (-3), 2) := by decide +kernel
theorem dX6_join_66 : decode cX6_join 66 = .ok (.ireturn, 1) := by decide +kernel
theorem dX6_join_67 : decode cX6_join 67 = .ok (.aload_n 0, 1) := by decide +kernel
theorem dX6_join_68 : decode cX6_join 68 = .ok (.getfield 19, 3) := by decide +kernel
theorem dX6_join_71 : decode cX6_join 71 = .ok (.aload_n 0, 1) := by decide +kernel
theorem dX6_join_72 : decode cX6_join 72 = .ok (.getfield 23, 3) := by decide +kernel
theorem dX6_join_75 : decode cX6_join 75 = .ok (.iload_n 1, 1) := by decide +kernel
theorem dX6_join_76 : decode cX6_join 76 = .ok (.iastore, 1) := by decide +kernel
theorem dX6_join_77 : decode cX6_join 77 = .ok (.aload_n 0, 1) := by decide +kernel
theorem dX6_join_78 : decode cX6_join 78 = .ok (.dup, 1) := by decide +kernel
theorem dX6_join_79 : decode cX6_join 79 = .ok (.getfield 23, 3) := by decide +kernel
theorem dX6_join_82 : decode cX6_join 82 = .ok (.iconst 1, 1) := by decide +kernel
theorem dX6_join_83 : decode cX6_join 83 = .ok (.iadd, 1) := by decide +kernel
theorem dX6_join_84 : decode cX6_join 84 = .ok (.putfield 23, 3) := by decide +kernel
theorem dX6_join_87 : decode cX6_join 87 = .ok (.aload_n 0, 1) := by decide +kernel
theorem dX6_join_88 : decode cX6_join 88 = .ok (.getfield 23, 3) := by decide +kernel
theorem dX6_join_91 : decode cX6_join 91 = .ok (.iconst 1, 1) := by decide +kernel
theorem dX6_join_92 : decode cX6_join 92 = .ok (.isub, 1) := by decide +kernel
theorem dX6_join_93 : decode cX6_join 93 = .ok (.ireturn, 1) := by decide +kernel
theorem dX6_part_0 : decode cX6_part 0 = .ok (.aload_n 0, 1) := by decide +kernel
theorem dX6_part_1 : decode cX6_part 1 = .ok (.getfield 23, 3) := by decide +kernel
theorem dX6_part_4 : decode cX6_part 4 = .ok (.istore_n 1, 1) := by decide +kernel
theorem dX6_part_5 : decode cX6_part 5 = .ok (.aload_n 0, 1) := by decide +kernel
theorem dX6_part_6 : decode cX6_part 6 = .ok (.iconst 0, 1) := by decide +kernel
theorem dX6_part_7 : decode cX6_part 7 = .ok (.putfield 23, 3) := by decide +kernel
theorem dX6_part_10 : decode cX6_part 10 = .ok (.iload_n 1, 1) := by decide +kernel
theorem dX6_part_11 : decode cX6_part 11 = .ok (.ireturn, 1) := by decide +kernel
theorem dX6_put_0 : decode cX6_put 0 = .ok (.iload_n 1, 1) := by decide +kernel
theorem dX6_put_1 : decode cX6_put 1 = .ok (.invokestatic 145, 3) := by decide +kernel
theorem dX6_put_4 : decode cX6_put 4 = .ok (.ifCond .ne 6, 3) := by decide +kernel
theorem dX6_put_7 : decode cX6_put 7 = .ok (.bipush (-2), 2) := by decide +kernel
theorem dX6_put_9 : decode cX6_put 9 = .ok (.ireturn, 1) := by decide +kernel
theorem dX6_put_10 : decode cX6_put 10 = .ok (.aload_n 0, 1) := by decide +kernel
theorem dX6_put_11 : decode cX6_put 11 = .ok (.iload_n 1, 1) := by decide +kernel
theorem dX6_put_12 : decode cX6_put 12 = .ok (.invokevirtual 148, 3) := by decide +kernel
theorem dX6_put_15 : decode cX6_put 15 = .ok (.ireturn, 1) := by decide +kernel
theorem dX6_ramp_0 : decode cX6_ramp 0 = .ok (.iload_n 1, 1) := by decide +kernel
theorem dX6_ramp_1 : decode cX6_ramp 1 = .ok (.invokestatic 145, 3) := by decide +kernel
theorem dX6_ramp_4 : decode cX6_ramp 4 = .ok (.ifCond .eq 13, 3) := by decide +kernel
theorem dX6_ramp_7 : decode cX6_ramp 7 = .ok (.iload_n 3, 1) := by decide +kernel
theorem dX6_ramp_8 : decode cX6_ramp 8 = .ok (.iconst 1, 1) := by decide +kernel
theorem dX6_ramp_9 : decode cX6_ramp 9 = .ok (.bipush 64, 2) := by decide +kernel
theorem dX6_ramp_11 : decode cX6_ramp 11 = .ok (.invokestatic 44, 3) := by decide +kernel
theorem dX6_ramp_14 : decode cX6_ramp 14 = .ok (.ifCond .ne 6, 3) := by decide +kernel
theorem dX6_ramp_17 : decode cX6_ramp 17 = .ok (.bipush (-2), 2) := by decide +kernel
theorem dX6_ramp_19 : decode cX6_ramp 19 = .ok (.ireturn, 1) := by decide +kernel
theorem dX6_ramp_20 : decode cX6_ramp 20 = .ok (.iconst 0, 1) := by decide +kernel
theorem dX6_ramp_21 : decode cX6_ramp 21 = .ok (.istore 4, 2) := by decide +kernel
theorem dX6_ramp_23 : decode cX6_ramp 23 = .ok (.iload_n 1, 1) := by decide +kernel
theorem dX6_ramp_24 : decode cX6_ramp 24 = .ok (.istore 5, 2) := by decide +kernel
theorem dX6_ramp_26 : decode cX6_ramp 26 = .ok (.iconst 0, 1) := by decide +kernel
theorem dX6_ramp_27 : decode cX6_ramp 27 = .ok (.istore 6, 2) := by decide +kernel
theorem dX6_ramp_29 : decode cX6_ramp 29 = .ok (.iload 6, 2) := by decide +kernel
theorem dX6_ramp_31 : decode cX6_ramp 31 = .ok (.iload_n 3, 1) := by decide +kernel
theorem dX6_ramp_32 : decode cX6_ramp 32 = .ok (.if_icmp .ge 27, 3) := by decide +kernel
theorem dX6_ramp_35 : decode cX6_ramp 35 = .ok (.iload 4, 2) := by decide +kernel
theorem dX6_ramp_37 : decode cX6_ramp 37 = .ok (.aload_n 0, 1) := by decide +kernel
theorem dX6_ramp_38 : decode cX6_ramp 38 = .ok (.iload 5, 2) := by decide +kernel
theorem dX6_ramp_40 : decode cX6_ramp 40 = .ok (.invokevirtual 148, 3) := by decide +kernel
theorem dX6_ramp_43 : decode cX6_ramp 43 = .ok (.iadd, 1) := by decide +kernel
theorem dX6_ramp_44 : decode cX6_ramp 44 = .ok (.istore 4, 2) := by decide +kernel
theorem dX6_ramp_46 : decode cX6_ramp 46 = .ok (.iload 5, 2) := by decide +kernel
theorem dX6_ramp_48 : decode cX6_ramp 48 = .ok (.iload_n 2, 1) := by decide +kernel
theorem dX6_ramp_49 : decode cX6_ramp 49 = .ok (.iadd, 1) := by decide +kernel
theorem dX6_ramp_50 : decode cX6_ramp 50 = .ok (.i2s, 1) := by decide +kernel
theorem dX6_ramp_51 : decode cX6_ramp 51 = .ok (.istore 5, 2) := by decide +kernel
theorem dX6_ramp_53 : decode cX6_ramp 53 = .ok (.iinc 6 1, 3) := by decide +kernel
theorem dX6_ramp_56 : decode cX6_ramp 56 = .ok (.goto (-27), 3) := by decide +kernel
theorem dX6_ramp_59 : decode cX6_ramp 59 = .ok (.iload 4, 2) := by decide +kernel
theorem dX6_ramp_61 : decode cX6_ramp 61 = .ok (.ireturn, 1) := by decide +kernel
theorem dX6_out_0 : decode cX6_out 0 = .ok (.aload_n 0, 1) := by decide +kernel
theorem dX6_out_1 : decode cX6_out 1 = .ok (.getfield 29, 3) := by decide +kernel
theorem dX6_out_4 : decode cX6_out 4 = .ok (.iload_n 1, 1) := by decide +kernel
theorem dX6_out_5 : decode cX6_out 5 = .ok (.invokevirtual 151, 3) := by decide +kernel
theorem dX6_out_8 : decode cX6_out 8 = .ok (.ifCond .ne 6, 3) := by decide +kernel
theorem dX6_out_11 : decode cX6_out 11 = .ok (.ldc 73, 2) := by decide +kernel
theorem dX6_out_13 : decode cX6_out 13 = .ok (.ireturn, 1) := by decide +kernel
theorem dX6_out_14 : decode cX6_out 14 = .ok (.aload_n 0, 1) := by decide +kernel
theorem dX6_out_15 : decode cX6_out 15 = .ok (.getfield 29, 3) := by decide +kernel
theorem dX6_out_18 : decode cX6_out 18 = .ok (.iload_n 1, 1) := by decide +kernel
theorem dX6_out_19 : decode cX6_out 19 = .ok (.invokevirtual 154, 3) := by decide +kernel
theorem dX6_out_22 : decode cX6_out 22 = .ok (.ireturn, 1) := by decide +kernel
theorem dX6_empty_0 : decode cX6_empty 0 = .ok (.aload_n 0, 1) := by decide +kernel
theorem dX6_empty_1 : decode cX6_empty 1 = .ok (.getfield 29, 3) := by decide +kernel
theorem dX6_empty_4 : decode cX6_empty 4 = .ok (.getfield 157, 3) := by decide +kernel
theorem dX6_empty_7 : decode cX6_empty 7 = .ok (.istore_n 1, 1) := by decide +kernel
theorem dX6_empty_8 : decode cX6_empty 8 = .ok (.aload_n 0, 1) := by decide +kernel
theorem dX6_empty_9 : decode cX6_empty 9 = .ok (.getfield 29, 3) := by decide +kernel
theorem dX6_empty_12 : decode cX6_empty 12 = .ok (.iconst 0, 1) := by decide +kernel
theorem dX6_empty_13 : decode cX6_empty 13 = .ok (.putfield 157, 3) := by decide +kernel
theorem dX6_empty_16 : decode cX6_empty 16 = .ok (.iload_n 1, 1) := by decide +kernel
theorem dX6_empty_17 : decode cX6_empty 17 = .ok (.ireturn, 1) := by decide +kernel
theorem dX6_reset_0 : decode cX6_reset 0 = .ok (.iconst 0, 1) := by decide +kernel
theorem dX6_reset_1 : decode cX6_reset 1 = .ok (.istore_n 1, 1) := by decide +kernel
theorem dX6_reset_2 : decode cX6_reset 2 = .ok (.iload_n 1, 1) := by decide +kernel
theorem dX6_reset_3 : decode cX6_reset 3 = .ok (.aload_n 0, 1) := by decide +kernel
theorem dX6_reset_4 : decode cX6_reset 4 = .ok (.getfield 15, 3) := by decide +kernel
theorem dX6_reset_7 : decode cX6_reset 7 = .ok (.if_icmp .ge 23, 3) := by decide +kernel
theorem dX6_reset_10 : decode cX6_reset 10 = .ok (.aload_n 0, 1) := by decide +kernel
theorem dX6_reset_11 : decode cX6_reset 11 = .ok (.iload_n 1, 1) := by decide +kernel
theorem dX6_reset_12 : decode cX6_reset 12 = .ok (.invokevirtual 55, 3) := by decide +kernel
theorem dX6_reset_15 : decode cX6_reset 15 = .ok (.astore_n 2, 1) := by decide +kernel
theorem dX6_reset_16 : decode cX6_reset 16 = .ok (.aload_n 2, 1) := by decide +kernel
theorem dX6_reset_17 : decode cX6_reset 17 = .ok (.ifnull 7, 3) := by decide +kernel
theorem dX6_reset_20 : decode cX6_reset 20 = .ok (.aload_n 2, 1) := by decide +kernel
theorem dX6_reset_21 : decode cX6_reset 21 = .ok (.invokevirtual 160, 3) := by decide +kernel
theorem dX6_reset_24 : decode cX6_reset 24 = .ok (.iinc 1 1, 3) := by decide +kernel
theorem dX6_reset_27 : decode cX6_reset 27 = .ok (.goto (-25), 3) := by decide +kernel
theorem dX6_reset_30 : decode cX6_reset 30 = .ok (.aload_n 0, 1) := by decide +kernel
theorem dX6_reset_31 : decode cX6_reset 31 = .ok (.getfield 15, 3) := by decide +kernel
theorem dX6_reset_34 : decode cX6_reset 34 = .ok (.ireturn, 1) := by decide +kernel
theorem dX6_through_0 : decode cX6_through 0 = .ok (.aload_n 0, 1) := by decide +kernel
theorem dX6_through_1 : decode cX6_through 1 = .ok (.iload_n 1, 1) := by decide +kernel
theorem dX6_through_2 : decode cX6_through 2 = .ok (.invokevirtual 55, 3) := by decide +kernel
theorem dX6_through_5 : decode cX6_through 5 = .ok (.astore_n 3, 1) := by decide +kernel
theorem dX6_through_6 : decode cX6_through 6 = .ok (.aload_n 3, 1) := by decide +kernel
theorem dX6_through_7 : decode cX6_through 7 = .ok (.ifnull 10, 3) := by decide +kernel
theorem dX6_through_10 : decode cX6_through 10 = .ok (.iload_n 2, 1) := by decide +kernel
theorem dX6_through_11 : decode cX6_through 11 = .ok (.invokestatic 145, 3) := by decide +kernel
theorem dX6_through_14 : decode cX6_through 14 = .ok (.ifCond .ne 6, 3) := by decide +kernel
theorem dX6_through_17 : decode cX6_through 17 = .ok (.ldc 73, 2) := by decide +kernel
theorem dX6_through_19 : decode cX6_through 19 = .ok (.ireturn, 1) := by decide +kernel
theorem dX6_through_20 : decode cX6_through 20 = .ok (.aload_n 3, 1) := by decide +kernel
theorem dX6_through_21 : decode cX6_through 21 = .ok (.getfield 99, 3) := by decide +kernel
theorem dX6_through_24 : decode cX6_through 24 = .ok (.getfield 103, 3) := by decide +kernel
theorem dX6_through_27 : decode cX6_through 27 = .ok (.ifCond .eq 11, 3) := by decide +kernel
theorem dX6_through_30 : decode cX6_through 30 = .ok (.aload_n 3, 1) := by decide +kernel
theorem dX6_through_31 : decode cX6_through 31 = .ok (.getfield 114, 3) := by decide +kernel
theorem dX6_through_34 : decode cX6_through 34 = .ok (.iconst 1, 1) := by decide +kernel
theorem dX6_through_35 : decode cX6_through 35 = .ok (.if_icmp .eq 6, 3) := by decide +kernel
theorem dX6_through_38 : decode cX6_through 38 = .ok (.ldc 163, 2) := by decide +kernel
theorem dX6_through_40 : decode cX6_through 40 = .ok (.ireturn, 1) := by decide +kernel
theorem dX6_through_41 : decode cX6_through 41 = .ok (.aload_n 3, 1) := by decide +kernel
theorem dX6_through_42 : decode cX6_through 42 = .ok (.iload_n 2, 1) := by decide +kernel
theorem dX6_through_43 : decode cX6_through 43 = .ok (.invokevirtual 164, 3) := by decide +kernel
theorem dX6_through_46 : decode cX6_through 46 = .ok (.ireturn, 1) := by decide +kernel
theorem dX6_told_0 : decode cX6_told 0 = .ok (.aload_n 0, 1) := by decide +kernel
theorem dX6_told_1 : decode cX6_told 1 = .ok (.iload_n 1, 1) := by decide +kernel
theorem dX6_told_2 : decode cX6_told 2 = .ok (.invokevirtual 55, 3) := by decide +kernel
theorem dX6_told_5 : decode cX6_told 5 = .ok (.astore_n 3, 1) := by decide +kernel
theorem dX6_told_6 : decode cX6_told 6 = .ok (.aload_n 3, 1) := by decide +kernel
theorem dX6_told_7 : decode cX6_told 7 = .ok (.ifnull 13, 3) := by decide +kernel
theorem dX6_told_10 : decode cX6_told 10 = .ok (.aload_n 3, 1) := by decide +kernel
theorem dX6_told_11 : decode cX6_told 11 = .ok (.getfield 167, 3) := by decide +kernel
theorem dX6_told_14 : decode cX6_told 14 = .ok (.getfield 171, 3) := by decide +kernel
theorem dX6_told_17 : decode cX6_told 17 = .ok (.ifCond .ne 5, 3) := by decide +kernel
theorem dX6_told_20 : decode cX6_told 20 = .ok (.lconst 0, 1) := by decide +kernel
theorem dX6_told_21 : decode cX6_told 21 = .ok (.lreturn, 1) := by decide +kernel
theorem dX6_told_22 : decode cX6_told 22 = .ok (.aload_n 3, 1) := by decide +kernel
theorem dX6_told_23 : decode cX6_told 23 = .ok (.getfield 167, 3) := by decide +kernel
theorem dX6_told_26 : decode cX6_told 26 = .ok (.astore 4, 2) := by decide +kernel
theorem dX6_told_28 : decode cX6_told 28 = .ok (.iload_n 2, 1) := by decide +kernel
theorem dX6_told_29 : decode cX6_told 29 = .ok (.tableswitch 72 0 4 #[35, 41, 47, 54, 60], 35) := by decide +kernel
theorem dX6_told_64 : decode cX6_told 64 = .ok (.aload 4, 2) := by decide +kernel
theorem dX6_told_66 : decode cX6_told 66 = .ok (.getfield 174, 3) := by decide +kernel
theorem dX6_told_69 : decode cX6_told 69 = .ok (.lreturn, 1) := by decide +kernel
theorem dX6_told_70 : decode cX6_told 70 = .ok (.aload 4, 2) := by decide +kernel
theorem dX6_told_72 : decode cX6_told 72 = .ok (.getfield 177, 3) := by decide +kernel
theorem dX6_told_75 : decode cX6_told 75 = .ok (.lreturn, 1) := by decide +kernel
theorem dX6_told_76 : decode cX6_told 76 = .ok (.aload 4, 2) := by decide +kernel
theorem dX6_told_78 : decode cX6_told 78 = .ok (.getfield 180, 3) := by decide +kernel
theorem dX6_told_81 : decode cX6_told 81 = .ok (.i2l, 1) := by decide +kernel
theorem dX6_told_82 : decode cX6_told 82 = .ok (.lreturn, 1) := by decide +kernel
theorem dX6_told_83 : decode cX6_told 83 = .ok (.aload 4, 2) := by decide +kernel
theorem dX6_told_85 : decode cX6_told 85 = .ok (.getfield 183, 3) := by decide +kernel
theorem dX6_told_88 : decode cX6_told 88 = .ok (.lreturn, 1) := by decide +kernel
theorem dX6_told_89 : decode cX6_told 89 = .ok (.aload_n 3, 1) := by decide +kernel
theorem dX6_told_90 : decode cX6_told 90 = .ok (.getfield 99, 3) := by decide +kernel
theorem dX6_told_93 : decode cX6_told 93 = .ok (.getfield 135, 3) := by decide +kernel
theorem dX6_told_96 : decode cX6_told 96 = .ok (.ldc2_w 186, 3) := by decide +kernel
theorem dX6_told_99 : decode cX6_told 99 = .ok (.lmul, 1) := by decide +kernel
theorem dX6_told_100 : decode cX6_told 100 = .ok (.lreturn, 1) := by decide +kernel
theorem dX6_told_101 : decode cX6_told 101 = .ok (.lconst 0, 1) := by decide +kernel
theorem dX6_told_102 : decode cX6_told 102 = .ok (.lreturn, 1) := by decide +kernel
theorem dX6_near_0 : decode cX6_near 0 = .ok (.aload_n 0, 1) := by decide +kernel
theorem dX6_near_1 : decode cX6_near 1 = .ok (.iload_n 1, 1) := by decide +kernel
theorem dX6_near_2 : decode cX6_near 2 = .ok (.invokevirtual 55, 3) := by decide +kernel
theorem dX6_near_5 : decode cX6_near 5 = .ok (.astore_n 2, 1) := by decide +kernel
theorem dX6_near_6 : decode cX6_near 6 = .ok (.aload_n 2, 1) := by decide +kernel
theorem dX6_near_7 : decode cX6_near 7 = .ok (.ifnonnull 6, 3) := by decide +kernel
theorem dX6_near_10 : decode cX6_near 10 = .ok (.bipush (-2), 2) := by decide +kernel
theorem dX6_near_12 : decode cX6_near 12 = .ok (.ireturn, 1) := by decide +kernel
theorem dX6_near_13 : decode cX6_near 13 = .ok (.aload_n 2, 1) := by decide +kernel
theorem dX6_near_14 : decode cX6_near 14 = .ok (.getfield 167, 3) := by decide +kernel
theorem dX6_near_17 : decode cX6_near 17 = .ok (.getfield 171, 3) := by decide +kernel
theorem dX6_near_20 : decode cX6_near 20 = .ok (.ifCond .ne 6, 3) := by decide +kernel
theorem dX6_near_23 : decode cX6_near 23 = .ok (.bipush (-3), 2) := by decide +kernel
theorem dX6_near_25 : decode cX6_near 25 = .ok (.ireturn, 1) := by decide +kernel
theorem dX6_near_26 : decode cX6_near 26 = .ok (.aload_n 2, 1) := by decide +kernel
theorem dX6_near_27 : decode cX6_near 27 = .ok (.getfield 167, 3) := by decide +kernel
theorem dX6_near_30 : decode cX6_near 30 = .ok (.aload_n 2, 1) := by decide +kernel
theorem dX6_near_31 : decode cX6_near 31 = .ok (.getfield 111, 3) := by decide +kernel
theorem dX6_near_34 : decode cX6_near 34 = .ok (.aload_n 2, 1) := by decide +kernel
theorem dX6_near_35 : decode cX6_near 35 = .ok (.getfield 99, 3) := by decide +kernel
theorem dX6_near_38 : decode cX6_near 38 = .ok (.getfield 117, 3) := by decide +kernel
theorem dX6_near_41 : decode cX6_near 41 = .ok (.invokevirtual 188, 3) := by decide +kernel
theorem dX6_near_44 : decode cX6_near 44 = .ok (.ifCond .eq 7, 3) := by decide +kernel
theorem dX6_near_47 : decode cX6_near 47 = .ok (.iconst 1, 1) := by decide +kernel
theorem dX6_near_48 : decode cX6_near 48 = .ok (.goto 4, 3) := by decide +kernel
theorem dX6_near_51 : decode cX6_near 51 = .ok (.iconst 0, 1) := by decide +kernel
theorem dX6_near_52 : decode cX6_near 52 = .ok (.ireturn, 1) := by decide +kernel
theorem dX6_counted_0 : decode cX6_counted 0 = .ok (.aload_n 0, 1) := by decide +kernel
theorem dX6_counted_1 : decode cX6_counted 1 = .ok (.iload_n 1, 1) := by decide +kernel
theorem dX6_counted_2 : decode cX6_counted 2 = .ok (.invokevirtual 55, 3) := by decide +kernel
theorem dX6_counted_5 : decode cX6_counted 5 = .ok (.astore_n 3, 1) := by decide +kernel
theorem dX6_counted_6 : decode cX6_counted 6 = .ok (.aload_n 3, 1) := by decide +kernel
theorem dX6_counted_7 : decode cX6_counted 7 = .ok (.ifnonnull 7, 3) := by decide +kernel
theorem dX6_counted_10 : decode cX6_counted 10 = .ok (.ldc2_w 133, 3) := by decide +kernel
theorem dX6_counted_13 : decode cX6_counted 13 = .ok (.lreturn, 1) := by decide +kernel
theorem dX6_counted_14 : decode cX6_counted 14 = .ok (.aload_n 3, 1) := by decide +kernel
theorem dX6_counted_15 : decode cX6_counted 15 = .ok (.getfield 99, 3) := by decide +kernel
theorem dX6_counted_18 : decode cX6_counted 18 = .ok (.getfield 103, 3) := by decide +kernel
theorem dX6_counted_21 : decode cX6_counted 21 = .ok (.istore 4, 2) := by decide +kernel
theorem dX6_counted_23 : decode cX6_counted 23 = .ok (.iload_n 2, 1) := by decide +kernel
theorem dX6_counted_24 : decode cX6_counted 24 = .ok (.tableswitch 70 0 2 #[28, 42, 56], 28) := by decide +kernel
theorem dX6_counted_52 : decode cX6_counted 52 = .ok (.iload 4, 2) := by decide +kernel
theorem dX6_counted_54 : decode cX6_counted 54 = .ok (.ifCond .eq 10, 3) := by decide +kernel
theorem dX6_counted_57 : decode cX6_counted 57 = .ok (.aload_n 3, 1) := by decide +kernel
theorem dX6_counted_58 : decode cX6_counted 58 = .ok (.getfield 191, 3) := by decide +kernel
theorem dX6_counted_61 : decode cX6_counted 61 = .ok (.goto 4, 3) := by decide +kernel
theorem dX6_counted_64 : decode cX6_counted 64 = .ok (.lconst 0, 1) := by decide +kernel
theorem dX6_counted_65 : decode cX6_counted 65 = .ok (.lreturn, 1) := by decide +kernel
theorem dX6_counted_66 : decode cX6_counted 66 = .ok (.iload 4, 2) := by decide +kernel
theorem dX6_counted_68 : decode cX6_counted 68 = .ok (.ifCond .eq 10, 3) := by decide +kernel
theorem dX6_counted_71 : decode cX6_counted 71 = .ok (.aload_n 3, 1) := by decide +kernel
theorem dX6_counted_72 : decode cX6_counted 72 = .ok (.getfield 194, 3) := by decide +kernel
theorem dX6_counted_75 : decode cX6_counted 75 = .ok (.goto 4, 3) := by decide +kernel
theorem dX6_counted_78 : decode cX6_counted 78 = .ok (.lconst 0, 1) := by decide +kernel
theorem dX6_counted_79 : decode cX6_counted 79 = .ok (.lreturn, 1) := by decide +kernel
theorem dX6_counted_80 : decode cX6_counted 80 = .ok (.iload 4, 2) := by decide +kernel
theorem dX6_counted_82 : decode cX6_counted 82 = .ok (.ifCond .eq 10, 3) := by decide +kernel
theorem dX6_counted_85 : decode cX6_counted 85 = .ok (.aload_n 3, 1) := by decide +kernel
theorem dX6_counted_86 : decode cX6_counted 86 = .ok (.getfield 197, 3) := by decide +kernel
theorem dX6_counted_89 : decode cX6_counted 89 = .ok (.goto 4, 3) := by decide +kernel
theorem dX6_counted_92 : decode cX6_counted 92 = .ok (.lconst 0, 1) := by decide +kernel
theorem dX6_counted_93 : decode cX6_counted 93 = .ok (.lreturn, 1) := by decide +kernel
theorem dX6_counted_94 : decode cX6_counted 94 = .ok (.ldc2_w 133, 3) := by decide +kernel
theorem dX6_counted_97 : decode cX6_counted 97 = .ok (.lreturn, 1) := by decide +kernel
theorem dX6_count_0 : decode cX6_count 0 = .ok (.iload_n 1, 1) := by decide +kernel
theorem dX6_count_1 : decode cX6_count 1 = .ok (.tableswitch 57 0 3 #[31, 36, 41, 49], 31) := by decide +kernel
theorem dX6_count_32 : decode cX6_count 32 = .ok (.aload_n 0, 1) := by decide +kernel
theorem dX6_count_33 : decode cX6_count 33 = .ok (.getfield 15, 3) := by decide +kernel
theorem dX6_count_36 : decode cX6_count 36 = .ok (.ireturn, 1) := by decide +kernel
theorem dX6_count_37 : decode cX6_count 37 = .ok (.aload_n 0, 1) := by decide +kernel
theorem dX6_count_38 : decode cX6_count 38 = .ok (.getfield 23, 3) := by decide +kernel
theorem dX6_count_41 : decode cX6_count 41 = .ok (.ireturn, 1) := by decide +kernel
theorem dX6_count_42 : decode cX6_count 42 = .ok (.aload_n 0, 1) := by decide +kernel
theorem dX6_count_43 : decode cX6_count 43 = .ok (.getfield 29, 3) := by decide +kernel
theorem dX6_count_46 : decode cX6_count 46 = .ok (.getfield 157, 3) := by decide +kernel
theorem dX6_count_49 : decode cX6_count 49 = .ok (.ireturn, 1) := by decide +kernel
theorem dX6_count_50 : decode cX6_count 50 = .ok (.aload_n 0, 1) := by decide +kernel
theorem dX6_count_51 : decode cX6_count 51 = .ok (.getfield 29, 3) := by decide +kernel
theorem dX6_count_54 : decode cX6_count 54 = .ok (.getfield 200, 3) := by decide +kernel
theorem dX6_count_57 : decode cX6_count 57 = .ok (.ireturn, 1) := by decide +kernel
theorem dX6_count_58 : decode cX6_count 58 = .ok (.bipush (-2), 2) := by decide +kernel
theorem dX6_count_60 : decode cX6_count 60 = .ok (.ireturn, 1) := by decide +kernel
theorem dX6_digest_0 : decode cX6_digest 0 = .ok (.ldc2_w 203, 3) := by decide +kernel
theorem dX6_digest_3 : decode cX6_digest 3 = .ok (.lstore_n 1, 1) := by decide +kernel
theorem dX6_digest_4 : decode cX6_digest 4 = .ok (.iconst 0, 1) := by decide +kernel
theorem dX6_digest_5 : decode cX6_digest 5 = .ok (.istore_n 3, 1) := by decide +kernel
theorem dX6_digest_6 : decode cX6_digest 6 = .ok (.iload_n 3, 1) := by decide +kernel
theorem dX6_digest_7 : decode cX6_digest 7 = .ok (.aload_n 0, 1) := by decide +kernel
theorem dX6_digest_8 : decode cX6_digest 8 = .ok (.getfield 15, 3) := by decide +kernel
theorem dX6_digest_11 : decode cX6_digest 11 = .ok (.if_icmp .ge 85, 3) := by decide +kernel
theorem dX6_digest_14 : decode cX6_digest 14 = .ok (.iconst 0, 1) := by decide +kernel
theorem dX6_digest_15 : decode cX6_digest 15 = .ok (.istore 4, 2) := by decide +kernel
theorem dX6_digest_17 : decode cX6_digest 17 = .ok (.iload 4, 2) := by decide +kernel
theorem dX6_digest_19 : decode cX6_digest 19 = .ok (.bipush 9, 2) := by decide +kernel
theorem dX6_digest_21 : decode cX6_digest 21 = .ok (.if_icmp .gt 24, 3) := by decide +kernel
theorem dX6_digest_24 : decode cX6_digest 24 = .ok (.ldc2_w 205, 3) := by decide +kernel
theorem dX6_digest_27 : decode cX6_digest 27 = .ok (.lload_n 1, 1) := by decide +kernel
theorem dX6_digest_28 : decode cX6_digest 28 = .ok (.lmul, 1) := by decide +kernel
theorem dX6_digest_29 : decode cX6_digest 29 = .ok (.aload_n 0, 1) := by decide +kernel
theorem dX6_digest_30 : decode cX6_digest 30 = .ok (.iload_n 3, 1) := by decide +kernel
theorem dX6_digest_31 : decode cX6_digest 31 = .ok (.iload 4, 2) := by decide +kernel
theorem dX6_digest_33 : decode cX6_digest 33 = .ok (.invokevirtual 207, 3) := by decide +kernel
theorem dX6_digest_36 : decode cX6_digest 36 = .ok (.i2l, 1) := by decide +kernel
theorem dX6_digest_37 : decode cX6_digest 37 = .ok (.ladd, 1) := by decide +kernel
theorem dX6_digest_38 : decode cX6_digest 38 = .ok (.lstore_n 1, 1) := by decide +kernel
theorem dX6_digest_39 : decode cX6_digest 39 = .ok (.iinc 4 1, 3) := by decide +kernel
theorem dX6_digest_42 : decode cX6_digest 42 = .ok (.goto (-25), 3) := by decide +kernel
theorem dX6_digest_45 : decode cX6_digest 45 = .ok (.aload_n 0, 1) := by decide +kernel
theorem dX6_digest_46 : decode cX6_digest 46 = .ok (.iload_n 3, 1) := by decide +kernel
theorem dX6_digest_47 : decode cX6_digest 47 = .ok (.invokevirtual 55, 3) := by decide +kernel
theorem dX6_digest_50 : decode cX6_digest 50 = .ok (.astore 4, 2) := by decide +kernel
theorem dX6_digest_52 : decode cX6_digest 52 = .ok (.aload 4, 2) := by decide +kernel
theorem dX6_digest_54 : decode cX6_digest 54 = .ok (.ifnull 10, 3) := by decide +kernel
theorem dX6_digest_57 : decode cX6_digest 57 = .ok (.aload 4, 2) := by decide +kernel
theorem dX6_digest_59 : decode cX6_digest 59 = .ok (.lload_n 1, 1) := by decide +kernel
theorem dX6_digest_60 : decode cX6_digest 60 = .ok (.invokevirtual 211, 3) := by decide +kernel
theorem dX6_digest_63 : decode cX6_digest 63 = .ok (.lstore_n 1, 1) := by decide +kernel
theorem dX6_digest_64 : decode cX6_digest 64 = .ok (.ldc2_w 205, 3) := by decide +kernel
theorem dX6_digest_67 : decode cX6_digest 67 = .ok (.lload_n 1, 1) := by decide +kernel
theorem dX6_digest_68 : decode cX6_digest 68 = .ok (.lmul, 1) := by decide +kernel
theorem dX6_digest_69 : decode cX6_digest 69 = .ok (.aload_n 0, 1) := by decide +kernel
theorem dX6_digest_70 : decode cX6_digest 70 = .ok (.iload_n 3, 1) := by decide +kernel
theorem dX6_digest_71 : decode cX6_digest 71 = .ok (.iconst 0, 1) := by decide +kernel
theorem dX6_digest_72 : decode cX6_digest 72 = .ok (.invokevirtual 215, 3) := by decide +kernel
theorem dX6_digest_75 : decode cX6_digest 75 = .ok (.ladd, 1) := by decide +kernel
theorem dX6_digest_76 : decode cX6_digest 76 = .ok (.lstore_n 1, 1) := by decide +kernel
theorem dX6_digest_77 : decode cX6_digest 77 = .ok (.ldc2_w 205, 3) := by decide +kernel
theorem dX6_digest_80 : decode cX6_digest 80 = .ok (.lload_n 1, 1) := by decide +kernel
theorem dX6_digest_81 : decode cX6_digest 81 = .ok (.lmul, 1) := by decide +kernel
theorem dX6_digest_82 : decode cX6_digest 82 = .ok (.aload_n 0, 1) := by decide +kernel
theorem dX6_digest_83 : decode cX6_digest 83 = .ok (.iload_n 3, 1) := by decide +kernel
theorem dX6_digest_84 : decode cX6_digest 84 = .ok (.iconst 1, 1) := by decide +kernel
theorem dX6_digest_85 : decode cX6_digest 85 = .ok (.invokevirtual 215, 3) := by decide +kernel
theorem dX6_digest_88 : decode cX6_digest 88 = .ok (.ladd, 1) := by decide +kernel
theorem dX6_digest_89 : decode cX6_digest 89 = .ok (.lstore_n 1, 1) := by decide +kernel
theorem dX6_digest_90 : decode cX6_digest 90 = .ok (.iinc 3 1, 3) := by decide +kernel
theorem dX6_digest_93 : decode cX6_digest 93 = .ok (.goto (-87), 3) := by decide +kernel
theorem dX6_digest_96 : decode cX6_digest 96 = .ok (.aload_n 0, 1) := by decide +kernel
theorem dX6_digest_97 : decode cX6_digest 97 = .ok (.getfield 29, 3) := by decide +kernel
theorem dX6_digest_100 : decode cX6_digest 100 = .ok (.lload_n 1, 1) := by decide +kernel
theorem dX6_digest_101 : decode cX6_digest 101 = .ok (.invokevirtual 219, 3) := by decide +kernel
theorem dX6_digest_104 : decode cX6_digest 104 = .ok (.lreturn, 1) := by decide +kernel
theorem dX6_within_0 : decode cX6_within 0 = .ok (.iload_n 0, 1) := by decide +kernel
theorem dX6_within_1 : decode cX6_within 1 = .ok (.iload_n 1, 1) := by decide +kernel
theorem dX6_within_2 : decode cX6_within 2 = .ok (.if_icmp .lt 12, 3) := by decide +kernel
theorem dX6_within_5 : decode cX6_within 5 = .ok (.iload_n 0, 1) := by decide +kernel
theorem dX6_within_6 : decode cX6_within 6 = .ok (.iload_n 2, 1) := by decide +kernel
theorem dX6_within_7 : decode cX6_within 7 = .ok (.if_icmp .gt 7, 3) := by decide +kernel
theorem dX6_within_10 : decode cX6_within 10 = .ok (.iconst 1, 1) := by decide +kernel
theorem dX6_within_11 : decode cX6_within 11 = .ok (.goto 4, 3) := by decide +kernel
theorem dX6_within_14 : decode cX6_within 14 = .ok (.iconst 0, 1) := by decide +kernel
theorem dX6_within_15 : decode cX6_within 15 = .ok (.ireturn, 1) := by decide +kernel
theorem dX6_isBy_0 : decode cX6_isBy 0 = .ok (.iload_n 0, 1) := by decide +kernel
theorem dX6_isBy_1 : decode cX6_isBy 1 = .ok (.iconst 1, 1) := by decide +kernel
theorem dX6_isBy_2 : decode cX6_isBy 2 = .ok (.iconst 4, 1) := by decide +kernel
theorem dX6_isBy_3 : decode cX6_isBy 3 = .ok (.invokestatic 44, 3) := by decide +kernel
theorem dX6_isBy_6 : decode cX6_isBy 6 = .ok (.ifCond .ne 14, 3) := by decide +kernel
theorem dX6_isBy_9 : decode cX6_isBy 9 = .ok (.iload_n 0, 1) := by decide +kernel
theorem dX6_isBy_10 : decode cX6_isBy 10 = .ok (.bipush (-4), 2) := by decide +kernel
theorem dX6_isBy_12 : decode cX6_isBy 12 = .ok (.bipush (-2), 2) := by decide +kernel
theorem dX6_isBy_14 : decode cX6_isBy 14 = .ok (.invokestatic 44, 3) := by decide +kernel
theorem dX6_isBy_17 : decode cX6_isBy 17 = .ok (.ifCond .eq 7, 3) := by decide +kernel
theorem dX6_isBy_20 : decode cX6_isBy 20 = .ok (.iconst 1, 1) := by decide +kernel
theorem dX6_isBy_21 : decode cX6_isBy 21 = .ok (.goto 4, 3) := by decide +kernel
theorem dX6_isBy_24 : decode cX6_isBy 24 = .ok (.iconst 0, 1) := by decide +kernel
theorem dX6_isBy_25 : decode cX6_isBy 25 = .ok (.ireturn, 1) := by decide +kernel
theorem dX6_isSample_0 : decode cX6_isSample 0 = .ok (.iload_n 0, 1) := by decide +kernel
theorem dX6_isSample_1 : decode cX6_isSample 1 = .ok (.sipush (-32768), 3) := by decide +kernel
theorem dX6_isSample_4 : decode cX6_isSample 4 = .ok (.sipush 32767, 3) := by decide +kernel
theorem dX6_isSample_7 : decode cX6_isSample 7 = .ok (.invokestatic 44, 3) := by decide +kernel
theorem dX6_isSample_10 : decode cX6_isSample 10 = .ok (.ireturn, 1) := by decide +kernel
theorem dX6_isPlan_0 : decode cX6_isPlan 0 = .ok (.iload_n 0, 1) := by decide +kernel
theorem dX6_isPlan_1 : decode cX6_isPlan 1 = .ok (.iconst 4, 1) := by decide +kernel
theorem dX6_isPlan_2 : decode cX6_isPlan 2 = .ok (.bipush 16, 2) := by decide +kernel
theorem dX6_isPlan_4 : decode cX6_isPlan 4 = .ok (.invokestatic 44, 3) := by decide +kernel
theorem dX6_isPlan_7 : decode cX6_isPlan 7 = .ok (.ifCond .eq 18, 3) := by decide +kernel
theorem dX6_isPlan_10 : decode cX6_isPlan 10 = .ok (.iload_n 1, 1) := by decide +kernel
theorem dX6_isPlan_11 : decode cX6_isPlan 11 = .ok (.bipush 18, 2) := by decide +kernel
theorem dX6_isPlan_13 : decode cX6_isPlan 13 = .ok (.bipush 50, 2) := by decide +kernel
theorem dX6_isPlan_15 : decode cX6_isPlan 15 = .ok (.invokestatic 44, 3) := by decide +kernel
theorem dX6_isPlan_18 : decode cX6_isPlan 18 = .ok (.ifCond .eq 7, 3) := by decide +kernel
theorem dX6_isPlan_21 : decode cX6_isPlan 21 = .ok (.iconst 1, 1) := by decide +kernel
theorem dX6_isPlan_22 : decode cX6_isPlan 22 = .ok (.goto 4, 3) := by decide +kernel
theorem dX6_isPlan_25 : decode cX6_isPlan 25 = .ok (.iconst 0, 1) := by decide +kernel
theorem dX6_isPlan_26 : decode cX6_isPlan 26 = .ok (.ireturn, 1) := by decide +kernel
theorem dX6_find_0 : decode cX6_find 0 = .ok (.iload_n 1, 1) := by decide +kernel
theorem dX6_find_1 : decode cX6_find 1 = .ok (.ifCond .lt 20, 3) := by decide +kernel
theorem dX6_find_4 : decode cX6_find 4 = .ok (.iload_n 1, 1) := by decide +kernel
theorem dX6_find_5 : decode cX6_find 5 = .ok (.aload_n 0, 1) := by decide +kernel
theorem dX6_find_6 : decode cX6_find 6 = .ok (.getfield 15, 3) := by decide +kernel
theorem dX6_find_9 : decode cX6_find 9 = .ok (.if_icmp .ge 12, 3) := by decide +kernel
theorem dX6_find_12 : decode cX6_find 12 = .ok (.iload_n 1, 1) := by decide +kernel
theorem dX6_find_13 : decode cX6_find 13 = .ok (.aload_n 0, 1) := by decide +kernel
theorem dX6_find_14 : decode cX6_find 14 = .ok (.getfield 11, 3) := by decide +kernel
theorem dX6_find_17 : decode cX6_find 17 = .ok (.arraylength, 1) := by decide +kernel
theorem dX6_find_18 : decode cX6_find 18 = .ok (.if_icmp .lt 5, 3) := by decide +kernel
theorem dX6_find_21 : decode cX6_find 21 = .ok (.aconst_null, 1) := by decide +kernel
theorem dX6_find_22 : decode cX6_find 22 = .ok (.areturn, 1) := by decide +kernel
theorem dX6_find_23 : decode cX6_find 23 = .ok (.aload_n 0, 1) := by decide +kernel
theorem dX6_find_24 : decode cX6_find 24 = .ok (.getfield 11, 3) := by decide +kernel
theorem dX6_find_27 : decode cX6_find 27 = .ok (.iload_n 1, 1) := by decide +kernel
theorem dX6_find_28 : decode cX6_find 28 = .ok (.aaload, 1) := by decide +kernel
theorem dX6_find_29 : decode cX6_find 29 = .ok (.areturn, 1) := by decide +kernel
theorem dX6_placeOf_0 : decode cX6_placeOf 0 = .ok (.iconst 0, 1) := by decide +kernel
theorem dX6_placeOf_1 : decode cX6_placeOf 1 = .ok (.istore_n 2, 1) := by decide +kernel
theorem dX6_placeOf_2 : decode cX6_placeOf 2 = .ok (.iload_n 2, 1) := by decide +kernel
theorem dX6_placeOf_3 : decode cX6_placeOf 3 = .ok (.aload_n 0, 1) := by decide +kernel
theorem dX6_placeOf_4 : decode cX6_placeOf 4 = .ok (.getfield 23, 3) := by decide +kernel
theorem dX6_placeOf_7 : decode cX6_placeOf 7 = .ok (.if_icmp .ge 30, 3) := by decide +kernel
theorem dX6_placeOf_10 : decode cX6_placeOf 10 = .ok (.iload_n 2, 1) := by decide +kernel
theorem dX6_placeOf_11 : decode cX6_placeOf 11 = .ok (.aload_n 0, 1) := by decide +kernel
theorem dX6_placeOf_12 : decode cX6_placeOf 12 = .ok (.getfield 19, 3) := by decide +kernel
theorem dX6_placeOf_15 : decode cX6_placeOf 15 = .ok (.arraylength, 1) := by decide +kernel
theorem dX6_placeOf_16 : decode cX6_placeOf 16 = .ok (.if_icmp .ge 21, 3) := by decide +kernel
theorem dX6_placeOf_19 : decode cX6_placeOf 19 = .ok (.aload_n 0, 1) := by decide +kernel
theorem dX6_placeOf_20 : decode cX6_placeOf 20 = .ok (.getfield 19, 3) := by decide +kernel
theorem dX6_placeOf_23 : decode cX6_placeOf 23 = .ok (.iload_n 2, 1) := by decide +kernel
theorem dX6_placeOf_24 : decode cX6_placeOf 24 = .ok (.iaload, 1) := by decide +kernel
theorem dX6_placeOf_25 : decode cX6_placeOf 25 = .ok (.iload_n 1, 1) := by decide +kernel
theorem dX6_placeOf_26 : decode cX6_placeOf 26 = .ok (.if_icmp .ne 5, 3) := by decide +kernel
theorem dX6_placeOf_29 : decode cX6_placeOf 29 = .ok (.iload_n 2, 1) := by decide +kernel
theorem dX6_placeOf_30 : decode cX6_placeOf 30 = .ok (.ireturn, 1) := by decide +kernel
theorem dX6_placeOf_31 : decode cX6_placeOf 31 = .ok (.iinc 2 1, 3) := by decide +kernel
theorem dX6_placeOf_34 : decode cX6_placeOf 34 = .ok (.goto (-32), 3) := by decide +kernel
theorem dX6_placeOf_37 : decode cX6_placeOf 37 = .ok (.iconst (-1), 1) := by decide +kernel
theorem dX6_placeOf_38 : decode cX6_placeOf 38 = .ok (.ireturn, 1) := by decide +kernel
theorem dX6_unplan_0 : decode cX6_unplan 0 = .ok (.aload_n 2, 1) := by decide +kernel
theorem dX6_unplan_1 : decode cX6_unplan 1 = .ok (.invokevirtual 222, 3) := by decide +kernel
theorem dX6_unplan_4 : decode cX6_unplan 4 = .ok (.aload_n 0, 1) := by decide +kernel
theorem dX6_unplan_5 : decode cX6_unplan 5 = .ok (.iload_n 1, 1) := by decide +kernel
theorem dX6_unplan_6 : decode cX6_unplan 6 = .ok (.invokevirtual 126, 3) := by decide +kernel
theorem dX6_unplan_9 : decode cX6_unplan 9 = .ok (.istore_n 3, 1) := by decide +kernel
theorem dX6_unplan_10 : decode cX6_unplan 10 = .ok (.iload_n 3, 1) := by decide +kernel
theorem dX6_unplan_11 : decode cX6_unplan 11 = .ok (.iconst (-1), 1) := by decide +kernel
theorem dX6_unplan_12 : decode cX6_unplan 12 = .ok (.if_icmp .ne 4, 3) := by decide +kernel
theorem dX6_unplan_15 : decode cX6_unplan 15 = .ok (.return_, 1) := by decide +kernel
theorem dX6_unplan_16 : decode cX6_unplan 16 = .ok (.iload_n 3, 1) := by decide +kernel
theorem dX6_unplan_17 : decode cX6_unplan 17 = .ok (.istore 4, 2) := by decide +kernel
theorem dX6_unplan_19 : decode cX6_unplan 19 = .ok (.iload 4, 2) := by decide +kernel
theorem dX6_unplan_21 : decode cX6_unplan 21 = .ok (.iconst 1, 1) := by decide +kernel
theorem dX6_unplan_22 : decode cX6_unplan 22 = .ok (.iadd, 1) := by decide +kernel
theorem dX6_unplan_23 : decode cX6_unplan 23 = .ok (.aload_n 0, 1) := by decide +kernel
theorem dX6_unplan_24 : decode cX6_unplan 24 = .ok (.getfield 23, 3) := by decide +kernel
theorem dX6_unplan_27 : decode cX6_unplan 27 = .ok (.if_icmp .ge 37, 3) := by decide +kernel
theorem dX6_unplan_30 : decode cX6_unplan 30 = .ok (.iload 4, 2) := by decide +kernel
theorem dX6_unplan_32 : decode cX6_unplan 32 = .ok (.iconst 1, 1) := by decide +kernel
theorem dX6_unplan_33 : decode cX6_unplan 33 = .ok (.iadd, 1) := by decide +kernel
theorem dX6_unplan_34 : decode cX6_unplan 34 = .ok (.aload_n 0, 1) := by decide +kernel
theorem dX6_unplan_35 : decode cX6_unplan 35 = .ok (.getfield 19, 3) := by decide +kernel
theorem dX6_unplan_38 : decode cX6_unplan 38 = .ok (.arraylength, 1) := by decide +kernel
theorem dX6_unplan_39 : decode cX6_unplan 39 = .ok (.if_icmp .ge 25, 3) := by decide +kernel
theorem dX6_unplan_42 : decode cX6_unplan 42 = .ok (.aload_n 0, 1) := by decide +kernel
theorem dX6_unplan_43 : decode cX6_unplan 43 = .ok (.getfield 19, 3) := by decide +kernel
theorem dX6_unplan_46 : decode cX6_unplan 46 = .ok (.iload 4, 2) := by decide +kernel
theorem dX6_unplan_48 : decode cX6_unplan 48 = .ok (.aload_n 0, 1) := by decide +kernel
theorem dX6_unplan_49 : decode cX6_unplan 49 = .ok (.getfield 19, 3) := by decide +kernel
theorem dX6_unplan_52 : decode cX6_unplan 52 = .ok (.iload 4, 2) := by decide +kernel
theorem dX6_unplan_54 : decode cX6_unplan 54 = .ok (.iconst 1, 1) := by decide +kernel
theorem dX6_unplan_55 : decode cX6_unplan 55 = .ok (.iadd, 1) := by decide +kernel
theorem dX6_unplan_56 : decode cX6_unplan 56 = .ok (.iaload, 1) := by decide +kernel
theorem dX6_unplan_57 : decode cX6_unplan 57 = .ok (.iastore, 1) := by decide +kernel
theorem dX6_unplan_58 : decode cX6_unplan 58 = .ok (.iinc 4 1, 3) := by decide +kernel
theorem dX6_unplan_61 : decode cX6_unplan 61 = .ok (.goto (-42), 3) := by decide +kernel
theorem dX6_unplan_64 : decode cX6_unplan 64 = .ok (.aload_n 0, 1) := by decide +kernel
theorem dX6_unplan_65 : decode cX6_unplan 65 = .ok (.dup, 1) := by decide +kernel
theorem dX6_unplan_66 : decode cX6_unplan 66 = .ok (.getfield 23, 3) := by decide +kernel
theorem dX6_unplan_69 : decode cX6_unplan 69 = .ok (.iconst 1, 1) := by decide +kernel
theorem dX6_unplan_70 : decode cX6_unplan 70 = .ok (.isub, 1) := by decide +kernel
theorem dX6_unplan_71 : decode cX6_unplan 71 = .ok (.putfield 23, 3) := by decide +kernel
theorem dX6_unplan_74 : decode cX6_unplan 74 = .ok (.return_, 1) := by decide +kernel
theorem dX6_filledByChain_0 : decode cX6_filledByChain 0 = .ok (.iconst 1, 1) := by decide +kernel
theorem dX6_filledByChain_1 : decode cX6_filledByChain 1 = .ok (.istore_n 1, 1) := by decide +kernel
theorem dX6_filledByChain_2 : decode cX6_filledByChain 2 = .ok (.iconst 0, 1) := by decide +kernel
theorem dX6_filledByChain_3 : decode cX6_filledByChain 3 = .ok (.istore_n 2, 1) := by decide +kernel
theorem dX6_filledByChain_4 : decode cX6_filledByChain 4 = .ok (.iload_n 2, 1) := by decide +kernel
theorem dX6_filledByChain_5 : decode cX6_filledByChain 5 = .ok (.aload_n 0, 1) := by decide +kernel
theorem dX6_filledByChain_6 : decode cX6_filledByChain 6 = .ok (.getfield 23, 3) := by decide +kernel
theorem dX6_filledByChain_9 : decode cX6_filledByChain 9 = .ok (.if_icmp .ge 40, 3) := by decide +kernel
theorem dX6_filledByChain_12 : decode cX6_filledByChain 12 = .ok (.iload_n 2, 1) := by decide +kernel
theorem dX6_filledByChain_13 : decode cX6_filledByChain 13 = .ok (.aload_n 0, 1) := by decide +kernel
theorem dX6_filledByChain_14 : decode cX6_filledByChain 14 = .ok (.getfield 19, 3) := by decide +kernel
theorem dX6_filledByChain_17 : decode cX6_filledByChain 17 = .ok (.arraylength, 1) := by decide +kernel
theorem dX6_filledByChain_18 : decode cX6_filledByChain 18 = .ok (.if_icmp .ge 31, 3) := by decide +kernel
theorem dX6_filledByChain_21 : decode cX6_filledByChain 21 = .ok (.aload_n 0, 1) := by decide +kernel
theorem dX6_filledByChain_22 : decode cX6_filledByChain 22 = .ok (.aload_n 0, 1) := by decide +kernel
theorem dX6_filledByChain_23 : decode cX6_filledByChain 23 = .ok (.getfield 19, 3) := by decide +kernel
theorem dX6_filledByChain_26 : decode cX6_filledByChain 26 = .ok (.iload_n 2, 1) := by decide +kernel
theorem dX6_filledByChain_27 : decode cX6_filledByChain 27 = .ok (.iaload, 1) := by decide +kernel
theorem dX6_filledByChain_28 : decode cX6_filledByChain 28 = .ok (.invokevirtual 55, 3) := by decide +kernel
theorem dX6_filledByChain_31 : decode cX6_filledByChain 31 = .ok (.astore_n 3, 1) := by decide +kernel
theorem dX6_filledByChain_32 : decode cX6_filledByChain 32 = .ok (.aload_n 3, 1) := by decide +kernel
theorem dX6_filledByChain_33 : decode cX6_filledByChain 33 = .ok (.ifnull 10, 3) := by decide +kernel
theorem dX6_filledByChain_36 : decode cX6_filledByChain 36 = .ok (.iload_n 1, 1) := by decide +kernel
theorem dX6_filledByChain_37 : decode cX6_filledByChain 37 = .ok (.aload_n 3, 1) := by decide +kernel
theorem dX6_filledByChain_38 : decode cX6_filledByChain 38 = .ok (.invokevirtual 142, 3) := by decide +kernel
theorem dX6_filledByChain_41 : decode cX6_filledByChain 41 = .ok (.imul, 1) := by decide +kernel
theorem dX6_filledByChain_42 : decode cX6_filledByChain 42 = .ok (.istore_n 1, 1) := by decide +kernel
theorem dX6_filledByChain_43 : decode cX6_filledByChain 43 = .ok (.iinc 2 1, 3) := by decide +kernel
theorem dX6_filledByChain_46 : decode cX6_filledByChain 46 = .ok (.goto (-42), 3) := by decide +kernel
theorem dX6_filledByChain_49 : decode cX6_filledByChain 49 = .ok (.iload_n 1, 1) := by decide +kernel
theorem dX6_filledByChain_50 : decode cX6_filledByChain 50 = .ok (.ireturn, 1) := by decide +kernel
theorem dX6_send_0 : decode cX6_send 0 = .ok (.aload_n 0, 1) := by decide +kernel
theorem dX6_send_1 : decode cX6_send 1 = .ok (.getfield 36, 3) := by decide +kernel
theorem dX6_send_4 : decode cX6_send 4 = .ok (.astore_n 2, 1) := by decide +kernel
theorem dX6_send_5 : decode cX6_send 5 = .ok (.aload_n 0, 1) := by decide +kernel
theorem dX6_send_6 : decode cX6_send 6 = .ok (.getfield 40, 3) := by decide +kernel
theorem dX6_send_9 : decode cX6_send 9 = .ok (.astore_n 3, 1) := by decide +kernel
theorem dX6_send_10 : decode cX6_send 10 = .ok (.aload_n 2, 1) := by decide +kernel
theorem dX6_send_11 : decode cX6_send 11 = .ok (.invokevirtual 225, 3) := by decide +kernel
theorem dX6_send_14 : decode cX6_send 14 = .ok (.aload_n 2, 1) := by decide +kernel
theorem dX6_send_15 : decode cX6_send 15 = .ok (.iload_n 1, 1) := by decide +kernel
theorem dX6_send_16 : decode cX6_send 16 = .ok (.invokevirtual 228, 3) := by decide +kernel
theorem dX6_send_19 : decode cX6_send 19 = .ok (.iconst 0, 1) := by decide +kernel
theorem dX6_send_20 : decode cX6_send 20 = .ok (.istore 4, 2) := by decide +kernel
theorem dX6_send_22 : decode cX6_send 22 = .ok (.iload 4, 2) := by decide +kernel
theorem dX6_send_24 : decode cX6_send 24 = .ok (.aload_n 0, 1) := by decide +kernel
theorem dX6_send_25 : decode cX6_send 25 = .ok (.getfield 23, 3) := by decide +kernel
theorem dX6_send_28 : decode cX6_send 28 = .ok (.if_icmp .ge 52, 3) := by decide +kernel
theorem dX6_send_31 : decode cX6_send 31 = .ok (.iload 4, 2) := by decide +kernel
theorem dX6_send_33 : decode cX6_send 33 = .ok (.aload_n 0, 1) := by decide +kernel
theorem dX6_send_34 : decode cX6_send 34 = .ok (.getfield 19, 3) := by decide +kernel
theorem dX6_send_37 : decode cX6_send 37 = .ok (.arraylength, 1) := by decide +kernel
theorem dX6_send_38 : decode cX6_send 38 = .ok (.if_icmp .ge 42, 3) := by decide +kernel
theorem dX6_send_41 : decode cX6_send 41 = .ok (.aload_n 0, 1) := by decide +kernel
theorem dX6_send_42 : decode cX6_send 42 = .ok (.aload_n 0, 1) := by decide +kernel
theorem dX6_send_43 : decode cX6_send 43 = .ok (.getfield 19, 3) := by decide +kernel
theorem dX6_send_46 : decode cX6_send 46 = .ok (.iload 4, 2) := by decide +kernel
theorem dX6_send_48 : decode cX6_send 48 = .ok (.iaload, 1) := by decide +kernel
theorem dX6_send_49 : decode cX6_send 49 = .ok (.invokevirtual 55, 3) := by decide +kernel
theorem dX6_send_52 : decode cX6_send 52 = .ok (.astore 5, 2) := by decide +kernel
theorem dX6_send_54 : decode cX6_send 54 = .ok (.aload 5, 2) := by decide +kernel
theorem dX6_send_56 : decode cX6_send 56 = .ok (.ifnull 18, 3) := by decide +kernel
theorem dX6_send_59 : decode cX6_send 59 = .ok (.aload 5, 2) := by decide +kernel
theorem dX6_send_61 : decode cX6_send 61 = .ok (.aload_n 2, 1) := by decide +kernel
theorem dX6_send_62 : decode cX6_send 62 = .ok (.aload_n 3, 1) := by decide +kernel
theorem dX6_send_63 : decode cX6_send 63 = .ok (.invokevirtual 232, 3) := by decide +kernel
theorem dX6_send_66 : decode cX6_send 66 = .ok (.aload_n 2, 1) := by decide +kernel
theorem dX6_send_67 : decode cX6_send 67 = .ok (.astore 6, 2) := by decide +kernel
theorem dX6_send_69 : decode cX6_send 69 = .ok (.aload_n 3, 1) := by decide +kernel
theorem dX6_send_70 : decode cX6_send 70 = .ok (.astore_n 2, 1) := by decide +kernel
theorem dX6_send_71 : decode cX6_send 71 = .ok (.aload 6, 2) := by decide +kernel
theorem dX6_send_73 : decode cX6_send 73 = .ok (.astore_n 3, 1) := by decide +kernel
theorem dX6_send_74 : decode cX6_send 74 = .ok (.iinc 4 1, 3) := by decide +kernel
theorem dX6_send_77 : decode cX6_send 77 = .ok (.goto (-55), 3) := by decide +kernel
theorem dX6_send_80 : decode cX6_send 80 = .ok (.iconst 0, 1) := by decide +kernel
theorem dX6_send_81 : decode cX6_send 81 = .ok (.istore 4, 2) := by decide +kernel
theorem dX6_send_83 : decode cX6_send 83 = .ok (.iload 4, 2) := by decide +kernel
theorem dX6_send_85 : decode cX6_send 85 = .ok (.aload_n 2, 1) := by decide +kernel
theorem dX6_send_86 : decode cX6_send 86 = .ok (.getfield 236, 3) := by decide +kernel
theorem dX6_send_89 : decode cX6_send 89 = .ok (.if_icmp .ge 22, 3) := by decide +kernel
theorem dX6_send_92 : decode cX6_send 92 = .ok (.aload_n 0, 1) := by decide +kernel
theorem dX6_send_93 : decode cX6_send 93 = .ok (.getfield 29, 3) := by decide +kernel
theorem dX6_send_96 : decode cX6_send 96 = .ok (.aload_n 2, 1) := by decide +kernel
theorem dX6_send_97 : decode cX6_send 97 = .ok (.iload 4, 2) := by decide +kernel
theorem dX6_send_99 : decode cX6_send 99 = .ok (.invokevirtual 237, 3) := by decide +kernel
theorem dX6_send_102 : decode cX6_send 102 = .ok (.invokevirtual 238, 3) := by decide +kernel
theorem dX6_send_105 : decode cX6_send 105 = .ok (.iinc 4 1, 3) := by decide +kernel
theorem dX6_send_108 : decode cX6_send 108 = .ok (.goto (-25), 3) := by decide +kernel
theorem dX6_send_111 : decode cX6_send 111 = .ok (.aload_n 2, 1) := by decide +kernel
theorem dX6_send_112 : decode cX6_send 112 = .ok (.getfield 236, 3) := by decide +kernel
theorem dX6_send_115 : decode cX6_send 115 = .ok (.ireturn, 1) := by decide +kernel
theorem dX7_init_0 : decode cX7_init 0 = .ok (.aload_n 0, 1) := by decide +kernel
theorem dX7_init_1 : decode cX7_init 1 = .ok (.invokespecial 1, 3) := by decide +kernel
theorem dX7_init_4 : decode cX7_init 4 = .ok (.aload_n 0, 1) := by decide +kernel
theorem dX7_init_5 : decode cX7_init 5 = .ok (.bipush 8, 2) := by decide +kernel
theorem dX7_init_7 : decode cX7_init 7 = .ok (.newarray .int, 2) := by decide +kernel
theorem dX7_init_9 : decode cX7_init 9 = .ok (.putfield 7, 3) := by decide +kernel
theorem dX7_init_12 : decode cX7_init 12 = .ok (.aload_n 0, 1) := by decide +kernel
theorem dX7_init_13 : decode cX7_init 13 = .ok (.bipush 8, 2) := by decide +kernel
theorem dX7_init_15 : decode cX7_init 15 = .ok (.newarray .int, 2) := by decide +kernel
theorem dX7_init_17 : decode cX7_init 17 = .ok (.putfield 13, 3) := by decide +kernel
theorem dX7_init_20 : decode cX7_init 20 = .ok (.aload_n 0, 1) := by decide +kernel
theorem dX7_init_21 : decode cX7_init 21 = .ok (.bipush 8, 2) := by decide +kernel
theorem dX7_init_23 : decode cX7_init 23 = .ok (.newarray .int, 2) := by decide +kernel
theorem dX7_init_25 : decode cX7_init 25 = .ok (.putfield 16, 3) := by decide +kernel
theorem dX7_init_28 : decode cX7_init 28 = .ok (.aload_n 0, 1) := by decide +kernel
theorem dX7_init_29 : decode cX7_init 29 = .ok (.sipush 256, 3) := by decide +kernel
theorem dX7_init_32 : decode cX7_init 32 = .ok (.newarray .int, 2) := by decide +kernel
theorem dX7_init_34 : decode cX7_init 34 = .ok (.putfield 19, 3) := by decide +kernel
theorem dX7_init_37 : decode cX7_init 37 = .ok (.aload_n 0, 1) := by decide +kernel
theorem dX7_init_38 : decode cX7_init 38 = .ok (.bipush 8, 2) := by decide +kernel
theorem dX7_init_40 : decode cX7_init 40 = .ok (.newarray .int, 2) := by decide +kernel
theorem dX7_init_42 : decode cX7_init 42 = .ok (.putfield 22, 3) := by decide +kernel
theorem dX7_init_45 : decode cX7_init 45 = .ok (.aload_n 0, 1) := by decide +kernel
theorem dX7_init_46 : decode cX7_init 46 = .ok (.bipush 8, 2) := by decide +kernel
theorem dX7_init_48 : decode cX7_init 48 = .ok (.newarray .boolean, 2) := by decide +kernel
theorem dX7_init_50 : decode cX7_init 50 = .ok (.putfield 25, 3) := by decide +kernel
theorem dX7_init_53 : decode cX7_init 53 = .ok (.aload_n 0, 1) := by decide +kernel
theorem dX7_init_54 : decode cX7_init 54 = .ok (.bipush 8, 2) := by decide +kernel
theorem dX7_init_56 : decode cX7_init 56 = .ok (.newarray .boolean, 2) := by decide +kernel
theorem dX7_init_58 : decode cX7_init 58 = .ok (.putfield 29, 3) := by decide +kernel
theorem dX7_init_61 : decode cX7_init 61 = .ok (.aload_n 0, 1) := by decide +kernel
theorem dX7_init_62 : decode cX7_init 62 = .ok (.bipush 8, 2) := by decide +kernel
theorem dX7_init_64 : decode cX7_init 64 = .ok (.newarray .int, 2) := by decide +kernel
theorem dX7_init_66 : decode cX7_init 66 = .ok (.putfield 32, 3) := by decide +kernel
theorem dX7_init_69 : decode cX7_init 69 = .ok (.aload_n 0, 1) := by decide +kernel
theorem dX7_init_70 : decode cX7_init 70 = .ok (.bipush 8, 2) := by decide +kernel
theorem dX7_init_72 : decode cX7_init 72 = .ok (.newarray .int, 2) := by decide +kernel
theorem dX7_init_74 : decode cX7_init 74 = .ok (.putfield 35, 3) := by decide +kernel
theorem dX7_init_77 : decode cX7_init 77 = .ok (.aload_n 0, 1) := by decide +kernel
theorem dX7_init_78 : decode cX7_init 78 = .ok (.bipush 8, 2) := by decide +kernel
theorem dX7_init_80 : decode cX7_init 80 = .ok (.newarray .int, 2) := by decide +kernel
theorem dX7_init_82 : decode cX7_init 82 = .ok (.putfield 38, 3) := by decide +kernel
theorem dX7_init_85 : decode cX7_init 85 = .ok (.aload_n 0, 1) := by decide +kernel
theorem dX7_init_86 : decode cX7_init 86 = .ok (.sipush 256, 3) := by decide +kernel
theorem dX7_init_89 : decode cX7_init 89 = .ok (.newarray .int, 2) := by decide +kernel
theorem dX7_init_91 : decode cX7_init 91 = .ok (.putfield 41, 3) := by decide +kernel
theorem dX7_init_94 : decode cX7_init 94 = .ok (.aload_n 0, 1) := by decide +kernel
theorem dX7_init_95 : decode cX7_init 95 = .ok (.sipush 256, 3) := by decide +kernel
theorem dX7_init_98 : decode cX7_init 98 = .ok (.newarray .int, 2) := by decide +kernel
theorem dX7_init_100 : decode cX7_init 100 = .ok (.putfield 44, 3) := by decide +kernel
theorem dX7_init_103 : decode cX7_init 103 = .ok (.aload_n 0, 1) := by decide +kernel
theorem dX7_init_104 : decode cX7_init 104 = .ok (.bipush 8, 2) := by decide +kernel
theorem dX7_init_106 : decode cX7_init 106 = .ok (.newarray .int, 2) := by decide +kernel
theorem dX7_init_108 : decode cX7_init 108 = .ok (.putfield 47, 3) := by decide +kernel
theorem dX7_init_111 : decode cX7_init 111 = .ok (.aload_n 0, 1) := by decide +kernel
theorem dX7_init_112 : decode cX7_init 112 = .ok (.bipush 8, 2) := by decide +kernel
theorem dX7_init_114 : decode cX7_init 114 = .ok (.newarray .long, 2) := by decide +kernel
theorem dX7_init_116 : decode cX7_init 116 = .ok (.putfield 50, 3) := by decide +kernel
theorem dX7_init_119 : decode cX7_init 119 = .ok (.aload_n 0, 1) := by decide +kernel
theorem dX7_init_120 : decode cX7_init 120 = .ok (.bipush 8, 2) := by decide +kernel
theorem dX7_init_122 : decode cX7_init 122 = .ok (.newarray .long, 2) := by decide +kernel
theorem dX7_init_124 : decode cX7_init 124 = .ok (.putfield 54, 3) := by decide +kernel
theorem dX7_init_127 : decode cX7_init 127 = .ok (.aload_n 0, 1) := by decide +kernel
theorem dX7_init_128 : decode cX7_init 128 = .ok (.bipush 8, 2) := by decide +kernel
theorem dX7_init_130 : decode cX7_init 130 = .ok (.newarray .long, 2) := by decide +kernel
theorem dX7_init_132 : decode cX7_init 132 = .ok (.putfield 57, 3) := by decide +kernel
theorem dX7_init_135 : decode cX7_init 135 = .ok (.aload_n 0, 1) := by decide +kernel
theorem dX7_init_136 : decode cX7_init 136 = .ok (.bipush 8, 2) := by decide +kernel
theorem dX7_init_138 : decode cX7_init 138 = .ok (.newarray .boolean, 2) := by decide +kernel
theorem dX7_init_140 : decode cX7_init 140 = .ok (.putfield 60, 3) := by decide +kernel
theorem dX7_init_143 : decode cX7_init 143 = .ok (.aload_n 0, 1) := by decide +kernel
theorem dX7_init_144 : decode cX7_init 144 = .ok (.bipush 8, 2) := by decide +kernel
theorem dX7_init_146 : decode cX7_init 146 = .ok (.newarray .long, 2) := by decide +kernel
theorem dX7_init_148 : decode cX7_init 148 = .ok (.putfield 63, 3) := by decide +kernel
theorem dX7_init_151 : decode cX7_init 151 = .ok (.aload_n 0, 1) := by decide +kernel
theorem dX7_init_152 : decode cX7_init 152 = .ok (.bipush 8, 2) := by decide +kernel
theorem dX7_init_154 : decode cX7_init 154 = .ok (.newarray .long, 2) := by decide +kernel
theorem dX7_init_156 : decode cX7_init 156 = .ok (.putfield 66, 3) := by decide +kernel
theorem dX7_init_159 : decode cX7_init 159 = .ok (.aload_n 0, 1) := by decide +kernel
theorem dX7_init_160 : decode cX7_init 160 = .ok (.bipush 8, 2) := by decide +kernel
theorem dX7_init_162 : decode cX7_init 162 = .ok (.newarray .int, 2) := by decide +kernel
theorem dX7_init_164 : decode cX7_init 164 = .ok (.putfield 69, 3) := by decide +kernel
theorem dX7_init_167 : decode cX7_init 167 = .ok (.aload_n 0, 1) := by decide +kernel
theorem dX7_init_168 : decode cX7_init 168 = .ok (.bipush 8, 2) := by decide +kernel
theorem dX7_init_170 : decode cX7_init 170 = .ok (.newarray .long, 2) := by decide +kernel
theorem dX7_init_172 : decode cX7_init 172 = .ok (.putfield 72, 3) := by decide +kernel
theorem dX7_init_175 : decode cX7_init 175 = .ok (.aload_n 0, 1) := by decide +kernel
theorem dX7_init_176 : decode cX7_init 176 = .ok (.bipush 8, 2) := by decide +kernel
theorem dX7_init_178 : decode cX7_init 178 = .ok (.newarray .long, 2) := by decide +kernel
theorem dX7_init_180 : decode cX7_init 180 = .ok (.putfield 75, 3) := by decide +kernel
theorem dX7_init_183 : decode cX7_init 183 = .ok (.aload_n 0, 1) := by decide +kernel
theorem dX7_init_184 : decode cX7_init 184 = .ok (.bipush 8, 2) := by decide +kernel
theorem dX7_init_186 : decode cX7_init 186 = .ok (.newarray .int, 2) := by decide +kernel
theorem dX7_init_188 : decode cX7_init 188 = .ok (.putfield 78, 3) := by decide +kernel
theorem dX7_init_191 : decode cX7_init 191 = .ok (.aload_n 0, 1) := by decide +kernel
theorem dX7_init_192 : decode cX7_init 192 = .ok (.bipush 8, 2) := by decide +kernel
theorem dX7_init_194 : decode cX7_init 194 = .ok (.newarray .int, 2) := by decide +kernel
theorem dX7_init_196 : decode cX7_init 196 = .ok (.putfield 81, 3) := by decide +kernel
theorem dX7_init_199 : decode cX7_init 199 = .ok (.aload_n 0, 1) := by decide +kernel
theorem dX7_init_200 : decode cX7_init 200 = .ok (.sipush 600, 3) := by decide +kernel
theorem dX7_init_203 : decode cX7_init 203 = .ok (.newarray .int, 2) := by decide +kernel
theorem dX7_init_205 : decode cX7_init 205 = .ok (.putfield 84, 3) := by decide +kernel
theorem dX7_init_208 : decode cX7_init 208 = .ok (.aload_n 0, 1) := by decide +kernel
theorem dX7_init_209 : decode cX7_init 209 = .ok (.bipush 64, 2) := by decide +kernel
theorem dX7_init_211 : decode cX7_init 211 = .ok (.newarray .int, 2) := by decide +kernel
theorem dX7_init_213 : decode cX7_init 213 = .ok (.putfield 87, 3) := by decide +kernel
theorem dX7_init_216 : decode cX7_init 216 = .ok (.aload_n 0, 1) := by decide +kernel
theorem dX7_init_217 : decode cX7_init 217 = .ok (.bipush 64, 2) := by decide +kernel
theorem dX7_init_219 : decode cX7_init 219 = .ok (.newarray .int, 2) := by decide +kernel
theorem dX7_init_221 : decode cX7_init 221 = .ok (.putfield 90, 3) := by decide +kernel
theorem dX7_init_224 : decode cX7_init 224 = .ok (.return_, 1) := by decide +kernel
theorem dX7_in_0 : decode cX7_in 0 = .ok (.lload_n 0, 1) := by decide +kernel
theorem dX7_in_1 : decode cX7_in 1 = .ok (.lload_n 2, 1) := by decide +kernel
theorem dX7_in_2 : decode cX7_in 2 = .ok (.lcmp, 1) := by decide +kernel
theorem dX7_in_3 : decode cX7_in 3 = .ok (.ifCond .lt 14, 3) := by decide +kernel
theorem dX7_in_6 : decode cX7_in 6 = .ok (.lload_n 0, 1) := by decide +kernel
theorem dX7_in_7 : decode cX7_in 7 = .ok (.lload 4, 2) := by decide +kernel
theorem dX7_in_9 : decode cX7_in 9 = .ok (.lcmp, 1) := by decide +kernel
theorem dX7_in_10 : decode cX7_in 10 = .ok (.ifCond .gt 7, 3) := by decide +kernel
theorem dX7_in_13 : decode cX7_in 13 = .ok (.iconst 1, 1) := by decide +kernel
theorem dX7_in_14 : decode cX7_in 14 = .ok (.goto 4, 3) := by decide +kernel
theorem dX7_in_17 : decode cX7_in 17 = .ok (.iconst 0, 1) := by decide +kernel
theorem dX7_in_18 : decode cX7_in 18 = .ok (.ireturn, 1) := by decide +kernel
theorem dX7_isStage_0 : decode cX7_isStage 0 = .ok (.iload_n 1, 1) := by decide +kernel
theorem dX7_isStage_1 : decode cX7_isStage 1 = .ok (.i2l, 1) := by decide +kernel
theorem dX7_isStage_2 : decode cX7_isStage 2 = .ok (.lconst 0, 1) := by decide +kernel
theorem dX7_isStage_3 : decode cX7_isStage 3 = .ok (.aload_n 0, 1) := by decide +kernel
theorem dX7_isStage_4 : decode cX7_isStage 4 = .ok (.getfield 93, 3) := by decide +kernel
theorem dX7_isStage_7 : decode cX7_isStage 7 = .ok (.iconst 1, 1) := by decide +kernel
theorem dX7_isStage_8 : decode cX7_isStage 8 = .ok (.isub, 1) := by decide +kernel
theorem dX7_isStage_9 : decode cX7_isStage 9 = .ok (.i2l, 1) := by decide +kernel
theorem dX7_isStage_10 : decode cX7_isStage 10 = .ok (.invokestatic 97, 3) := by decide +kernel
theorem dX7_isStage_13 : decode cX7_isStage 13 = .ok (.ireturn, 1) := by decide +kernel
theorem dX7_size_0 : decode cX7_size 0 = .ok (.lload_n 0, 1) := by decide +kernel
theorem dX7_size_1 : decode cX7_size 1 = .ok (.lconst 0, 1) := by decide +kernel
theorem dX7_size_2 : decode cX7_size 2 = .ok (.lcmp, 1) := by decide +kernel
theorem dX7_size_3 : decode cX7_size 3 = .ok (.ifCond .ge 8, 3) := by decide +kernel
theorem dX7_size_6 : decode cX7_size 6 = .ok (.lload_n 0, 1) := by decide +kernel
theorem dX7_size_7 : decode cX7_size 7 = .ok (.lneg, 1) := by decide +kernel
theorem dX7_size_8 : decode cX7_size 8 = .ok (.goto 4, 3) := by decide +kernel
theorem dX7_size_11 : decode cX7_size 11 = .ok (.lload_n 0, 1) := by decide +kernel
theorem dX7_size_12 : decode cX7_size 12 = .ok (.lreturn, 1) := by decide +kernel
theorem dX7_stage_0 : decode cX7_stage 0 = .ok (.iload_n 1, 1) := by decide +kernel
theorem dX7_stage_1 : decode cX7_stage 1 = .ok (.i2l, 1) := by decide +kernel
theorem dX7_stage_2 : decode cX7_stage 2 = .ok (.lconst 1, 1) := by decide +kernel
theorem dX7_stage_3 : decode cX7_stage 3 = .ok (.ldc2_w 101, 3) := by decide +kernel
theorem dX7_stage_6 : decode cX7_stage 6 = .ok (.invokestatic 97, 3) := by decide +kernel
theorem dX7_stage_9 : decode cX7_stage 9 = .ok (.ifCond .eq 29, 3) := by decide +kernel
theorem dX7_stage_12 : decode cX7_stage 12 = .ok (.iload_n 2, 1) := by decide +kernel
theorem dX7_stage_13 : decode cX7_stage 13 = .ok (.i2l, 1) := by decide +kernel
theorem dX7_stage_14 : decode cX7_stage 14 = .ok (.lconst 1, 1) := by decide +kernel
theorem dX7_stage_15 : decode cX7_stage 15 = .ok (.ldc2_w 103, 3) := by decide +kernel
theorem dX7_stage_18 : decode cX7_stage 18 = .ok (.invokestatic 97, 3) := by decide +kernel
theorem dX7_stage_21 : decode cX7_stage 21 = .ok (.ifCond .ne 20, 3) := by decide +kernel
theorem dX7_stage_24 : decode cX7_stage 24 = .ok (.iload_n 2, 1) := by decide +kernel
theorem dX7_stage_25 : decode cX7_stage 25 = .ok (.i2l, 1) := by decide +kernel
theorem dX7_stage_26 : decode cX7_stage 26 = .ok (.ldc2_w 105, 3) := by decide +kernel
theorem dX7_stage_29 : decode cX7_stage 29 = .ok (.ldc2_w 107, 3) := by decide +kernel
theorem dX7_stage_32 : decode cX7_stage 32 = .ok (.invokestatic 97, 3) := by decide +kernel
theorem dX7_stage_35 : decode cX7_stage 35 = .ok (.ifCond .ne 6, 3) := by decide +kernel
theorem dX7_stage_38 : decode cX7_stage 38 = .ok (.bipush (-2), 2) := by decide +kernel
theorem dX7_stage_40 : decode cX7_stage 40 = .ok (.ireturn, 1) := by decide +kernel
theorem dX7_stage_41 : decode cX7_stage 41 = .ok (.aload_n 0, 1) := by decide +kernel
theorem dX7_stage_42 : decode cX7_stage 42 = .ok (.getfield 93, 3) := by decide +kernel
theorem dX7_stage_45 : decode cX7_stage 45 = .ok (.bipush 8, 2) := by decide +kernel
theorem dX7_stage_47 : decode cX7_stage 47 = .ok (.if_icmp .ne 6, 3) := by decide +kernel
theorem dX7_stage_50 : decode cX7_stage 50 = .ok (.bipush (-4), 2) := by decide +kernel
theorem dX7_stage_52 : decode cX7_stage 52 = .ok (.ireturn, 1) := by decide +kernel
theorem dX7_stage_53 : decode cX7_stage 53 = .ok (.aload_n 0, 1) := by decide +kernel
theorem dX7_stage_54 : decode cX7_stage 54 = .ok (.getfield 7, 3) := by decide +kernel
theorem dX7_stage_57 : decode cX7_stage 57 = .ok (.aload_n 0, 1) := by decide +kernel
theorem dX7_stage_58 : decode cX7_stage 58 = .ok (.getfield 93, 3) := by decide +kernel
theorem dX7_stage_61 : decode cX7_stage 61 = .ok (.iload_n 1, 1) := by decide +kernel
theorem dX7_stage_62 : decode cX7_stage 62 = .ok (.iastore, 1) := by decide +kernel
theorem dX7_stage_63 : decode cX7_stage 63 = .ok (.aload_n 0, 1) := by decide +kernel
theorem dX7_stage_64 : decode cX7_stage 64 = .ok (.getfield 13, 3) := by decide +kernel
theorem dX7_stage_67 : decode cX7_stage 67 = .ok (.aload_n 0, 1) := by decide +kernel
theorem dX7_stage_68 : decode cX7_stage 68 = .ok (.getfield 93, 3) := by decide +kernel
theorem dX7_stage_71 : decode cX7_stage 71 = .ok (.iload_n 2, 1) := by decide +kernel
theorem dX7_stage_72 : decode cX7_stage 72 = .ok (.iastore, 1) := by decide +kernel
theorem dX7_stage_73 : decode cX7_stage 73 = .ok (.aload_n 0, 1) := by decide +kernel
theorem dX7_stage_74 : decode cX7_stage 74 = .ok (.dup, 1) := by decide +kernel
theorem dX7_stage_75 : decode cX7_stage 75 = .ok (.getfield 93, 3) := by decide +kernel
theorem dX7_stage_78 : decode cX7_stage 78 = .ok (.iconst 1, 1) := by decide +kernel
theorem dX7_stage_79 : decode cX7_stage 79 = .ok (.iadd, 1) := by decide +kernel
theorem dX7_stage_80 : decode cX7_stage 80 = .ok (.putfield 93, 3) := by decide +kernel
theorem dX7_stage_83 : decode cX7_stage 83 = .ok (.aload_n 0, 1) := by decide +kernel
theorem dX7_stage_84 : decode cX7_stage 84 = .ok (.getfield 93, 3) := by decide +kernel
theorem dX7_stage_87 : decode cX7_stage 87 = .ok (.iconst 1, 1) := by decide +kernel
theorem dX7_stage_88 : decode cX7_stage 88 = .ok (.isub, 1) := by decide +kernel
theorem dX7_stage_89 : decode cX7_stage 89 = .ok (.ireturn, 1) := by decide +kernel
theorem dX7_placeOf_0 : decode cX7_placeOf 0 = .ok (.iconst 0, 1) := by decide +kernel
theorem dX7_placeOf_1 : decode cX7_placeOf 1 = .ok (.istore_n 2, 1) := by decide +kernel
theorem dX7_placeOf_2 : decode cX7_placeOf 2 = .ok (.iload_n 2, 1) := by decide +kernel
theorem dX7_placeOf_3 : decode cX7_placeOf 3 = .ok (.aload_n 0, 1) := by decide +kernel
theorem dX7_placeOf_4 : decode cX7_placeOf 4 = .ok (.getfield 109, 3) := by decide +kernel
theorem dX7_placeOf_7 : decode cX7_placeOf 7 = .ok (.if_icmp .ge 21, 3) := by decide +kernel
theorem dX7_placeOf_10 : decode cX7_placeOf 10 = .ok (.aload_n 0, 1) := by decide +kernel
theorem dX7_placeOf_11 : decode cX7_placeOf 11 = .ok (.getfield 81, 3) := by decide +kernel
theorem dX7_placeOf_14 : decode cX7_placeOf 14 = .ok (.iload_n 2, 1) := by decide +kernel
theorem dX7_placeOf_15 : decode cX7_placeOf 15 = .ok (.iaload, 1) := by decide +kernel
theorem dX7_placeOf_16 : decode cX7_placeOf 16 = .ok (.iload_n 1, 1) := by decide +kernel
theorem dX7_placeOf_17 : decode cX7_placeOf 17 = .ok (.if_icmp .ne 5, 3) := by decide +kernel
theorem dX7_placeOf_20 : decode cX7_placeOf 20 = .ok (.iload_n 2, 1) := by decide +kernel
theorem dX7_placeOf_21 : decode cX7_placeOf 21 = .ok (.ireturn, 1) := by decide +kernel
theorem dX7_placeOf_22 : decode cX7_placeOf 22 = .ok (.iinc 2 1, 3) := by decide +kernel
theorem dX7_placeOf_25 : decode cX7_placeOf 25 = .ok (.goto (-23), 3) := by decide +kernel
theorem dX7_placeOf_28 : decode cX7_placeOf 28 = .ok (.iconst (-1), 1) := by decide +kernel
theorem dX7_placeOf_29 : decode cX7_placeOf 29 = .ok (.ireturn, 1) := by decide +kernel
theorem dX7_unplan_0 : decode cX7_unplan 0 = .ok (.aload_n 0, 1) := by decide +kernel
theorem dX7_unplan_1 : decode cX7_unplan 1 = .ok (.getfield 29, 3) := by decide +kernel
theorem dX7_unplan_4 : decode cX7_unplan 4 = .ok (.iload_n 1, 1) := by decide +kernel
theorem dX7_unplan_5 : decode cX7_unplan 5 = .ok (.iconst 0, 1) := by decide +kernel
theorem dX7_unplan_6 : decode cX7_unplan 6 = .ok (.bastore, 1) := by decide +kernel
theorem dX7_unplan_7 : decode cX7_unplan 7 = .ok (.aload_n 0, 1) := by decide +kernel
theorem dX7_unplan_8 : decode cX7_unplan 8 = .ok (.iload_n 1, 1) := by decide +kernel
theorem dX7_unplan_9 : decode cX7_unplan 9 = .ok (.invokevirtual 112, 3) := by decide +kernel
theorem dX7_unplan_12 : decode cX7_unplan 12 = .ok (.istore_n 2, 1) := by decide +kernel
theorem dX7_unplan_13 : decode cX7_unplan 13 = .ok (.iload_n 2, 1) := by decide +kernel
theorem dX7_unplan_14 : decode cX7_unplan 14 = .ok (.istore_n 3, 1) := by decide +kernel
theorem dX7_unplan_15 : decode cX7_unplan 15 = .ok (.iload_n 3, 1) := by decide +kernel
theorem dX7_unplan_16 : decode cX7_unplan 16 = .ok (.iconst (-1), 1) := by decide +kernel
theorem dX7_unplan_17 : decode cX7_unplan 17 = .ok (.if_icmp .eq 33, 3) := by decide +kernel
theorem dX7_unplan_20 : decode cX7_unplan 20 = .ok (.iload_n 3, 1) := by decide +kernel
theorem dX7_unplan_21 : decode cX7_unplan 21 = .ok (.aload_n 0, 1) := by decide +kernel
theorem dX7_unplan_22 : decode cX7_unplan 22 = .ok (.getfield 109, 3) := by decide +kernel
theorem dX7_unplan_25 : decode cX7_unplan 25 = .ok (.iconst 1, 1) := by decide +kernel
theorem dX7_unplan_26 : decode cX7_unplan 26 = .ok (.isub, 1) := by decide +kernel
theorem dX7_unplan_27 : decode cX7_unplan 27 = .ok (.if_icmp .ge 23, 3) := by decide +kernel
theorem dX7_unplan_30 : decode cX7_unplan 30 = .ok (.aload_n 0, 1) := by decide +kernel
theorem dX7_unplan_31 : decode cX7_unplan 31 = .ok (.getfield 81, 3) := by decide +kernel
theorem dX7_unplan_34 : decode cX7_unplan 34 = .ok (.iload_n 3, 1) := by decide +kernel
theorem dX7_unplan_35 : decode cX7_unplan 35 = .ok (.aload_n 0, 1) := by decide +kernel
theorem dX7_unplan_36 : decode cX7_unplan 36 = .ok (.getfield 81, 3) := by decide +kernel
theorem dX7_unplan_39 : decode cX7_unplan 39 = .ok (.iload_n 3, 1) := by decide +kernel
theorem dX7_unplan_40 : decode cX7_unplan 40 = .ok (.iconst 1, 1) := by decide +kernel
theorem dX7_unplan_41 : decode cX7_unplan 41 = .ok (.iadd, 1) := by decide +kernel
theorem dX7_unplan_42 : decode cX7_unplan 42 = .ok (.iaload, 1) := by decide +kernel
theorem dX7_unplan_43 : decode cX7_unplan 43 = .ok (.iastore, 1) := by decide +kernel
theorem dX7_unplan_44 : decode cX7_unplan 44 = .ok (.iinc 3 1, 3) := by decide +kernel
theorem dX7_unplan_47 : decode cX7_unplan 47 = .ok (.goto (-32), 3) := by decide +kernel
theorem dX7_unplan_50 : decode cX7_unplan 50 = .ok (.aload_n 0, 1) := by decide +kernel
theorem dX7_unplan_51 : decode cX7_unplan 51 = .ok (.dup, 1) := by decide +kernel
theorem dX7_unplan_52 : decode cX7_unplan 52 = .ok (.getfield 109, 3) := by decide +kernel
theorem dX7_unplan_55 : decode cX7_unplan 55 = .ok (.iload_n 2, 1) := by decide +kernel
theorem dX7_unplan_56 : decode cX7_unplan 56 = .ok (.iconst (-1), 1) := by decide +kernel
theorem dX7_unplan_57 : decode cX7_unplan 57 = .ok (.if_icmp .ne 7, 3) := by decide +kernel
theorem dX7_unplan_60 : decode cX7_unplan 60 = .ok (.iconst 0, 1) := by decide +kernel
theorem dX7_unplan_61 : decode cX7_unplan 61 = .ok (.goto 4, 3) := by decide +kernel
theorem dX7_unplan_64 : decode cX7_unplan 64 = .ok (.iconst 1, 1) := by decide +kernel
theorem dX7_unplan_65 : decode cX7_unplan 65 = .ok (.isub, 1) := by decide +kernel
theorem dX7_unplan_66 : decode cX7_unplan 66 = .ok (.putfield 109, 3) := by decide +kernel
theorem dX7_unplan_69 : decode cX7_unplan 69 = .ok (.return_, 1) := by decide +kernel
theorem dX7_isTap_0 : decode cX7_isTap 0 = .ok (.iload_n 0, 1) := by decide +kernel
theorem dX7_isTap_1 : decode cX7_isTap 1 = .ok (.i2l, 1) := by decide +kernel
theorem dX7_isTap_2 : decode cX7_isTap 2 = .ok (.ldc2_w 116, 3) := by decide +kernel
theorem dX7_isTap_5 : decode cX7_isTap 5 = .ok (.ldc2_w 101, 3) := by decide +kernel
theorem dX7_isTap_8 : decode cX7_isTap 8 = .ok (.invokestatic 97, 3) := by decide +kernel
theorem dX7_isTap_11 : decode cX7_isTap 11 = .ok (.ireturn, 1) := by decide +kernel
theorem dX7_tap_0 : decode cX7_tap 0 = .ok (.aload_n 0, 1) := by decide +kernel
theorem dX7_tap_1 : decode cX7_tap 1 = .ok (.iload_n 1, 1) := by decide +kernel
theorem dX7_tap_2 : decode cX7_tap 2 = .ok (.invokevirtual 118, 3) := by decide +kernel
theorem dX7_tap_5 : decode cX7_tap 5 = .ok (.ifCond .eq 10, 3) := by decide +kernel
theorem dX7_tap_8 : decode cX7_tap 8 = .ok (.iload_n 2, 1) := by decide +kernel
theorem dX7_tap_9 : decode cX7_tap 9 = .ok (.invokestatic 122, 3) := by decide +kernel
theorem dX7_tap_12 : decode cX7_tap 12 = .ok (.ifCond .ne 6, 3) := by decide +kernel
theorem dX7_tap_15 : decode cX7_tap 15 = .ok (.bipush (-2), 2) := by decide +kernel
theorem dX7_tap_17 : decode cX7_tap 17 = .ok (.ireturn, 1) := by decide +kernel
theorem dX7_tap_18 : decode cX7_tap 18 = .ok (.aload_n 0, 1) := by decide +kernel
theorem dX7_tap_19 : decode cX7_tap 19 = .ok (.getfield 16, 3) := by decide +kernel
theorem dX7_tap_22 : decode cX7_tap 22 = .ok (.iload_n 1, 1) := by decide +kernel
theorem dX7_tap_23 : decode cX7_tap 23 = .ok (.iaload, 1) := by decide +kernel
theorem dX7_tap_24 : decode cX7_tap 24 = .ok (.bipush 32, 2) := by decide +kernel
theorem dX7_tap_26 : decode cX7_tap 26 = .ok (.if_icmp .ne 6, 3) := by decide +kernel
theorem dX7_tap_29 : decode cX7_tap 29 = .ok (.bipush (-4), 2) := by decide +kernel
theorem dX7_tap_31 : decode cX7_tap 31 = .ok (.ireturn, 1) := by decide +kernel
theorem dX7_tap_32 : decode cX7_tap 32 = .ok (.aload_n 0, 1) := by decide +kernel
theorem dX7_tap_33 : decode cX7_tap 33 = .ok (.getfield 19, 3) := by decide +kernel
