theorem dX5_way_18 : decode cX5_way 18 = .ok (.ifCond .ne 6, 3) := by decide +kernel
theorem dX5_way_21 : decode cX5_way 21 = .ok (.bipush (-2), 2) := by decide +kernel
theorem dX5_way_23 : decode cX5_way 23 = .ok (.ireturn, 1) := by decide +kernel
theorem dX5_way_24 : decode cX5_way 24 = .ok (.aload 4, 2) := by decide +kernel
theorem dX5_way_26 : decode cX5_way 26 = .ok (.getfield 77, 3) := by decide +kernel
theorem dX5_way_29 : decode cX5_way 29 = .ok (.istore 5, 2) := by decide +kernel
theorem dX5_way_31 : decode cX5_way 31 = .ok (.aload 4, 2) := by decide +kernel
theorem dX5_way_33 : decode cX5_way 33 = .ok (.iload_n 2, 1) := by decide +kernel
theorem dX5_way_34 : decode cX5_way 34 = .ok (.putfield 77, 3) := by decide +kernel
theorem dX5_way_37 : decode cX5_way 37 = .ok (.aload 4, 2) := by decide +kernel
theorem dX5_way_39 : decode cX5_way 39 = .ok (.iload_n 3, 1) := by decide +kernel
theorem dX5_way_40 : decode cX5_way 40 = .ok (.putfield 80, 3) := by decide +kernel
theorem dX5_way_43 : decode cX5_way 43 = .ok (.iload 5, 2) := by decide +kernel
theorem dX5_way_45 : decode cX5_way 45 = .ok (.ireturn, 1) := by decide +kernel
theorem dX5_plan_0 : decode cX5_plan 0 = .ok (.aload_n 0, 1) := by decide +kernel
theorem dX5_plan_1 : decode cX5_plan 1 = .ok (.iload_n 1, 1) := by decide +kernel
theorem dX5_plan_2 : decode cX5_plan 2 = .ok (.invokevirtual 51, 3) := by decide +kernel
theorem dX5_plan_5 : decode cX5_plan 5 = .ok (.astore 4, 2) := by decide +kernel
theorem dX5_plan_7 : decode cX5_plan 7 = .ok (.aload 4, 2) := by decide +kernel
theorem dX5_plan_9 : decode cX5_plan 9 = .ok (.ifnull 11, 3) := by decide +kernel
theorem dX5_plan_12 : decode cX5_plan 12 = .ok (.iload_n 2, 1) := by decide +kernel
theorem dX5_plan_13 : decode cX5_plan 13 = .ok (.iload_n 3, 1) := by decide +kernel
theorem dX5_plan_14 : decode cX5_plan 14 = .ok (.invokestatic 84, 3) := by decide +kernel
theorem dX5_plan_17 : decode cX5_plan 17 = .ok (.ifCond .ne 6, 3) := by decide +kernel
theorem dX5_plan_20 : decode cX5_plan 20 = .ok (.bipush (-2), 2) := by decide +kernel
theorem dX5_plan_22 : decode cX5_plan 22 = .ok (.ireturn, 1) := by decide +kernel
theorem dX5_plan_23 : decode cX5_plan 23 = .ok (.bipush 24, 2) := by decide +kernel
theorem dX5_plan_25 : decode cX5_plan 25 = .ok (.istore 5, 2) := by decide +kernel
theorem dX5_plan_27 : decode cX5_plan 27 = .ok (.iload 5, 2) := by decide +kernel
theorem dX5_plan_29 : decode cX5_plan 29 = .ok (.ifCond .lt 33, 3) := by decide +kernel
theorem dX5_plan_32 : decode cX5_plan 32 = .ok (.aload 4, 2) := by decide +kernel
theorem dX5_plan_34 : decode cX5_plan 34 = .ok (.iload_n 2, 1) := by decide +kernel
theorem dX5_plan_35 : decode cX5_plan 35 = .ok (.iload_n 3, 1) := by decide +kernel
theorem dX5_plan_36 : decode cX5_plan 36 = .ok (.iload 5, 2) := by decide +kernel
theorem dX5_plan_38 : decode cX5_plan 38 = .ok (.invokevirtual 88, 3) := by decide +kernel
theorem dX5_plan_41 : decode cX5_plan 41 = .ok (.ifCond .eq 15, 3) := by decide +kernel
theorem dX5_plan_44 : decode cX5_plan 44 = .ok (.aload 4, 2) := by decide +kernel
theorem dX5_plan_46 : decode cX5_plan 46 = .ok (.iload_n 2, 1) := by decide +kernel
theorem dX5_plan_47 : decode cX5_plan 47 = .ok (.iload_n 3, 1) := by decide +kernel
theorem dX5_plan_48 : decode cX5_plan 48 = .ok (.iload 5, 2) := by decide +kernel
theorem dX5_plan_50 : decode cX5_plan 50 = .ok (.invokevirtual 91, 3) := by decide +kernel
theorem dX5_plan_53 : decode cX5_plan 53 = .ok (.iload 5, 2) := by decide +kernel
theorem dX5_plan_55 : decode cX5_plan 55 = .ok (.ireturn, 1) := by decide +kernel
theorem dX5_plan_56 : decode cX5_plan 56 = .ok (.iinc 5 (-1), 3) := by decide +kernel
theorem dX5_plan_59 : decode cX5_plan 59 = .ok (.goto (-32), 3) := by decide +kernel
theorem dX5_plan_62 : decode cX5_plan 62 = .ok (.bipush (-3), 2) := by decide +kernel
theorem dX5_plan_64 : decode cX5_plan 64 = .ok (.ireturn, 1) := by decide +kernel
theorem dX5_planAt_0 : decode cX5_planAt 0 = .ok (.aload_n 0, 1) := by decide +kernel
theorem dX5_planAt_1 : decode cX5_planAt 1 = .ok (.iload_n 1, 1) := by decide +kernel
theorem dX5_planAt_2 : decode cX5_planAt 2 = .ok (.invokevirtual 51, 3) := by decide +kernel
theorem dX5_planAt_5 : decode cX5_planAt 5 = .ok (.astore 5, 2) := by decide +kernel
theorem dX5_planAt_7 : decode cX5_planAt 7 = .ok (.aload 5, 2) := by decide +kernel
theorem dX5_planAt_9 : decode cX5_planAt 9 = .ok (.ifnull 22, 3) := by decide +kernel
theorem dX5_planAt_12 : decode cX5_planAt 12 = .ok (.iload_n 2, 1) := by decide +kernel
theorem dX5_planAt_13 : decode cX5_planAt 13 = .ok (.iload_n 3, 1) := by decide +kernel
theorem dX5_planAt_14 : decode cX5_planAt 14 = .ok (.invokestatic 84, 3) := by decide +kernel
theorem dX5_planAt_17 : decode cX5_planAt 17 = .ok (.ifCond .eq 14, 3) := by decide +kernel
theorem dX5_planAt_20 : decode cX5_planAt 20 = .ok (.iload 4, 2) := by decide +kernel
theorem dX5_planAt_22 : decode cX5_planAt 22 = .ok (.iconst 0, 1) := by decide +kernel
theorem dX5_planAt_23 : decode cX5_planAt 23 = .ok (.bipush 24, 2) := by decide +kernel
theorem dX5_planAt_25 : decode cX5_planAt 25 = .ok (.invokestatic 40, 3) := by decide +kernel
theorem dX5_planAt_28 : decode cX5_planAt 28 = .ok (.ifCond .ne 6, 3) := by decide +kernel
theorem dX5_planAt_31 : decode cX5_planAt 31 = .ok (.bipush (-2), 2) := by decide +kernel
theorem dX5_planAt_33 : decode cX5_planAt 33 = .ok (.ireturn, 1) := by decide +kernel
theorem dX5_planAt_34 : decode cX5_planAt 34 = .ok (.aload 5, 2) := by decide +kernel
theorem dX5_planAt_36 : decode cX5_planAt 36 = .ok (.iload_n 2, 1) := by decide +kernel
theorem dX5_planAt_37 : decode cX5_planAt 37 = .ok (.iload_n 3, 1) := by decide +kernel
theorem dX5_planAt_38 : decode cX5_planAt 38 = .ok (.iload 4, 2) := by decide +kernel
theorem dX5_planAt_40 : decode cX5_planAt 40 = .ok (.invokevirtual 88, 3) := by decide +kernel
theorem dX5_planAt_43 : decode cX5_planAt 43 = .ok (.ifCond .ne 6, 3) := by decide +kernel
theorem dX5_planAt_46 : decode cX5_planAt 46 = .ok (.bipush (-3), 2) := by decide +kernel
theorem dX5_planAt_48 : decode cX5_planAt 48 = .ok (.ireturn, 1) := by decide +kernel
theorem dX5_planAt_49 : decode cX5_planAt 49 = .ok (.aload 5, 2) := by decide +kernel
theorem dX5_planAt_51 : decode cX5_planAt 51 = .ok (.iload_n 2, 1) := by decide +kernel
theorem dX5_planAt_52 : decode cX5_planAt 52 = .ok (.iload_n 3, 1) := by decide +kernel
theorem dX5_planAt_53 : decode cX5_planAt 53 = .ok (.iload 4, 2) := by decide +kernel
theorem dX5_planAt_55 : decode cX5_planAt 55 = .ok (.invokevirtual 91, 3) := by decide +kernel
theorem dX5_planAt_58 : decode cX5_planAt 58 = .ok (.iload 4, 2) := by decide +kernel
theorem dX5_planAt_60 : decode cX5_planAt 60 = .ok (.ireturn, 1) := by decide +kernel
theorem dX5_coefficient_0 : decode cX5_coefficient 0 = .ok (.aload_n 0, 1) := by decide +kernel
theorem dX5_coefficient_1 : decode cX5_coefficient 1 = .ok (.iload_n 1, 1) := by decide +kernel
theorem dX5_coefficient_2 : decode cX5_coefficient 2 = .ok (.invokevirtual 51, 3) := by decide +kernel
theorem dX5_coefficient_5 : decode cX5_coefficient 5 = .ok (.astore_n 3, 1) := by decide +kernel
theorem dX5_coefficient_6 : decode cX5_coefficient 6 = .ok (.aload_n 3, 1) := by decide +kernel
theorem dX5_coefficient_7 : decode cX5_coefficient 7 = .ok (.ifnull 21, 3) := by decide +kernel
theorem dX5_coefficient_10 : decode cX5_coefficient 10 = .ok (.aload_n 3, 1) := by decide +kernel
theorem dX5_coefficient_11 : decode cX5_coefficient 11 = .ok (.getfield 95, 3) := by decide +kernel
theorem dX5_coefficient_14 : decode cX5_coefficient 14 = .ok (.getfield 99, 3) := by decide +kernel
theorem dX5_coefficient_17 : decode cX5_coefficient 17 = .ok (.ifCond .eq 11, 3) := by decide +kernel
theorem dX5_coefficient_20 : decode cX5_coefficient 20 = .ok (.aload_n 3, 1) := by decide +kernel
theorem dX5_coefficient_21 : decode cX5_coefficient 21 = .ok (.iload_n 2, 1) := by decide +kernel
theorem dX5_coefficient_22 : decode cX5_coefficient 22 = .ok (.invokevirtual 66, 3) := by decide +kernel
theorem dX5_coefficient_25 : decode cX5_coefficient 25 = .ok (.ifCond .ne 6, 3) := by decide +kernel
theorem dX5_coefficient_28 : decode cX5_coefficient 28 = .ok (.ldc 69, 2) := by decide +kernel
theorem dX5_coefficient_30 : decode cX5_coefficient 30 = .ok (.ireturn, 1) := by decide +kernel
theorem dX5_coefficient_31 : decode cX5_coefficient 31 = .ok (.aload_n 3, 1) := by decide +kernel
theorem dX5_coefficient_32 : decode cX5_coefficient 32 = .ok (.getfield 95, 3) := by decide +kernel
theorem dX5_coefficient_35 : decode cX5_coefficient 35 = .ok (.iload_n 2, 1) := by decide +kernel
theorem dX5_coefficient_36 : decode cX5_coefficient 36 = .ok (.invokevirtual 104, 3) := by decide +kernel
theorem dX5_coefficient_39 : decode cX5_coefficient 39 = .ok (.ireturn, 1) := by decide +kernel
theorem dX5_about_0 : decode cX5_about 0 = .ok (.aload_n 0, 1) := by decide +kernel
theorem dX5_about_1 : decode cX5_about 1 = .ok (.iload_n 1, 1) := by decide +kernel
theorem dX5_about_2 : decode cX5_about 2 = .ok (.invokevirtual 51, 3) := by decide +kernel
theorem dX5_about_5 : decode cX5_about 5 = .ok (.astore_n 3, 1) := by decide +kernel
theorem dX5_about_6 : decode cX5_about 6 = .ok (.aload_n 3, 1) := by decide +kernel
theorem dX5_about_7 : decode cX5_about 7 = .ok (.ifnonnull 6, 3) := by decide +kernel
theorem dX5_about_10 : decode cX5_about 10 = .ok (.bipush (-2), 2) := by decide +kernel
theorem dX5_about_12 : decode cX5_about 12 = .ok (.ireturn, 1) := by decide +kernel
theorem dX5_about_13 : decode cX5_about 13 = .ok (.aload_n 3, 1) := by decide +kernel
theorem dX5_about_14 : decode cX5_about 14 = .ok (.getfield 95, 3) := by decide +kernel
theorem dX5_about_17 : decode cX5_about 17 = .ok (.astore 4, 2) := by decide +kernel
theorem dX5_about_19 : decode cX5_about 19 = .ok (.iload_n 2, 1) := by decide +kernel
theorem dX5_about_20 : decode cX5_about 20 = .ok (.tableswitch 154 0 9 #[56, 61, 66, 71, 76, 89, 107, 125, 143, 149], 56) := by decide +kernel
theorem dX5_about_76 : decode cX5_about 76 = .ok (.aload_n 3, 1) := by decide +kernel
theorem dX5_about_77 : decode cX5_about 77 = .ok (.getfield 63, 3) := by decide +kernel
theorem dX5_about_80 : decode cX5_about 80 = .ok (.ireturn, 1) := by decide +kernel
theorem dX5_about_81 : decode cX5_about 81 = .ok (.aload_n 3, 1) := by decide +kernel
theorem dX5_about_82 : decode cX5_about 82 = .ok (.getfield 107, 3) := by decide +kernel
theorem dX5_about_85 : decode cX5_about 85 = .ok (.ireturn, 1) := by decide +kernel
theorem dX5_about_86 : decode cX5_about 86 = .ok (.aload_n 3, 1) := by decide +kernel
theorem dX5_about_87 : decode cX5_about 87 = .ok (.getfield 110, 3) := by decide +kernel
theorem dX5_about_90 : decode cX5_about 90 = .ok (.ireturn, 1) := by decide +kernel
theorem dX5_about_91 : decode cX5_about 91 = .ok (.aload_n 3, 1) := by decide +kernel
theorem dX5_about_92 : decode cX5_about 92 = .ok (.getfield 77, 3) := by decide +kernel
theorem dX5_about_95 : decode cX5_about 95 = .ok (.ireturn, 1) := by decide +kernel
theorem dX5_about_96 : decode cX5_about 96 = .ok (.aload_n 3, 1) := by decide +kernel
theorem dX5_about_97 : decode cX5_about 97 = .ok (.getfield 80, 3) := by decide +kernel
theorem dX5_about_100 : decode cX5_about 100 = .ok (.ifCond .eq 7, 3) := by decide +kernel
theorem dX5_about_103 : decode cX5_about 103 = .ok (.iconst 1, 1) := by decide +kernel
theorem dX5_about_104 : decode cX5_about 104 = .ok (.goto 4, 3) := by decide +kernel
theorem dX5_about_107 : decode cX5_about 107 = .ok (.iconst 0, 1) := by decide +kernel
theorem dX5_about_108 : decode cX5_about 108 = .ok (.ireturn, 1) := by decide +kernel
theorem dX5_about_109 : decode cX5_about 109 = .ok (.aload 4, 2) := by decide +kernel
theorem dX5_about_111 : decode cX5_about 111 = .ok (.getfield 99, 3) := by decide +kernel
theorem dX5_about_114 : decode cX5_about 114 = .ok (.ifCond .eq 11, 3) := by decide +kernel
theorem dX5_about_117 : decode cX5_about 117 = .ok (.aload 4, 2) := by decide +kernel
theorem dX5_about_119 : decode cX5_about 119 = .ok (.getfield 113, 3) := by decide +kernel
theorem dX5_about_122 : decode cX5_about 122 = .ok (.goto 4, 3) := by decide +kernel
theorem dX5_about_125 : decode cX5_about 125 = .ok (.iconst (-1), 1) := by decide +kernel
theorem dX5_about_126 : decode cX5_about 126 = .ok (.ireturn, 1) := by decide +kernel
theorem dX5_about_127 : decode cX5_about 127 = .ok (.aload 4, 2) := by decide +kernel
theorem dX5_about_129 : decode cX5_about 129 = .ok (.getfield 99, 3) := by decide +kernel
theorem dX5_about_132 : decode cX5_about 132 = .ok (.ifCond .eq 11, 3) := by decide +kernel
theorem dX5_about_135 : decode cX5_about 135 = .ok (.aload 4, 2) := by decide +kernel
theorem dX5_about_137 : decode cX5_about 137 = .ok (.getfield 116, 3) := by decide +kernel
theorem dX5_about_140 : decode cX5_about 140 = .ok (.goto 4, 3) := by decide +kernel
theorem dX5_about_143 : decode cX5_about 143 = .ok (.iconst (-1), 1) := by decide +kernel
theorem dX5_about_144 : decode cX5_about 144 = .ok (.ireturn, 1) := by decide +kernel
theorem dX5_about_145 : decode cX5_about 145 = .ok (.aload 4, 2) := by decide +kernel
theorem dX5_about_147 : decode cX5_about 147 = .ok (.getfield 99, 3) := by decide +kernel
theorem dX5_about_150 : decode cX5_about 150 = .ok (.ifCond .eq 11, 3) := by decide +kernel
theorem dX5_about_153 : decode cX5_about 153 = .ok (.aload 4, 2) := by decide +kernel
theorem dX5_about_155 : decode cX5_about 155 = .ok (.getfield 119, 3) := by decide +kernel
theorem dX5_about_158 : decode cX5_about 158 = .ok (.goto 4, 3) := by decide +kernel
theorem dX5_about_161 : decode cX5_about 161 = .ok (.iconst (-1), 1) := by decide +kernel
theorem dX5_about_162 : decode cX5_about 162 = .ok (.ireturn, 1) := by decide +kernel
theorem dX5_about_163 : decode cX5_about 163 = .ok (.aload_n 0, 1) := by decide +kernel
theorem dX5_about_164 : decode cX5_about 164 = .ok (.iload_n 1, 1) := by decide +kernel
theorem dX5_about_165 : decode cX5_about 165 = .ok (.invokevirtual 122, 3) := by decide +kernel
theorem dX5_about_168 : decode cX5_about 168 = .ok (.ireturn, 1) := by decide +kernel
theorem dX5_about_169 : decode cX5_about 169 = .ok (.aload_n 3, 1) := by decide +kernel
theorem dX5_about_170 : decode cX5_about 170 = .ok (.invokevirtual 125, 3) := by decide +kernel
theorem dX5_about_173 : decode cX5_about 173 = .ok (.ireturn, 1) := by decide +kernel
theorem dX5_about_174 : decode cX5_about 174 = .ok (.bipush (-2), 2) := by decide +kernel
theorem dX5_about_176 : decode cX5_about 176 = .ok (.ireturn, 1) := by decide +kernel
theorem dX5_norm_0 : decode cX5_norm 0 = .ok (.aload_n 0, 1) := by decide +kernel
theorem dX5_norm_1 : decode cX5_norm 1 = .ok (.iload_n 1, 1) := by decide +kernel
theorem dX5_norm_2 : decode cX5_norm 2 = .ok (.invokevirtual 51, 3) := by decide +kernel
theorem dX5_norm_5 : decode cX5_norm 5 = .ok (.astore_n 2, 1) := by decide +kernel
theorem dX5_norm_6 : decode cX5_norm 6 = .ok (.aload_n 2, 1) := by decide +kernel
theorem dX5_norm_7 : decode cX5_norm 7 = .ok (.ifnull 13, 3) := by decide +kernel
theorem dX5_norm_10 : decode cX5_norm 10 = .ok (.aload_n 2, 1) := by decide +kernel
theorem dX5_norm_11 : decode cX5_norm 11 = .ok (.getfield 95, 3) := by decide +kernel
theorem dX5_norm_14 : decode cX5_norm 14 = .ok (.getfield 99, 3) := by decide +kernel
theorem dX5_norm_17 : decode cX5_norm 17 = .ok (.ifCond .ne 7, 3) := by decide +kernel
theorem dX5_norm_20 : decode cX5_norm 20 = .ok (.ldc2_w 129, 3) := by decide +kernel
theorem dX5_norm_23 : decode cX5_norm 23 = .ok (.lreturn, 1) := by decide +kernel
theorem dX5_norm_24 : decode cX5_norm 24 = .ok (.aload_n 2, 1) := by decide +kernel
theorem dX5_norm_25 : decode cX5_norm 25 = .ok (.getfield 95, 3) := by decide +kernel
theorem dX5_norm_28 : decode cX5_norm 28 = .ok (.getfield 131, 3) := by decide +kernel
theorem dX5_norm_31 : decode cX5_norm 31 = .ok (.lreturn, 1) := by decide +kernel
theorem dX5_join_0 : decode cX5_join 0 = .ok (.aload_n 0, 1) := by decide +kernel
theorem dX5_join_1 : decode cX5_join 1 = .ok (.iload_n 1, 1) := by decide +kernel
theorem dX5_join_2 : decode cX5_join 2 = .ok (.invokevirtual 51, 3) := by decide +kernel
theorem dX5_join_5 : decode cX5_join 5 = .ok (.astore_n 2, 1) := by decide +kernel
theorem dX5_join_6 : decode cX5_join 6 = .ok (.aload_n 2, 1) := by decide +kernel
theorem dX5_join_7 : decode cX5_join 7 = .ok (.ifnonnull 6, 3) := by decide +kernel
theorem dX5_join_10 : decode cX5_join 10 = .ok (.bipush (-2), 2) := by decide +kernel
theorem dX5_join_12 : decode cX5_join 12 = .ok (.ireturn, 1) := by decide +kernel
theorem dX5_join_13 : decode cX5_join 13 = .ok (.aload_n 2, 1) := by decide +kernel
theorem dX5_join_14 : decode cX5_join 14 = .ok (.getfield 95, 3) := by decide +kernel
theorem dX5_join_17 : decode cX5_join 17 = .ok (.getfield 99, 3) := by decide +kernel
theorem dX5_join_20 : decode cX5_join 20 = .ok (.ifCond .eq 38, 3) := by decide +kernel
theorem dX5_join_23 : decode cX5_join 23 = .ok (.aload_n 0, 1) := by decide +kernel
theorem dX5_join_24 : decode cX5_join 24 = .ok (.iload_n 1, 1) := by decide +kernel
theorem dX5_join_25 : decode cX5_join 25 = .ok (.invokevirtual 122, 3) := by decide +kernel
theorem dX5_join_28 : decode cX5_join 28 = .ok (.iconst (-1), 1) := by decide +kernel
theorem dX5_join_29 : decode cX5_join 29 = .ok (.if_icmp .ne 29, 3) := by decide +kernel
theorem dX5_join_32 : decode cX5_join 32 = .ok (.aload_n 0, 1) := by decide +kernel
theorem dX5_join_33 : decode cX5_join 33 = .ok (.invokevirtual 135, 3) := by decide +kernel
theorem dX5_join_36 : decode cX5_join 36 = .ok (.aload_n 2, 1) := by decide +kernel
theorem dX5_join_37 : decode cX5_join 37 = .ok (.invokevirtual 138, 3) := by decide +kernel
theorem dX5_join_40 : decode cX5_join 40 = .ok (.imul, 1) := by decide +kernel
theorem dX5_join_41 : decode cX5_join 41 = .ok (.bipush 16, 2) := by decide +kernel
theorem dX5_join_43 : decode cX5_join 43 = .ok (.if_icmp .gt 15, 3) := by decide +kernel
theorem dX5_join_46 : decode cX5_join 46 = .ok (.aload_n 0, 1) := by decide +kernel
theorem dX5_join_47 : decode cX5_join 47 = .ok (.getfield 23, 3) := by decide +kernel
theorem dX5_join_50 : decode cX5_join 50 = .ok (.aload_n 0, 1) := by decide +kernel
theorem dX5_join_51 : decode cX5_join 51 = .ok (.getfield 19, 3) := by decide +kernel
theorem dX5_join_54 : decode cX5_join 54 = .ok (.arraylength, 1) := by decide +kernel
theorem dX5_join_55 : decode cX5_join 55 = .ok (.if_icmp .lt 6, 3) := by decide +kernel
theorem dX5_join_58 : decode cX5_join 58 = .ok (.bipush (-3), 2) := by decide +kernel
theorem dX5_join_60 : decode cX5_join 60 = .ok (.ireturn, 1) := by decide +kernel
theorem dX5_join_61 : decode cX5_join 61 = .ok (.aload_n 0, 1) := by decide +kernel
theorem dX5_join_62 : decode cX5_join 62 = .ok (.getfield 19, 3) := by decide +kernel
theorem dX5_join_65 : decode cX5_join 65 = .ok (.aload_n 0, 1) := by decide +kernel
theorem dX5_join_66 : decode cX5_join 66 = .ok (.getfield 23, 3) := by decide +kernel
theorem dX5_join_69 : decode cX5_join 69 = .ok (.iload_n 1, 1) := by decide +kernel
theorem dX5_join_70 : decode cX5_join 70 = .ok (.iastore, 1) := by decide +kernel
theorem dX5_join_71 : decode cX5_join 71 = .ok (.aload_n 0, 1) := by decide +kernel
theorem dX5_join_72 : decode cX5_join 72 = .ok (.dup, 1) := by decide +kernel
theorem dX5_join_73 : decode cX5_join 73 = .ok (.getfield 23, 3) := by decide +kernel
theorem dX5_join_76 : decode cX5_join 76 = .ok (.iconst 1, 1) := by decide +kernel
theorem dX5_join_77 : decode cX5_join 77 = .ok (.iadd, 1) := by decide +kernel
theorem dX5_join_78 : decode cX5_join 78 = .ok (.putfield 23, 3) := by decide +kernel
theorem dX5_join_81 : decode cX5_join 81 = .ok (.aload_n 0, 1) := by decide +kernel
theorem dX5_join_82 : decode cX5_join 82 = .ok (.getfield 23, 3) := by decide +kernel
theorem dX5_join_85 : decode cX5_join 85 = .ok (.iconst 1, 1) := by decide +kernel
theorem dX5_join_86 : decode cX5_join 86 = .ok (.isub, 1) := by decide +kernel
theorem dX5_join_87 : decode cX5_join 87 = .ok (.ireturn, 1) := by decide +kernel
theorem dX5_part_0 : decode cX5_part 0 = .ok (.aload_n 0, 1) := by decide +kernel
theorem dX5_part_1 : decode cX5_part 1 = .ok (.getfield 23, 3) := by decide +kernel
theorem dX5_part_4 : decode cX5_part 4 = .ok (.istore_n 1, 1) := by decide +kernel
theorem dX5_part_5 : decode cX5_part 5 = .ok (.aload_n 0, 1) := by decide +kernel
theorem dX5_part_6 : decode cX5_part 6 = .ok (.iconst 0, 1) := by decide +kernel
theorem dX5_part_7 : decode cX5_part 7 = .ok (.putfield 23, 3) := by decide +kernel
theorem dX5_part_10 : decode cX5_part 10 = .ok (.iload_n 1, 1) := by decide +kernel
theorem dX5_part_11 : decode cX5_part 11 = .ok (.ireturn, 1) := by decide +kernel
theorem dX5_put_0 : decode cX5_put 0 = .ok (.iload_n 1, 1) := by decide +kernel
theorem dX5_put_1 : decode cX5_put 1 = .ok (.invokestatic 141, 3) := by decide +kernel
theorem dX5_put_4 : decode cX5_put 4 = .ok (.ifCond .ne 6, 3) := by decide +kernel
theorem dX5_put_7 : decode cX5_put 7 = .ok (.bipush (-2), 2) := by decide +kernel
theorem dX5_put_9 : decode cX5_put 9 = .ok (.ireturn, 1) := by decide +kernel
theorem dX5_put_10 : decode cX5_put 10 = .ok (.aload_n 0, 1) := by decide +kernel
theorem dX5_put_11 : decode cX5_put 11 = .ok (.iload_n 1, 1) := by decide +kernel
theorem dX5_put_12 : decode cX5_put 12 = .ok (.invokevirtual 144, 3) := by decide +kernel
theorem dX5_put_15 : decode cX5_put 15 = .ok (.ireturn, 1) := by decide +kernel
theorem dX5_ramp_0 : decode cX5_ramp 0 = .ok (.iload_n 1, 1) := by decide +kernel
theorem dX5_ramp_1 : decode cX5_ramp 1 = .ok (.invokestatic 141, 3) := by decide +kernel
theorem dX5_ramp_4 : decode cX5_ramp 4 = .ok (.ifCond .eq 13, 3) := by decide +kernel
theorem dX5_ramp_7 : decode cX5_ramp 7 = .ok (.iload_n 3, 1) := by decide +kernel
theorem dX5_ramp_8 : decode cX5_ramp 8 = .ok (.iconst 1, 1) := by decide +kernel
theorem dX5_ramp_9 : decode cX5_ramp 9 = .ok (.bipush 64, 2) := by decide +kernel
theorem dX5_ramp_11 : decode cX5_ramp 11 = .ok (.invokestatic 40, 3) := by decide +kernel
theorem dX5_ramp_14 : decode cX5_ramp 14 = .ok (.ifCond .ne 6, 3) := by decide +kernel
theorem dX5_ramp_17 : decode cX5_ramp 17 = .ok (.bipush (-2), 2) := by decide +kernel
theorem dX5_ramp_19 : decode cX5_ramp 19 = .ok (.ireturn, 1) := by decide +kernel
theorem dX5_ramp_20 : decode cX5_ramp 20 = .ok (.iconst 0, 1) := by decide +kernel
theorem dX5_ramp_21 : decode cX5_ramp 21 = .ok (.istore 4, 2) := by decide +kernel
theorem dX5_ramp_23 : decode cX5_ramp 23 = .ok (.iload_n 1, 1) := by decide +kernel
theorem dX5_ramp_24 : decode cX5_ramp 24 = .ok (.istore 5, 2) := by decide +kernel
theorem dX5_ramp_26 : decode cX5_ramp 26 = .ok (.iconst 0, 1) := by decide +kernel
theorem dX5_ramp_27 : decode cX5_ramp 27 = .ok (.istore 6, 2) := by decide +kernel
theorem dX5_ramp_29 : decode cX5_ramp 29 = .ok (.iload 6, 2) := by decide +kernel
theorem dX5_ramp_31 : decode cX5_ramp 31 = .ok (.iload_n 3, 1) := by decide +kernel
theorem dX5_ramp_32 : decode cX5_ramp 32 = .ok (.if_icmp .ge 27, 3) := by decide +kernel
theorem dX5_ramp_35 : decode cX5_ramp 35 = .ok (.iload 4, 2) := by decide +kernel
theorem dX5_ramp_37 : decode cX5_ramp 37 = .ok (.aload_n 0, 1) := by decide +kernel
theorem dX5_ramp_38 : decode cX5_ramp 38 = .ok (.iload 5, 2) := by decide +kernel
theorem dX5_ramp_40 : decode cX5_ramp 40 = .ok (.invokevirtual 144, 3) := by decide +kernel
theorem dX5_ramp_43 : decode cX5_ramp 43 = .ok (.iadd, 1) := by decide +kernel
theorem dX5_ramp_44 : decode cX5_ramp 44 = .ok (.istore 4, 2) := by decide +kernel
theorem dX5_ramp_46 : decode cX5_ramp 46 = .ok (.iload 5, 2) := by decide +kernel
theorem dX5_ramp_48 : decode cX5_ramp 48 = .ok (.iload_n 2, 1) := by decide +kernel
theorem dX5_ramp_49 : decode cX5_ramp 49 = .ok (.iadd, 1) := by decide +kernel
theorem dX5_ramp_50 : decode cX5_ramp 50 = .ok (.i2s, 1) := by decide +kernel
theorem dX5_ramp_51 : decode cX5_ramp 51 = .ok (.istore 5, 2) := by decide +kernel
theorem dX5_ramp_53 : decode cX5_ramp 53 = .ok (.iinc 6 1, 3) := by decide +kernel
theorem dX5_ramp_56 : decode cX5_ramp 56 = .ok (.goto (-27), 3) := by decide +kernel
theorem dX5_ramp_59 : decode cX5_ramp 59 = .ok (.iload 4, 2) := by decide +kernel
theorem dX5_ramp_61 : decode cX5_ramp 61 = .ok (.ireturn, 1) := by decide +kernel
theorem dX5_out_0 : decode cX5_out 0 = .ok (.aload_n 0, 1) := by decide +kernel
theorem dX5_out_1 : decode cX5_out 1 = .ok (.getfield 29, 3) := by decide +kernel
theorem dX5_out_4 : decode cX5_out 4 = .ok (.iload_n 1, 1) := by decide +kernel
theorem dX5_out_5 : decode cX5_out 5 = .ok (.invokevirtual 147, 3) := by decide +kernel
theorem dX5_out_8 : decode cX5_out 8 = .ok (.ifCond .ne 6, 3) := by decide +kernel
theorem dX5_out_11 : decode cX5_out 11 = .ok (.ldc 69, 2) := by decide +kernel
theorem dX5_out_13 : decode cX5_out 13 = .ok (.ireturn, 1) := by decide +kernel
theorem dX5_out_14 : decode cX5_out 14 = .ok (.aload_n 0, 1) := by decide +kernel
theorem dX5_out_15 : decode cX5_out 15 = .ok (.getfield 29, 3) := by decide +kernel
theorem dX5_out_18 : decode cX5_out 18 = .ok (.iload_n 1, 1) := by decide +kernel
theorem dX5_out_19 : decode cX5_out 19 = .ok (.invokevirtual 150, 3) := by decide +kernel
theorem dX5_out_22 : decode cX5_out 22 = .ok (.ireturn, 1) := by decide +kernel
theorem dX5_empty_0 : decode cX5_empty 0 = .ok (.aload_n 0, 1) := by decide +kernel
theorem dX5_empty_1 : decode cX5_empty 1 = .ok (.getfield 29, 3) := by decide +kernel
theorem dX5_empty_4 : decode cX5_empty 4 = .ok (.getfield 153, 3) := by decide +kernel
theorem dX5_empty_7 : decode cX5_empty 7 = .ok (.istore_n 1, 1) := by decide +kernel
theorem dX5_empty_8 : decode cX5_empty 8 = .ok (.aload_n 0, 1) := by decide +kernel
theorem dX5_empty_9 : decode cX5_empty 9 = .ok (.getfield 29, 3) := by decide +kernel
theorem dX5_empty_12 : decode cX5_empty 12 = .ok (.iconst 0, 1) := by decide +kernel
theorem dX5_empty_13 : decode cX5_empty 13 = .ok (.putfield 153, 3) := by decide +kernel
theorem dX5_empty_16 : decode cX5_empty 16 = .ok (.iload_n 1, 1) := by decide +kernel
theorem dX5_empty_17 : decode cX5_empty 17 = .ok (.ireturn, 1) := by decide +kernel
theorem dX5_reset_0 : decode cX5_reset 0 = .ok (.iconst 0, 1) := by decide +kernel
theorem dX5_reset_1 : decode cX5_reset 1 = .ok (.istore_n 1, 1) := by decide +kernel
theorem dX5_reset_2 : decode cX5_reset 2 = .ok (.iload_n 1, 1) := by decide +kernel
theorem dX5_reset_3 : decode cX5_reset 3 = .ok (.aload_n 0, 1) := by decide +kernel
theorem dX5_reset_4 : decode cX5_reset 4 = .ok (.getfield 15, 3) := by decide +kernel
theorem dX5_reset_7 : decode cX5_reset 7 = .ok (.if_icmp .ge 23, 3) := by decide +kernel
theorem dX5_reset_10 : decode cX5_reset 10 = .ok (.aload_n 0, 1) := by decide +kernel
theorem dX5_reset_11 : decode cX5_reset 11 = .ok (.iload_n 1, 1) := by decide +kernel
theorem dX5_reset_12 : decode cX5_reset 12 = .ok (.invokevirtual 51, 3) := by decide +kernel
theorem dX5_reset_15 : decode cX5_reset 15 = .ok (.astore_n 2, 1) := by decide +kernel
theorem dX5_reset_16 : decode cX5_reset 16 = .ok (.aload_n 2, 1) := by decide +kernel
theorem dX5_reset_17 : decode cX5_reset 17 = .ok (.ifnull 7, 3) := by decide +kernel
theorem dX5_reset_20 : decode cX5_reset 20 = .ok (.aload_n 2, 1) := by decide +kernel
theorem dX5_reset_21 : decode cX5_reset 21 = .ok (.invokevirtual 156, 3) := by decide +kernel
theorem dX5_reset_24 : decode cX5_reset 24 = .ok (.iinc 1 1, 3) := by decide +kernel
theorem dX5_reset_27 : decode cX5_reset 27 = .ok (.goto (-25), 3) := by decide +kernel
theorem dX5_reset_30 : decode cX5_reset 30 = .ok (.aload_n 0, 1) := by decide +kernel
theorem dX5_reset_31 : decode cX5_reset 31 = .ok (.getfield 15, 3) := by decide +kernel
theorem dX5_reset_34 : decode cX5_reset 34 = .ok (.ireturn, 1) := by decide +kernel
theorem dX5_through_0 : decode cX5_through 0 = .ok (.aload_n 0, 1) := by decide +kernel
theorem dX5_through_1 : decode cX5_through 1 = .ok (.iload_n 1, 1) := by decide +kernel
theorem dX5_through_2 : decode cX5_through 2 = .ok (.invokevirtual 51, 3) := by decide +kernel
theorem dX5_through_5 : decode cX5_through 5 = .ok (.astore_n 3, 1) := by decide +kernel
theorem dX5_through_6 : decode cX5_through 6 = .ok (.aload_n 3, 1) := by decide +kernel
theorem dX5_through_7 : decode cX5_through 7 = .ok (.ifnull 10, 3) := by decide +kernel
theorem dX5_through_10 : decode cX5_through 10 = .ok (.iload_n 2, 1) := by decide +kernel
theorem dX5_through_11 : decode cX5_through 11 = .ok (.invokestatic 141, 3) := by decide +kernel
theorem dX5_through_14 : decode cX5_through 14 = .ok (.ifCond .ne 6, 3) := by decide +kernel
theorem dX5_through_17 : decode cX5_through 17 = .ok (.ldc 69, 2) := by decide +kernel
theorem dX5_through_19 : decode cX5_through 19 = .ok (.ireturn, 1) := by decide +kernel
theorem dX5_through_20 : decode cX5_through 20 = .ok (.aload_n 3, 1) := by decide +kernel
theorem dX5_through_21 : decode cX5_through 21 = .ok (.getfield 95, 3) := by decide +kernel
theorem dX5_through_24 : decode cX5_through 24 = .ok (.getfield 99, 3) := by decide +kernel
theorem dX5_through_27 : decode cX5_through 27 = .ok (.ifCond .eq 11, 3) := by decide +kernel
theorem dX5_through_30 : decode cX5_through 30 = .ok (.aload_n 3, 1) := by decide +kernel
theorem dX5_through_31 : decode cX5_through 31 = .ok (.getfield 110, 3) := by decide +kernel
theorem dX5_through_34 : decode cX5_through 34 = .ok (.iconst 1, 1) := by decide +kernel
theorem dX5_through_35 : decode cX5_through 35 = .ok (.if_icmp .eq 6, 3) := by decide +kernel
theorem dX5_through_38 : decode cX5_through 38 = .ok (.ldc 159, 2) := by decide +kernel
theorem dX5_through_40 : decode cX5_through 40 = .ok (.ireturn, 1) := by decide +kernel
theorem dX5_through_41 : decode cX5_through 41 = .ok (.aload_n 3, 1) := by decide +kernel
theorem dX5_through_42 : decode cX5_through 42 = .ok (.iload_n 2, 1) := by decide +kernel
theorem dX5_through_43 : decode cX5_through 43 = .ok (.invokevirtual 160, 3) := by decide +kernel
theorem dX5_through_46 : decode cX5_through 46 = .ok (.ireturn, 1) := by decide +kernel
theorem dX5_told_0 : decode cX5_told 0 = .ok (.aload_n 0, 1) := by decide +kernel
theorem dX5_told_1 : decode cX5_told 1 = .ok (.iload_n 1, 1) := by decide +kernel
theorem dX5_told_2 : decode cX5_told 2 = .ok (.invokevirtual 51, 3) := by decide +kernel
theorem dX5_told_5 : decode cX5_told 5 = .ok (.astore_n 3, 1) := by decide +kernel
theorem dX5_told_6 : decode cX5_told 6 = .ok (.aload_n 3, 1) := by decide +kernel
theorem dX5_told_7 : decode cX5_told 7 = .ok (.ifnull 13, 3) := by decide +kernel
theorem dX5_told_10 : decode cX5_told 10 = .ok (.aload_n 3, 1) := by decide +kernel
theorem dX5_told_11 : decode cX5_told 11 = .ok (.getfield 163, 3) := by decide +kernel
theorem dX5_told_14 : decode cX5_told 14 = .ok (.getfield 167, 3) := by decide +kernel
theorem dX5_told_17 : decode cX5_told 17 = .ok (.ifCond .ne 5, 3) := by decide +kernel
theorem dX5_told_20 : decode cX5_told 20 = .ok (.lconst 0, 1) := by decide +kernel
theorem dX5_told_21 : decode cX5_told 21 = .ok (.lreturn, 1) := by decide +kernel
theorem dX5_told_22 : decode cX5_told 22 = .ok (.aload_n 3, 1) := by decide +kernel
theorem dX5_told_23 : decode cX5_told 23 = .ok (.getfield 163, 3) := by decide +kernel
theorem dX5_told_26 : decode cX5_told 26 = .ok (.astore 4, 2) := by decide +kernel
theorem dX5_told_28 : decode cX5_told 28 = .ok (.iload_n 2, 1) := by decide +kernel
theorem dX5_told_29 : decode cX5_told 29 = .ok (.tableswitch 72 0 4 #[35, 41, 47, 54, 60], 35) := by decide +kernel
theorem dX5_told_64 : decode cX5_told 64 = .ok (.aload 4, 2) := by decide +kernel
theorem dX5_told_66 : decode cX5_told 66 = .ok (.getfield 170, 3) := by decide +kernel
theorem dX5_told_69 : decode cX5_told 69 = .ok (.lreturn, 1) := by decide +kernel
theorem dX5_told_70 : decode cX5_told 70 = .ok (.aload 4, 2) := by decide +kernel
theorem dX5_told_72 : decode cX5_told 72 = .ok (.getfield 173, 3) := by decide +kernel
theorem dX5_told_75 : decode cX5_told 75 = .ok (.lreturn, 1) := by decide +kernel
theorem dX5_told_76 : decode cX5_told 76 = .ok (.aload 4, 2) := by decide +kernel
theorem dX5_told_78 : decode cX5_told 78 = .ok (.getfield 176, 3) := by decide +kernel
theorem dX5_told_81 : decode cX5_told 81 = .ok (.i2l, 1) := by decide +kernel
theorem dX5_told_82 : decode cX5_told 82 = .ok (.lreturn, 1) := by decide +kernel
theorem dX5_told_83 : decode cX5_told 83 = .ok (.aload 4, 2) := by decide +kernel
theorem dX5_told_85 : decode cX5_told 85 = .ok (.getfield 179, 3) := by decide +kernel
theorem dX5_told_88 : decode cX5_told 88 = .ok (.lreturn, 1) := by decide +kernel
theorem dX5_told_89 : decode cX5_told 89 = .ok (.aload_n 3, 1) := by decide +kernel
theorem dX5_told_90 : decode cX5_told 90 = .ok (.getfield 95, 3) := by decide +kernel
theorem dX5_told_93 : decode cX5_told 93 = .ok (.getfield 131, 3) := by decide +kernel
theorem dX5_told_96 : decode cX5_told 96 = .ok (.ldc2_w 182, 3) := by decide +kernel
theorem dX5_told_99 : decode cX5_told 99 = .ok (.lmul, 1) := by decide +kernel
theorem dX5_told_100 : decode cX5_told 100 = .ok (.lreturn, 1) := by decide +kernel
theorem dX5_told_101 : decode cX5_told 101 = .ok (.lconst 0, 1) := by decide +kernel
theorem dX5_told_102 : decode cX5_told 102 = .ok (.lreturn, 1) := by decide +kernel
theorem dX5_near_0 : decode cX5_near 0 = .ok (.aload_n 0, 1) := by decide +kernel
theorem dX5_near_1 : decode cX5_near 1 = .ok (.iload_n 1, 1) := by decide +kernel
theorem dX5_near_2 : decode cX5_near 2 = .ok (.invokevirtual 51, 3) := by decide +kernel
theorem dX5_near_5 : decode cX5_near 5 = .ok (.astore_n 2, 1) := by decide +kernel
theorem dX5_near_6 : decode cX5_near 6 = .ok (.aload_n 2, 1) := by decide +kernel
theorem dX5_near_7 : decode cX5_near 7 = .ok (.ifnonnull 6, 3) := by decide +kernel
theorem dX5_near_10 : decode cX5_near 10 = .ok (.bipush (-2), 2) := by decide +kernel
theorem dX5_near_12 : decode cX5_near 12 = .ok (.ireturn, 1) := by decide +kernel
theorem dX5_near_13 : decode cX5_near 13 = .ok (.aload_n 2, 1) := by decide +kernel
theorem dX5_near_14 : decode cX5_near 14 = .ok (.getfield 163, 3) := by decide +kernel
theorem dX5_near_17 : decode cX5_near 17 = .ok (.getfield 167, 3) := by decide +kernel
theorem dX5_near_20 : decode cX5_near 20 = .ok (.ifCond .ne 6, 3) := by decide +kernel
theorem dX5_near_23 : decode cX5_near 23 = .ok (.bipush (-3), 2) := by decide +kernel
theorem dX5_near_25 : decode cX5_near 25 = .ok (.ireturn, 1) := by decide +kernel
theorem dX5_near_26 : decode cX5_near 26 = .ok (.aload_n 2, 1) := by decide +kernel
theorem dX5_near_27 : decode cX5_near 27 = .ok (.getfield 163, 3) := by decide +kernel
theorem dX5_near_30 : decode cX5_near 30 = .ok (.aload_n 2, 1) := by decide +kernel
theorem dX5_near_31 : decode cX5_near 31 = .ok (.getfield 107, 3) := by decide +kernel
theorem dX5_near_34 : decode cX5_near 34 = .ok (.aload_n 2, 1) := by decide +kernel
theorem dX5_near_35 : decode cX5_near 35 = .ok (.getfield 95, 3) := by decide +kernel
theorem dX5_near_38 : decode cX5_near 38 = .ok (.getfield 113, 3) := by decide +kernel
theorem dX5_near_41 : decode cX5_near 41 = .ok (.invokevirtual 184, 3) := by decide +kernel
theorem dX5_near_44 : decode cX5_near 44 = .ok (.ifCond .eq 7, 3) := by decide +kernel
theorem dX5_near_47 : decode cX5_near 47 = .ok (.iconst 1, 1) := by decide +kernel
theorem dX5_near_48 : decode cX5_near 48 = .ok (.goto 4, 3) := by decide +kernel
theorem dX5_near_51 : decode cX5_near 51 = .ok (.iconst 0, 1) := by decide +kernel
theorem dX5_near_52 : decode cX5_near 52 = .ok (.ireturn, 1) := by decide +kernel
theorem dX5_counted_0 : decode cX5_counted 0 = .ok (.aload_n 0, 1) := by decide +kernel
theorem dX5_counted_1 : decode cX5_counted 1 = .ok (.iload_n 1, 1) := by decide +kernel
theorem dX5_counted_2 : decode cX5_counted 2 = .ok (.invokevirtual 51, 3) := by decide +kernel
theorem dX5_counted_5 : decode cX5_counted 5 = .ok (.astore_n 3, 1) := by decide +kernel
theorem dX5_counted_6 : decode cX5_counted 6 = .ok (.aload_n 3, 1) := by decide +kernel
theorem dX5_counted_7 : decode cX5_counted 7 = .ok (.ifnonnull 7, 3) := by decide +kernel
theorem dX5_counted_10 : decode cX5_counted 10 = .ok (.ldc2_w 129, 3) := by decide +kernel
theorem dX5_counted_13 : decode cX5_counted 13 = .ok (.lreturn, 1) := by decide +kernel
theorem dX5_counted_14 : decode cX5_counted 14 = .ok (.aload_n 3, 1) := by decide +kernel
theorem dX5_counted_15 : decode cX5_counted 15 = .ok (.getfield 95, 3) := by decide +kernel
theorem dX5_counted_18 : decode cX5_counted 18 = .ok (.getfield 99, 3) := by decide +kernel
theorem dX5_counted_21 : decode cX5_counted 21 = .ok (.istore 4, 2) := by decide +kernel
theorem dX5_counted_23 : decode cX5_counted 23 = .ok (.iload_n 2, 1) := by decide +kernel
theorem dX5_counted_24 : decode cX5_counted 24 = .ok (.tableswitch 70 0 2 #[28, 42, 56], 28) := by decide +kernel
theorem dX5_counted_52 : decode cX5_counted 52 = .ok (.iload 4, 2) := by decide +kernel
theorem dX5_counted_54 : decode cX5_counted 54 = .ok (.ifCond .eq 10, 3) := by decide +kernel
theorem dX5_counted_57 : decode cX5_counted 57 = .ok (.aload_n 3, 1) := by decide +kernel
theorem dX5_counted_58 : decode cX5_counted 58 = .ok (.getfield 187, 3) := by decide +kernel
theorem dX5_counted_61 : decode cX5_counted 61 = .ok (.goto 4, 3) := by decide +kernel
theorem dX5_counted_64 : decode cX5_counted 64 = .ok (.lconst 0, 1) := by decide +kernel
theorem dX5_counted_65 : decode cX5_counted 65 = .ok (.lreturn, 1) := by decide +kernel
theorem dX5_counted_66 : decode cX5_counted 66 = .ok (.iload 4, 2) := by decide +kernel
theorem dX5_counted_68 : decode cX5_counted 68 = .ok (.ifCond .eq 10, 3) := by decide +kernel
theorem dX5_counted_71 : decode cX5_counted 71 = .ok (.aload_n 3, 1) := by decide +kernel
theorem dX5_counted_72 : decode cX5_counted 72 = .ok (.getfield 190, 3) := by decide +kernel
theorem dX5_counted_75 : decode cX5_counted 75 = .ok (.goto 4, 3) := by decide +kernel
theorem dX5_counted_78 : decode cX5_counted 78 = .ok (.lconst 0, 1) := by decide +kernel
theorem dX5_counted_79 : decode cX5_counted 79 = .ok (.lreturn, 1) := by decide +kernel
theorem dX5_counted_80 : decode cX5_counted 80 = .ok (.iload 4, 2) := by decide +kernel
theorem dX5_counted_82 : decode cX5_counted 82 = .ok (.ifCond .eq 10, 3) := by decide +kernel
theorem dX5_counted_85 : decode cX5_counted 85 = .ok (.aload_n 3, 1) := by decide +kernel
theorem dX5_counted_86 : decode cX5_counted 86 = .ok (.getfield 193, 3) := by decide +kernel
theorem dX5_counted_89 : decode cX5_counted 89 = .ok (.goto 4, 3) := by decide +kernel
theorem dX5_counted_92 : decode cX5_counted 92 = .ok (.lconst 0, 1) := by decide +kernel
theorem dX5_counted_93 : decode cX5_counted 93 = .ok (.lreturn, 1) := by decide +kernel
theorem dX5_counted_94 : decode cX5_counted 94 = .ok (.ldc2_w 129, 3) := by decide +kernel
theorem dX5_counted_97 : decode cX5_counted 97 = .ok (.lreturn, 1) := by decide +kernel
theorem dX5_count_0 : decode cX5_count 0 = .ok (.iload_n 1, 1) := by decide +kernel
theorem dX5_count_1 : decode cX5_count 1 = .ok (.tableswitch 57 0 3 #[31, 36, 41, 49], 31) := by decide +kernel
theorem dX5_count_32 : decode cX5_count 32 = .ok (.aload_n 0, 1) := by decide +kernel
theorem dX5_count_33 : decode cX5_count 33 = .ok (.getfield 15, 3) := by decide +kernel
theorem dX5_count_36 : decode cX5_count 36 = .ok (.ireturn, 1) := by decide +kernel
theorem dX5_count_37 : decode cX5_count 37 = .ok (.aload_n 0, 1) := by decide +kernel
theorem dX5_count_38 : decode cX5_count 38 = .ok (.getfield 23, 3) := by decide +kernel
theorem dX5_count_41 : decode cX5_count 41 = .ok (.ireturn, 1) := by decide +kernel
theorem dX5_count_42 : decode cX5_count 42 = .ok (.aload_n 0, 1) := by decide +kernel
theorem dX5_count_43 : decode cX5_count 43 = .ok (.getfield 29, 3) := by decide +kernel
theorem dX5_count_46 : decode cX5_count 46 = .ok (.getfield 153, 3) := by decide +kernel
theorem dX5_count_49 : decode cX5_count 49 = .ok (.ireturn, 1) := by decide +kernel
theorem dX5_count_50 : decode cX5_count 50 = .ok (.aload_n 0, 1) := by decide +kernel
theorem dX5_count_51 : decode cX5_count 51 = .ok (.getfield 29, 3) := by decide +kernel
theorem dX5_count_54 : decode cX5_count 54 = .ok (.getfield 196, 3) := by decide +kernel
theorem dX5_count_57 : decode cX5_count 57 = .ok (.ireturn, 1) := by decide +kernel
theorem dX5_count_58 : decode cX5_count 58 = .ok (.bipush (-2), 2) := by decide +kernel
theorem dX5_count_60 : decode cX5_count 60 = .ok (.ireturn, 1) := by decide +kernel
theorem dX5_digest_0 : decode cX5_digest 0 = .ok (.ldc2_w 199, 3) := by decide +kernel
theorem dX5_digest_3 : decode cX5_digest 3 = .ok (.lstore_n 1, 1) := by decide +kernel
theorem dX5_digest_4 : decode cX5_digest 4 = .ok (.iconst 0, 1) := by decide +kernel
theorem dX5_digest_5 : decode cX5_digest 5 = .ok (.istore_n 3, 1) := by decide +kernel
theorem dX5_digest_6 : decode cX5_digest 6 = .ok (.iload_n 3, 1) := by decide +kernel
theorem dX5_digest_7 : decode cX5_digest 7 = .ok (.aload_n 0, 1) := by decide +kernel
theorem dX5_digest_8 : decode cX5_digest 8 = .ok (.getfield 15, 3) := by decide +kernel
theorem dX5_digest_11 : decode cX5_digest 11 = .ok (.if_icmp .ge 85, 3) := by decide +kernel
theorem dX5_digest_14 : decode cX5_digest 14 = .ok (.iconst 0, 1) := by decide +kernel
theorem dX5_digest_15 : decode cX5_digest 15 = .ok (.istore 4, 2) := by decide +kernel
theorem dX5_digest_17 : decode cX5_digest 17 = .ok (.iload 4, 2) := by decide +kernel
theorem dX5_digest_19 : decode cX5_digest 19 = .ok (.bipush 9, 2) := by decide +kernel
theorem dX5_digest_21 : decode cX5_digest 21 = .ok (.if_icmp .gt 24, 3) := by decide +kernel
theorem dX5_digest_24 : decode cX5_digest 24 = .ok (.ldc2_w 201, 3) := by decide +kernel
theorem dX5_digest_27 : decode cX5_digest 27 = .ok (.lload_n 1, 1) := by decide +kernel
theorem dX5_digest_28 : decode cX5_digest 28 = .ok (.lmul, 1) := by decide +kernel
theorem dX5_digest_29 : decode cX5_digest 29 = .ok (.aload_n 0, 1) := by decide +kernel
theorem dX5_digest_30 : decode cX5_digest 30 = .ok (.iload_n 3, 1) := by decide +kernel
theorem dX5_digest_31 : decode cX5_digest 31 = .ok (.iload 4, 2) := by decide +kernel
theorem dX5_digest_33 : decode cX5_digest 33 = .ok (.invokevirtual 203, 3) := by decide +kernel
theorem dX5_digest_36 : decode cX5_digest 36 = .ok (.i2l, 1) := by decide +kernel
theorem dX5_digest_37 : decode cX5_digest 37 = .ok (.ladd, 1) := by decide +kernel
theorem dX5_digest_38 : decode cX5_digest 38 = .ok (.lstore_n 1, 1) := by decide +kernel
theorem dX5_digest_39 : decode cX5_digest 39 = .ok (.iinc 4 1, 3) := by decide +kernel
theorem dX5_digest_42 : decode cX5_digest 42 = .ok (.goto (-25), 3) := by decide +kernel
theorem dX5_digest_45 : decode cX5_digest 45 = .ok (.aload_n 0, 1) := by decide +kernel
theorem dX5_digest_46 : decode cX5_digest 46 = .ok (.iload_n 3, 1) := by decide +kernel
theorem dX5_digest_47 : decode cX5_digest 47 = .ok (.invokevirtual 51, 3) := by decide +kernel
theorem dX5_digest_50 : decode cX5_digest 50 = .ok (.astore 4, 2) := by decide +kernel
theorem dX5_digest_52 : decode cX5_digest 52 = .ok (.aload 4, 2) := by decide +kernel
theorem dX5_digest_54 : decode cX5_digest 54 = .ok (.ifnull 10, 3) := by decide +kernel
theorem dX5_digest_57 : decode cX5_digest 57 = .ok (.aload 4, 2) := by decide +kernel
theorem dX5_digest_59 : decode cX5_digest 59 = .ok (.lload_n 1, 1) := by decide +kernel
theorem dX5_digest_60 : decode cX5_digest 60 = .ok (.invokevirtual 207, 3) := by decide +kernel
theorem dX5_digest_63 : decode cX5_digest 63 = .ok (.lstore_n 1, 1) := by decide +kernel
theorem dX5_digest_64 : decode cX5_digest 64 = .ok (.ldc2_w 201, 3) := by decide +kernel
theorem dX5_digest_67 : decode cX5_digest 67 = .ok (.lload_n 1, 1) := by decide +kernel
theorem dX5_digest_68 : decode cX5_digest 68 = .ok (.lmul, 1) := by decide +kernel
theorem dX5_digest_69 : decode cX5_digest 69 = .ok (.aload_n 0, 1) := by decide +kernel
theorem dX5_digest_70 : decode cX5_digest 70 = .ok (.iload_n 3, 1) := by decide +kernel
theorem dX5_digest_71 : decode cX5_digest 71 = .ok (.iconst 0, 1) := by decide +kernel
theorem dX5_digest_72 : decode cX5_digest 72 = .ok (.invokevirtual 211, 3) := by decide +kernel
theorem dX5_digest_75 : decode cX5_digest 75 = .ok (.ladd, 1) := by decide +kernel
theorem dX5_digest_76 : decode cX5_digest 76 = .ok (.lstore_n 1, 1) := by decide +kernel
theorem dX5_digest_77 : decode cX5_digest 77 = .ok (.ldc2_w 201, 3) := by decide +kernel
theorem dX5_digest_80 : decode cX5_digest 80 = .ok (.lload_n 1, 1) := by decide +kernel
theorem dX5_digest_81 : decode cX5_digest 81 = .ok (.lmul, 1) := by decide +kernel
theorem dX5_digest_82 : decode cX5_digest 82 = .ok (.aload_n 0, 1) := by decide +kernel
theorem dX5_digest_83 : decode cX5_digest 83 = .ok (.iload_n 3, 1) := by decide +kernel
theorem dX5_digest_84 : decode cX5_digest 84 = .ok (.iconst 1, 1) := by decide +kernel
theorem dX5_digest_85 : decode cX5_digest 85 = .ok (.invokevirtual 211, 3) := by decide +kernel
theorem dX5_digest_88 : decode cX5_digest 88 = .ok (.ladd, 1) := by decide +kernel
theorem dX5_digest_89 : decode cX5_digest 89 = .ok (.lstore_n 1, 1) := by decide +kernel
theorem dX5_digest_90 : decode cX5_digest 90 = .ok (.iinc 3 1, 3) := by decide +kernel
theorem dX5_digest_93 : decode cX5_digest 93 = .ok (.goto (-87), 3) := by decide +kernel
theorem dX5_digest_96 : decode cX5_digest 96 = .ok (.aload_n 0, 1) := by decide +kernel
theorem dX5_digest_97 : decode cX5_digest 97 = .ok (.getfield 29, 3) := by decide +kernel
theorem dX5_digest_100 : decode cX5_digest 100 = .ok (.lload_n 1, 1) := by decide +kernel
theorem dX5_digest_101 : decode cX5_digest 101 = .ok (.invokevirtual 215, 3) := by decide +kernel
theorem dX5_digest_104 : decode cX5_digest 104 = .ok (.lreturn, 1) := by decide +kernel
theorem dX5_within_0 : decode cX5_within 0 = .ok (.iload_n 0, 1) := by decide +kernel
theorem dX5_within_1 : decode cX5_within 1 = .ok (.iload_n 1, 1) := by decide +kernel
theorem dX5_within_2 : decode cX5_within 2 = .ok (.if_icmp .lt 12, 3) := by decide +kernel
theorem dX5_within_5 : decode cX5_within 5 = .ok (.iload_n 0, 1) := by decide +kernel
theorem dX5_within_6 : decode cX5_within 6 = .ok (.iload_n 2, 1) := by decide +kernel
theorem dX5_within_7 : decode cX5_within 7 = .ok (.if_icmp .gt 7, 3) := by decide +kernel
theorem dX5_within_10 : decode cX5_within 10 = .ok (.iconst 1, 1) := by decide +kernel
theorem dX5_within_11 : decode cX5_within 11 = .ok (.goto 4, 3) := by decide +kernel
theorem dX5_within_14 : decode cX5_within 14 = .ok (.iconst 0, 1) := by decide +kernel
theorem dX5_within_15 : decode cX5_within 15 = .ok (.ireturn, 1) := by decide +kernel
theorem dX5_isBy_0 : decode cX5_isBy 0 = .ok (.iload_n 0, 1) := by decide +kernel
theorem dX5_isBy_1 : decode cX5_isBy 1 = .ok (.iconst 1, 1) := by decide +kernel
theorem dX5_isBy_2 : decode cX5_isBy 2 = .ok (.iconst 4, 1) := by decide +kernel
theorem dX5_isBy_3 : decode cX5_isBy 3 = .ok (.invokestatic 40, 3) := by decide +kernel
theorem dX5_isBy_6 : decode cX5_isBy 6 = .ok (.ifCond .ne 14, 3) := by decide +kernel
theorem dX5_isBy_9 : decode cX5_isBy 9 = .ok (.iload_n 0, 1) := by decide +kernel
theorem dX5_isBy_10 : decode cX5_isBy 10 = .ok (.bipush (-4), 2) := by decide +kernel
theorem dX5_isBy_12 : decode cX5_isBy 12 = .ok (.bipush (-2), 2) := by decide +kernel
theorem dX5_isBy_14 : decode cX5_isBy 14 = .ok (.invokestatic 40, 3) := by decide +kernel
theorem dX5_isBy_17 : decode cX5_isBy 17 = .ok (.ifCond .eq 7, 3) := by decide +kernel
theorem dX5_isBy_20 : decode cX5_isBy 20 = .ok (.iconst 1, 1) := by decide +kernel
theorem dX5_isBy_21 : decode cX5_isBy 21 = .ok (.goto 4, 3) := by decide +kernel
theorem dX5_isBy_24 : decode cX5_isBy 24 = .ok (.iconst 0, 1) := by decide +kernel
theorem dX5_isBy_25 : decode cX5_isBy 25 = .ok (.ireturn, 1) := by decide +kernel
theorem dX5_isSample_0 : decode cX5_isSample 0 = .ok (.iload_n 0, 1) := by decide +kernel
theorem dX5_isSample_1 : decode cX5_isSample 1 = .ok (.sipush (-32768), 3) := by decide +kernel
theorem dX5_isSample_4 : decode cX5_isSample 4 = .ok (.sipush 32767, 3) := by decide +kernel
theorem dX5_isSample_7 : decode cX5_isSample 7 = .ok (.invokestatic 40, 3) := by decide +kernel
theorem dX5_isSample_10 : decode cX5_isSample 10 = .ok (.ireturn, 1) := by decide +kernel
theorem dX5_isPlan_0 : decode cX5_isPlan 0 = .ok (.iload_n 0, 1) := by decide +kernel
theorem dX5_isPlan_1 : decode cX5_isPlan 1 = .ok (.iconst 4, 1) := by decide +kernel
theorem dX5_isPlan_2 : decode cX5_isPlan 2 = .ok (.bipush 16, 2) := by decide +kernel
theorem dX5_isPlan_4 : decode cX5_isPlan 4 = .ok (.invokestatic 40, 3) := by decide +kernel
theorem dX5_isPlan_7 : decode cX5_isPlan 7 = .ok (.ifCond .eq 18, 3) := by decide +kernel
theorem dX5_isPlan_10 : decode cX5_isPlan 10 = .ok (.iload_n 1, 1) := by decide +kernel
theorem dX5_isPlan_11 : decode cX5_isPlan 11 = .ok (.bipush 18, 2) := by decide +kernel
theorem dX5_isPlan_13 : decode cX5_isPlan 13 = .ok (.bipush 50, 2) := by decide +kernel
theorem dX5_isPlan_15 : decode cX5_isPlan 15 = .ok (.invokestatic 40, 3) := by decide +kernel
theorem dX5_isPlan_18 : decode cX5_isPlan 18 = .ok (.ifCond .eq 7, 3) := by decide +kernel
theorem dX5_isPlan_21 : decode cX5_isPlan 21 = .ok (.iconst 1, 1) := by decide +kernel
theorem dX5_isPlan_22 : decode cX5_isPlan 22 = .ok (.goto 4, 3) := by decide +kernel
theorem dX5_isPlan_25 : decode cX5_isPlan 25 = .ok (.iconst 0, 1) := by decide +kernel
theorem dX5_isPlan_26 : decode cX5_isPlan 26 = .ok (.ireturn, 1) := by decide +kernel
theorem dX5_find_0 : decode cX5_find 0 = .ok (.iload_n 1, 1) := by decide +kernel
theorem dX5_find_1 : decode cX5_find 1 = .ok (.ifCond .lt 20, 3) := by decide +kernel
theorem dX5_find_4 : decode cX5_find 4 = .ok (.iload_n 1, 1) := by decide +kernel
theorem dX5_find_5 : decode cX5_find 5 = .ok (.aload_n 0, 1) := by decide +kernel
theorem dX5_find_6 : decode cX5_find 6 = .ok (.getfield 15, 3) := by decide +kernel
theorem dX5_find_9 : decode cX5_find 9 = .ok (.if_icmp .ge 12, 3) := by decide +kernel
theorem dX5_find_12 : decode cX5_find 12 = .ok (.iload_n 1, 1) := by decide +kernel
theorem dX5_find_13 : decode cX5_find 13 = .ok (.aload_n 0, 1) := by decide +kernel
theorem dX5_find_14 : decode cX5_find 14 = .ok (.getfield 11, 3) := by decide +kernel
theorem dX5_find_17 : decode cX5_find 17 = .ok (.arraylength, 1) := by decide +kernel
theorem dX5_find_18 : decode cX5_find 18 = .ok (.if_icmp .lt 5, 3) := by decide +kernel
theorem dX5_find_21 : decode cX5_find 21 = .ok (.aconst_null, 1) := by decide +kernel
theorem dX5_find_22 : decode cX5_find 22 = .ok (.areturn, 1) := by decide +kernel
theorem dX5_find_23 : decode cX5_find 23 = .ok (.aload_n 0, 1) := by decide +kernel
theorem dX5_find_24 : decode cX5_find 24 = .ok (.getfield 11, 3) := by decide +kernel
theorem dX5_find_27 : decode cX5_find 27 = .ok (.iload_n 1, 1) := by decide +kernel
theorem dX5_find_28 : decode cX5_find 28 = .ok (.aaload, 1) := by decide +kernel
theorem dX5_find_29 : decode cX5_find 29 = .ok (.areturn, 1) := by decide +kernel
theorem dX5_placeOf_0 : decode cX5_placeOf 0 = .ok (.iconst 0, 1) := by decide +kernel
theorem dX5_placeOf_1 : decode cX5_placeOf 1 = .ok (.istore_n 2, 1) := by decide +kernel
theorem dX5_placeOf_2 : decode cX5_placeOf 2 = .ok (.iload_n 2, 1) := by decide +kernel
theorem dX5_placeOf_3 : decode cX5_placeOf 3 = .ok (.aload_n 0, 1) := by decide +kernel
theorem dX5_placeOf_4 : decode cX5_placeOf 4 = .ok (.getfield 23, 3) := by decide +kernel
theorem dX5_placeOf_7 : decode cX5_placeOf 7 = .ok (.if_icmp .ge 30, 3) := by decide +kernel
theorem dX5_placeOf_10 : decode cX5_placeOf 10 = .ok (.iload_n 2, 1) := by decide +kernel
theorem dX5_placeOf_11 : decode cX5_placeOf 11 = .ok (.aload_n 0, 1) := by decide +kernel
theorem dX5_placeOf_12 : decode cX5_placeOf 12 = .ok (.getfield 19, 3) := by decide +kernel
theorem dX5_placeOf_15 : decode cX5_placeOf 15 = .ok (.arraylength, 1) := by decide +kernel
theorem dX5_placeOf_16 : decode cX5_placeOf 16 = .ok (.if_icmp .ge 21, 3) := by decide +kernel
theorem dX5_placeOf_19 : decode cX5_placeOf 19 = .ok (.aload_n 0, 1) := by decide +kernel
theorem dX5_placeOf_20 : decode cX5_placeOf 20 = .ok (.getfield 19, 3) := by decide +kernel
theorem dX5_placeOf_23 : decode cX5_placeOf 23 = .ok (.iload_n 2, 1) := by decide +kernel
theorem dX5_placeOf_24 : decode cX5_placeOf 24 = .ok (.iaload, 1) := by decide +kernel
theorem dX5_placeOf_25 : decode cX5_placeOf 25 = .ok (.iload_n 1, 1) := by decide +kernel
theorem dX5_placeOf_26 : decode cX5_placeOf 26 = .ok (.if_icmp .ne 5, 3) := by decide +kernel
theorem dX5_placeOf_29 : decode cX5_placeOf 29 = .ok (.iload_n 2, 1) := by decide +kernel
theorem dX5_placeOf_30 : decode cX5_placeOf 30 = .ok (.ireturn, 1) := by decide +kernel
theorem dX5_placeOf_31 : decode cX5_placeOf 31 = .ok (.iinc 2 1, 3) := by decide +kernel
theorem dX5_placeOf_34 : decode cX5_placeOf 34 = .ok (.goto (-32), 3) := by decide +kernel
theorem dX5_placeOf_37 : decode cX5_placeOf 37 = .ok (.iconst (-1), 1) := by decide +kernel
theorem dX5_placeOf_38 : decode cX5_placeOf 38 = .ok (.ireturn, 1) := by decide +kernel
theorem dX5_unplan_0 : decode cX5_unplan 0 = .ok (.aload_n 2, 1) := by decide +kernel
theorem dX5_unplan_1 : decode cX5_unplan 1 = .ok (.invokevirtual 218, 3) := by decide +kernel
theorem dX5_unplan_4 : decode cX5_unplan 4 = .ok (.aload_n 0, 1) := by decide +kernel
theorem dX5_unplan_5 : decode cX5_unplan 5 = .ok (.iload_n 1, 1) := by decide +kernel
theorem dX5_unplan_6 : decode cX5_unplan 6 = .ok (.invokevirtual 122, 3) := by decide +kernel
theorem dX5_unplan_9 : decode cX5_unplan 9 = .ok (.istore_n 3, 1) := by decide +kernel
theorem dX5_unplan_10 : decode cX5_unplan 10 = .ok (.iload_n 3, 1) := by decide +kernel
theorem dX5_unplan_11 : decode cX5_unplan 11 = .ok (.iconst (-1), 1) := by decide +kernel
theorem dX5_unplan_12 : decode cX5_unplan 12 = .ok (.if_icmp .ne 4, 3) := by decide +kernel
theorem dX5_unplan_15 : decode cX5_unplan 15 = .ok (.return_, 1) := by decide +kernel
theorem dX5_unplan_16 : decode cX5_unplan 16 = .ok (.iload_n 3, 1) := by decide +kernel
theorem dX5_unplan_17 : decode cX5_unplan 17 = .ok (.istore 4, 2) := by decide +kernel
theorem dX5_unplan_19 : decode cX5_unplan 19 = .ok (.iload 4, 2) := by decide +kernel
theorem dX5_unplan_21 : decode cX5_unplan 21 = .ok (.iconst 1, 1) := by decide +kernel
theorem dX5_unplan_22 : decode cX5_unplan 22 = .ok (.iadd, 1) := by decide +kernel
theorem dX5_unplan_23 : decode cX5_unplan 23 = .ok (.aload_n 0, 1) := by decide +kernel
theorem dX5_unplan_24 : decode cX5_unplan 24 = .ok (.getfield 23, 3) := by decide +kernel
theorem dX5_unplan_27 : decode cX5_unplan 27 = .ok (.if_icmp .ge 37, 3) := by decide +kernel
theorem dX5_unplan_30 : decode cX5_unplan 30 = .ok (.iload 4, 2) := by decide +kernel
theorem dX5_unplan_32 : decode cX5_unplan 32 = .ok (.iconst 1, 1) := by decide +kernel
theorem dX5_unplan_33 : decode cX5_unplan 33 = .ok (.iadd, 1) := by decide +kernel
theorem dX5_unplan_34 : decode cX5_unplan 34 = .ok (.aload_n 0, 1) := by decide +kernel
theorem dX5_unplan_35 : decode cX5_unplan 35 = .ok (.getfield 19, 3) := by decide +kernel
theorem dX5_unplan_38 : decode cX5_unplan 38 = .ok (.arraylength, 1) := by decide +kernel
theorem dX5_unplan_39 : decode cX5_unplan 39 = .ok (.if_icmp .ge 25, 3) := by decide +kernel
theorem dX5_unplan_42 : decode cX5_unplan 42 = .ok (.aload_n 0, 1) := by decide +kernel
theorem dX5_unplan_43 : decode cX5_unplan 43 = .ok (.getfield 19, 3) := by decide +kernel
theorem dX5_unplan_46 : decode cX5_unplan 46 = .ok (.iload 4, 2) := by decide +kernel
theorem dX5_unplan_48 : decode cX5_unplan 48 = .ok (.aload_n 0, 1) := by decide +kernel
theorem dX5_unplan_49 : decode cX5_unplan 49 = .ok (.getfield 19, 3) := by decide +kernel
theorem dX5_unplan_52 : decode cX5_unplan 52 = .ok (.iload 4, 2) := by decide +kernel
theorem dX5_unplan_54 : decode cX5_unplan 54 = .ok (.iconst 1, 1) := by decide +kernel
theorem dX5_unplan_55 : decode cX5_unplan 55 = .ok (.iadd, 1) := by decide +kernel
theorem dX5_unplan_56 : decode cX5_unplan 56 = .ok (.iaload, 1) := by decide +kernel
theorem dX5_unplan_57 : decode cX5_unplan 57 = .ok (.iastore, 1) := by decide +kernel
theorem dX5_unplan_58 : decode cX5_unplan 58 = .ok (.iinc 4 1, 3) := by decide +kernel
theorem dX5_unplan_61 : decode cX5_unplan 61 = .ok (.goto (-42), 3) := by decide +kernel
theorem dX5_unplan_64 : decode cX5_unplan 64 = .ok (.aload_n 0, 1) := by decide +kernel
theorem dX5_unplan_65 : decode cX5_unplan 65 = .ok (.dup, 1) := by decide +kernel
theorem dX5_unplan_66 : decode cX5_unplan 66 = .ok (.getfield 23, 3) := by decide +kernel
theorem dX5_unplan_69 : decode cX5_unplan 69 = .ok (.iconst 1, 1) := by decide +kernel
theorem dX5_unplan_70 : decode cX5_unplan 70 = .ok (.isub, 1) := by decide +kernel
theorem dX5_unplan_71 : decode cX5_unplan 71 = .ok (.putfield 23, 3) := by decide +kernel
theorem dX5_unplan_74 : decode cX5_unplan 74 = .ok (.return_, 1) := by decide +kernel
theorem dX5_filledByChain_0 : decode cX5_filledByChain 0 = .ok (.iconst 1, 1) := by decide +kernel
theorem dX5_filledByChain_1 : decode cX5_filledByChain 1 = .ok (.istore_n 1, 1) := by decide +kernel
theorem dX5_filledByChain_2 : decode cX5_filledByChain 2 = .ok (.iconst 0, 1) := by decide +kernel
theorem dX5_filledByChain_3 : decode cX5_filledByChain 3 = .ok (.istore_n 2, 1) := by decide +kernel
theorem dX5_filledByChain_4 : decode cX5_filledByChain 4 = .ok (.iload_n 2, 1) := by decide +kernel
theorem dX5_filledByChain_5 : decode cX5_filledByChain 5 = .ok (.aload_n 0, 1) := by decide +kernel
theorem dX5_filledByChain_6 : decode cX5_filledByChain 6 = .ok (.getfield 23, 3) := by decide +kernel
theorem dX5_filledByChain_9 : decode cX5_filledByChain 9 = .ok (.if_icmp .ge 40, 3) := by decide +kernel
theorem dX5_filledByChain_12 : decode cX5_filledByChain 12 = .ok (.iload_n 2, 1) := by decide +kernel
theorem dX5_filledByChain_13 : decode cX5_filledByChain 13 = .ok (.aload_n 0, 1) := by decide +kernel
theorem dX5_filledByChain_14 : decode cX5_filledByChain 14 = .ok (.getfield 19, 3) := by decide +kernel
theorem dX5_filledByChain_17 : decode cX5_filledByChain 17 = .ok (.arraylength, 1) := by decide +kernel
theorem dX5_filledByChain_18 : decode cX5_filledByChain 18 = .ok (.if_icmp .ge 31, 3) := by decide +kernel
theorem dX5_filledByChain_21 : decode cX5_filledByChain 21 = .ok (.aload_n 0, 1) := by decide +kernel
theorem dX5_filledByChain_22 : decode cX5_filledByChain 22 = .ok (.aload_n 0, 1) := by decide +kernel
theorem dX5_filledByChain_23 : decode cX5_filledByChain 23 = .ok (.getfield 19, 3) := by decide +kernel
theorem dX5_filledByChain_26 : decode cX5_filledByChain 26 = .ok (.iload_n 2, 1) := by decide +kernel
theorem dX5_filledByChain_27 : decode cX5_filledByChain 27 = .ok (.iaload, 1) := by decide +kernel
theorem dX5_filledByChain_28 : decode cX5_filledByChain 28 = .ok (.invokevirtual 51, 3) := by decide +kernel
theorem dX5_filledByChain_31 : decode cX5_filledByChain 31 = .ok (.astore_n 3, 1) := by decide +kernel
theorem dX5_filledByChain_32 : decode cX5_filledByChain 32 = .ok (.aload_n 3, 1) := by decide +kernel
theorem dX5_filledByChain_33 : decode cX5_filledByChain 33 = .ok (.ifnull 10, 3) := by decide +kernel
theorem dX5_filledByChain_36 : decode cX5_filledByChain 36 = .ok (.iload_n 1, 1) := by decide +kernel
theorem dX5_filledByChain_37 : decode cX5_filledByChain 37 = .ok (.aload_n 3, 1) := by decide +kernel
theorem dX5_filledByChain_38 : decode cX5_filledByChain 38 = .ok (.invokevirtual 138, 3) := by decide +kernel
theorem dX5_filledByChain_41 : decode cX5_filledByChain 41 = .ok (.imul, 1) := by decide +kernel
theorem dX5_filledByChain_42 : decode cX5_filledByChain 42 = .ok (.istore_n 1, 1) := by decide +kernel
theorem dX5_filledByChain_43 : decode cX5_filledByChain 43 = .ok (.iinc 2 1, 3) := by decide +kernel
theorem dX5_filledByChain_46 : decode cX5_filledByChain 46 = .ok (.goto (-42), 3) := by decide +kernel
theorem dX5_filledByChain_49 : decode cX5_filledByChain 49 = .ok (.iload_n 1, 1) := by decide +kernel
theorem dX5_filledByChain_50 : decode cX5_filledByChain 50 = .ok (.ireturn, 1) := by decide +kernel
theorem dX5_send_0 : decode cX5_send 0 = .ok (.aload_n 0, 1) := by decide +kernel
theorem dX5_send_1 : decode cX5_send 1 = .ok (.getfield 33, 3) := by decide +kernel
theorem dX5_send_4 : decode cX5_send 4 = .ok (.astore_n 2, 1) := by decide +kernel
theorem dX5_send_5 : decode cX5_send 5 = .ok (.aload_n 0, 1) := by decide +kernel
theorem dX5_send_6 : decode cX5_send 6 = .ok (.getfield 36, 3) := by decide +kernel
theorem dX5_send_9 : decode cX5_send 9 = .ok (.astore_n 3, 1) := by decide +kernel
theorem dX5_send_10 : decode cX5_send 10 = .ok (.aload_n 2, 1) := by decide +kernel
theorem dX5_send_11 : decode cX5_send 11 = .ok (.iconst 0, 1) := by decide +kernel
theorem dX5_send_12 : decode cX5_send 12 = .ok (.iload_n 1, 1) := by decide +kernel
theorem dX5_send_13 : decode cX5_send 13 = .ok (.iastore, 1) := by decide +kernel
theorem dX5_send_14 : decode cX5_send 14 = .ok (.iconst 1, 1) := by decide +kernel
theorem dX5_send_15 : decode cX5_send 15 = .ok (.istore 4, 2) := by decide +kernel
theorem dX5_send_17 : decode cX5_send 17 = .ok (.iconst 0, 1) := by decide +kernel
theorem dX5_send_18 : decode cX5_send 18 = .ok (.istore 5, 2) := by decide +kernel
theorem dX5_send_20 : decode cX5_send 20 = .ok (.iload 5, 2) := by decide +kernel
theorem dX5_send_22 : decode cX5_send 22 = .ok (.aload_n 0, 1) := by decide +kernel
theorem dX5_send_23 : decode cX5_send 23 = .ok (.getfield 23, 3) := by decide +kernel
theorem dX5_send_26 : decode cX5_send 26 = .ok (.if_icmp .ge 56, 3) := by decide +kernel
theorem dX5_send_29 : decode cX5_send 29 = .ok (.iload 5, 2) := by decide +kernel
theorem dX5_send_31 : decode cX5_send 31 = .ok (.aload_n 0, 1) := by decide +kernel
theorem dX5_send_32 : decode cX5_send 32 = .ok (.getfield 19, 3) := by decide +kernel
theorem dX5_send_35 : decode cX5_send 35 = .ok (.arraylength, 1) := by decide +kernel
theorem dX5_send_36 : decode cX5_send 36 = .ok (.if_icmp .ge 46, 3) := by decide +kernel
theorem dX5_send_39 : decode cX5_send 39 = .ok (.aload_n 0, 1) := by decide +kernel
theorem dX5_send_40 : decode cX5_send 40 = .ok (.aload_n 0, 1) := by decide +kernel
theorem dX5_send_41 : decode cX5_send 41 = .ok (.getfield 19, 3) := by decide +kernel
theorem dX5_send_44 : decode cX5_send 44 = .ok (.iload 5, 2) := by decide +kernel
theorem dX5_send_46 : decode cX5_send 46 = .ok (.iaload, 1) := by decide +kernel
theorem dX5_send_47 : decode cX5_send 47 = .ok (.invokevirtual 51, 3) := by decide +kernel
theorem dX5_send_50 : decode cX5_send 50 = .ok (.astore 6, 2) := by decide +kernel
theorem dX5_send_52 : decode cX5_send 52 = .ok (.aload 6, 2) := by decide +kernel
theorem dX5_send_54 : decode cX5_send 54 = .ok (.ifnull 22, 3) := by decide +kernel
theorem dX5_send_57 : decode cX5_send 57 = .ok (.aload 6, 2) := by decide +kernel
theorem dX5_send_59 : decode cX5_send 59 = .ok (.aload_n 2, 1) := by decide +kernel
theorem dX5_send_60 : decode cX5_send 60 = .ok (.iload 4, 2) := by decide +kernel
theorem dX5_send_62 : decode cX5_send 62 = .ok (.aload_n 3, 1) := by decide +kernel
theorem dX5_send_63 : decode cX5_send 63 = .ok (.invokevirtual 221, 3) := by decide +kernel
theorem dX5_send_66 : decode cX5_send 66 = .ok (.istore 4, 2) := by decide +kernel
theorem dX5_send_68 : decode cX5_send 68 = .ok (.aload_n 2, 1) := by decide +kernel
theorem dX5_send_69 : decode cX5_send 69 = .ok (.astore 7, 2) := by decide +kernel
theorem dX5_send_71 : decode cX5_send 71 = .ok (.aload_n 3, 1) := by decide +kernel
theorem dX5_send_72 : decode cX5_send 72 = .ok (.astore_n 2, 1) := by decide +kernel
theorem dX5_send_73 : decode cX5_send 73 = .ok (.aload 7, 2) := by decide +kernel
theorem dX5_send_75 : decode cX5_send 75 = .ok (.astore_n 3, 1) := by decide +kernel
theorem dX5_send_76 : decode cX5_send 76 = .ok (.iinc 5 1, 3) := by decide +kernel
theorem dX5_send_79 : decode cX5_send 79 = .ok (.goto (-59), 3) := by decide +kernel
theorem dX5_send_82 : decode cX5_send 82 = .ok (.iconst 0, 1) := by decide +kernel
theorem dX5_send_83 : decode cX5_send 83 = .ok (.istore 5, 2) := by decide +kernel
theorem dX5_send_85 : decode cX5_send 85 = .ok (.iload 5, 2) := by decide +kernel
theorem dX5_send_87 : decode cX5_send 87 = .ok (.iload 4, 2) := by decide +kernel
theorem dX5_send_89 : decode cX5_send 89 = .ok (.if_icmp .ge 27, 3) := by decide +kernel
theorem dX5_send_92 : decode cX5_send 92 = .ok (.iload 5, 2) := by decide +kernel
theorem dX5_send_94 : decode cX5_send 94 = .ok (.aload_n 2, 1) := by decide +kernel
theorem dX5_send_95 : decode cX5_send 95 = .ok (.arraylength, 1) := by decide +kernel
theorem dX5_send_96 : decode cX5_send 96 = .ok (.if_icmp .ge 20, 3) := by decide +kernel
theorem dX5_send_99 : decode cX5_send 99 = .ok (.aload_n 0, 1) := by decide +kernel
theorem dX5_send_100 : decode cX5_send 100 = .ok (.getfield 29, 3) := by decide +kernel
theorem dX5_send_103 : decode cX5_send 103 = .ok (.aload_n 2, 1) := by decide +kernel
theorem dX5_send_104 : decode cX5_send 104 = .ok (.iload 5, 2) := by decide +kernel
theorem dX5_send_106 : decode cX5_send 106 = .ok (.iaload, 1) := by decide +kernel
theorem dX5_send_107 : decode cX5_send 107 = .ok (.invokevirtual 225, 3) := by decide +kernel
theorem dX5_send_110 : decode cX5_send 110 = .ok (.iinc 5 1, 3) := by decide +kernel
theorem dX5_send_113 : decode cX5_send 113 = .ok (.goto (-28), 3) := by decide +kernel
theorem dX5_send_116 : decode cX5_send 116 = .ok (.iload 4, 2) := by decide +kernel
theorem dX5_send_118 : decode cX5_send 118 = .ok (.ireturn, 1) := by decide +kernel
theorem dX6_init_0 : decode cX6_init 0 = .ok (.aload_n 0, 1) := by decide +kernel
theorem dX6_init_1 : decode cX6_init 1 = .ok (.invokespecial 1, 3) := by decide +kernel
theorem dX6_init_4 : decode cX6_init 4 = .ok (.aload_n 0, 1) := by decide +kernel
theorem dX6_init_5 : decode cX6_init 5 = .ok (.bipush 8, 2) := by decide +kernel
theorem dX6_init_7 : decode cX6_init 7 = .ok (.newarray .int, 2) := by decide +kernel
theorem dX6_init_9 : decode cX6_init 9 = .ok (.putfield 7, 3) := by decide +kernel
theorem dX6_init_12 : decode cX6_init 12 = .ok (.aload_n 0, 1) := by decide +kernel
theorem dX6_init_13 : decode cX6_init 13 = .ok (.bipush 8, 2) := by decide +kernel
theorem dX6_init_15 : decode cX6_init 15 = .ok (.newarray .int, 2) := by decide +kernel
theorem dX6_init_17 : decode cX6_init 17 = .ok (.putfield 13, 3) := by decide +kernel
theorem dX6_init_20 : decode cX6_init 20 = .ok (.aload_n 0, 1) := by decide +kernel
theorem dX6_init_21 : decode cX6_init 21 = .ok (.bipush 8, 2) := by decide +kernel
theorem dX6_init_23 : decode cX6_init 23 = .ok (.newarray .int, 2) := by decide +kernel
theorem dX6_init_25 : decode cX6_init 25 = .ok (.putfield 16, 3) := by decide +kernel
theorem dX6_init_28 : decode cX6_init 28 = .ok (.aload_n 0, 1) := by decide +kernel
theorem dX6_init_29 : decode cX6_init 29 = .ok (.sipush 256, 3) := by decide +kernel
theorem dX6_init_32 : decode cX6_init 32 = .ok (.newarray .int, 2) := by decide +kernel
theorem dX6_init_34 : decode cX6_init 34 = .ok (.putfield 19, 3) := by decide +kernel
theorem dX6_init_37 : decode cX6_init 37 = .ok (.aload_n 0, 1) := by decide +kernel
theorem dX6_init_38 : decode cX6_init 38 = .ok (.bipush 8, 2) := by decide +kernel
theorem dX6_init_40 : decode cX6_init 40 = .ok (.newarray .int, 2) := by decide +kernel
theorem dX6_init_42 : decode cX6_init 42 = .ok (.putfield 22, 3) := by decide +kernel
theorem dX6_init_45 : decode cX6_init 45 = .ok (.aload_n 0, 1) := by decide +kernel
theorem dX6_init_46 : decode cX6_init 46 = .ok (.bipush 8, 2) := by decide +kernel
theorem dX6_init_48 : decode cX6_init 48 = .ok (.newarray .boolean, 2) := by decide +kernel
theorem dX6_init_50 : decode cX6_init 50 = .ok (.putfield 25, 3) := by decide +kernel
theorem dX6_init_53 : decode cX6_init 53 = .ok (.aload_n 0, 1) := by decide +kernel
theorem dX6_init_54 : decode cX6_init 54 = .ok (.bipush 8, 2) := by decide +kernel
theorem dX6_init_56 : decode cX6_init 56 = .ok (.newarray .boolean, 2) := by decide +kernel
theorem dX6_init_58 : decode cX6_init 58 = .ok (.putfield 29, 3) := by decide +kernel
theorem dX6_init_61 : decode cX6_init 61 = .ok (.aload_n 0, 1) := by decide +kernel
theorem dX6_init_62 : decode cX6_init 62 = .ok (.bipush 8, 2) := by decide +kernel
theorem dX6_init_64 : decode cX6_init 64 = .ok (.newarray .int, 2) := by decide +kernel
theorem dX6_init_66 : decode cX6_init 66 = .ok (.putfield 32, 3) := by decide +kernel
theorem dX6_init_69 : decode cX6_init 69 = .ok (.aload_n 0, 1) := by decide +kernel
theorem dX6_init_70 : decode cX6_init 70 = .ok (.bipush 8, 2) := by decide +kernel
theorem dX6_init_72 : decode cX6_init 72 = .ok (.newarray .int, 2) := by decide +kernel
theorem dX6_init_74 : decode cX6_init 74 = .ok (.putfield 35, 3) := by decide +kernel
theorem dX6_init_77 : decode cX6_init 77 = .ok (.aload_n 0, 1) := by decide +kernel
theorem dX6_init_78 : decode cX6_init 78 = .ok (.bipush 8, 2) := by decide +kernel
theorem dX6_init_80 : decode cX6_init 80 = .ok (.newarray .int, 2) := by decide +kernel
theorem dX6_init_82 : decode cX6_init 82 = .ok (.putfield 38, 3) := by decide +kernel
theorem dX6_init_85 : decode cX6_init 85 = .ok (.aload_n 0, 1) := by decide +kernel
theorem dX6_init_86 : decode cX6_init 86 = .ok (.sipush 256, 3) := by decide +kernel
theorem dX6_init_89 : decode cX6_init 89 = .ok (.newarray .int, 2) := by decide +kernel
theorem dX6_init_91 : decode cX6_init 91 = .ok (.putfield 41, 3) := by decide +kernel
theorem dX6_init_94 : decode cX6_init 94 = .ok (.aload_n 0, 1) := by decide +kernel
theorem dX6_init_95 : decode cX6_init 95 = .ok (.sipush 256, 3) := by decide +kernel
theorem dX6_init_98 : decode cX6_init 98 = .ok (.newarray .int, 2) := by decide +kernel
theorem dX6_init_100 : decode cX6_init 100 = .ok (.putfield 44, 3) := by decide +kernel
theorem dX6_init_103 : decode cX6_init 103 = .ok (.aload_n 0, 1) := by decide +kernel
theorem dX6_init_104 : decode cX6_init 104 = .ok (.bipush 8, 2) := by decide +kernel
theorem dX6_init_106 : decode cX6_init 106 = .ok (.newarray .int, 2) := by decide +kernel
theorem dX6_init_108 : decode cX6_init 108 = .ok (.putfield 47, 3) := by decide +kernel
theorem dX6_init_111 : decode cX6_init 111 = .ok (.aload_n 0, 1) := by decide +kernel
theorem dX6_init_112 : decode cX6_init 112 = .ok (.bipush 8, 2) := by decide +kernel
theorem dX6_init_114 : decode cX6_init 114 = .ok (.newarray .long, 2) := by decide +kernel
theorem dX6_init_116 : decode cX6_init 116 = .ok (.putfield 50, 3) := by decide +kernel
theorem dX6_init_119 : decode cX6_init 119 = .ok (.aload_n 0, 1) := by decide +kernel
theorem dX6_init_120 : decode cX6_init 120 = .ok (.bipush 8, 2) := by decide +kernel
theorem dX6_init_122 : decode cX6_init 122 = .ok (.newarray .long, 2) := by decide +kernel
theorem dX6_init_124 : decode cX6_init 124 = .ok (.putfield 54, 3) := by decide +kernel
theorem dX6_init_127 : decode cX6_init 127 = .ok (.aload_n 0, 1) := by decide +kernel
theorem dX6_init_128 : decode cX6_init 128 = .ok (.bipush 8, 2) := by decide +kernel
theorem dX6_init_130 : decode cX6_init 130 = .ok (.newarray .long, 2) := by decide +kernel
theorem dX6_init_132 : decode cX6_init 132 = .ok (.putfield 57, 3) := by decide +kernel
theorem dX6_init_135 : decode cX6_init 135 = .ok (.aload_n 0, 1) := by decide +kernel
theorem dX6_init_136 : decode cX6_init 136 = .ok (.bipush 8, 2) := by decide +kernel
theorem dX6_init_138 : decode cX6_init 138 = .ok (.newarray .boolean, 2) := by decide +kernel
theorem dX6_init_140 : decode cX6_init 140 = .ok (.putfield 60, 3) := by decide +kernel
theorem dX6_init_143 : decode cX6_init 143 = .ok (.aload_n 0, 1) := by decide +kernel
theorem dX6_init_144 : decode cX6_init 144 = .ok (.bipush 8, 2) := by decide +kernel
theorem dX6_init_146 : decode cX6_init 146 = .ok (.newarray .long, 2) := by decide +kernel
theorem dX6_init_148 : decode cX6_init 148 = .ok (.putfield 63, 3) := by decide +kernel
theorem dX6_init_151 : decode cX6_init 151 = .ok (.aload_n 0, 1) := by decide +kernel
theorem dX6_init_152 : decode cX6_init 152 = .ok (.bipush 8, 2) := by decide +kernel
theorem dX6_init_154 : decode cX6_init 154 = .ok (.newarray .long, 2) := by decide +kernel
theorem dX6_init_156 : decode cX6_init 156 = .ok (.putfield 66, 3) := by decide +kernel
theorem dX6_init_159 : decode cX6_init 159 = .ok (.aload_n 0, 1) := by decide +kernel
theorem dX6_init_160 : decode cX6_init 160 = .ok (.bipush 8, 2) := by decide +kernel
theorem dX6_init_162 : decode cX6_init 162 = .ok (.newarray .int, 2) := by decide +kernel
theorem dX6_init_164 : decode cX6_init 164 = .ok (.putfield 69, 3) := by decide +kernel
theorem dX6_init_167 : decode cX6_init 167 = .ok (.aload_n 0, 1) := by decide +kernel
theorem dX6_init_168 : decode cX6_init 168 = .ok (.bipush 8, 2) := by decide +kernel
theorem dX6_init_170 : decode cX6_init 170 = .ok (.newarray .long, 2) := by decide +kernel
theorem dX6_init_172 : decode cX6_init 172 = .ok (.putfield 72, 3) := by decide +kernel
theorem dX6_init_175 : decode cX6_init 175 = .ok (.aload_n 0, 1) := by decide +kernel
theorem dX6_init_176 : decode cX6_init 176 = .ok (.bipush 8, 2) := by decide +kernel
theorem dX6_init_178 : decode cX6_init 178 = .ok (.newarray .long, 2) := by decide +kernel
theorem dX6_init_180 : decode cX6_init 180 = .ok (.putfield 75, 3) := by decide +kernel
theorem dX6_init_183 : decode cX6_init 183 = .ok (.aload_n 0, 1) := by decide +kernel
theorem dX6_init_184 : decode cX6_init 184 = .ok (.bipush 8, 2) := by decide +kernel
theorem dX6_init_186 : decode cX6_init 186 = .ok (.newarray .int, 2) := by decide +kernel
theorem dX6_init_188 : decode cX6_init 188 = .ok (.putfield 78, 3) := by decide +kernel
theorem dX6_init_191 : decode cX6_init 191 = .ok (.aload_n 0, 1) := by decide +kernel
theorem dX6_init_192 : decode cX6_init 192 = .ok (.bipush 8, 2) := by decide +kernel
theorem dX6_init_194 : decode cX6_init 194 = .ok (.newarray .int, 2) := by decide +kernel
theorem dX6_init_196 : decode cX6_init 196 = .ok (.putfield 81, 3) := by decide +kernel
theorem dX6_init_199 : decode cX6_init 199 = .ok (.aload_n 0, 1) := by decide +kernel
theorem dX6_init_200 : decode cX6_init 200 = .ok (.sipush 600, 3) := by decide +kernel
theorem dX6_init_203 : decode cX6_init 203 = .ok (.newarray .int, 2) := by decide +kernel
theorem dX6_init_205 : decode cX6_init 205 = .ok (.putfield 84, 3) := by decide +kernel
theorem dX6_init_208 : decode cX6_init 208 = .ok (.aload_n 0, 1) := by decide +kernel
theorem dX6_init_209 : decode cX6_init 209 = .ok (.bipush 64, 2) := by decide +kernel
theorem dX6_init_211 : decode cX6_init 211 = .ok (.newarray .int, 2) := by decide +kernel
theorem dX6_init_213 : decode cX6_init 213 = .ok (.putfield 87, 3) := by decide +kernel
theorem dX6_init_216 : decode cX6_init 216 = .ok (.aload_n 0, 1) := by decide +kernel
theorem dX6_init_217 : decode cX6_init 217 = .ok (.bipush 64, 2) := by decide +kernel
theorem dX6_init_219 : decode cX6_init 219 = .ok (.newarray .int, 2) := by decide +kernel
theorem dX6_init_221 : decode cX6_init 221 = .ok (.putfield 90, 3) := by decide +kernel
theorem dX6_init_224 : decode cX6_init 224 = .ok (.return_, 1) := by decide +kernel
theorem dX6_in_0 : decode cX6_in 0 = .ok (.lload_n 0, 1) := by decide +kernel
theorem dX6_in_1 : decode cX6_in 1 = .ok (.lload_n 2, 1) := by decide +kernel
theorem dX6_in_2 : decode cX6_in 2 = .ok (.lcmp, 1) := by decide +kernel
theorem dX6_in_3 : decode cX6_in 3 = .ok (.ifCond .lt 14, 3) := by decide +kernel
theorem dX6_in_6 : decode cX6_in 6 = .ok (.lload_n 0, 1) := by decide +kernel
theorem dX6_in_7 : decode cX6_in 7 = .ok (.lload 4, 2) := by decide +kernel
theorem dX6_in_9 : decode cX6_in 9 = .ok (.lcmp, 1) := by decide +kernel
theorem dX6_in_10 : decode cX6_in 10 = .ok (.ifCond .gt 7, 3) := by decide +kernel
theorem dX6_in_13 : decode cX6_in 13 = .ok (.iconst 1, 1) := by decide +kernel
theorem dX6_in_14 : decode cX6_in 14 = .ok (.goto 4, 3) := by decide +kernel
theorem dX6_in_17 : decode cX6_in 17 = .ok (.iconst 0, 1) := by decide +kernel
theorem dX6_in_18 : decode cX6_in 18 = .ok (.ireturn, 1) := by decide +kernel
theorem dX6_isStage_0 : decode cX6_isStage 0 = .ok (.iload_n 1, 1) := by decide +kernel
theorem dX6_isStage_1 : decode cX6_isStage 1 = .ok (.i2l, 1) := by decide +kernel
theorem dX6_isStage_2 : decode cX6_isStage 2 = .ok (.lconst 0, 1) := by decide +kernel
theorem dX6_isStage_3 : decode cX6_isStage 3 = .ok (.aload_n 0, 1) := by decide +kernel
theorem dX6_isStage_4 : decode cX6_isStage 4 = .ok (.getfield 93, 3) := by decide +kernel
theorem dX6_isStage_7 : decode cX6_isStage 7 = .ok (.iconst 1, 1) := by decide +kernel
theorem dX6_isStage_8 : decode cX6_isStage 8 = .ok (.isub, 1) := by decide +kernel
theorem dX6_isStage_9 : decode cX6_isStage 9 = .ok (.i2l, 1) := by decide +kernel
theorem dX6_isStage_10 : decode cX6_isStage 10 = .ok (.invokestatic 97, 3) := by decide +kernel
theorem dX6_isStage_13 : decode cX6_isStage 13 = .ok (.ireturn, 1) := by decide +kernel
theorem dX6_size_0 : decode cX6_size 0 = .ok (.lload_n 0, 1) := by decide +kernel
theorem dX6_size_1 : decode cX6_size 1 = .ok (.lconst 0, 1) := by decide +kernel
theorem dX6_size_2 : decode cX6_size 2 = .ok (.lcmp, 1) := by decide +kernel
theorem dX6_size_3 : decode cX6_size 3 = .ok (.ifCond .ge 8, 3) := by decide +kernel
theorem dX6_size_6 : decode cX6_size 6 = .ok (.lload_n 0, 1) := by decide +kernel
theorem dX6_size_7 : decode cX6_size 7 = .ok (.lneg, 1) := by decide +kernel
theorem dX6_size_8 : decode cX6_size 8 = .ok (.goto 4, 3) := by decide +kernel
theorem dX6_size_11 : decode cX6_size 11 = .ok (.lload_n 0, 1) := by decide +kernel
theorem dX6_size_12 : decode cX6_size 12 = .ok (.lreturn, 1) := by decide +kernel
theorem dX6_stage_0 : decode cX6_stage 0 = .ok (.iload_n 1, 1) := by decide +kernel
theorem dX6_stage_1 : decode cX6_stage 1 = .ok (.i2l, 1) := by decide +kernel
theorem dX6_stage_2 : decode cX6_stage 2 = .ok (.lconst 1, 1) := by decide +kernel
theorem dX6_stage_3 : decode cX6_stage 3 = .ok (.ldc2_w 101, 3) := by decide +kernel
theorem dX6_stage_6 : decode cX6_stage 6 = .ok (.invokestatic 97, 3) := by decide +kernel
theorem dX6_stage_9 : decode cX6_stage 9 = .ok (.ifCond .eq 29, 3) := by decide +kernel
theorem dX6_stage_12 : decode cX6_stage 12 = .ok (.iload_n 2, 1) := by decide +kernel
theorem dX6_stage_13 : decode cX6_stage 13 = .ok (.i2l, 1) := by decide +kernel
theorem dX6_stage_14 : decode cX6_stage 14 = .ok (.lconst 1, 1) := by decide +kernel
theorem dX6_stage_15 : decode cX6_stage 15 = .ok (.ldc2_w 103, 3) := by decide +kernel
theorem dX6_stage_18 : decode cX6_stage 18 = .ok (.invokestatic 97, 3) := by decide +kernel
theorem dX6_stage_21 : decode cX6_stage 21 = .ok (.ifCond .ne 20, 3) := by decide +kernel
theorem dX6_stage_24 : decode cX6_stage 24 = .ok (.iload_n 2, 1) := by decide +kernel
theorem dX6_stage_25 : decode cX6_stage 25 = .ok (.i2l, 1) := by decide +kernel
theorem dX6_stage_26 : decode cX6_stage 26 = .ok (.ldc2_w 105, 3) := by decide +kernel
theorem dX6_stage_29 : decode cX6_stage 29 = .ok (.ldc2_w 107, 3) := by decide +kernel
theorem dX6_stage_32 : decode cX6_stage 32 = .ok (.invokestatic 97, 3) := by decide +kernel
theorem dX6_stage_35 : decode cX6_stage 35 = .ok (.ifCond .ne 6, 3) := by decide +kernel
theorem dX6_stage_38 : decode cX6_stage 38 = .ok (.bipush (-2), 2) := by decide +kernel
theorem dX6_stage_40 : decode cX6_stage 40 = .ok (.ireturn, 1) := by decide +kernel
theorem dX6_stage_41 : decode cX6_stage 41 = .ok (.aload_n 0, 1) := by decide +kernel
theorem dX6_stage_42 : decode cX6_stage 42 = .ok (.getfield 93, 3) := by decide +kernel
theorem dX6_stage_45 : decode cX6_stage 45 = .ok (.bipush 8, 2) := by decide +kernel
theorem dX6_stage_47 : decode cX6_stage 47 = .ok (.if_icmp .ne 6, 3) := by decide +kernel
theorem dX6_stage_50 : decode cX6_stage 50 = .ok (.bipush (-4), 2) := by decide +kernel
theorem dX6_stage_52 : decode cX6_stage 52 = .ok (.ireturn, 1) := by decide +kernel
theorem dX6_stage_53 : decode cX6_stage 53 = .ok (.aload_n 0, 1) := by decide +kernel
theorem dX6_stage_54 : decode cX6_stage 54 = .ok (.getfield 7, 3) := by decide +kernel
theorem dX6_stage_57 : decode cX6_stage 57 = .ok (.aload_n 0, 1) := by decide +kernel
theorem dX6_stage_58 : decode cX6_stage 58 = .ok (.getfield 93, 3) := by decide +kernel
theorem dX6_stage_61 : decode cX6_stage 61 = .ok (.iload_n 1, 1) := by decide +kernel
theorem dX6_stage_62 : decode cX6_stage 62 = .ok (.iastore, 1) := by decide +kernel
theorem dX6_stage_63 : decode cX6_stage 63 = .ok (.aload_n 0, 1) := by decide +kernel
theorem dX6_stage_64 : decode cX6_stage 64 = .ok (.getfield 13, 3) := by decide +kernel
theorem dX6_stage_67 : decode cX6_stage 67 = .ok (.aload_n 0, 1) := by decide +kernel
theorem dX6_stage_68 : decode cX6_stage 68 = .ok (.getfield 93, 3) := by decide +kernel
theorem dX6_stage_71 : decode cX6_stage 71 = .ok (.iload_n 2, 1) := by decide +kernel
theorem dX6_stage_72 : decode cX6_stage 72 = .ok (.iastore, 1) := by decide +kernel
theorem dX6_stage_73 : decode cX6_stage 73 = .ok (.aload_n 0, 1) := by decide +kernel
theorem dX6_stage_74 : decode cX6_stage 74 = .ok (.dup, 1) := by decide +kernel
theorem dX6_stage_75 : decode cX6_stage 75 = .ok (.getfield 93, 3) := by decide +kernel
theorem dX6_stage_78 : decode cX6_stage 78 = .ok (.iconst 1, 1) := by decide +kernel
theorem dX6_stage_79 : decode cX6_stage 79 = .ok (.iadd, 1) := by decide +kernel
theorem dX6_stage_80 : decode cX6_stage 80 = .ok (.putfield 93, 3) := by decide +kernel
theorem dX6_stage_83 : decode cX6_stage 83 = .ok (.aload_n 0, 1) := by decide +kernel
theorem dX6_stage_84 : decode cX6_stage 84 = .ok (.getfield 93, 3) := by decide +kernel
theorem dX6_stage_87 : decode cX6_stage 87 = .ok (.iconst 1, 1) := by decide +kernel
theorem dX6_stage_88 : decode cX6_stage 88 = .ok (.isub, 1) := by decide +kernel
theorem dX6_stage_89 : decode cX6_stage 89 = .ok (.ireturn, 1) := by decide +kernel
theorem dX6_placeOf_0 : decode cX6_placeOf 0 = .ok (.iconst 0, 1) := by decide +kernel
theorem dX6_placeOf_1 : decode cX6_placeOf 1 = .ok (.istore_n 2, 1) := by decide +kernel
theorem dX6_placeOf_2 : decode cX6_placeOf 2 = .ok (.iload_n 2, 1) := by decide +kernel
theorem dX6_placeOf_3 : decode cX6_placeOf 3 = .ok (.aload_n 0, 1) := by decide +kernel
theorem dX6_placeOf_4 : decode cX6_placeOf 4 = .ok (.getfield 109, 3) := by decide +kernel
theorem dX6_placeOf_7 : decode cX6_placeOf 7 = .ok (.if_icmp .ge 21, 3) := by decide +kernel
theorem dX6_placeOf_10 : decode cX6_placeOf 10 = .ok (.aload_n 0, 1) := by decide +kernel
theorem dX6_placeOf_11 : decode cX6_placeOf 11 = .ok (.getfield 81, 3) := by decide +kernel
theorem dX6_placeOf_14 : decode cX6_placeOf 14 = .ok (.iload_n 2, 1) := by decide +kernel
theorem dX6_placeOf_15 : decode cX6_placeOf 15 = .ok (.iaload, 1) := by decide +kernel
theorem dX6_placeOf_16 : decode cX6_placeOf 16 = .ok (.iload_n 1, 1) := by decide +kernel
theorem dX6_placeOf_17 : decode cX6_placeOf 17 = .ok (.if_icmp .ne 5, 3) := by decide +kernel
theorem dX6_placeOf_20 : decode cX6_placeOf 20 = .ok (.iload_n 2, 1) := by decide +kernel
theorem dX6_placeOf_21 : decode cX6_placeOf 21 = .ok (.ireturn, 1) := by decide +kernel
theorem dX6_placeOf_22 : decode cX6_placeOf 22 = .ok (.iinc 2 1, 3) := by decide +kernel
theorem dX6_placeOf_25 : decode cX6_placeOf 25 = .ok (.goto (-23), 3) := by decide +kernel
theorem dX6_placeOf_28 : decode cX6_placeOf 28 = .ok (.iconst (-1), 1) := by decide +kernel
theorem dX6_placeOf_29 : decode cX6_placeOf 29 = .ok (.ireturn, 1) := by decide +kernel
theorem dX6_unplan_0 : decode cX6_unplan 0 = .ok (.aload_n 0, 1) := by decide +kernel
theorem dX6_unplan_1 : decode cX6_unplan 1 = .ok (.getfield 29, 3) := by decide +kernel
theorem dX6_unplan_4 : decode cX6_unplan 4 = .ok (.iload_n 1, 1) := by decide +kernel
theorem dX6_unplan_5 : decode cX6_unplan 5 = .ok (.iconst 0, 1) := by decide +kernel
theorem dX6_unplan_6 : decode cX6_unplan 6 = .ok (.bastore, 1) := by decide +kernel
theorem dX6_unplan_7 : decode cX6_unplan 7 = .ok (.aload_n 0, 1) := by decide +kernel
theorem dX6_unplan_8 : decode cX6_unplan 8 = .ok (.iload_n 1, 1) := by decide +kernel
theorem dX6_unplan_9 : decode cX6_unplan 9 = .ok (.invokevirtual 112, 3) := by decide +kernel
theorem dX6_unplan_12 : decode cX6_unplan 12 = .ok (.istore_n 2, 1) := by decide +kernel
theorem dX6_unplan_13 : decode cX6_unplan 13 = .ok (.iload_n 2, 1) := by decide +kernel
theorem dX6_unplan_14 : decode cX6_unplan 14 = .ok (.istore_n 3, 1) := by decide +kernel
theorem dX6_unplan_15 : decode cX6_unplan 15 = .ok (.iload_n 3, 1) := by decide +kernel
theorem dX6_unplan_16 : decode cX6_unplan 16 = .ok (.iconst (-1), 1) := by decide +kernel
theorem dX6_unplan_17 : decode cX6_unplan 17 = .ok (.if_icmp .eq 33, 3) := by decide +kernel
theorem dX6_unplan_20 : decode cX6_unplan 20 = .ok (.iload_n 3, 1) := by decide +kernel
theorem dX6_unplan_21 : decode cX6_unplan 21 = .ok (.aload_n 0, 1) := by decide +kernel
theorem dX6_unplan_22 : decode cX6_unplan 22 = .ok (.getfield 109, 3) := by decide +kernel
theorem dX6_unplan_25 : decode cX6_unplan 25 = .ok (.iconst 1, 1) := by decide +kernel
theorem dX6_unplan_26 : decode cX6_unplan 26 = .ok (.isub, 1) := by decide +kernel
theorem dX6_unplan_27 : decode cX6_unplan 27 = .ok (.if_icmp .ge 23, 3) := by decide +kernel
theorem dX6_unplan_30 : decode cX6_unplan 30 = .ok (.aload_n 0, 1) := by decide +kernel
theorem dX6_unplan_31 : decode cX6_unplan 31 = .ok (.getfield 81, 3) := by decide +kernel
theorem dX6_unplan_34 : decode cX6_unplan 34 = .ok (.iload_n 3, 1) := by decide +kernel
theorem dX6_unplan_35 : decode cX6_unplan 35 = .ok (.aload_n 0, 1) := by decide +kernel
theorem dX6_unplan_36 : decode cX6_unplan 36 = .ok (.getfield 81, 3) := by decide +kernel
theorem dX6_unplan_39 : decode cX6_unplan 39 = .ok (.iload_n 3, 1) := by decide +kernel
theorem dX6_unplan_40 : decode cX6_unplan 40 = .ok (.iconst 1, 1) := by decide +kernel
theorem dX6_unplan_41 : decode cX6_unplan 41 = .ok (.iadd, 1) := by decide +kernel
theorem dX6_unplan_42 : decode cX6_unplan 42 = .ok (.iaload, 1) := by decide +kernel
theorem dX6_unplan_43 : decode cX6_unplan 43 = .ok (.iastore, 1) := by decide +kernel
theorem dX6_unplan_44 : decode cX6_unplan 44 = .ok (.iinc 3 1, 3) := by decide +kernel
theorem dX6_unplan_47 : decode cX6_unplan 47 = .ok (.goto (-32), 3) := by decide +kernel
theorem dX6_unplan_50 : decode cX6_unplan 50 = .ok (.aload_n 0, 1) := by decide +kernel
theorem dX6_unplan_51 : decode cX6_unplan 51 = .ok (.dup, 1) := by decide +kernel
theorem dX6_unplan_52 : decode cX6_unplan 52 = .ok (.getfield 109, 3) := by decide +kernel
theorem dX6_unplan_55 : decode cX6_unplan 55 = .ok (.iload_n 2, 1) := by decide +kernel
theorem dX6_unplan_56 : decode cX6_unplan 56 = .ok (.iconst (-1), 1) := by decide +kernel
theorem dX6_unplan_57 : decode cX6_unplan 57 = .ok (.if_icmp .ne 7, 3) := by decide +kernel
theorem dX6_unplan_60 : decode cX6_unplan 60 = .ok (.iconst 0, 1) := by decide +kernel
theorem dX6_unplan_61 : decode cX6_unplan 61 = .ok (.goto 4, 3) := by decide +kernel
theorem dX6_unplan_64 : decode cX6_unplan 64 = .ok (.iconst 1, 1) := by decide +kernel
theorem dX6_unplan_65 : decode cX6_unplan 65 = .ok (.isub, 1) := by decide +kernel
theorem dX6_unplan_66 : decode cX6_unplan 66 = .ok (.putfield 109, 3) := by decide +kernel
theorem dX6_unplan_69 : decode cX6_unplan 69 = .ok (.return_, 1) := by decide +kernel
theorem dX6_isTap_0 : decode cX6_isTap 0 = .ok (.iload_n 0, 1) := by decide +kernel
theorem dX6_isTap_1 : decode cX6_isTap 1 = .ok (.i2l, 1) := by decide +kernel
theorem dX6_isTap_2 : decode cX6_isTap 2 = .ok (.ldc2_w 116, 3) := by decide +kernel
theorem dX6_isTap_5 : decode cX6_isTap 5 = .ok (.ldc2_w 101, 3) := by decide +kernel
theorem dX6_isTap_8 : decode cX6_isTap 8 = .ok (.invokestatic 97, 3) := by decide +kernel
theorem dX6_isTap_11 : decode cX6_isTap 11 = .ok (.ireturn, 1) := by decide +kernel
theorem dX6_tap_0 : decode cX6_tap 0 = .ok (.aload_n 0, 1) := by decide +kernel
theorem dX6_tap_1 : decode cX6_tap 1 = .ok (.iload_n 1, 1) := by decide +kernel
theorem dX6_tap_2 : decode cX6_tap 2 = .ok (.invokevirtual 118, 3) := by decide +kernel
theorem dX6_tap_5 : decode cX6_tap 5 = .ok (.ifCond .eq 10, 3) := by decide +kernel
theorem dX6_tap_8 : decode cX6_tap 8 = .ok (.iload_n 2, 1) := by decide +kernel
theorem dX6_tap_9 : decode cX6_tap 9 = .ok (.invokestatic 122, 3) := by decide +kernel
theorem dX6_tap_12 : decode cX6_tap 12 = .ok (.ifCond .ne 6, 3) := by decide +kernel
theorem dX6_tap_15 : decode cX6_tap 15 = .ok (.bipush (-2), 2) := by decide +kernel
theorem dX6_tap_17 : decode cX6_tap 17 = .ok (.ireturn, 1) := by decide +kernel
theorem dX6_tap_18 : decode cX6_tap 18 = .ok (.aload_n 0, 1) := by decide +kernel
theorem dX6_tap_19 : decode cX6_tap 19 = .ok (.getfield 16, 3) := by decide +kernel
theorem dX6_tap_22 : decode cX6_tap 22 = .ok (.iload_n 1, 1) := by decide +kernel
theorem dX6_tap_23 : decode cX6_tap 23 = .ok (.iaload, 1) := by decide +kernel
theorem dX6_tap_24 : decode cX6_tap 24 = .ok (.bipush 32, 2) := by decide +kernel
theorem dX6_tap_26 : decode cX6_tap 26 = .ok (.if_icmp .ne 6, 3) := by decide +kernel
theorem dX6_tap_29 : decode cX6_tap 29 = .ok (.bipush (-4), 2) := by decide +kernel
theorem dX6_tap_31 : decode cX6_tap 31 = .ok (.ireturn, 1) := by decide +kernel
theorem dX6_tap_32 : decode cX6_tap 32 = .ok (.aload_n 0, 1) := by decide +kernel
theorem dX6_tap_33 : decode cX6_tap 33 = .ok (.getfield 19, 3) := by decide +kernel
theorem dX6_tap_36 : decode cX6_tap 36 = .ok (.bipush 32, 2) := by decide +kernel
theorem dX6_tap_38 : decode cX6_tap 38 = .ok (.iload_n 1, 1) := by decide +kernel
theorem dX6_tap_39 : decode cX6_tap 39 = .ok (.imul, 1) := by decide +kernel
theorem dX6_tap_40 : decode cX6_tap 40 = .ok (.aload_n 0, 1) := by decide +kernel
theorem dX6_tap_41 : decode cX6_tap 41 = .ok (.getfield 16, 3) := by decide +kernel
theorem dX6_tap_44 : decode cX6_tap 44 = .ok (.iload_n 1, 1) := by decide +kernel
theorem dX6_tap_45 : decode cX6_tap 45 = .ok (.iaload, 1) := by decide +kernel
theorem dX6_tap_46 : decode cX6_tap 46 = .ok (.iadd, 1) := by decide +kernel
theorem dX6_tap_47 : decode cX6_tap 47 = .ok (.iload_n 2, 1) := by decide +kernel
theorem dX6_tap_48 : decode cX6_tap 48 = .ok (.iastore, 1) := by decide +kernel
theorem dX6_tap_49 : decode cX6_tap 49 = .ok (.aload_n 0, 1) := by decide +kernel
theorem dX6_tap_50 : decode cX6_tap 50 = .ok (.getfield 16, 3) := by decide +kernel
theorem dX6_tap_53 : decode cX6_tap 53 = .ok (.iload_n 1, 1) := by decide +kernel
theorem dX6_tap_54 : decode cX6_tap 54 = .ok (.dup2, 1) := by decide +kernel
theorem dX6_tap_55 : decode cX6_tap 55 = .ok (.iaload, 1) := by decide +kernel
theorem dX6_tap_56 : decode cX6_tap 56 = .ok (.iconst 1, 1) := by decide +kernel
theorem dX6_tap_57 : decode cX6_tap 57 = .ok (.iadd, 1) := by decide +kernel
theorem dX6_tap_58 : decode cX6_tap 58 = .ok (.iastore, 1) := by decide +kernel
theorem dX6_tap_59 : decode cX6_tap 59 = .ok (.aload_n 0, 1) := by decide +kernel
theorem dX6_tap_60 : decode cX6_tap 60 = .ok (.iload_n 1, 1) := by decide +kernel
theorem dX6_tap_61 : decode cX6_tap 61 = .ok (.invokevirtual 125, 3) := by decide +kernel
theorem dX6_tap_64 : decode cX6_tap 64 = .ok (.aload_n 0, 1) := by decide +kernel
theorem dX6_tap_65 : decode cX6_tap 65 = .ok (.getfield 16, 3) := by decide +kernel
theorem dX6_tap_68 : decode cX6_tap 68 = .ok (.iload_n 1, 1) := by decide +kernel
theorem dX6_tap_69 : decode cX6_tap 69 = .ok (.iaload, 1) := by decide +kernel
theorem dX6_tap_70 : decode cX6_tap 70 = .ok (.ireturn, 1) := by decide +kernel
theorem dX6_change_0 : decode cX6_change 0 = .ok (.aload_n 0, 1) := by decide +kernel
theorem dX6_change_1 : decode cX6_change 1 = .ok (.iload_n 1, 1) := by decide +kernel
theorem dX6_change_2 : decode cX6_change 2 = .ok (.invokevirtual 118, 3) := by decide +kernel
theorem dX6_change_5 : decode cX6_change 5 = .ok (.ifCond .eq 28, 3) := by decide +kernel
theorem dX6_change_8 : decode cX6_change 8 = .ok (.iload_n 2, 1) := by decide +kernel
theorem dX6_change_9 : decode cX6_change 9 = .ok (.i2l, 1) := by decide +kernel
theorem dX6_change_10 : decode cX6_change 10 = .ok (.lconst 0, 1) := by decide +kernel
theorem dX6_change_11 : decode cX6_change 11 = .ok (.aload_n 0, 1) := by decide +kernel
