theorem dX5_nameNext_0 : decode cX5_nameNext 0 = .ok (.aload_n 0, 1) := by decide +kernel
theorem dX5_nameNext_1 : decode cX5_nameNext 1 = .ok (.aload_n 1, 1) := by decide +kernel
theorem dX5_nameNext_2 : decode cX5_nameNext 2 = .ok (.getfield 64, 3) := by decide +kernel
theorem dX5_nameNext_5 : decode cX5_nameNext 5 = .ok (.iconst 1, 1) := by decide +kernel
theorem dX5_nameNext_6 : decode cX5_nameNext 6 = .ok (.iadd, 1) := by decide +kernel
theorem dX5_nameNext_7 : decode cX5_nameNext 7 = .ok (.putfield 24, 3) := by decide +kernel
theorem dX5_nameNext_10 : decode cX5_nameNext 10 = .ok (.aload_n 0, 1) := by decide +kernel
theorem dX5_nameNext_11 : decode cX5_nameNext 11 = .ok (.aload_n 1, 1) := by decide +kernel
theorem dX5_nameNext_12 : decode cX5_nameNext 12 = .ok (.getfield 67, 3) := by decide +kernel
theorem dX5_nameNext_15 : decode cX5_nameNext 15 = .ok (.iconst 1, 1) := by decide +kernel
theorem dX5_nameNext_16 : decode cX5_nameNext 16 = .ok (.iadd, 1) := by decide +kernel
theorem dX5_nameNext_17 : decode cX5_nameNext 17 = .ok (.putfield 27, 3) := by decide +kernel
theorem dX5_nameNext_20 : decode cX5_nameNext 20 = .ok (.aload_n 0, 1) := by decide +kernel
theorem dX5_nameNext_21 : decode cX5_nameNext 21 = .ok (.aload_n 1, 1) := by decide +kernel
theorem dX5_nameNext_22 : decode cX5_nameNext 22 = .ok (.getfield 68, 3) := by decide +kernel
theorem dX5_nameNext_25 : decode cX5_nameNext 25 = .ok (.aload_n 1, 1) := by decide +kernel
theorem dX5_nameNext_26 : decode cX5_nameNext 26 = .ok (.getfield 69, 3) := by decide +kernel
theorem dX5_nameNext_29 : decode cX5_nameNext 29 = .ok (.iadd, 1) := by decide +kernel
theorem dX5_nameNext_30 : decode cX5_nameNext 30 = .ok (.putfield 30, 3) := by decide +kernel
theorem dX5_nameNext_33 : decode cX5_nameNext 33 = .ok (.aload_n 0, 1) := by decide +kernel
theorem dX5_nameNext_34 : decode cX5_nameNext 34 = .ok (.aload_n 1, 1) := by decide +kernel
theorem dX5_nameNext_35 : decode cX5_nameNext 35 = .ok (.getfield 72, 3) := by decide +kernel
theorem dX5_nameNext_38 : decode cX5_nameNext 38 = .ok (.putfield 33, 3) := by decide +kernel
theorem dX5_nameNext_41 : decode cX5_nameNext 41 = .ok (.aload_n 0, 1) := by decide +kernel
theorem dX5_nameNext_42 : decode cX5_nameNext 42 = .ok (.aload_n 1, 1) := by decide +kernel
theorem dX5_nameNext_43 : decode cX5_nameNext 43 = .ok (.getfield 75, 3) := by decide +kernel
theorem dX5_nameNext_46 : decode cX5_nameNext 46 = .ok (.putfield 36, 3) := by decide +kernel
theorem dX5_nameNext_49 : decode cX5_nameNext 49 = .ok (.return_, 1) := by decide +kernel
theorem dX5_look_0 : decode cX5_look 0 = .ok (.aload_n 0, 1) := by decide +kernel
theorem dX5_look_1 : decode cX5_look 1 = .ok (.iload_n 2, 1) := by decide +kernel
theorem dX5_look_2 : decode cX5_look 2 = .ok (.putfield 9, 3) := by decide +kernel
theorem dX5_look_5 : decode cX5_look 5 = .ok (.aload_n 0, 1) := by decide +kernel
theorem dX5_look_6 : decode cX5_look 6 = .ok (.aload_n 1, 1) := by decide +kernel
theorem dX5_look_7 : decode cX5_look 7 = .ok (.getfield 76, 3) := by decide +kernel
theorem dX5_look_10 : decode cX5_look 10 = .ok (.putfield 42, 3) := by decide +kernel
theorem dX5_look_13 : decode cX5_look 13 = .ok (.aload_n 0, 1) := by decide +kernel
theorem dX5_look_14 : decode cX5_look 14 = .ok (.iconst 0, 1) := by decide +kernel
theorem dX5_look_15 : decode cX5_look 15 = .ok (.putfield 15, 3) := by decide +kernel
theorem dX5_look_18 : decode cX5_look 18 = .ok (.aload_n 0, 1) := by decide +kernel
theorem dX5_look_19 : decode cX5_look 19 = .ok (.iconst (-1), 1) := by decide +kernel
theorem dX5_look_20 : decode cX5_look 20 = .ok (.putfield 18, 3) := by decide +kernel
theorem dX5_look_23 : decode cX5_look 23 = .ok (.aload_n 0, 1) := by decide +kernel
theorem dX5_look_24 : decode cX5_look 24 = .ok (.iconst 0, 1) := by decide +kernel
theorem dX5_look_25 : decode cX5_look 25 = .ok (.putfield 61, 3) := by decide +kernel
theorem dX5_look_28 : decode cX5_look 28 = .ok (.aload_n 0, 1) := by decide +kernel
theorem dX5_look_29 : decode cX5_look 29 = .ok (.iconst 0, 1) := by decide +kernel
theorem dX5_look_30 : decode cX5_look 30 = .ok (.putfield 54, 3) := by decide +kernel
theorem dX5_look_33 : decode cX5_look 33 = .ok (.iload_n 2, 1) := by decide +kernel
theorem dX5_look_34 : decode cX5_look 34 = .ok (.aload_n 1, 1) := by decide +kernel
theorem dX5_look_35 : decode cX5_look 35 = .ok (.getfield 76, 3) := by decide +kernel
theorem dX5_look_38 : decode cX5_look 38 = .ok (.if_icmp .eq 23, 3) := by decide +kernel
theorem dX5_look_41 : decode cX5_look 41 = .ok (.iload_n 2, 1) := by decide +kernel
theorem dX5_look_42 : decode cX5_look 42 = .ok (.bipush 8, 2) := by decide +kernel
theorem dX5_look_44 : decode cX5_look 44 = .ok (.irem, 1) := by decide +kernel
theorem dX5_look_45 : decode cX5_look 45 = .ok (.iload_n 2, 1) := by decide +kernel
theorem dX5_look_46 : decode cX5_look 46 = .ok (.bipush 8, 2) := by decide +kernel
theorem dX5_look_48 : decode cX5_look 48 = .ok (.idiv, 1) := by decide +kernel
theorem dX5_look_49 : decode cX5_look 49 = .ok (.iadd, 1) := by decide +kernel
theorem dX5_look_50 : decode cX5_look 50 = .ok (.aload_n 1, 1) := by decide +kernel
theorem dX5_look_51 : decode cX5_look 51 = .ok (.getfield 77, 3) := by decide +kernel
theorem dX5_look_54 : decode cX5_look 54 = .ok (.if_icmp .gt 7, 3) := by decide +kernel
theorem dX5_look_57 : decode cX5_look 57 = .ok (.iconst 1, 1) := by decide +kernel
theorem dX5_look_58 : decode cX5_look 58 = .ok (.goto 4, 3) := by decide +kernel
theorem dX5_look_61 : decode cX5_look 61 = .ok (.iconst 0, 1) := by decide +kernel
theorem dX5_look_62 : decode cX5_look 62 = .ok (.istore_n 3, 1) := by decide +kernel
theorem dX5_look_63 : decode cX5_look 63 = .ok (.iload_n 3, 1) := by decide +kernel
theorem dX5_look_64 : decode cX5_look 64 = .ok (.ifCond .eq 25, 3) := by decide +kernel
theorem dX5_look_67 : decode cX5_look 67 = .ok (.iload_n 2, 1) := by decide +kernel
theorem dX5_look_68 : decode cX5_look 68 = .ok (.iconst 0, 1) := by decide +kernel
theorem dX5_look_69 : decode cX5_look 69 = .ok (.bipush 63, 2) := by decide +kernel
theorem dX5_look_71 : decode cX5_look 71 = .ok (.invokestatic 80, 3) := by decide +kernel
theorem dX5_look_74 : decode cX5_look 74 = .ok (.ifCond .eq 15, 3) := by decide +kernel
theorem dX5_look_77 : decode cX5_look 77 = .ok (.aload_n 1, 1) := by decide +kernel
theorem dX5_look_78 : decode cX5_look 78 = .ok (.getfield 84, 3) := by decide +kernel
theorem dX5_look_81 : decode cX5_look 81 = .ok (.getfield 88, 3) := by decide +kernel
theorem dX5_look_84 : decode cX5_look 84 = .ok (.iload_n 2, 1) := by decide +kernel
theorem dX5_look_85 : decode cX5_look 85 = .ok (.iaload, 1) := by decide +kernel
theorem dX5_look_86 : decode cX5_look 86 = .ok (.goto 4, 3) := by decide +kernel
theorem dX5_look_89 : decode cX5_look 89 = .ok (.iconst (-1), 1) := by decide +kernel
theorem dX5_look_90 : decode cX5_look 90 = .ok (.istore 4, 2) := by decide +kernel
theorem dX5_look_92 : decode cX5_look 92 = .ok (.aload_n 1, 1) := by decide +kernel
theorem dX5_look_93 : decode cX5_look 93 = .ok (.getfield 84, 3) := by decide +kernel
theorem dX5_look_96 : decode cX5_look 96 = .ok (.iload 4, 2) := by decide +kernel
theorem dX5_look_98 : decode cX5_look 98 = .ok (.invokevirtual 93, 3) := by decide +kernel
theorem dX5_look_101 : decode cX5_look 101 = .ok (.ifCond .ne 4, 3) := by decide +kernel
theorem dX5_look_104 : decode cX5_look 104 = .ok (.return_, 1) := by decide +kernel
theorem dX5_look_105 : decode cX5_look 105 = .ok (.aload_n 0, 1) := by decide +kernel
theorem dX5_look_106 : decode cX5_look 106 = .ok (.bipush 6, 2) := by decide +kernel
theorem dX5_look_108 : decode cX5_look 108 = .ok (.putfield 15, 3) := by decide +kernel
theorem dX5_look_111 : decode cX5_look 111 = .ok (.aload_n 0, 1) := by decide +kernel
theorem dX5_look_112 : decode cX5_look 112 = .ok (.aload_n 1, 1) := by decide +kernel
theorem dX5_look_113 : decode cX5_look 113 = .ok (.getfield 84, 3) := by decide +kernel
theorem dX5_look_116 : decode cX5_look 116 = .ok (.iload 4, 2) := by decide +kernel
theorem dX5_look_118 : decode cX5_look 118 = .ok (.invokevirtual 97, 3) := by decide +kernel
theorem dX5_look_121 : decode cX5_look 121 = .ok (.invokevirtual 101, 3) := by decide +kernel
theorem dX5_look_124 : decode cX5_look 124 = .ok (.aload_n 0, 1) := by decide +kernel
theorem dX5_look_125 : decode cX5_look 125 = .ok (.aload_n 1, 1) := by decide +kernel
theorem dX5_look_126 : decode cX5_look 126 = .ok (.getfield 84, 3) := by decide +kernel
theorem dX5_look_129 : decode cX5_look 129 = .ok (.iload 4, 2) := by decide +kernel
theorem dX5_look_131 : decode cX5_look 131 = .ok (.invokevirtual 105, 3) := by decide +kernel
theorem dX5_look_134 : decode cX5_look 134 = .ok (.aload_n 1, 1) := by decide +kernel
theorem dX5_look_135 : decode cX5_look 135 = .ok (.getfield 84, 3) := by decide +kernel
theorem dX5_look_138 : decode cX5_look 138 = .ok (.getfield 109, 3) := by decide +kernel
theorem dX5_look_141 : decode cX5_look 141 = .ok (.iload 4, 2) := by decide +kernel
theorem dX5_look_143 : decode cX5_look 143 = .ok (.iaload, 1) := by decide +kernel
theorem dX5_look_144 : decode cX5_look 144 = .ok (.istore 5, 2) := by decide +kernel
theorem dX5_look_146 : decode cX5_look 146 = .ok (.iconst 0, 1) := by decide +kernel
theorem dX5_look_147 : decode cX5_look 147 = .ok (.istore 6, 2) := by decide +kernel
theorem dX5_look_149 : decode cX5_look 149 = .ok (.iload 5, 2) := by decide +kernel
theorem dX5_look_151 : decode cX5_look 151 = .ok (.ifCond .eq 28, 3) := by decide +kernel
theorem dX5_look_154 : decode cX5_look 154 = .ok (.iload 6, 2) := by decide +kernel
theorem dX5_look_156 : decode cX5_look 156 = .ok (.iconst 4, 1) := by decide +kernel
theorem dX5_look_157 : decode cX5_look 157 = .ok (.if_icmp .ge 22, 3) := by decide +kernel
theorem dX5_look_160 : decode cX5_look 160 = .ok (.aload_n 0, 1) := by decide +kernel
theorem dX5_look_161 : decode cX5_look 161 = .ok (.aload_n 1, 1) := by decide +kernel
theorem dX5_look_162 : decode cX5_look 162 = .ok (.getfield 84, 3) := by decide +kernel
theorem dX5_look_165 : decode cX5_look 165 = .ok (.iload_n 2, 1) := by decide +kernel
theorem dX5_look_166 : decode cX5_look 166 = .ok (.iload 6, 2) := by decide +kernel
theorem dX5_look_168 : decode cX5_look 168 = .ok (.iload 5, 2) := by decide +kernel
theorem dX5_look_170 : decode cX5_look 170 = .ok (.invokevirtual 112, 3) := by decide +kernel
theorem dX5_look_173 : decode cX5_look 173 = .ok (.iinc 6 1, 3) := by decide +kernel
theorem dX5_look_176 : decode cX5_look 176 = .ok (.goto (-27), 3) := by decide +kernel
theorem dX5_look_179 : decode cX5_look 179 = .ok (.return_, 1) := by decide +kernel
theorem dX5_failingStep_0 : decode cX5_failingStep 0 = .ok (.iconst 0, 1) := by decide +kernel
theorem dX5_failingStep_1 : decode cX5_failingStep 1 = .ok (.istore_n 3, 1) := by decide +kernel
theorem dX5_failingStep_2 : decode cX5_failingStep 2 = .ok (.iload_n 3, 1) := by decide +kernel
theorem dX5_failingStep_3 : decode cX5_failingStep 3 = .ok (.aload_n 0, 1) := by decide +kernel
theorem dX5_failingStep_4 : decode cX5_failingStep 4 = .ok (.getfield 51, 3) := by decide +kernel
theorem dX5_failingStep_7 : decode cX5_failingStep 7 = .ok (.if_icmp .ge 26, 3) := by decide +kernel
theorem dX5_failingStep_10 : decode cX5_failingStep 10 = .ok (.iload_n 1, 1) := by decide +kernel
theorem dX5_failingStep_11 : decode cX5_failingStep 11 = .ok (.iload_n 2, 1) := by decide +kernel
theorem dX5_failingStep_12 : decode cX5_failingStep 12 = .ok (.iload_n 3, 1) := by decide +kernel
theorem dX5_failingStep_13 : decode cX5_failingStep 13 = .ok (.imul, 1) := by decide +kernel
theorem dX5_failingStep_14 : decode cX5_failingStep 14 = .ok (.bipush 10, 2) := by decide +kernel
theorem dX5_failingStep_16 : decode cX5_failingStep 16 = .ok (.idiv, 1) := by decide +kernel
theorem dX5_failingStep_17 : decode cX5_failingStep 17 = .ok (.isub, 1) := by decide +kernel
theorem dX5_failingStep_18 : decode cX5_failingStep 18 = .ok (.aload_n 0, 1) := by decide +kernel
theorem dX5_failingStep_19 : decode cX5_failingStep 19 = .ok (.getfield 54, 3) := by decide +kernel
theorem dX5_failingStep_22 : decode cX5_failingStep 22 = .ok (.if_icmp .ge 5, 3) := by decide +kernel
theorem dX5_failingStep_25 : decode cX5_failingStep 25 = .ok (.iload_n 3, 1) := by decide +kernel
theorem dX5_failingStep_26 : decode cX5_failingStep 26 = .ok (.ireturn, 1) := by decide +kernel
theorem dX5_failingStep_27 : decode cX5_failingStep 27 = .ok (.iinc 3 1, 3) := by decide +kernel
theorem dX5_failingStep_30 : decode cX5_failingStep 30 = .ok (.goto (-28), 3) := by decide +kernel
theorem dX5_failingStep_33 : decode cX5_failingStep 33 = .ok (.aload_n 0, 1) := by decide +kernel
theorem dX5_failingStep_34 : decode cX5_failingStep 34 = .ok (.getfield 51, 3) := by decide +kernel
theorem dX5_failingStep_37 : decode cX5_failingStep 37 = .ok (.ireturn, 1) := by decide +kernel
theorem dX5_outcomeAt_0 : decode cX5_outcomeAt 0 = .ok (.aload_n 0, 1) := by decide +kernel
theorem dX5_outcomeAt_1 : decode cX5_outcomeAt 1 = .ok (.getfield 15, 3) := by decide +kernel
theorem dX5_outcomeAt_4 : decode cX5_outcomeAt 4 = .ok (.ifCond .eq 11, 3) := by decide +kernel
theorem dX5_outcomeAt_7 : decode cX5_outcomeAt 7 = .ok (.aload_n 0, 1) := by decide +kernel
theorem dX5_outcomeAt_8 : decode cX5_outcomeAt 8 = .ok (.getfield 15, 3) := by decide +kernel
theorem dX5_outcomeAt_11 : decode cX5_outcomeAt 11 = .ok (.iconst 4, 1) := by decide +kernel
theorem dX5_outcomeAt_12 : decode cX5_outcomeAt 12 = .ok (.if_icmp .ne 8, 3) := by decide +kernel
theorem dX5_outcomeAt_15 : decode cX5_outcomeAt 15 = .ok (.aload_n 0, 1) := by decide +kernel
theorem dX5_outcomeAt_16 : decode cX5_outcomeAt 16 = .ok (.getfield 15, 3) := by decide +kernel
theorem dX5_outcomeAt_19 : decode cX5_outcomeAt 19 = .ok (.ireturn, 1) := by decide +kernel
theorem dX5_outcomeAt_20 : decode cX5_outcomeAt 20 = .ok (.iload_n 1, 1) := by decide +kernel
theorem dX5_outcomeAt_21 : decode cX5_outcomeAt 21 = .ok (.aload_n 0, 1) := by decide +kernel
theorem dX5_outcomeAt_22 : decode cX5_outcomeAt 22 = .ok (.getfield 51, 3) := by decide +kernel
theorem dX5_outcomeAt_25 : decode cX5_outcomeAt 25 = .ok (.if_icmp .lt 5, 3) := by decide +kernel
theorem dX5_outcomeAt_28 : decode cX5_outcomeAt 28 = .ok (.iconst 5, 1) := by decide +kernel
theorem dX5_outcomeAt_29 : decode cX5_outcomeAt 29 = .ok (.ireturn, 1) := by decide +kernel
theorem dX5_outcomeAt_30 : decode cX5_outcomeAt 30 = .ok (.iload_n 1, 1) := by decide +kernel
theorem dX5_outcomeAt_31 : decode cX5_outcomeAt 31 = .ok (.ifCond .ne 5, 3) := by decide +kernel
theorem dX5_outcomeAt_34 : decode cX5_outcomeAt 34 = .ok (.iconst 1, 1) := by decide +kernel
theorem dX5_outcomeAt_35 : decode cX5_outcomeAt 35 = .ok (.ireturn, 1) := by decide +kernel
theorem dX5_outcomeAt_36 : decode cX5_outcomeAt 36 = .ok (.iload_n 1, 1) := by decide +kernel
theorem dX5_outcomeAt_37 : decode cX5_outcomeAt 37 = .ok (.aload_n 0, 1) := by decide +kernel
theorem dX5_outcomeAt_38 : decode cX5_outcomeAt 38 = .ok (.getfield 45, 3) := by decide +kernel
theorem dX5_outcomeAt_41 : decode cX5_outcomeAt 41 = .ok (.if_icmp .gt 7, 3) := by decide +kernel
theorem dX5_outcomeAt_44 : decode cX5_outcomeAt 44 = .ok (.iconst 2, 1) := by decide +kernel
theorem dX5_outcomeAt_45 : decode cX5_outcomeAt 45 = .ok (.goto 4, 3) := by decide +kernel
theorem dX5_outcomeAt_48 : decode cX5_outcomeAt 48 = .ok (.iconst 3, 1) := by decide +kernel
theorem dX5_outcomeAt_49 : decode cX5_outcomeAt 49 = .ok (.ireturn, 1) := by decide +kernel
theorem dX5_letGoAt_0 : decode cX5_letGoAt 0 = .ok (.aload_n 0, 1) := by decide +kernel
theorem dX5_letGoAt_1 : decode cX5_letGoAt 1 = .ok (.iload_n 1, 1) := by decide +kernel
theorem dX5_letGoAt_2 : decode cX5_letGoAt 2 = .ok (.invokevirtual 135, 3) := by decide +kernel
theorem dX5_letGoAt_5 : decode cX5_letGoAt 5 = .ok (.iconst 3, 1) := by decide +kernel
theorem dX5_letGoAt_6 : decode cX5_letGoAt 6 = .ok (.if_icmp .eq 5, 3) := by decide +kernel
theorem dX5_letGoAt_9 : decode cX5_letGoAt 9 = .ok (.iconst (-1), 1) := by decide +kernel
theorem dX5_letGoAt_10 : decode cX5_letGoAt 10 = .ok (.ireturn, 1) := by decide +kernel
theorem dX5_letGoAt_11 : decode cX5_letGoAt 11 = .ok (.iload_n 1, 1) := by decide +kernel
theorem dX5_letGoAt_12 : decode cX5_letGoAt 12 = .ok (.aload_n 0, 1) := by decide +kernel
theorem dX5_letGoAt_13 : decode cX5_letGoAt 13 = .ok (.getfield 45, 3) := by decide +kernel
theorem dX5_letGoAt_16 : decode cX5_letGoAt 16 = .ok (.isub, 1) := by decide +kernel
theorem dX5_letGoAt_17 : decode cX5_letGoAt 17 = .ok (.istore_n 2, 1) := by decide +kernel
theorem dX5_letGoAt_18 : decode cX5_letGoAt 18 = .ok (.iload_n 2, 1) := by decide +kernel
theorem dX5_letGoAt_19 : decode cX5_letGoAt 19 = .ok (.aload_n 0, 1) := by decide +kernel
theorem dX5_letGoAt_20 : decode cX5_letGoAt 20 = .ok (.getfield 48, 3) := by decide +kernel
theorem dX5_letGoAt_23 : decode cX5_letGoAt 23 = .ok (.invokestatic 146, 3) := by decide +kernel
theorem dX5_letGoAt_26 : decode cX5_letGoAt 26 = .ok (.istore_n 3, 1) := by decide +kernel
theorem dX5_letGoAt_27 : decode cX5_letGoAt 27 = .ok (.aload_n 0, 1) := by decide +kernel
theorem dX5_letGoAt_28 : decode cX5_letGoAt 28 = .ok (.getfield 9, 3) := by decide +kernel
theorem dX5_letGoAt_31 : decode cX5_letGoAt 31 = .ok (.bipush 8, 2) := by decide +kernel
theorem dX5_letGoAt_33 : decode cX5_letGoAt 33 = .ok (.irem, 1) := by decide +kernel
theorem dX5_letGoAt_34 : decode cX5_letGoAt 34 = .ok (.aload_n 0, 1) := by decide +kernel
theorem dX5_letGoAt_35 : decode cX5_letGoAt 35 = .ok (.getfield 42, 3) := by decide +kernel
theorem dX5_letGoAt_38 : decode cX5_letGoAt 38 = .ok (.bipush 8, 2) := by decide +kernel
theorem dX5_letGoAt_40 : decode cX5_letGoAt 40 = .ok (.irem, 1) := by decide +kernel
theorem dX5_letGoAt_41 : decode cX5_letGoAt 41 = .ok (.aload_n 0, 1) := by decide +kernel
theorem dX5_letGoAt_42 : decode cX5_letGoAt 42 = .ok (.getfield 9, 3) := by decide +kernel
theorem dX5_letGoAt_45 : decode cX5_letGoAt 45 = .ok (.bipush 8, 2) := by decide +kernel
theorem dX5_letGoAt_47 : decode cX5_letGoAt 47 = .ok (.irem, 1) := by decide +kernel
theorem dX5_letGoAt_48 : decode cX5_letGoAt 48 = .ok (.isub, 1) := by decide +kernel
theorem dX5_letGoAt_49 : decode cX5_letGoAt 49 = .ok (.invokestatic 149, 3) := by decide +kernel
theorem dX5_letGoAt_52 : decode cX5_letGoAt 52 = .ok (.iload_n 3, 1) := by decide +kernel
theorem dX5_letGoAt_53 : decode cX5_letGoAt 53 = .ok (.imul, 1) := by decide +kernel
theorem dX5_letGoAt_54 : decode cX5_letGoAt 54 = .ok (.iadd, 1) := by decide +kernel
theorem dX5_letGoAt_55 : decode cX5_letGoAt 55 = .ok (.istore 4, 2) := by decide +kernel
theorem dX5_letGoAt_57 : decode cX5_letGoAt 57 = .ok (.aload_n 0, 1) := by decide +kernel
theorem dX5_letGoAt_58 : decode cX5_letGoAt 58 = .ok (.getfield 9, 3) := by decide +kernel
theorem dX5_letGoAt_61 : decode cX5_letGoAt 61 = .ok (.bipush 8, 2) := by decide +kernel
theorem dX5_letGoAt_63 : decode cX5_letGoAt 63 = .ok (.idiv, 1) := by decide +kernel
theorem dX5_letGoAt_64 : decode cX5_letGoAt 64 = .ok (.aload_n 0, 1) := by decide +kernel
theorem dX5_letGoAt_65 : decode cX5_letGoAt 65 = .ok (.getfield 42, 3) := by decide +kernel
theorem dX5_letGoAt_68 : decode cX5_letGoAt 68 = .ok (.bipush 8, 2) := by decide +kernel
theorem dX5_letGoAt_70 : decode cX5_letGoAt 70 = .ok (.idiv, 1) := by decide +kernel
theorem dX5_letGoAt_71 : decode cX5_letGoAt 71 = .ok (.aload_n 0, 1) := by decide +kernel
theorem dX5_letGoAt_72 : decode cX5_letGoAt 72 = .ok (.getfield 9, 3) := by decide +kernel
theorem dX5_letGoAt_75 : decode cX5_letGoAt 75 = .ok (.bipush 8, 2) := by decide +kernel
theorem dX5_letGoAt_77 : decode cX5_letGoAt 77 = .ok (.idiv, 1) := by decide +kernel
theorem dX5_letGoAt_78 : decode cX5_letGoAt 78 = .ok (.isub, 1) := by decide +kernel
theorem dX5_letGoAt_79 : decode cX5_letGoAt 79 = .ok (.invokestatic 149, 3) := by decide +kernel
theorem dX5_letGoAt_82 : decode cX5_letGoAt 82 = .ok (.iload_n 2, 1) := by decide +kernel
theorem dX5_letGoAt_83 : decode cX5_letGoAt 83 = .ok (.iload_n 3, 1) := by decide +kernel
theorem dX5_letGoAt_84 : decode cX5_letGoAt 84 = .ok (.isub, 1) := by decide +kernel
theorem dX5_letGoAt_85 : decode cX5_letGoAt 85 = .ok (.imul, 1) := by decide +kernel
theorem dX5_letGoAt_86 : decode cX5_letGoAt 86 = .ok (.iadd, 1) := by decide +kernel
theorem dX5_letGoAt_87 : decode cX5_letGoAt 87 = .ok (.istore 5, 2) := by decide +kernel
theorem dX5_letGoAt_89 : decode cX5_letGoAt 89 = .ok (.bipush 8, 2) := by decide +kernel
theorem dX5_letGoAt_91 : decode cX5_letGoAt 91 = .ok (.iload 5, 2) := by decide +kernel
theorem dX5_letGoAt_93 : decode cX5_letGoAt 93 = .ok (.imul, 1) := by decide +kernel
theorem dX5_letGoAt_94 : decode cX5_letGoAt 94 = .ok (.iload 4, 2) := by decide +kernel
theorem dX5_letGoAt_96 : decode cX5_letGoAt 96 = .ok (.iadd, 1) := by decide +kernel
theorem dX5_letGoAt_97 : decode cX5_letGoAt 97 = .ok (.ireturn, 1) := by decide +kernel
theorem dX5_carry_0 : decode cX5_carry 0 = .ok (.aload_n 0, 1) := by decide +kernel
theorem dX5_carry_1 : decode cX5_carry 1 = .ok (.iload_n 1, 1) := by decide +kernel
theorem dX5_carry_2 : decode cX5_carry 2 = .ok (.iload_n 2, 1) := by decide +kernel
theorem dX5_carry_3 : decode cX5_carry 3 = .ok (.invokevirtual 128, 3) := by decide +kernel
theorem dX5_carry_6 : decode cX5_carry 6 = .ok (.istore_n 3, 1) := by decide +kernel
theorem dX5_carry_7 : decode cX5_carry 7 = .ok (.aload_n 0, 1) := by decide +kernel
theorem dX5_carry_8 : decode cX5_carry 8 = .ok (.aload_n 0, 1) := by decide +kernel
theorem dX5_carry_9 : decode cX5_carry 9 = .ok (.iload_n 3, 1) := by decide +kernel
theorem dX5_carry_10 : decode cX5_carry 10 = .ok (.invokevirtual 132, 3) := by decide +kernel
theorem dX5_carry_13 : decode cX5_carry 13 = .ok (.putfield 18, 3) := by decide +kernel
theorem dX5_carry_16 : decode cX5_carry 16 = .ok (.aload_n 0, 1) := by decide +kernel
theorem dX5_carry_17 : decode cX5_carry 17 = .ok (.aload_n 0, 1) := by decide +kernel
theorem dX5_carry_18 : decode cX5_carry 18 = .ok (.iload_n 3, 1) := by decide +kernel
theorem dX5_carry_19 : decode cX5_carry 19 = .ok (.invokevirtual 135, 3) := by decide +kernel
theorem dX5_carry_22 : decode cX5_carry 22 = .ok (.putfield 15, 3) := by decide +kernel
theorem dX5_carry_25 : decode cX5_carry 25 = .ok (.return_, 1) := by decide +kernel
set_option maxHeartbeats 4000000 in
set_option maxRecDepth 100000 in
theorem c_X5_nameNext (l : Launch) (D : va_G) (K : Nat → ClassId) (b0 : Nat) (sa : Nat × Nat × Nat) (sz : Nat) (L : List Nat) (f0 : Nat → va_E) (Ψ : Nat → Nat) (hT : TW K (gof gX1) Ψ L f0) (y : Nat) (hm_y : y ∈ L) (ht_y : Ψ y = 5) (bx : Nat) (hm_bx : bx ∈ L) (ht_bx : Ψ bx = 0) : Met l yX5_nameNext (.code yX5_nameNext cX5_nameNext 2 none :: gt) { frames := 0, cells := 0, slots := 0, locals := 0 } (va_Pc [.ref y, .ref bx] (hPre D K b0 sa sz L f0)) (hQ D K b0 (fun v9 u9 => ∃ f2 : Nat → va_E, v9 = none ∧ u9 = ((gof gX1), Ψ, L, f2) ∧ TW K (gof gX1) Ψ L f2 ∧ rawk Ψ L f0 f2)) 0 0 (fun q => b0 ≤ q) := by
  refine t_of (own := RX5) (by decide) rfl ?_ (Nat.le_of_ble_eq_true rfl)
  intro p e s m below meth c ls C w hsz hr hlk hnm hl
  have hx := C.1
  have hb := C.2.1
  have hl : lv_has ls 2 [(0, .ref y), (1, .ref bx)] := hl
  have hR : rawk Ψ L f0 f0 := rawk.rf
  refine lv_aload_n hx hb dX5_nameNext_0 rfl (lv_at hl 0 rfl) ?_
  refine lv_aload_n hx hb dX5_nameNext_1 rfl (lv_at hl 1 rfl) ?_
  refine t_geti C w hT hm_bx ht_bx (by decide) rfl cin_0 7 (by decide) rfl rfl gw_108 dX5_nameNext_2 (fun x1 hg => ?_)
  refine lv_iconst (v := 1) hx hb dX5_nameNext_5 (by decide) ?_
  refine lv_iadd hx hb dX5_nameNext_6 ?_
  refine lv_topi (fun y2 ey2 => ?_)
  refine t_puti C w hT hm_y ht_y (by decide) rfl cin_5 tyX5 tyX5_ok nmX5 4 (by decide) rfl rfl rfl rfl rfl (gof_no rfl) gw_227 dX5_nameNext_7 (fun f H locs w hT hR1 => ?_)
  have hR := hR.tr hR1
  refine lv_aload_n hx hb dX5_nameNext_10 rfl (lv_at hl 0 rfl) ?_
  refine lv_aload_n hx hb dX5_nameNext_11 rfl (lv_at hl 1 rfl) ?_
  refine t_geti C w hT hm_bx ht_bx (by decide) rfl cin_0 8 (by decide) rfl rfl gw_111 dX5_nameNext_12 (fun x3 hg => ?_)
  refine lv_iconst (v := 1) hx hb dX5_nameNext_15 (by decide) ?_
  refine lv_iadd hx hb dX5_nameNext_16 ?_
  refine lv_topi (fun y4 ey4 => ?_)
  refine t_puti C w hT hm_y ht_y (by decide) rfl cin_5 tyX5 tyX5_ok nmX5 5 (by decide) rfl rfl rfl rfl rfl (gof_no rfl) gw_230 dX5_nameNext_17 (fun f H locs w hT hR1 => ?_)
  have hR := hR.tr hR1
  refine lv_aload_n hx hb dX5_nameNext_20 rfl (lv_at hl 0 rfl) ?_
  refine lv_aload_n hx hb dX5_nameNext_21 rfl (lv_at hl 1 rfl) ?_
  refine t_geti C w hT hm_bx ht_bx (by decide) rfl cin_0 9 (by decide) rfl rfl gw_114 dX5_nameNext_22 (fun x5 hg => ?_)
  refine lv_aload_n hx hb dX5_nameNext_25 rfl (lv_at hl 1 rfl) ?_
  refine t_geti C w hT hm_bx ht_bx (by decide) rfl cin_0 3 (by decide) rfl rfl gw_98 dX5_nameNext_26 (fun x6 hg => ?_)
  obtain rfl : x6 = 1 := gof_at rfl hg
  refine lv_iadd hx hb dX5_nameNext_29 ?_
  refine lv_topi (fun y7 ey7 => ?_)
  refine t_puti C w hT hm_y ht_y (by decide) rfl cin_5 tyX5 tyX5_ok nmX5 6 (by decide) rfl rfl rfl rfl rfl (gof_no rfl) gw_233 dX5_nameNext_30 (fun f H locs w hT hR1 => ?_)
  have hR := hR.tr hR1
  refine lv_aload_n hx hb dX5_nameNext_33 rfl (lv_at hl 0 rfl) ?_
  refine lv_aload_n hx hb dX5_nameNext_34 rfl (lv_at hl 1 rfl) ?_
  refine t_geti C w hT hm_bx ht_bx (by decide) rfl cin_0 10 (by decide) rfl rfl gw_117 dX5_nameNext_35 (fun x8 hg => ?_)
  refine t_puti C w hT hm_y ht_y (by decide) rfl cin_5 tyX5 tyX5_ok nmX5 7 (by decide) rfl rfl rfl rfl rfl (gof_no rfl) gw_236 dX5_nameNext_38 (fun f H locs w hT hR1 => ?_)
  have hR := hR.tr hR1
  refine lv_aload_n hx hb dX5_nameNext_41 rfl (lv_at hl 0 rfl) ?_
  refine lv_aload_n hx hb dX5_nameNext_42 rfl (lv_at hl 1 rfl) ?_
  refine t_geti C w hT hm_bx ht_bx (by decide) rfl cin_0 4 (by decide) rfl rfl gw_101 dX5_nameNext_43 (fun x9 hg => ?_)
  obtain rfl : x9 = 0 := gof_at rfl hg
  refine t_puti C w hT hm_y ht_y (by decide) rfl cin_5 tyX5 tyX5_ok nmX5 8 (by decide) rfl rfl rfl rfl rfl (gof_no rfl) gw_238 dX5_nameNext_46 (fun f H locs w hT hR1 => ?_)
  have hR := hR.tr hR1
  exact t_vret C hr hlk w ⟨_, rfl, rfl, hT, hR⟩ (by decide) (by decide) dX5_nameNext_49
set_option maxHeartbeats 4000000 in
set_option maxRecDepth 100000 in
theorem c_X5_look (l : Launch) (D : va_G) (K : Nat → ClassId) (b0 : Nat) (sa : Nat × Nat × Nat) (sz : Nat) (L : List Nat) (f0 : Nat → va_E) (Ψ : Nat → Nat) (hT : TW K (gof gX1) Ψ L f0) (y : Nat) (hm_y : y ∈ L) (ht_y : Ψ y = 5) (bx : Nat) (hm_bx : bx ∈ L) (ht_bx : Ψ bx = 0) (at_ : Int32) : Met l yX5_look (.code yX5_look cX5_look 7 none :: gt) { frames := 1, cells := 0, slots := 0, locals := 22 } (va_Pc [.ref y, .ref bx, .int at_] (hPre D K b0 sa sz L f0)) (hQ D K b0 (fun v9 u9 => ∃ f2 : Nat → va_E, v9 = none ∧ u9 = ((gof gX1), Ψ, L, f2) ∧ TW K (gof gX1) Ψ L f2 ∧ rawk Ψ L f0 f2)) 0 0 (fun q => b0 ≤ q) := by
  refine t_of (own := RX5) (by decide) rfl ?_ (Nat.le_of_ble_eq_true rfl)
  intro p e s m below meth c ls C w hsz hr hlk hnm hl
  have hx := C.1
  have hb := C.2.1
  have hl : lv_has ls 7 [(0, .ref y), (1, .ref bx), (2, .int at_)] := hl
  have hb_at_ := ti_bd at_
  have hR : rawk Ψ L f0 f0 := rawk.rf
  refine lv_aload_n hx hb dX5_look_0 rfl (lv_at hl 0 rfl) ?_
  refine lv_iload_n hx hb dX5_look_1 rfl (lv_at hl 2 rfl) ?_
  refine t_puti C w hT hm_y ht_y (by decide) rfl cin_5 tyX5 tyX5_ok nmX5 0 (by decide) rfl rfl rfl rfl rfl (gof_no rfl) gw_219 dX5_look_2 (fun f H locs w hT hR1 => ?_)
  have hR := hR.tr hR1
  refine lv_aload_n hx hb dX5_look_5 rfl (lv_at hl 0 rfl) ?_
  refine lv_aload_n hx hb dX5_look_6 rfl (lv_at hl 1 rfl) ?_
  refine t_geti C w hT hm_bx ht_bx (by decide) rfl cin_0 1 (by decide) rfl rfl gw_93 dX5_look_7 (fun x1 hg => ?_)
  obtain rfl : x1 = 63 := gof_at rfl hg
  refine t_puti C w hT hm_y ht_y (by decide) rfl cin_5 tyX5 tyX5_ok nmX5 10 (by decide) rfl rfl rfl rfl rfl (gof_no rfl) gw_243 dX5_look_10 (fun f H locs w hT hR1 => ?_)
  have hR := hR.tr hR1
  refine lv_aload_n hx hb dX5_look_13 rfl (lv_at hl 0 rfl) ?_
  refine lv_iconst (v := 0) hx hb dX5_look_14 (by decide) ?_
  refine t_puti C w hT hm_y ht_y (by decide) rfl cin_5 tyX5 tyX5_ok nmX5 1 (by decide) rfl rfl rfl rfl rfl (gof_is rfl) gw_220 dX5_look_15 (fun f H locs w hT hR1 => ?_)
  have hR := hR.tr hR1
  refine lv_aload_n hx hb dX5_look_18 rfl (lv_at hl 0 rfl) ?_
  refine lv_iconst (v := (-1)) hx hb dX5_look_19 (by decide) ?_
  refine t_puti C w hT hm_y ht_y (by decide) rfl cin_5 tyX5 tyX5_ok nmX5 2 (by decide) rfl rfl rfl rfl rfl (gof_no rfl) gw_223 dX5_look_20 (fun f H locs w hT hR1 => ?_)
  have hR := hR.tr hR1
  refine lv_aload_n hx hb dX5_look_23 rfl (lv_at hl 0 rfl) ?_
  refine lv_iconst (v := 0) hx hb dX5_look_24 (by decide) ?_
  refine t_puti C w hT hm_y ht_y (by decide) rfl cin_5 tyX5 tyX5_ok nmX5 16 (by decide) rfl rfl rfl rfl rfl (gof_is rfl) gw_249 dX5_look_25 (fun f H locs w hT hR1 => ?_)
  have hR := hR.tr hR1
  refine lv_aload_n hx hb dX5_look_28 rfl (lv_at hl 0 rfl) ?_
  refine lv_iconst (v := 0) hx hb dX5_look_29 (by decide) ?_
  refine t_puti C w hT hm_y ht_y (by decide) rfl cin_5 tyX5 tyX5_ok nmX5 14 (by decide) rfl rfl rfl rfl rfl (gof_is rfl) gw_247 dX5_look_30 (fun f H locs w hT hR1 => ?_)
  have hR := hR.tr hR1
  refine lv_iload_n hx hb dX5_look_33 rfl (lv_at hl 2 rfl) ?_
  refine lv_aload_n hx hb dX5_look_34 rfl (lv_at hl 1 rfl) ?_
  refine t_geti C w hT hm_bx ht_bx (by decide) rfl cin_0 1 (by decide) rfl rfl gw_93 dX5_look_35 (fun x2 hg => ?_)
  obtain rfl : x2 = 63 := gof_at rfl hg
  have n63 : (63 : Int32).toInt = 63 := by decide
  refine lv_icmp_eq (tgt := 61) hx hb dX5_look_38 (by decide) (fun c3 => ?_) (fun c3 => ?_)
  · have c3 := eq_toInt c3
    refine lv_iconst (v := 0) hx hb dX5_look_61 (by decide) ?_
    refine lv_istore_n (lv' := [(3, .int 0), (0, .ref y), (1, .ref bx), (2, .int at_)]) hx hb dX5_look_62 rfl hl (by decide) rfl (fun ls hl => ?_)
    refine lv_iload_n hx hb dX5_look_63 rfl (lv_at hl 0 rfl) ?_
    refine lv_if_eq (tgt := 89) hx hb dX5_look_64 (by decide) (fun _ => ?_) (fun c0 => absurd c0 (by decide))
    refine lv_iconst (v := (-1)) hx hb dX5_look_89 (by decide) ?_
    refine lv_istore (lv' := [(4, .int (-1)), (3, .int 0), (0, .ref y), (1, .ref bx), (2, .int at_)]) hx hb dX5_look_90 hl (by decide) rfl (fun ls hl => ?_)
    refine lv_aload_n hx hb dX5_look_92 rfl (lv_at hl 3 rfl) ?_
    refine t_getr C w hT hm_bx ht_bx (by decide) rfl cin_0 0 (by decide) rfl gw_90 dX5_look_93 (fun q4 hm_q4 ht_q4 => ?_)
    refine lv_iload hx hb dX5_look_96 (lv_at hl 0 rfl) ?_
    have nm1 : ((-1) : Int32).toInt = -1 := by decide
    refine t_callV (n := 1) C w hT hm_q4 ht_q4 (by decide) rfl rfl (c_X2_known l D K b0 sa _ L _ Ψ hT q4 hm_q4 ht_q4 (-1)) gw_434 gw_431 gw_432 gw_433 gw_3 ⟨by decide, by decide, by decide +kernel⟩ rfl rfl ⟨by decide, by decide⟩ rfl hl.1 rfl (Nat.le_of_ble_eq_true rfl) dX5_look_98 ⟨by decide, by decide⟩ (fun v u H locs hp w => ?_)
    obtain ⟨r5, rfl, rfl, hrr5⟩ := hp
    obtain rfl := hrr5
    refine lv_if_ne (tgt := 105) hx hb dX5_look_101 (by decide) (fun c0 => absurd c0 (by decide)) (fun _ => ?_)
    exact t_vret C hr hlk w ⟨_, rfl, rfl, hT, hR⟩ (by decide) (by decide) dX5_look_104
  · have c3 := ne_toInt c3
    refine lv_iload_n hx hb dX5_look_41 rfl (lv_at hl 2 rfl) ?_
    refine lv_bipush (v := 8) hx hb dX5_look_42 (by decide) ?_
    refine lv_irem hx hb dX5_look_44 (by decide) ?_
    refine lv_topi (fun y6 ey6 => ?_)
    refine lv_iload_n hx hb dX5_look_45 rfl (lv_at hl 2 rfl) ?_
    refine lv_bipush (v := 8) hx hb dX5_look_46 (by decide) ?_
    refine lv_idiv hx hb dX5_look_48 (by decide) ?_
    refine lv_topi (fun y7 ey7 => ?_)
    refine lv_iadd hx hb dX5_look_49 ?_
    refine lv_topi (fun y8 ey8 => ?_)
    refine lv_aload_n hx hb dX5_look_50 rfl (lv_at hl 1 rfl) ?_
    refine t_geti C w hT hm_bx ht_bx (by decide) rfl cin_0 2 (by decide) rfl rfl gw_95 dX5_look_51 (fun x9 hg => ?_)
    obtain rfl : x9 = 14 := gof_at rfl hg
    have n14 : (14 : Int32).toInt = 14 := by decide
    refine lv_icmp_gt (tgt := 61) hx hb dX5_look_54 (by decide) (fun c10 => ?_) (fun c10 => ?_)
    · have c10 := lt_toInt c10
      refine lv_iconst (v := 0) hx hb dX5_look_61 (by decide) ?_
      refine lv_istore_n (lv' := [(3, .int 0), (0, .ref y), (1, .ref bx), (2, .int at_)]) hx hb dX5_look_62 rfl hl (by decide) rfl (fun ls hl => ?_)
      refine lv_iload_n hx hb dX5_look_63 rfl (lv_at hl 0 rfl) ?_
      refine lv_if_eq (tgt := 89) hx hb dX5_look_64 (by decide) (fun _ => ?_) (fun c0 => absurd c0 (by decide))
      refine lv_iconst (v := (-1)) hx hb dX5_look_89 (by decide) ?_
      refine lv_istore (lv' := [(4, .int (-1)), (3, .int 0), (0, .ref y), (1, .ref bx), (2, .int at_)]) hx hb dX5_look_90 hl (by decide) rfl (fun ls hl => ?_)
      refine lv_aload_n hx hb dX5_look_92 rfl (lv_at hl 3 rfl) ?_
      refine t_getr C w hT hm_bx ht_bx (by decide) rfl cin_0 0 (by decide) rfl gw_90 dX5_look_93 (fun q11 hm_q11 ht_q11 => ?_)
      refine lv_iload hx hb dX5_look_96 (lv_at hl 0 rfl) ?_
      have nm1 : ((-1) : Int32).toInt = -1 := by decide
      refine t_callV (n := 1) C w hT hm_q11 ht_q11 (by decide) rfl rfl (c_X2_known l D K b0 sa _ L _ Ψ hT q11 hm_q11 ht_q11 (-1)) gw_434 gw_431 gw_432 gw_433 gw_3 ⟨by decide, by decide, by decide +kernel⟩ rfl rfl ⟨by decide, by decide⟩ rfl hl.1 rfl (Nat.le_of_ble_eq_true rfl) dX5_look_98 ⟨by decide, by decide⟩ (fun v u H locs hp w => ?_)
      obtain ⟨r12, rfl, rfl, hrr12⟩ := hp
      obtain rfl := hrr12
      refine lv_if_ne (tgt := 105) hx hb dX5_look_101 (by decide) (fun c0 => absurd c0 (by decide)) (fun _ => ?_)
      exact t_vret C hr hlk w ⟨_, rfl, rfl, hT, hR⟩ (by decide) (by decide) dX5_look_104
    · have c10 := nlt_toInt c10
      refine lv_iconst (v := 1) hx hb dX5_look_57 (by decide) ?_
      refine lv_goto (tgt := 62) hx hb dX5_look_58 (by decide) ?_
      refine lv_istore_n (lv' := [(3, .int 1), (0, .ref y), (1, .ref bx), (2, .int at_)]) hx hb dX5_look_62 rfl hl (by decide) rfl (fun ls hl => ?_)
      refine lv_iload_n hx hb dX5_look_63 rfl (lv_at hl 0 rfl) ?_
      refine lv_if_eq (tgt := 89) hx hb dX5_look_64 (by decide) (fun c0 => absurd c0 (by decide)) (fun _ => ?_)
      refine lv_iload_n hx hb dX5_look_67 rfl (lv_at hl 3 rfl) ?_
      refine lv_iconst (v := 0) hx hb dX5_look_68 (by decide) ?_
      refine lv_bipush (v := 63) hx hb dX5_look_69 (by decide) ?_
      have n0 : (0 : Int32).toInt = 0 := by decide
      refine t_callSN (host := RX6) (n := 3) C w (c_X6_within l D K b0 sa _ L _ Ψ (gof gX1) hT at_ 0 63) gw_376 (List.mem_of_getElem? (i := 4) rfl) gw_375 gw_1 ⟨by decide, by decide, by decide +kernel⟩ rfl rfl ⟨by decide, by decide⟩ rfl hl.1 rfl (Nat.le_of_ble_eq_true rfl) dX5_look_71 ⟨by decide, by decide⟩ (fun v u H locs hp w => ?_)
      obtain ⟨r13, rfl, rfl, hrr13⟩ := hp
      rcases hrr13 with ⟨rfl, hf0_r13, hf1_r13⟩ | ⟨rfl, hf0_r13⟩
      ·
        refine lv_if_eq (tgt := 89) hx hb dX5_look_74 (by decide) (fun c0 => absurd c0 (by decide)) (fun _ => ?_)
        refine lv_aload_n hx hb dX5_look_77 rfl (lv_at hl 2 rfl) ?_
        refine t_getr C w hT hm_bx ht_bx (by decide) rfl cin_0 0 (by decide) rfl gw_90 dX5_look_78 (fun q14 hm_q14 ht_q14 => ?_)
        refine t_getr C w hT hm_q14 ht_q14 (by decide) rfl cin_2 8 (by decide) rfl gw_64 dX5_look_81 (fun q15 hm_q15 ht_q15 => ?_)
        refine lv_iload_n hx hb dX5_look_84 rfl (lv_at hl 3 rfl) ?_
        refine t_iald C w hT hm_q15 ht_q15 (by decide) (by decide) rfl (vp_in_iff.mpr ⟨by omega, (show _ < ((64 : Nat) : Int) by omega)⟩) dX5_look_85 (fun x16 hg => ?_)
        obtain rfl : x16 = (-1) := gof_at rfl hg
        refine lv_goto (tgt := 90) hx hb dX5_look_86 (by decide) ?_
        refine lv_istore (lv' := [(4, .int (-1)), (3, .int 1), (0, .ref y), (1, .ref bx), (2, .int at_)]) hx hb dX5_look_90 hl (by decide) rfl (fun ls hl => ?_)
        refine lv_aload_n hx hb dX5_look_92 rfl (lv_at hl 3 rfl) ?_
        refine t_getr C w hT hm_bx ht_bx (by decide) rfl cin_0 0 (by decide) rfl gw_90 dX5_look_93 (fun q17 hm_q17 ht_q17 => ?_)
        refine lv_iload hx hb dX5_look_96 (lv_at hl 0 rfl) ?_
        have nm1 : ((-1) : Int32).toInt = -1 := by decide
        refine t_callV (n := 1) C w hT hm_q17 ht_q17 (by decide) rfl rfl (c_X2_known l D K b0 sa _ L _ Ψ hT q17 hm_q17 ht_q17 (-1)) gw_434 gw_431 gw_432 gw_433 gw_3 ⟨by decide, by decide, by decide +kernel⟩ rfl rfl ⟨by decide, by decide⟩ rfl hl.1 rfl (Nat.le_of_ble_eq_true rfl) dX5_look_98 ⟨by decide, by decide⟩ (fun v u H locs hp w => ?_)
        obtain ⟨r18, rfl, rfl, hrr18⟩ := hp
        obtain rfl := hrr18
        refine lv_if_ne (tgt := 105) hx hb dX5_look_101 (by decide) (fun c0 => absurd c0 (by decide)) (fun _ => ?_)
        exact t_vret C hr hlk w ⟨_, rfl, rfl, hT, hR⟩ (by decide) (by decide) dX5_look_104
      ·
        refine lv_if_eq (tgt := 89) hx hb dX5_look_74 (by decide) (fun _ => ?_) (fun c0 => absurd c0 (by decide))
        refine lv_iconst (v := (-1)) hx hb dX5_look_89 (by decide) ?_
        refine lv_istore (lv' := [(4, .int (-1)), (3, .int 1), (0, .ref y), (1, .ref bx), (2, .int at_)]) hx hb dX5_look_90 hl (by decide) rfl (fun ls hl => ?_)
        refine lv_aload_n hx hb dX5_look_92 rfl (lv_at hl 3 rfl) ?_
        refine t_getr C w hT hm_bx ht_bx (by decide) rfl cin_0 0 (by decide) rfl gw_90 dX5_look_93 (fun q19 hm_q19 ht_q19 => ?_)
        refine lv_iload hx hb dX5_look_96 (lv_at hl 0 rfl) ?_
        have nm1 : ((-1) : Int32).toInt = -1 := by decide
        refine t_callV (n := 1) C w hT hm_q19 ht_q19 (by decide) rfl rfl (c_X2_known l D K b0 sa _ L _ Ψ hT q19 hm_q19 ht_q19 (-1)) gw_434 gw_431 gw_432 gw_433 gw_3 ⟨by decide, by decide, by decide +kernel⟩ rfl rfl ⟨by decide, by decide⟩ rfl hl.1 rfl (Nat.le_of_ble_eq_true rfl) dX5_look_98 ⟨by decide, by decide⟩ (fun v u H locs hp w => ?_)
        obtain ⟨r20, rfl, rfl, hrr20⟩ := hp
        obtain rfl := hrr20
        refine lv_if_ne (tgt := 105) hx hb dX5_look_101 (by decide) (fun c0 => absurd c0 (by decide)) (fun _ => ?_)
        exact t_vret C hr hlk w ⟨_, rfl, rfl, hT, hR⟩ (by decide) (by decide) dX5_look_104
set_option maxHeartbeats 4000000 in
set_option maxRecDepth 100000 in
theorem c_X5_failingStep (l : Launch) (D : va_G) (K : Nat → ClassId) (b0 : Nat) (sa : Nat × Nat × Nat) (sz : Nat) (L : List Nat) (f0 : Nat → va_E) (Ψ : Nat → Nat) (hT : TW K (gof gX1) Ψ L f0) (y : Nat) (hm_y : y ∈ L) (ht_y : Ψ y = 5) (g_ : Int32) (sl : Int32) : Met l yX5_failingStep (.code yX5_failingStep cX5_failingStep 4 (some .int) :: gt) { frames := 0, cells := 0, slots := 0, locals := 0 } (va_Pc [.ref y, .int g_, .int sl] (hPre D K b0 sa sz L f0)) (hQ D K b0 (fun v9 u9 => ∃ r : Int32, v9 = some (.int r) ∧ u9 = ((gof gX1), Ψ, L, f0) ∧ (r = 0))) 0 0 (fun q => b0 ≤ q) := by
  refine t_of (own := RX5) (by decide) rfl ?_ (Nat.le_of_ble_eq_true rfl)
  intro p e s m below meth c ls C w hsz hr hlk hnm hl
  have hx := C.1
  have hb := C.2.1
  have hl : lv_has ls 4 [(0, .ref y), (1, .int g_), (2, .int sl)] := hl
  have hb_g_ := ti_bd g_
  have hb_sl := ti_bd sl
  have hR : rawk Ψ L f0 f0 := rawk.rf
  refine lv_iconst (v := 0) hx hb dX5_failingStep_0 (by decide) ?_
  refine lv_istore_n (lv' := [(3, .int 0), (0, .ref y), (1, .int g_), (2, .int sl)]) hx hb dX5_failingStep_1 rfl hl (by decide) rfl (fun ls hl => ?_)
  refine lv_iload_n hx hb dX5_failingStep_2 rfl (lv_at hl 0 rfl) ?_
  refine lv_aload_n hx hb dX5_failingStep_3 rfl (lv_at hl 1 rfl) ?_
  refine t_geti C w hT hm_y ht_y (by decide) rfl cin_5 13 (by decide) rfl rfl gw_246 dX5_failingStep_4 (fun x1 hg => ?_)
  obtain rfl : x1 = 0 := gof_at rfl hg
  refine lv_icmp_ge (tgt := 33) hx hb dX5_failingStep_7 (by decide) (fun _ => ?_) (fun c0 => absurd c0 (by decide))
  refine lv_aload_n hx hb dX5_failingStep_33 rfl (lv_at hl 1 rfl) ?_
  refine t_geti C w hT hm_y ht_y (by decide) rfl cin_5 13 (by decide) rfl rfl gw_246 dX5_failingStep_34 (fun x2 hg => ?_)
  obtain rfl : x2 = 0 := gof_at rfl hg
  have n0 : (0 : Int32).toInt = 0 := by decide
  exact t_iret C hr hlk w ⟨_, rfl, rfl, rfl⟩ (by decide) (by decide) dX5_failingStep_37
set_option maxHeartbeats 4000000 in
set_option maxRecDepth 100000 in
theorem c_X5_outcomeAt (l : Launch) (D : va_G) (K : Nat → ClassId) (b0 : Nat) (sa : Nat × Nat × Nat) (sz : Nat) (L : List Nat) (f0 : Nat → va_E) (Ψ : Nat → Nat) (hT : TW K (gof gX1) Ψ L f0) (y : Nat) (hm_y : y ∈ L) (ht_y : Ψ y = 5) (st_ : Int32) : Met l yX5_outcomeAt (.code yX5_outcomeAt cX5_outcomeAt 2 (some .int) :: gt) { frames := 0, cells := 0, slots := 0, locals := 0 } (va_Pc [.ref y, .int st_] (hPre D K b0 sa sz L f0)) (hQ D K b0 (fun v9 u9 => ∃ r : Int32, v9 = some (.int r) ∧ u9 = ((gof gX1), Ψ, L, f0) ∧ (r = 0))) 0 0 (fun q => b0 ≤ q) := by
  refine t_of (own := RX5) (by decide) rfl ?_ (Nat.le_of_ble_eq_true rfl)
  intro p e s m below meth c ls C w hsz hr hlk hnm hl
  have hx := C.1
  have hb := C.2.1
  have hl : lv_has ls 2 [(0, .ref y), (1, .int st_)] := hl
  have hb_st_ := ti_bd st_
  have hR : rawk Ψ L f0 f0 := rawk.rf
  refine lv_aload_n hx hb dX5_outcomeAt_0 rfl (lv_at hl 0 rfl) ?_
  refine t_geti C w hT hm_y ht_y (by decide) rfl cin_5 1 (by decide) rfl rfl gw_220 dX5_outcomeAt_1 (fun x1 hg => ?_)
  obtain rfl : x1 = 0 := gof_at rfl hg
  refine lv_if_eq (tgt := 15) hx hb dX5_outcomeAt_4 (by decide) (fun _ => ?_) (fun c0 => absurd c0 (by decide))
  refine lv_aload_n hx hb dX5_outcomeAt_15 rfl (lv_at hl 0 rfl) ?_
  refine t_geti C w hT hm_y ht_y (by decide) rfl cin_5 1 (by decide) rfl rfl gw_220 dX5_outcomeAt_16 (fun x2 hg => ?_)
  obtain rfl : x2 = 0 := gof_at rfl hg
  have n0 : (0 : Int32).toInt = 0 := by decide
  exact t_iret C hr hlk w ⟨_, rfl, rfl, rfl⟩ (by decide) (by decide) dX5_outcomeAt_19
set_option maxHeartbeats 4000000 in
set_option maxRecDepth 100000 in
theorem c_X5_letGoAt (l : Launch) (D : va_G) (K : Nat → ClassId) (b0 : Nat) (sa : Nat × Nat × Nat) (sz : Nat) (L : List Nat) (f0 : Nat → va_E) (Ψ : Nat → Nat) (hT : TW K (gof gX1) Ψ L f0) (y : Nat) (hm_y : y ∈ L) (ht_y : Ψ y = 5) (st_ : Int32) : Met l yX5_letGoAt (.code yX5_letGoAt cX5_letGoAt 6 (some .int) :: gt) { frames := 1, cells := 0, slots := 0, locals := 21 } (va_Pc [.ref y, .int st_] (hPre D K b0 sa sz L f0)) (hQ D K b0 (fun v9 u9 => ∃ r : Int32, v9 = some (.int r) ∧ u9 = ((gof gX1), Ψ, L, f0) ∧ (r = (-1)))) 0 0 (fun q => b0 ≤ q) := by
  refine t_of (own := RX5) (by decide) rfl ?_ (Nat.le_of_ble_eq_true rfl)
  intro p e s m below meth c ls C w hsz hr hlk hnm hl
  have hx := C.1
  have hb := C.2.1
  have hl : lv_has ls 6 [(0, .ref y), (1, .int st_)] := hl
  have hb_st_ := ti_bd st_
  have hR : rawk Ψ L f0 f0 := rawk.rf
  refine lv_aload_n hx hb dX5_letGoAt_0 rfl (lv_at hl 0 rfl) ?_
  refine lv_iload_n hx hb dX5_letGoAt_1 rfl (lv_at hl 1 rfl) ?_
  refine t_callV (n := 1) C w hT hm_y ht_y (by decide) rfl rfl (c_X5_outcomeAt l D K b0 sa _ L _ Ψ hT y hm_y ht_y st_) gw_471 gw_494 gw_469 gw_470 gw_7 ⟨by decide, by decide, by decide +kernel⟩ rfl rfl ⟨by decide, by decide⟩ rfl hl.1 rfl (Nat.le_of_ble_eq_true rfl) dX5_letGoAt_2 ⟨by decide, by decide⟩ (fun v u H locs hp w => ?_)
  obtain ⟨r1, rfl, rfl, hrr1⟩ := hp
  obtain rfl := hrr1
  refine lv_iconst (v := 3) hx hb dX5_letGoAt_5 (by decide) ?_
  refine lv_icmp_eq (tgt := 11) hx hb dX5_letGoAt_6 (by decide) (fun c0 => absurd c0 (by decide)) (fun _ => ?_)
  refine lv_iconst (v := (-1)) hx hb dX5_letGoAt_9 (by decide) ?_
  have nm1 : ((-1) : Int32).toInt = -1 := by decide
  exact t_iret C hr hlk w ⟨_, rfl, rfl, rfl⟩ (by decide) (by decide) dX5_letGoAt_10
set_option maxHeartbeats 4000000 in
set_option maxRecDepth 100000 in
theorem c_X5_carry (l : Launch) (D : va_G) (K : Nat → ClassId) (b0 : Nat) (sa : Nat × Nat × Nat) (sz : Nat) (L : List Nat) (f0 : Nat → va_E) (Ψ : Nat → Nat) (hT : TW K (gof gX1) Ψ L f0) (y : Nat) (hm_y : y ∈ L) (ht_y : Ψ y = 5) (g_ : Int32) (sl : Int32) : Met l yX5_carry (.code yX5_carry cX5_carry 4 none :: gt) { frames := 2, cells := 0, slots := 0, locals := 46 } (va_Pc [.ref y, .int g_, .int sl] (hPre D K b0 sa sz L f0)) (hQ D K b0 (fun v9 u9 => ∃ f2 : Nat → va_E, v9 = none ∧ u9 = ((gof gX1), Ψ, L, f2) ∧ TW K (gof gX1) Ψ L f2 ∧ rawk Ψ L f0 f2)) 0 0 (fun q => b0 ≤ q) := by
  refine t_of (own := RX5) (by decide) rfl ?_ (Nat.le_of_ble_eq_true rfl)
  intro p e s m below meth c ls C w hsz hr hlk hnm hl
  have hx := C.1
  have hb := C.2.1
  have hl : lv_has ls 4 [(0, .ref y), (1, .int g_), (2, .int sl)] := hl
  have hb_g_ := ti_bd g_
  have hb_sl := ti_bd sl
  have hR : rawk Ψ L f0 f0 := rawk.rf
  refine lv_aload_n hx hb dX5_carry_0 rfl (lv_at hl 0 rfl) ?_
  refine lv_iload_n hx hb dX5_carry_1 rfl (lv_at hl 1 rfl) ?_
  refine lv_iload_n hx hb dX5_carry_2 rfl (lv_at hl 2 rfl) ?_
  refine t_callV (n := 2) C w hT hm_y ht_y (by decide) rfl rfl (c_X5_failingStep l D K b0 sa _ L _ Ψ hT y hm_y ht_y g_ sl) gw_467 gw_493 gw_465 gw_466 gw_7 ⟨by decide, by decide, by decide +kernel⟩ rfl rfl ⟨by decide, by decide⟩ rfl hl.1 rfl (Nat.le_of_ble_eq_true rfl) dX5_carry_3 ⟨by decide, by decide⟩ (fun v u H locs hp w => ?_)
  obtain ⟨r1, rfl, rfl, hrr1⟩ := hp
  obtain rfl := hrr1
  refine lv_istore_n (lv' := [(3, .int 0), (0, .ref y), (1, .int g_), (2, .int sl)]) hx hb dX5_carry_6 rfl hl (by decide) rfl (fun ls hl => ?_)
  refine lv_aload_n hx hb dX5_carry_7 rfl (lv_at hl 1 rfl) ?_
  refine lv_aload_n hx hb dX5_carry_8 rfl (lv_at hl 1 rfl) ?_
  refine lv_iload_n hx hb dX5_carry_9 rfl (lv_at hl 0 rfl) ?_
  have n0 : (0 : Int32).toInt = 0 := by decide
  refine t_callV (n := 1) C w hT hm_y ht_y (by decide) rfl rfl (c_X5_letGoAt l D K b0 sa _ L _ Ψ hT y hm_y ht_y 0) gw_498 gw_495 gw_496 gw_497 gw_7 ⟨by decide, by decide, by decide +kernel⟩ rfl rfl ⟨by decide, by decide⟩ rfl hl.1 rfl (Nat.le_of_ble_eq_true rfl) dX5_carry_10 ⟨by decide, by decide⟩ (fun v u H locs hp w => ?_)
  obtain ⟨r2, rfl, rfl, hrr2⟩ := hp
  obtain rfl := hrr2
  refine t_puti C w hT hm_y ht_y (by decide) rfl cin_5 tyX5 tyX5_ok nmX5 2 (by decide) rfl rfl rfl rfl rfl (gof_no rfl) gw_223 dX5_carry_13 (fun f H locs w hT hR1 => ?_)
  have hR := hR.tr hR1
  refine lv_aload_n hx hb dX5_carry_16 rfl (lv_at hl 1 rfl) ?_
  refine lv_aload_n hx hb dX5_carry_17 rfl (lv_at hl 1 rfl) ?_
  refine lv_iload_n hx hb dX5_carry_18 rfl (lv_at hl 0 rfl) ?_
  refine t_callV (n := 1) C w hT hm_y ht_y (by decide) rfl rfl (c_X5_outcomeAt l D K b0 sa _ L _ Ψ hT y hm_y ht_y 0) gw_471 gw_494 gw_469 gw_470 gw_7 ⟨by decide, by decide, by decide +kernel⟩ rfl rfl ⟨by decide, by decide⟩ rfl hl.1 rfl (Nat.le_of_ble_eq_true rfl) dX5_carry_19 ⟨by decide, by decide⟩ (fun v u H locs hp w => ?_)
  obtain ⟨r3, rfl, rfl, hrr3⟩ := hp
  obtain rfl := hrr3
  refine t_puti C w hT hm_y ht_y (by decide) rfl cin_5 tyX5 tyX5_ok nmX5 1 (by decide) rfl rfl rfl rfl rfl (gof_is rfl) gw_220 dX5_carry_22 (fun f H locs w hT hR1 => ?_)
  have hR := hR.tr hR1
  exact t_vret C hr hlk w ⟨_, rfl, rfl, hT, hR⟩ (by decide) (by decide) dX5_carry_25
