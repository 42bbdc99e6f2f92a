theorem dX7_grips_0 : decode cX7_grips 0 = .ok (.aload_n 0, 1) := by decide +kernel
theorem dX7_grips_1 : decode cX7_grips 1 = .ok (.iconst 0, 1) := by decide +kernel
theorem dX7_grips_2 : decode cX7_grips 2 = .ok (.putfield 272, 3) := by decide +kernel
theorem dX7_grips_5 : decode cX7_grips 5 = .ok (.aload_n 0, 1) := by decide +kernel
theorem dX7_grips_6 : decode cX7_grips 6 = .ok (.iconst 0, 1) := by decide +kernel
theorem dX7_grips_7 : decode cX7_grips 7 = .ok (.putfield 275, 3) := by decide +kernel
theorem dX7_grips_10 : decode cX7_grips 10 = .ok (.aload_n 0, 1) := by decide +kernel
theorem dX7_grips_11 : decode cX7_grips 11 = .ok (.iconst 0, 1) := by decide +kernel
theorem dX7_grips_12 : decode cX7_grips 12 = .ok (.putfield 278, 3) := by decide +kernel
theorem dX7_grips_15 : decode cX7_grips 15 = .ok (.aload_n 0, 1) := by decide +kernel
theorem dX7_grips_16 : decode cX7_grips 16 = .ok (.iconst (-1), 1) := by decide +kernel
theorem dX7_grips_17 : decode cX7_grips 17 = .ok (.putfield 281, 3) := by decide +kernel
theorem dX7_grips_20 : decode cX7_grips 20 = .ok (.aload_n 0, 1) := by decide +kernel
theorem dX7_grips_21 : decode cX7_grips 21 = .ok (.iconst 0, 1) := by decide +kernel
theorem dX7_grips_22 : decode cX7_grips 22 = .ok (.putfield 284, 3) := by decide +kernel
theorem dX7_grips_25 : decode cX7_grips 25 = .ok (.aload_n 0, 1) := by decide +kernel
theorem dX7_grips_26 : decode cX7_grips 26 = .ok (.iload_n 1, 1) := by decide +kernel
theorem dX7_grips_27 : decode cX7_grips 27 = .ok (.invokevirtual 268, 3) := by decide +kernel
theorem dX7_grips_30 : decode cX7_grips 30 = .ok (.istore_n 2, 1) := by decide +kernel
theorem dX7_grips_31 : decode cX7_grips 31 = .ok (.iload_n 1, 1) := by decide +kernel
theorem dX7_grips_32 : decode cX7_grips 32 = .ok (.aload_n 0, 1) := by decide +kernel
theorem dX7_grips_33 : decode cX7_grips 33 = .ok (.getfield 58, 3) := by decide +kernel
theorem dX7_grips_36 : decode cX7_grips 36 = .ok (.if_icmp .eq 24, 3) := by decide +kernel
theorem dX7_grips_39 : decode cX7_grips 39 = .ok (.iload_n 2, 1) := by decide +kernel
theorem dX7_grips_40 : decode cX7_grips 40 = .ok (.iconst (-1), 1) := by decide +kernel
theorem dX7_grips_41 : decode cX7_grips 41 = .ok (.if_icmp .eq 19, 3) := by decide +kernel
theorem dX7_grips_44 : decode cX7_grips 44 = .ok (.iload_n 1, 1) := by decide +kernel
theorem dX7_grips_45 : decode cX7_grips 45 = .ok (.bipush 8, 2) := by decide +kernel
theorem dX7_grips_47 : decode cX7_grips 47 = .ok (.irem, 1) := by decide +kernel
theorem dX7_grips_48 : decode cX7_grips 48 = .ok (.iload_n 1, 1) := by decide +kernel
theorem dX7_grips_49 : decode cX7_grips 49 = .ok (.bipush 8, 2) := by decide +kernel
theorem dX7_grips_51 : decode cX7_grips 51 = .ok (.idiv, 1) := by decide +kernel
theorem dX7_grips_52 : decode cX7_grips 52 = .ok (.iadd, 1) := by decide +kernel
theorem dX7_grips_53 : decode cX7_grips 53 = .ok (.aload_n 0, 1) := by decide +kernel
theorem dX7_grips_54 : decode cX7_grips 54 = .ok (.getfield 61, 3) := by decide +kernel
theorem dX7_grips_57 : decode cX7_grips 57 = .ok (.if_icmp .le 4, 3) := by decide +kernel
theorem dX7_grips_60 : decode cX7_grips 60 = .ok (.return_, 1) := by decide +kernel
theorem dX7_grips_61 : decode cX7_grips 61 = .ok (.aload_n 0, 1) := by decide +kernel
theorem dX7_grips_62 : decode cX7_grips 62 = .ok (.iload_n 2, 1) := by decide +kernel
theorem dX7_grips_63 : decode cX7_grips 63 = .ok (.invokevirtual 287, 3) := by decide +kernel
theorem dX7_grips_66 : decode cX7_grips 66 = .ok (.iconst 0, 1) := by decide +kernel
theorem dX7_grips_67 : decode cX7_grips 67 = .ok (.istore_n 3, 1) := by decide +kernel
theorem dX7_grips_68 : decode cX7_grips 68 = .ok (.iload_n 3, 1) := by decide +kernel
theorem dX7_grips_69 : decode cX7_grips 69 = .ok (.iconst 4, 1) := by decide +kernel
theorem dX7_grips_70 : decode cX7_grips 70 = .ok (.if_icmp .ge 71, 3) := by decide +kernel
theorem dX7_grips_73 : decode cX7_grips 73 = .ok (.aload_n 0, 1) := by decide +kernel
theorem dX7_grips_74 : decode cX7_grips 74 = .ok (.getfield 36, 3) := by decide +kernel
theorem dX7_grips_77 : decode cX7_grips 77 = .ok (.iload_n 2, 1) := by decide +kernel
theorem dX7_grips_78 : decode cX7_grips 78 = .ok (.iaload, 1) := by decide +kernel
theorem dX7_grips_79 : decode cX7_grips 79 = .ok (.ifCond .le 62, 3) := by decide +kernel
theorem dX7_grips_82 : decode cX7_grips 82 = .ok (.iload_n 1, 1) := by decide +kernel
theorem dX7_grips_83 : decode cX7_grips 83 = .ok (.iload_n 3, 1) := by decide +kernel
theorem dX7_grips_84 : decode cX7_grips 84 = .ok (.invokestatic 290, 3) := by decide +kernel
theorem dX7_grips_87 : decode cX7_grips 87 = .ok (.istore 4, 2) := by decide +kernel
theorem dX7_grips_89 : decode cX7_grips 89 = .ok (.iload 4, 2) := by decide +kernel
theorem dX7_grips_91 : decode cX7_grips 91 = .ok (.iconst (-1), 1) := by decide +kernel
theorem dX7_grips_92 : decode cX7_grips 92 = .ok (.if_icmp .ne 7, 3) := by decide +kernel
theorem dX7_grips_95 : decode cX7_grips 95 = .ok (.iconst (-1), 1) := by decide +kernel
theorem dX7_grips_96 : decode cX7_grips 96 = .ok (.goto 9, 3) := by decide +kernel
theorem dX7_grips_99 : decode cX7_grips 99 = .ok (.aload_n 0, 1) := by decide +kernel
theorem dX7_grips_100 : decode cX7_grips 100 = .ok (.iload 4, 2) := by decide +kernel
theorem dX7_grips_102 : decode cX7_grips 102 = .ok (.invokevirtual 268, 3) := by decide +kernel
theorem dX7_grips_105 : decode cX7_grips 105 = .ok (.istore 5, 2) := by decide +kernel
theorem dX7_grips_107 : decode cX7_grips 107 = .ok (.iload 5, 2) := by decide +kernel
theorem dX7_grips_109 : decode cX7_grips 109 = .ok (.iconst (-1), 1) := by decide +kernel
theorem dX7_grips_110 : decode cX7_grips 110 = .ok (.if_icmp .eq 25, 3) := by decide +kernel
theorem dX7_grips_113 : decode cX7_grips 113 = .ok (.aload_n 0, 1) := by decide +kernel
theorem dX7_grips_114 : decode cX7_grips 114 = .ok (.getfield 36, 3) := by decide +kernel
theorem dX7_grips_117 : decode cX7_grips 117 = .ok (.iload 5, 2) := by decide +kernel
theorem dX7_grips_119 : decode cX7_grips 119 = .ok (.iaload, 1) := by decide +kernel
theorem dX7_grips_120 : decode cX7_grips 120 = .ok (.aload_n 0, 1) := by decide +kernel
theorem dX7_grips_121 : decode cX7_grips 121 = .ok (.getfield 36, 3) := by decide +kernel
theorem dX7_grips_124 : decode cX7_grips 124 = .ok (.iload_n 2, 1) := by decide +kernel
theorem dX7_grips_125 : decode cX7_grips 125 = .ok (.iaload, 1) := by decide +kernel
theorem dX7_grips_126 : decode cX7_grips 126 = .ok (.if_icmp .ne 9, 3) := by decide +kernel
theorem dX7_grips_129 : decode cX7_grips 129 = .ok (.aload_n 0, 1) := by decide +kernel
theorem dX7_grips_130 : decode cX7_grips 130 = .ok (.iload 5, 2) := by decide +kernel
theorem dX7_grips_132 : decode cX7_grips 132 = .ok (.invokevirtual 287, 3) := by decide +kernel
theorem dX7_grips_135 : decode cX7_grips 135 = .ok (.iinc 3 1, 3) := by decide +kernel
theorem dX7_grips_138 : decode cX7_grips 138 = .ok (.goto (-70), 3) := by decide +kernel
theorem dX7_grips_141 : decode cX7_grips 141 = .ok (.aload_n 0, 1) := by decide +kernel
theorem dX7_grips_142 : decode cX7_grips 142 = .ok (.aload_n 0, 1) := by decide +kernel
theorem dX7_grips_143 : decode cX7_grips 143 = .ok (.getfield 55, 3) := by decide +kernel
theorem dX7_grips_146 : decode cX7_grips 146 = .ok (.iload_n 1, 1) := by decide +kernel
theorem dX7_grips_147 : decode cX7_grips 147 = .ok (.iaload, 1) := by decide +kernel
theorem dX7_grips_148 : decode cX7_grips 148 = .ok (.bipush 9, 2) := by decide +kernel
theorem dX7_grips_150 : decode cX7_grips 150 = .ok (.if_icmp .le 7, 3) := by decide +kernel
theorem dX7_grips_153 : decode cX7_grips 153 = .ok (.iconst 0, 1) := by decide +kernel
theorem dX7_grips_154 : decode cX7_grips 154 = .ok (.goto 12, 3) := by decide +kernel
theorem dX7_grips_157 : decode cX7_grips 157 = .ok (.bipush 10, 2) := by decide +kernel
theorem dX7_grips_159 : decode cX7_grips 159 = .ok (.aload_n 0, 1) := by decide +kernel
theorem dX7_grips_160 : decode cX7_grips 160 = .ok (.getfield 55, 3) := by decide +kernel
theorem dX7_grips_163 : decode cX7_grips 163 = .ok (.iload_n 1, 1) := by decide +kernel
theorem dX7_grips_164 : decode cX7_grips 164 = .ok (.iaload, 1) := by decide +kernel
theorem dX7_grips_165 : decode cX7_grips 165 = .ok (.isub, 1) := by decide +kernel
theorem dX7_grips_166 : decode cX7_grips 166 = .ok (.putfield 278, 3) := by decide +kernel
theorem dX7_grips_169 : decode cX7_grips 169 = .ok (.aload_n 0, 1) := by decide +kernel
theorem dX7_grips_170 : decode cX7_grips 170 = .ok (.iconst 5, 1) := by decide +kernel
theorem dX7_grips_171 : decode cX7_grips 171 = .ok (.putfield 284, 3) := by decide +kernel
theorem dX7_grips_174 : decode cX7_grips 174 = .ok (.iconst 0, 1) := by decide +kernel
theorem dX7_grips_175 : decode cX7_grips 175 = .ok (.istore_n 3, 1) := by decide +kernel
theorem dX7_grips_176 : decode cX7_grips 176 = .ok (.iload_n 3, 1) := by decide +kernel
theorem dX7_grips_177 : decode cX7_grips 177 = .ok (.aload_n 0, 1) := by decide +kernel
theorem dX7_grips_178 : decode cX7_grips 178 = .ok (.getfield 272, 3) := by decide +kernel
theorem dX7_grips_181 : decode cX7_grips 181 = .ok (.if_icmp .ge 28, 3) := by decide +kernel
theorem dX7_grips_184 : decode cX7_grips 184 = .ok (.aload_n 0, 1) := by decide +kernel
theorem dX7_grips_185 : decode cX7_grips 185 = .ok (.getfield 48, 3) := by decide +kernel
theorem dX7_grips_188 : decode cX7_grips 188 = .ok (.aload_n 0, 1) := by decide +kernel
theorem dX7_grips_189 : decode cX7_grips 189 = .ok (.getfield 70, 3) := by decide +kernel
theorem dX7_grips_192 : decode cX7_grips 192 = .ok (.iload_n 3, 1) := by decide +kernel
theorem dX7_grips_193 : decode cX7_grips 193 = .ok (.iaload, 1) := by decide +kernel
theorem dX7_grips_194 : decode cX7_grips 194 = .ok (.baload, 1) := by decide +kernel
theorem dX7_grips_195 : decode cX7_grips 195 = .ok (.ifCond .eq 8, 3) := by decide +kernel
theorem dX7_grips_198 : decode cX7_grips 198 = .ok (.aload_n 0, 1) := by decide +kernel
theorem dX7_grips_199 : decode cX7_grips 199 = .ok (.iconst 4, 1) := by decide +kernel
theorem dX7_grips_200 : decode cX7_grips 200 = .ok (.putfield 284, 3) := by decide +kernel
theorem dX7_grips_203 : decode cX7_grips 203 = .ok (.iinc 3 1, 3) := by decide +kernel
theorem dX7_grips_206 : decode cX7_grips 206 = .ok (.goto (-30), 3) := by decide +kernel
theorem dX7_grips_209 : decode cX7_grips 209 = .ok (.return_, 1) := by decide +kernel
theorem dX7_wouldBe_0 : decode cX7_wouldBe 0 = .ok (.aload_n 0, 1) := by decide +kernel
theorem dX7_wouldBe_1 : decode cX7_wouldBe 1 = .ok (.iload_n 1, 1) := by decide +kernel
theorem dX7_wouldBe_2 : decode cX7_wouldBe 2 = .ok (.invokevirtual 300, 3) := by decide +kernel
theorem dX7_wouldBe_5 : decode cX7_wouldBe 5 = .ok (.aload_n 0, 1) := by decide +kernel
theorem dX7_wouldBe_6 : decode cX7_wouldBe 6 = .ok (.getfield 284, 3) := by decide +kernel
theorem dX7_wouldBe_9 : decode cX7_wouldBe 9 = .ok (.iconst 5, 1) := by decide +kernel
theorem dX7_wouldBe_10 : decode cX7_wouldBe 10 = .ok (.if_icmp .ne 25, 3) := by decide +kernel
theorem dX7_wouldBe_13 : decode cX7_wouldBe 13 = .ok (.aload_n 0, 1) := by decide +kernel
theorem dX7_wouldBe_14 : decode cX7_wouldBe 14 = .ok (.aload_n 0, 1) := by decide +kernel
theorem dX7_wouldBe_15 : decode cX7_wouldBe 15 = .ok (.getfield 275, 3) := by decide +kernel
theorem dX7_wouldBe_18 : decode cX7_wouldBe 18 = .ok (.aload_n 0, 1) := by decide +kernel
theorem dX7_wouldBe_19 : decode cX7_wouldBe 19 = .ok (.getfield 278, 3) := by decide +kernel
theorem dX7_wouldBe_22 : decode cX7_wouldBe 22 = .ok (.iload_n 1, 1) := by decide +kernel
theorem dX7_wouldBe_23 : decode cX7_wouldBe 23 = .ok (.aload_n 0, 1) := by decide +kernel
theorem dX7_wouldBe_24 : decode cX7_wouldBe 24 = .ok (.getfield 58, 3) := by decide +kernel
theorem dX7_wouldBe_27 : decode cX7_wouldBe 27 = .ok (.iload_n 2, 1) := by decide +kernel
theorem dX7_wouldBe_28 : decode cX7_wouldBe 28 = .ok (.iload_n 3, 1) := by decide +kernel
theorem dX7_wouldBe_29 : decode cX7_wouldBe 29 = .ok (.invokevirtual 303, 3) := by decide +kernel
theorem dX7_wouldBe_32 : decode cX7_wouldBe 32 = .ok (.goto 7, 3) := by decide +kernel
theorem dX7_wouldBe_35 : decode cX7_wouldBe 35 = .ok (.aload_n 0, 1) := by decide +kernel
theorem dX7_wouldBe_36 : decode cX7_wouldBe 36 = .ok (.getfield 284, 3) := by decide +kernel
theorem dX7_wouldBe_39 : decode cX7_wouldBe 39 = .ok (.ireturn, 1) := by decide +kernel
theorem dX7_triesAt_0 : decode cX7_triesAt 0 = .ok (.aload_n 0, 1) := by decide +kernel
theorem dX7_triesAt_1 : decode cX7_triesAt 1 = .ok (.iconst 1, 1) := by decide +kernel
theorem dX7_triesAt_2 : decode cX7_triesAt 2 = .ok (.invokevirtual 247, 3) := by decide +kernel
theorem dX7_triesAt_5 : decode cX7_triesAt 5 = .ok (.aload_n 0, 1) := by decide +kernel
theorem dX7_triesAt_6 : decode cX7_triesAt 6 = .ok (.aload_n 0, 1) := by decide +kernel
theorem dX7_triesAt_7 : decode cX7_triesAt 7 = .ok (.getfield 27, 3) := by decide +kernel
theorem dX7_triesAt_10 : decode cX7_triesAt 10 = .ok (.iload_n 2, 1) := by decide +kernel
theorem dX7_triesAt_11 : decode cX7_triesAt 11 = .ok (.invokevirtual 244, 3) := by decide +kernel
theorem dX7_triesAt_14 : decode cX7_triesAt 14 = .ok (.aload_n 0, 1) := by decide +kernel
theorem dX7_triesAt_15 : decode cX7_triesAt 15 = .ok (.iload_n 1, 1) := by decide +kernel
theorem dX7_triesAt_16 : decode cX7_triesAt 16 = .ok (.aload_n 0, 1) := by decide +kernel
theorem dX7_triesAt_17 : decode cX7_triesAt 17 = .ok (.getfield 194, 3) := by decide +kernel
theorem dX7_triesAt_20 : decode cX7_triesAt 20 = .ok (.aload_n 0, 1) := by decide +kernel
theorem dX7_triesAt_21 : decode cX7_triesAt 21 = .ok (.getfield 197, 3) := by decide +kernel
theorem dX7_triesAt_24 : decode cX7_triesAt 24 = .ok (.invokevirtual 307, 3) := by decide +kernel
theorem dX7_triesAt_27 : decode cX7_triesAt 27 = .ok (.istore_n 3, 1) := by decide +kernel
theorem dX7_triesAt_28 : decode cX7_triesAt 28 = .ok (.aload_n 0, 1) := by decide +kernel
theorem dX7_triesAt_29 : decode cX7_triesAt 29 = .ok (.iload_n 3, 1) := by decide +kernel
theorem dX7_triesAt_30 : decode cX7_triesAt 30 = .ok (.putfield 284, 3) := by decide +kernel
theorem dX7_triesAt_33 : decode cX7_triesAt 33 = .ok (.aload_n 0, 1) := by decide +kernel
theorem dX7_triesAt_34 : decode cX7_triesAt 34 = .ok (.iconst 0, 1) := by decide +kernel
theorem dX7_triesAt_35 : decode cX7_triesAt 35 = .ok (.putfield 310, 3) := by decide +kernel
theorem dX7_triesAt_38 : decode cX7_triesAt 38 = .ok (.iconst 0, 1) := by decide +kernel
theorem dX7_triesAt_39 : decode cX7_triesAt 39 = .ok (.istore 4, 2) := by decide +kernel
theorem dX7_triesAt_41 : decode cX7_triesAt 41 = .ok (.iload 4, 2) := by decide +kernel
theorem dX7_triesAt_43 : decode cX7_triesAt 43 = .ok (.aload_n 0, 1) := by decide +kernel
theorem dX7_triesAt_44 : decode cX7_triesAt 44 = .ok (.getfield 272, 3) := by decide +kernel
theorem dX7_triesAt_47 : decode cX7_triesAt 47 = .ok (.if_icmp .ge 69, 3) := by decide +kernel
theorem dX7_triesAt_50 : decode cX7_triesAt 50 = .ok (.iload_n 3, 1) := by decide +kernel
theorem dX7_triesAt_51 : decode cX7_triesAt 51 = .ok (.iconst 3, 1) := by decide +kernel
theorem dX7_triesAt_52 : decode cX7_triesAt 52 = .ok (.if_icmp .eq 8, 3) := by decide +kernel
theorem dX7_triesAt_55 : decode cX7_triesAt 55 = .ok (.iload_n 3, 1) := by decide +kernel
theorem dX7_triesAt_56 : decode cX7_triesAt 56 = .ok (.iconst 5, 1) := by decide +kernel
theorem dX7_triesAt_57 : decode cX7_triesAt 57 = .ok (.if_icmp .ne 59, 3) := by decide +kernel
theorem dX7_triesAt_60 : decode cX7_triesAt 60 = .ok (.aload_n 0, 1) := by decide +kernel
theorem dX7_triesAt_61 : decode cX7_triesAt 61 = .ok (.getfield 70, 3) := by decide +kernel
theorem dX7_triesAt_64 : decode cX7_triesAt 64 = .ok (.iload 4, 2) := by decide +kernel
theorem dX7_triesAt_66 : decode cX7_triesAt 66 = .ok (.iaload, 1) := by decide +kernel
theorem dX7_triesAt_67 : decode cX7_triesAt 67 = .ok (.istore 5, 2) := by decide +kernel
theorem dX7_triesAt_69 : decode cX7_triesAt 69 = .ok (.aload_n 0, 1) := by decide +kernel
theorem dX7_triesAt_70 : decode cX7_triesAt 70 = .ok (.iload 5, 2) := by decide +kernel
theorem dX7_triesAt_72 : decode cX7_triesAt 72 = .ok (.iconst (-1), 1) := by decide +kernel
theorem dX7_triesAt_73 : decode cX7_triesAt 73 = .ok (.invokevirtual 265, 3) := by decide +kernel
theorem dX7_triesAt_76 : decode cX7_triesAt 76 = .ok (.iload_n 3, 1) := by decide +kernel
theorem dX7_triesAt_77 : decode cX7_triesAt 77 = .ok (.iconst 3, 1) := by decide +kernel
theorem dX7_triesAt_78 : decode cX7_triesAt 78 = .ok (.if_icmp .ne 16, 3) := by decide +kernel
theorem dX7_triesAt_81 : decode cX7_triesAt 81 = .ok (.aload_n 0, 1) := by decide +kernel
theorem dX7_triesAt_82 : decode cX7_triesAt 82 = .ok (.iload 5, 2) := by decide +kernel
theorem dX7_triesAt_84 : decode cX7_triesAt 84 = .ok (.aload_n 0, 1) := by decide +kernel
theorem dX7_triesAt_85 : decode cX7_triesAt 85 = .ok (.getfield 281, 3) := by decide +kernel
theorem dX7_triesAt_88 : decode cX7_triesAt 88 = .ok (.invokevirtual 259, 3) := by decide +kernel
theorem dX7_triesAt_91 : decode cX7_triesAt 91 = .ok (.goto 19, 3) := by decide +kernel
theorem dX7_triesAt_94 : decode cX7_triesAt 94 = .ok (.aload_n 0, 1) := by decide +kernel
theorem dX7_triesAt_95 : decode cX7_triesAt 95 = .ok (.dup, 1) := by decide +kernel
theorem dX7_triesAt_96 : decode cX7_triesAt 96 = .ok (.getfield 310, 3) := by decide +kernel
theorem dX7_triesAt_99 : decode cX7_triesAt 99 = .ok (.aload_n 0, 1) := by decide +kernel
theorem dX7_triesAt_100 : decode cX7_triesAt 100 = .ok (.getfield 39, 3) := by decide +kernel
theorem dX7_triesAt_103 : decode cX7_triesAt 103 = .ok (.iload 5, 2) := by decide +kernel
theorem dX7_triesAt_105 : decode cX7_triesAt 105 = .ok (.iaload, 1) := by decide +kernel
theorem dX7_triesAt_106 : decode cX7_triesAt 106 = .ok (.iadd, 1) := by decide +kernel
theorem dX7_triesAt_107 : decode cX7_triesAt 107 = .ok (.putfield 310, 3) := by decide +kernel
theorem dX7_triesAt_110 : decode cX7_triesAt 110 = .ok (.iinc 4 1, 3) := by decide +kernel
theorem dX7_triesAt_113 : decode cX7_triesAt 113 = .ok (.goto (-72), 3) := by decide +kernel
theorem dX7_triesAt_116 : decode cX7_triesAt 116 = .ok (.aload_n 0, 1) := by decide +kernel
theorem dX7_triesAt_117 : decode cX7_triesAt 117 = .ok (.dup, 1) := by decide +kernel
theorem dX7_triesAt_118 : decode cX7_triesAt 118 = .ok (.getfield 222, 3) := by decide +kernel
theorem dX7_triesAt_121 : decode cX7_triesAt 121 = .ok (.iconst 1, 1) := by decide +kernel
theorem dX7_triesAt_122 : decode cX7_triesAt 122 = .ok (.iadd, 1) := by decide +kernel
theorem dX7_triesAt_123 : decode cX7_triesAt 123 = .ok (.putfield 222, 3) := by decide +kernel
theorem dX7_triesAt_126 : decode cX7_triesAt 126 = .ok (.aload_n 0, 1) := by decide +kernel
theorem dX7_triesAt_127 : decode cX7_triesAt 127 = .ok (.iload_n 3, 1) := by decide +kernel
theorem dX7_triesAt_128 : decode cX7_triesAt 128 = .ok (.iconst 5, 1) := by decide +kernel
theorem dX7_triesAt_129 : decode cX7_triesAt 129 = .ok (.if_icmp .ne 7, 3) := by decide +kernel
theorem dX7_triesAt_132 : decode cX7_triesAt 132 = .ok (.iconst 0, 1) := by decide +kernel
theorem dX7_triesAt_133 : decode cX7_triesAt 133 = .ok (.goto 9, 3) := by decide +kernel
theorem dX7_triesAt_136 : decode cX7_triesAt 136 = .ok (.aload_n 0, 1) := by decide +kernel
theorem dX7_triesAt_137 : decode cX7_triesAt 137 = .ok (.getfield 225, 3) := by decide +kernel
theorem dX7_triesAt_140 : decode cX7_triesAt 140 = .ok (.iconst 1, 1) := by decide +kernel
theorem dX7_triesAt_141 : decode cX7_triesAt 141 = .ok (.iadd, 1) := by decide +kernel
theorem dX7_triesAt_142 : decode cX7_triesAt 142 = .ok (.putfield 225, 3) := by decide +kernel
theorem dX7_triesAt_145 : decode cX7_triesAt 145 = .ok (.aload_n 0, 1) := by decide +kernel
theorem dX7_triesAt_146 : decode cX7_triesAt 146 = .ok (.dup, 1) := by decide +kernel
theorem dX7_triesAt_147 : decode cX7_triesAt 147 = .ok (.getfield 228, 3) := by decide +kernel
theorem dX7_triesAt_150 : decode cX7_triesAt 150 = .ok (.aload_n 0, 1) := by decide +kernel
theorem dX7_triesAt_151 : decode cX7_triesAt 151 = .ok (.getfield 64, 3) := by decide +kernel
theorem dX7_triesAt_154 : decode cX7_triesAt 154 = .ok (.iadd, 1) := by decide +kernel
theorem dX7_triesAt_155 : decode cX7_triesAt 155 = .ok (.putfield 228, 3) := by decide +kernel
theorem dX7_triesAt_158 : decode cX7_triesAt 158 = .ok (.aload_n 0, 1) := by decide +kernel
theorem dX7_triesAt_159 : decode cX7_triesAt 159 = .ok (.dup, 1) := by decide +kernel
theorem dX7_triesAt_160 : decode cX7_triesAt 160 = .ok (.getfield 231, 3) := by decide +kernel
theorem dX7_triesAt_163 : decode cX7_triesAt 163 = .ok (.aload_n 0, 1) := by decide +kernel
theorem dX7_triesAt_164 : decode cX7_triesAt 164 = .ok (.getfield 310, 3) := by decide +kernel
theorem dX7_triesAt_167 : decode cX7_triesAt 167 = .ok (.iadd, 1) := by decide +kernel
theorem dX7_triesAt_168 : decode cX7_triesAt 168 = .ok (.putfield 231, 3) := by decide +kernel
theorem dX7_triesAt_171 : decode cX7_triesAt 171 = .ok (.return_, 1) := by decide +kernel
theorem dX7_canNow_0 : decode cX7_canNow 0 = .ok (.aload_n 0, 1) := by decide +kernel
theorem dX7_canNow_1 : decode cX7_canNow 1 = .ok (.iconst 1, 1) := by decide +kernel
theorem dX7_canNow_2 : decode cX7_canNow 2 = .ok (.invokevirtual 247, 3) := by decide +kernel
theorem dX7_canNow_5 : decode cX7_canNow 5 = .ok (.aload_n 0, 1) := by decide +kernel
theorem dX7_canNow_6 : decode cX7_canNow 6 = .ok (.aload_n 0, 1) := by decide +kernel
theorem dX7_canNow_7 : decode cX7_canNow 7 = .ok (.getfield 27, 3) := by decide +kernel
theorem dX7_canNow_10 : decode cX7_canNow 10 = .ok (.invokevirtual 250, 3) := by decide +kernel
theorem dX7_canNow_13 : decode cX7_canNow 13 = .ok (.istore_n 2, 1) := by decide +kernel
theorem dX7_canNow_14 : decode cX7_canNow 14 = .ok (.bipush 36, 2) := by decide +kernel
theorem dX7_canNow_16 : decode cX7_canNow 16 = .ok (.newarray .int, 2) := by decide +kernel
theorem dX7_canNow_18 : decode cX7_canNow 18 = .ok (.astore_n 3, 1) := by decide +kernel
theorem dX7_canNow_19 : decode cX7_canNow 19 = .ok (.bipush 36, 2) := by decide +kernel
theorem dX7_canNow_21 : decode cX7_canNow 21 = .ok (.newarray .int, 2) := by decide +kernel
theorem dX7_canNow_23 : decode cX7_canNow 23 = .ok (.astore 4, 2) := by decide +kernel
theorem dX7_canNow_25 : decode cX7_canNow 25 = .ok (.iconst 0, 1) := by decide +kernel
theorem dX7_canNow_26 : decode cX7_canNow 26 = .ok (.istore 5, 2) := by decide +kernel
theorem dX7_canNow_28 : decode cX7_canNow 28 = .ok (.iload 5, 2) := by decide +kernel
theorem dX7_canNow_30 : decode cX7_canNow 30 = .ok (.iload_n 2, 1) := by decide +kernel
theorem dX7_canNow_31 : decode cX7_canNow 31 = .ok (.if_icmp .ge 36, 3) := by decide +kernel
theorem dX7_canNow_34 : decode cX7_canNow 34 = .ok (.aload_n 0, 1) := by decide +kernel
theorem dX7_canNow_35 : decode cX7_canNow 35 = .ok (.aload_n 0, 1) := by decide +kernel
theorem dX7_canNow_36 : decode cX7_canNow 36 = .ok (.getfield 27, 3) := by decide +kernel
theorem dX7_canNow_39 : decode cX7_canNow 39 = .ok (.iload 5, 2) := by decide +kernel
theorem dX7_canNow_41 : decode cX7_canNow 41 = .ok (.invokevirtual 244, 3) := by decide +kernel
theorem dX7_canNow_44 : decode cX7_canNow 44 = .ok (.aload_n 3, 1) := by decide +kernel
theorem dX7_canNow_45 : decode cX7_canNow 45 = .ok (.iload 5, 2) := by decide +kernel
theorem dX7_canNow_47 : decode cX7_canNow 47 = .ok (.aload_n 0, 1) := by decide +kernel
theorem dX7_canNow_48 : decode cX7_canNow 48 = .ok (.getfield 194, 3) := by decide +kernel
theorem dX7_canNow_51 : decode cX7_canNow 51 = .ok (.iastore, 1) := by decide +kernel
theorem dX7_canNow_52 : decode cX7_canNow 52 = .ok (.aload 4, 2) := by decide +kernel
theorem dX7_canNow_54 : decode cX7_canNow 54 = .ok (.iload 5, 2) := by decide +kernel
theorem dX7_canNow_56 : decode cX7_canNow 56 = .ok (.aload_n 0, 1) := by decide +kernel
theorem dX7_canNow_57 : decode cX7_canNow 57 = .ok (.getfield 197, 3) := by decide +kernel
theorem dX7_canNow_60 : decode cX7_canNow 60 = .ok (.iastore, 1) := by decide +kernel
theorem dX7_canNow_61 : decode cX7_canNow 61 = .ok (.iinc 5 1, 3) := by decide +kernel
theorem dX7_canNow_64 : decode cX7_canNow 64 = .ok (.goto (-36), 3) := by decide +kernel
theorem dX7_canNow_67 : decode cX7_canNow 67 = .ok (.iconst 0, 1) := by decide +kernel
theorem dX7_canNow_68 : decode cX7_canNow 68 = .ok (.istore 5, 2) := by decide +kernel
theorem dX7_canNow_70 : decode cX7_canNow 70 = .ok (.iload 5, 2) := by decide +kernel
theorem dX7_canNow_72 : decode cX7_canNow 72 = .ok (.bipush 64, 2) := by decide +kernel
theorem dX7_canNow_74 : decode cX7_canNow 74 = .ok (.if_icmp .ge 77, 3) := by decide +kernel
theorem dX7_canNow_77 : decode cX7_canNow 77 = .ok (.iconst 0, 1) := by decide +kernel
theorem dX7_canNow_78 : decode cX7_canNow 78 = .ok (.istore 6, 2) := by decide +kernel
theorem dX7_canNow_80 : decode cX7_canNow 80 = .ok (.iconst 0, 1) := by decide +kernel
theorem dX7_canNow_81 : decode cX7_canNow 81 = .ok (.istore 7, 2) := by decide +kernel
theorem dX7_canNow_83 : decode cX7_canNow 83 = .ok (.iload 7, 2) := by decide +kernel
theorem dX7_canNow_85 : decode cX7_canNow 85 = .ok (.iload_n 2, 1) := by decide +kernel
theorem dX7_canNow_86 : decode cX7_canNow 86 = .ok (.if_icmp .ge 38, 3) := by decide +kernel
theorem dX7_canNow_89 : decode cX7_canNow 89 = .ok (.iload 6, 2) := by decide +kernel
theorem dX7_canNow_91 : decode cX7_canNow 91 = .ok (.aload_n 0, 1) := by decide +kernel
theorem dX7_canNow_92 : decode cX7_canNow 92 = .ok (.iload 5, 2) := by decide +kernel
theorem dX7_canNow_94 : decode cX7_canNow 94 = .ok (.aload_n 3, 1) := by decide +kernel
theorem dX7_canNow_95 : decode cX7_canNow 95 = .ok (.iload 7, 2) := by decide +kernel
theorem dX7_canNow_97 : decode cX7_canNow 97 = .ok (.iaload, 1) := by decide +kernel
theorem dX7_canNow_98 : decode cX7_canNow 98 = .ok (.aload 4, 2) := by decide +kernel
theorem dX7_canNow_100 : decode cX7_canNow 100 = .ok (.iload 7, 2) := by decide +kernel
theorem dX7_canNow_102 : decode cX7_canNow 102 = .ok (.iaload, 1) := by decide +kernel
theorem dX7_canNow_103 : decode cX7_canNow 103 = .ok (.invokevirtual 307, 3) := by decide +kernel
theorem dX7_canNow_106 : decode cX7_canNow 106 = .ok (.iconst 5, 1) := by decide +kernel
theorem dX7_canNow_107 : decode cX7_canNow 107 = .ok (.if_icmp .ne 7, 3) := by decide +kernel
theorem dX7_canNow_110 : decode cX7_canNow 110 = .ok (.iconst 1, 1) := by decide +kernel
theorem dX7_canNow_111 : decode cX7_canNow 111 = .ok (.goto 4, 3) := by decide +kernel
theorem dX7_canNow_114 : decode cX7_canNow 114 = .ok (.iconst 0, 1) := by decide +kernel
theorem dX7_canNow_115 : decode cX7_canNow 115 = .ok (.iadd, 1) := by decide +kernel
theorem dX7_canNow_116 : decode cX7_canNow 116 = .ok (.istore 6, 2) := by decide +kernel
theorem dX7_canNow_118 : decode cX7_canNow 118 = .ok (.iinc 7 1, 3) := by decide +kernel
theorem dX7_canNow_121 : decode cX7_canNow 121 = .ok (.goto (-38), 3) := by decide +kernel
theorem dX7_canNow_124 : decode cX7_canNow 124 = .ok (.iload_n 1, 1) := by decide +kernel
theorem dX7_canNow_125 : decode cX7_canNow 125 = .ok (.ifCond .eq 12, 3) := by decide +kernel
theorem dX7_canNow_128 : decode cX7_canNow 128 = .ok (.iload 6, 2) := by decide +kernel
theorem dX7_canNow_130 : decode cX7_canNow 130 = .ok (.iload_n 2, 1) := by decide +kernel
theorem dX7_canNow_131 : decode cX7_canNow 131 = .ok (.if_icmp .ne 14, 3) := by decide +kernel
theorem dX7_canNow_134 : decode cX7_canNow 134 = .ok (.goto 8, 3) := by decide +kernel
theorem dX7_canNow_137 : decode cX7_canNow 137 = .ok (.iload 6, 2) := by decide +kernel
theorem dX7_canNow_139 : decode cX7_canNow 139 = .ok (.ifCond .le 6, 3) := by decide +kernel
theorem dX7_canNow_142 : decode cX7_canNow 142 = .ok (.iload 5, 2) := by decide +kernel
theorem dX7_canNow_144 : decode cX7_canNow 144 = .ok (.ireturn, 1) := by decide +kernel
theorem dX7_canNow_145 : decode cX7_canNow 145 = .ok (.iinc 5 1, 3) := by decide +kernel
theorem dX7_canNow_148 : decode cX7_canNow 148 = .ok (.goto (-78), 3) := by decide +kernel
theorem dX7_canNow_151 : decode cX7_canNow 151 = .ok (.iconst (-1), 1) := by decide +kernel
theorem dX7_canNow_152 : decode cX7_canNow 152 = .ok (.ireturn, 1) := by decide +kernel
theorem dX7_can_0 : decode cX7_can 0 = .ok (.aload_n 0, 1) := by decide +kernel
theorem dX7_can_1 : decode cX7_can 1 = .ok (.iconst 0, 1) := by decide +kernel
theorem dX7_can_2 : decode cX7_can 2 = .ok (.putfield 97, 3) := by decide +kernel
theorem dX7_can_5 : decode cX7_can 5 = .ok (.aload_n 0, 1) := by decide +kernel
theorem dX7_can_6 : decode cX7_can 6 = .ok (.iload_n 1, 1) := by decide +kernel
theorem dX7_can_7 : decode cX7_can 7 = .ok (.invokevirtual 316, 3) := by decide +kernel
theorem dX7_can_10 : decode cX7_can 10 = .ok (.ireturn, 1) := by decide +kernel
theorem dX7_attemptAt_0 : decode cX7_attemptAt 0 = .ok (.aload_n 0, 1) := by decide +kernel
theorem dX7_attemptAt_1 : decode cX7_attemptAt 1 = .ok (.getfield 73, 3) := by decide +kernel
theorem dX7_attemptAt_4 : decode cX7_attemptAt 4 = .ok (.aload_n 0, 1) := by decide +kernel
theorem dX7_attemptAt_5 : decode cX7_attemptAt 5 = .ok (.getfield 313, 3) := by decide +kernel
theorem dX7_attemptAt_8 : decode cX7_attemptAt 8 = .ok (.aaload, 1) := by decide +kernel
theorem dX7_attemptAt_9 : decode cX7_attemptAt 9 = .ok (.astore_n 2, 1) := by decide +kernel
theorem dX7_attemptAt_10 : decode cX7_attemptAt 10 = .ok (.aload_n 2, 1) := by decide +kernel
theorem dX7_attemptAt_11 : decode cX7_attemptAt 11 = .ok (.bipush 9, 2) := by decide +kernel
theorem dX7_attemptAt_13 : decode cX7_attemptAt 13 = .ok (.aload_n 0, 1) := by decide +kernel
theorem dX7_attemptAt_14 : decode cX7_attemptAt 14 = .ok (.iconst 0, 1) := by decide +kernel
theorem dX7_attemptAt_15 : decode cX7_attemptAt 15 = .ok (.invokevirtual 316, 3) := by decide +kernel
theorem dX7_attemptAt_18 : decode cX7_attemptAt 18 = .ok (.iconst (-1), 1) := by decide +kernel
theorem dX7_attemptAt_19 : decode cX7_attemptAt 19 = .ok (.if_icmp .ne 7, 3) := by decide +kernel
theorem dX7_attemptAt_22 : decode cX7_attemptAt 22 = .ok (.iconst 0, 1) := by decide +kernel
theorem dX7_attemptAt_23 : decode cX7_attemptAt 23 = .ok (.goto 4, 3) := by decide +kernel
theorem dX7_attemptAt_26 : decode cX7_attemptAt 26 = .ok (.iconst 1, 1) := by decide +kernel
theorem dX7_attemptAt_27 : decode cX7_attemptAt 27 = .ok (.iastore, 1) := by decide +kernel
theorem dX7_attemptAt_28 : decode cX7_attemptAt 28 = .ok (.aload_n 0, 1) := by decide +kernel
theorem dX7_attemptAt_29 : decode cX7_attemptAt 29 = .ok (.iconst 1, 1) := by decide +kernel
theorem dX7_attemptAt_30 : decode cX7_attemptAt 30 = .ok (.invokevirtual 247, 3) := by decide +kernel
theorem dX7_attemptAt_33 : decode cX7_attemptAt 33 = .ok (.iconst 0, 1) := by decide +kernel
theorem dX7_attemptAt_34 : decode cX7_attemptAt 34 = .ok (.istore_n 3, 1) := by decide +kernel
theorem dX7_attemptAt_35 : decode cX7_attemptAt 35 = .ok (.iload_n 3, 1) := by decide +kernel
theorem dX7_attemptAt_36 : decode cX7_attemptAt 36 = .ok (.iconst 5, 1) := by decide +kernel
theorem dX7_attemptAt_37 : decode cX7_attemptAt 37 = .ok (.if_icmp .ge 20, 3) := by decide +kernel
theorem dX7_attemptAt_40 : decode cX7_attemptAt 40 = .ok (.aload_n 2, 1) := by decide +kernel
theorem dX7_attemptAt_41 : decode cX7_attemptAt 41 = .ok (.iconst 4, 1) := by decide +kernel
theorem dX7_attemptAt_42 : decode cX7_attemptAt 42 = .ok (.iload_n 3, 1) := by decide +kernel
theorem dX7_attemptAt_43 : decode cX7_attemptAt 43 = .ok (.iadd, 1) := by decide +kernel
theorem dX7_attemptAt_44 : decode cX7_attemptAt 44 = .ok (.aload_n 0, 1) := by decide +kernel
theorem dX7_attemptAt_45 : decode cX7_attemptAt 45 = .ok (.getfield 30, 3) := by decide +kernel
theorem dX7_attemptAt_48 : decode cX7_attemptAt 48 = .ok (.iload_n 3, 1) := by decide +kernel
theorem dX7_attemptAt_49 : decode cX7_attemptAt 49 = .ok (.iaload, 1) := by decide +kernel
theorem dX7_attemptAt_50 : decode cX7_attemptAt 50 = .ok (.iastore, 1) := by decide +kernel
theorem dX7_attemptAt_51 : decode cX7_attemptAt 51 = .ok (.iinc 3 1, 3) := by decide +kernel
theorem dX7_attemptAt_54 : decode cX7_attemptAt 54 = .ok (.goto (-19), 3) := by decide +kernel
theorem dX7_attemptAt_57 : decode cX7_attemptAt 57 = .ok (.aload_n 0, 1) := by decide +kernel
theorem dX7_attemptAt_58 : decode cX7_attemptAt 58 = .ok (.aload_n 0, 1) := by decide +kernel
theorem dX7_attemptAt_59 : decode cX7_attemptAt 59 = .ok (.getfield 27, 3) := by decide +kernel
theorem dX7_attemptAt_62 : decode cX7_attemptAt 62 = .ok (.invokevirtual 250, 3) := by decide +kernel
theorem dX7_attemptAt_65 : decode cX7_attemptAt 65 = .ok (.istore_n 3, 1) := by decide +kernel
theorem dX7_attemptAt_66 : decode cX7_attemptAt 66 = .ok (.iload_n 3, 1) := by decide +kernel
theorem dX7_attemptAt_67 : decode cX7_attemptAt 67 = .ok (.iconst 1, 1) := by decide +kernel
theorem dX7_attemptAt_68 : decode cX7_attemptAt 68 = .ok (.if_icmp .le 11, 3) := by decide +kernel
theorem dX7_attemptAt_71 : decode cX7_attemptAt 71 = .ok (.aload_n 0, 1) := by decide +kernel
theorem dX7_attemptAt_72 : decode cX7_attemptAt 72 = .ok (.iload_n 3, 1) := by decide +kernel
theorem dX7_attemptAt_73 : decode cX7_attemptAt 73 = .ok (.invokevirtual 320, 3) := by decide +kernel
theorem dX7_attemptAt_76 : decode cX7_attemptAt 76 = .ok (.goto 4, 3) := by decide +kernel
theorem dX7_attemptAt_79 : decode cX7_attemptAt 79 = .ok (.iconst 0, 1) := by decide +kernel
theorem dX7_attemptAt_80 : decode cX7_attemptAt 80 = .ok (.istore 4, 2) := by decide +kernel
theorem dX7_attemptAt_82 : decode cX7_attemptAt 82 = .ok (.aload_n 0, 1) := by decide +kernel
theorem dX7_attemptAt_83 : decode cX7_attemptAt 83 = .ok (.getfield 58, 3) := by decide +kernel
theorem dX7_attemptAt_86 : decode cX7_attemptAt 86 = .ok (.istore 5, 2) := by decide +kernel
theorem dX7_attemptAt_88 : decode cX7_attemptAt 88 = .ok (.aload_n 0, 1) := by decide +kernel
theorem dX7_attemptAt_89 : decode cX7_attemptAt 89 = .ok (.iload_n 1, 1) := by decide +kernel
theorem dX7_attemptAt_90 : decode cX7_attemptAt 90 = .ok (.invokevirtual 300, 3) := by decide +kernel
theorem dX7_attemptAt_93 : decode cX7_attemptAt 93 = .ok (.aload_n 2, 1) := by decide +kernel
theorem dX7_attemptAt_94 : decode cX7_attemptAt 94 = .ok (.bipush 10, 2) := by decide +kernel
theorem dX7_attemptAt_96 : decode cX7_attemptAt 96 = .ok (.aload_n 0, 1) := by decide +kernel
theorem dX7_attemptAt_97 : decode cX7_attemptAt 97 = .ok (.getfield 275, 3) := by decide +kernel
theorem dX7_attemptAt_100 : decode cX7_attemptAt 100 = .ok (.iastore, 1) := by decide +kernel
theorem dX7_attemptAt_101 : decode cX7_attemptAt 101 = .ok (.aload_n 2, 1) := by decide +kernel
theorem dX7_attemptAt_102 : decode cX7_attemptAt 102 = .ok (.bipush 11, 2) := by decide +kernel
theorem dX7_attemptAt_104 : decode cX7_attemptAt 104 = .ok (.aload_n 0, 1) := by decide +kernel
theorem dX7_attemptAt_105 : decode cX7_attemptAt 105 = .ok (.getfield 278, 3) := by decide +kernel
theorem dX7_attemptAt_108 : decode cX7_attemptAt 108 = .ok (.iastore, 1) := by decide +kernel
theorem dX7_attemptAt_109 : decode cX7_attemptAt 109 = .ok (.aload_n 2, 1) := by decide +kernel
theorem dX7_attemptAt_110 : decode cX7_attemptAt 110 = .ok (.bipush 12, 2) := by decide +kernel
theorem dX7_attemptAt_112 : decode cX7_attemptAt 112 = .ok (.iload 5, 2) := by decide +kernel
theorem dX7_attemptAt_114 : decode cX7_attemptAt 114 = .ok (.iastore, 1) := by decide +kernel
theorem dX7_attemptAt_115 : decode cX7_attemptAt 115 = .ok (.aload_n 0, 1) := by decide +kernel
theorem dX7_attemptAt_116 : decode cX7_attemptAt 116 = .ok (.iload_n 1, 1) := by decide +kernel
theorem dX7_attemptAt_117 : decode cX7_attemptAt 117 = .ok (.iload 4, 2) := by decide +kernel
theorem dX7_attemptAt_119 : decode cX7_attemptAt 119 = .ok (.invokevirtual 323, 3) := by decide +kernel
theorem dX7_attemptAt_122 : decode cX7_attemptAt 122 = .ok (.aload_n 2, 1) := by decide +kernel
theorem dX7_attemptAt_123 : decode cX7_attemptAt 123 = .ok (.iconst 0, 1) := by decide +kernel
theorem dX7_attemptAt_124 : decode cX7_attemptAt 124 = .ok (.iload_n 1, 1) := by decide +kernel
theorem dX7_attemptAt_125 : decode cX7_attemptAt 125 = .ok (.iastore, 1) := by decide +kernel
theorem dX7_attemptAt_126 : decode cX7_attemptAt 126 = .ok (.aload_n 2, 1) := by decide +kernel
theorem dX7_attemptAt_127 : decode cX7_attemptAt 127 = .ok (.iconst 1, 1) := by decide +kernel
theorem dX7_attemptAt_128 : decode cX7_attemptAt 128 = .ok (.aload_n 0, 1) := by decide +kernel
theorem dX7_attemptAt_129 : decode cX7_attemptAt 129 = .ok (.getfield 284, 3) := by decide +kernel
theorem dX7_attemptAt_132 : decode cX7_attemptAt 132 = .ok (.iastore, 1) := by decide +kernel
theorem dX7_attemptAt_133 : decode cX7_attemptAt 133 = .ok (.aload_n 2, 1) := by decide +kernel
theorem dX7_attemptAt_134 : decode cX7_attemptAt 134 = .ok (.iconst 2, 1) := by decide +kernel
theorem dX7_attemptAt_135 : decode cX7_attemptAt 135 = .ok (.aload_n 0, 1) := by decide +kernel
theorem dX7_attemptAt_136 : decode cX7_attemptAt 136 = .ok (.getfield 284, 3) := by decide +kernel
theorem dX7_attemptAt_139 : decode cX7_attemptAt 139 = .ok (.iconst 3, 1) := by decide +kernel
theorem dX7_attemptAt_140 : decode cX7_attemptAt 140 = .ok (.if_icmp .ne 10, 3) := by decide +kernel
theorem dX7_attemptAt_143 : decode cX7_attemptAt 143 = .ok (.aload_n 0, 1) := by decide +kernel
theorem dX7_attemptAt_144 : decode cX7_attemptAt 144 = .ok (.getfield 281, 3) := by decide +kernel
theorem dX7_attemptAt_147 : decode cX7_attemptAt 147 = .ok (.goto 4, 3) := by decide +kernel
theorem dX7_attemptAt_150 : decode cX7_attemptAt 150 = .ok (.iconst (-1), 1) := by decide +kernel
theorem dX7_attemptAt_151 : decode cX7_attemptAt 151 = .ok (.iastore, 1) := by decide +kernel
theorem dX7_attemptAt_152 : decode cX7_attemptAt 152 = .ok (.aload_n 2, 1) := by decide +kernel
theorem dX7_attemptAt_153 : decode cX7_attemptAt 153 = .ok (.iconst 3, 1) := by decide +kernel
theorem dX7_attemptAt_154 : decode cX7_attemptAt 154 = .ok (.iload 4, 2) := by decide +kernel
theorem dX7_attemptAt_156 : decode cX7_attemptAt 156 = .ok (.iastore, 1) := by decide +kernel
theorem dX7_attemptAt_157 : decode cX7_attemptAt 157 = .ok (.aload_n 0, 1) := by decide +kernel
theorem dX7_attemptAt_158 : decode cX7_attemptAt 158 = .ok (.dup, 1) := by decide +kernel
theorem dX7_attemptAt_159 : decode cX7_attemptAt 159 = .ok (.getfield 313, 3) := by decide +kernel
theorem dX7_attemptAt_162 : decode cX7_attemptAt 162 = .ok (.iconst 1, 1) := by decide +kernel
theorem dX7_attemptAt_163 : decode cX7_attemptAt 163 = .ok (.iadd, 1) := by decide +kernel
theorem dX7_attemptAt_164 : decode cX7_attemptAt 164 = .ok (.putfield 313, 3) := by decide +kernel
theorem dX7_attemptAt_167 : decode cX7_attemptAt 167 = .ok (.aload_n 0, 1) := by decide +kernel
theorem dX7_attemptAt_168 : decode cX7_attemptAt 168 = .ok (.getfield 284, 3) := by decide +kernel
theorem dX7_attemptAt_171 : decode cX7_attemptAt 171 = .ok (.ireturn, 1) := by decide +kernel
theorem dX7_attempt_0 : decode cX7_attempt 0 = .ok (.aload_n 0, 1) := by decide +kernel
theorem dX7_attempt_1 : decode cX7_attempt 1 = .ok (.iconst 0, 1) := by decide +kernel
theorem dX7_attempt_2 : decode cX7_attempt 2 = .ok (.putfield 97, 3) := by decide +kernel
theorem dX7_attempt_5 : decode cX7_attempt 5 = .ok (.aload_n 0, 1) := by decide +kernel
theorem dX7_attempt_6 : decode cX7_attempt 6 = .ok (.iload_n 1, 1) := by decide +kernel
theorem dX7_attempt_7 : decode cX7_attempt 7 = .ok (.invokestatic 253, 3) := by decide +kernel
theorem dX7_attempt_10 : decode cX7_attempt 10 = .ok (.ifCond .ne 7, 3) := by decide +kernel
theorem dX7_attempt_13 : decode cX7_attempt 13 = .ok (.iconst 1, 1) := by decide +kernel
theorem dX7_attempt_14 : decode cX7_attempt 14 = .ok (.goto 4, 3) := by decide +kernel
theorem dX7_attempt_17 : decode cX7_attempt 17 = .ok (.iconst 0, 1) := by decide +kernel
theorem dX7_attempt_18 : decode cX7_attempt 18 = .ok (.iconst 1, 1) := by decide +kernel
theorem dX7_attempt_19 : decode cX7_attempt 19 = .ok (.invokevirtual 206, 3) := by decide +kernel
theorem dX7_attempt_22 : decode cX7_attempt 22 = .ok (.ifCond .eq 5, 3) := by decide +kernel
theorem dX7_attempt_25 : decode cX7_attempt 25 = .ok (.iconst 0, 1) := by decide +kernel
theorem dX7_attempt_26 : decode cX7_attempt 26 = .ok (.ireturn, 1) := by decide +kernel
theorem dX7_attempt_27 : decode cX7_attempt 27 = .ok (.aload_n 0, 1) := by decide +kernel
theorem dX7_attempt_28 : decode cX7_attempt 28 = .ok (.getfield 313, 3) := by decide +kernel
theorem dX7_attempt_31 : decode cX7_attempt 31 = .ok (.sipush 200, 3) := by decide +kernel
theorem dX7_attempt_34 : decode cX7_attempt 34 = .ok (.if_icmp .ne 7, 3) := by decide +kernel
theorem dX7_attempt_37 : decode cX7_attempt 37 = .ok (.iconst (-1), 1) := by decide +kernel
theorem dX7_attempt_38 : decode cX7_attempt 38 = .ok (.goto 8, 3) := by decide +kernel
theorem dX7_attempt_41 : decode cX7_attempt 41 = .ok (.aload_n 0, 1) := by decide +kernel
theorem dX7_attempt_42 : decode cX7_attempt 42 = .ok (.iload_n 1, 1) := by decide +kernel
theorem dX7_attempt_43 : decode cX7_attempt 43 = .ok (.invokevirtual 326, 3) := by decide +kernel
theorem dX7_attempt_46 : decode cX7_attempt 46 = .ok (.ireturn, 1) := by decide +kernel
set_option maxHeartbeats 4000000 in
set_option maxRecDepth 100000 in
theorem c_X7_grips (l : Launch) (D : va_G) (K : Nat → ClassId) (b0 : Nat) (sa : Nat × Nat × Nat) (sz : Nat) (L : List Nat) (f0 : Nat → va_E) (Ψ : Nat → Nat) (hT : TW K (gof gM1) Ψ L f0) (m_ : Nat) (hm_m_ : m_ ∈ L) (ht_m_ : Ψ m_ = 7) (ce : Int32) (hl_ce : 0 ≤ ce.toInt) (hh_ce : ce.toInt ≤ 63) : Met l yX7_grips (.code yX7_grips cX7_grips 6 none :: gt) { frames := 1, cells := 0, slots := 0, locals := 21 } (va_Pc [.ref m_, .int ce] (hPre D K b0 sa sz L f0)) (hQ D K b0 (fun v9 u9 => ∃ f2 : Nat → va_E, v9 = none ∧ u9 = ((gof gM1), Ψ, L, f2) ∧ TW K (gof gM1) Ψ L f2 ∧ rawk Ψ L f0 f2)) 0 0 (fun q => b0 ≤ q) := by
  refine t_of (own := RX7) (by decide) rfl ?_ (Nat.le_of_ble_eq_true rfl)
  intro p e s m below meth c ls C w hsz hr hlk hnm hl
  have hx := C.1
  have hb := C.2.1
  have hl : lv_has ls 6 [(0, .ref m_), (1, .int ce)] := hl
  have hb_ce := ti_bd ce
  have hR : rawk Ψ L f0 f0 := rawk.rf
  refine lv_aload_n hx hb dX7_grips_0 rfl (lv_at hl 0 rfl) ?_
  refine lv_iconst (v := 0) hx hb dX7_grips_1 (by decide) ?_
  refine t_puti C w hT hm_m_ ht_m_ (by decide) rfl cin_7 tyX7 tyX7_ok nmX7 40 (by decide) rfl rfl rfl rfl rfl (gof_is rfl) gw_1196 dX7_grips_2 (fun f H locs w hT hR1 => ?_)
  have hR := hR.tr hR1
  refine lv_aload_n hx hb dX7_grips_5 rfl (lv_at hl 0 rfl) ?_
  refine lv_iconst (v := 0) hx hb dX7_grips_6 (by decide) ?_
  refine t_puti C w hT hm_m_ ht_m_ (by decide) rfl cin_7 tyX7 tyX7_ok nmX7 44 (by decide) rfl rfl rfl rfl rfl (gof_no rfl) gw_1200 dX7_grips_7 (fun f H locs w hT hR1 => ?_)
  have hR := hR.tr hR1
  refine lv_aload_n hx hb dX7_grips_10 rfl (lv_at hl 0 rfl) ?_
  refine lv_iconst (v := 0) hx hb dX7_grips_11 (by decide) ?_
  refine t_puti C w hT hm_m_ ht_m_ (by decide) rfl cin_7 tyX7 tyX7_ok nmX7 45 (by decide) rfl rfl rfl rfl rfl (gof_no rfl) gw_1201 dX7_grips_12 (fun f H locs w hT hR1 => ?_)
  have hR := hR.tr hR1
  refine lv_aload_n hx hb dX7_grips_15 rfl (lv_at hl 0 rfl) ?_
  refine lv_iconst (v := (-1)) hx hb dX7_grips_16 (by decide) ?_
  refine t_puti C w hT hm_m_ ht_m_ (by decide) rfl cin_7 tyX7 tyX7_ok nmX7 42 (by decide) rfl rfl rfl rfl rfl (gof_no rfl) gw_1198 dX7_grips_17 (fun f H locs w hT hR1 => ?_)
  have hR := hR.tr hR1
  refine lv_aload_n hx hb dX7_grips_20 rfl (lv_at hl 0 rfl) ?_
  refine lv_iconst (v := 0) hx hb dX7_grips_21 (by decide) ?_
  refine t_puti C w hT hm_m_ ht_m_ (by decide) rfl cin_7 tyX7 tyX7_ok nmX7 41 (by decide) rfl rfl rfl rfl rfl (gof_is rfl) gw_1197 dX7_grips_22 (fun f H locs w hT hR1 => ?_)
  have hR := hR.tr hR1
  refine lv_aload_n hx hb dX7_grips_25 rfl (lv_at hl 0 rfl) ?_
  refine lv_iload_n hx hb dX7_grips_26 rfl (lv_at hl 1 rfl) ?_
  refine t_callV (n := 1) C w hT hm_m_ ht_m_ (by decide) rfl rfl (c_X7_topOf l D K b0 sa _ L _ Ψ hT m_ hm_m_ ht_m_ ce (by omega) (by omega)) gw_1499 gw_1496 gw_1498 gs_49 gw_8 ⟨by decide, by decide, by decide +kernel⟩ rfl rfl ⟨by decide, by decide⟩ rfl hl.1 rfl (Nat.le_of_ble_eq_true rfl) dX7_grips_27 ⟨by decide, by decide⟩ (fun v u H locs hp w => ?_)
  obtain ⟨r1, rfl, rfl, hrr1⟩ := hp
  obtain rfl := hrr1
  refine lv_istore_n (lv' := [(2, .int (-1)), (0, .ref m_), (1, .int ce)]) hx hb dX7_grips_30 rfl hl (by decide) rfl (fun ls hl => ?_)
  refine lv_iload_n hx hb dX7_grips_31 rfl (lv_at hl 2 rfl) ?_
  refine lv_aload_n hx hb dX7_grips_32 rfl (lv_at hl 1 rfl) ?_
  refine t_geti C w hT hm_m_ ht_m_ (by decide) rfl cin_7 30 (by decide) rfl rfl gw_1186 dX7_grips_33 (fun x2 hg => ?_)
  obtain rfl : x2 = 63 := gof_at rfl hg
  have n63 : (63 : Int32).toInt = 63 := by decide
  refine lv_icmp_eq (tgt := 60) hx hb dX7_grips_36 (by decide) (fun c3 => ?_) (fun c3 => ?_)
  · have c3 := eq_toInt c3
    exact t_vret C hr hlk w ⟨_, rfl, rfl, hT, hR⟩ (by decide) (by decide) dX7_grips_60
  · have c3 := ne_toInt c3
    refine lv_iload_n hx hb dX7_grips_39 rfl (lv_at hl 0 rfl) ?_
    refine lv_iconst (v := (-1)) hx hb dX7_grips_40 (by decide) ?_
    refine lv_icmp_eq (tgt := 60) hx hb dX7_grips_41 (by decide) (fun _ => ?_) (fun c0 => absurd c0 (by decide))
    exact t_vret C hr hlk w ⟨_, rfl, rfl, hT, hR⟩ (by decide) (by decide) dX7_grips_60
set_option maxHeartbeats 4000000 in
set_option maxRecDepth 100000 in
theorem c_X7_wouldBe (l : Launch) (D : va_G) (K : Nat → ClassId) (b0 : Nat) (sa : Nat × Nat × Nat) (sz : Nat) (L : List Nat) (f0 : Nat → va_E) (Ψ : Nat → Nat) (hT : TW K (gof gM1) Ψ L f0) (m_ : Nat) (hm_m_ : m_ ∈ L) (ht_m_ : Ψ m_ = 7) (ce : Int32) (hl_ce : 0 ≤ ce.toInt) (hh_ce : ce.toInt ≤ 63) (g_ : Int32) (sl : Int32) : Met l yX7_wouldBe (.code yX7_wouldBe cX7_wouldBe 4 (some .int) :: gt) { frames := 2, cells := 0, slots := 0, locals := 46 } (va_Pc [.ref m_, .int ce, .int g_, .int sl] (hPre D K b0 sa sz L f0)) (hQ D K b0 (fun v9 u9 => ∃ (r : Int32) (f2 : Nat → va_E), v9 = some (.int r) ∧ u9 = ((gof gM1), Ψ, L, f2) ∧ TW K (gof gM1) Ψ L f2 ∧ rawk Ψ L f0 f2 ∧ (r = 0))) 0 0 (fun q => b0 ≤ q) := by
  refine t_of (own := RX7) (by decide) rfl ?_ (Nat.le_of_ble_eq_true rfl)
  intro p e s m below meth c ls C w hsz hr hlk hnm hl
  have hx := C.1
  have hb := C.2.1
  have hl : lv_has ls 4 [(0, .ref m_), (1, .int ce), (2, .int g_), (3, .int sl)] := hl
  have hb_ce := ti_bd ce
  have hb_g_ := ti_bd g_
  have hb_sl := ti_bd sl
  have hR : rawk Ψ L f0 f0 := rawk.rf
  refine lv_aload_n hx hb dX7_wouldBe_0 rfl (lv_at hl 0 rfl) ?_
  refine lv_iload_n hx hb dX7_wouldBe_1 rfl (lv_at hl 1 rfl) ?_
  refine t_callV (n := 1) C w hT hm_m_ ht_m_ (by decide) rfl rfl (c_X7_grips l D K b0 sa _ L _ Ψ hT m_ hm_m_ ht_m_ ce (by omega) (by omega)) gw_1531 gw_1528 gw_1530 gs_53 gw_8 ⟨by decide, by decide, by decide +kernel⟩ rfl rfl ⟨by decide, by decide⟩ rfl hl.1 rfl (Nat.le_of_ble_eq_true rfl) dX7_wouldBe_2 ⟨by decide, by decide⟩ (fun v u H locs hp w => ?_)
  obtain ⟨f2, rfl, rfl, hT2, hR1⟩ := hp
  have hR := hR.tr hR1
  clear hT
  have hT := hT2
  clear hT2
  generalize f2 = f at w hT hR
  refine lv_aload_n hx hb dX7_wouldBe_5 rfl (lv_at hl 0 rfl) ?_
  refine t_geti C w hT hm_m_ ht_m_ (by decide) rfl cin_7 41 (by decide) rfl rfl gw_1197 dX7_wouldBe_6 (fun x1 hg => ?_)
  obtain rfl : x1 = 0 := gof_at rfl hg
  refine lv_iconst (v := 5) hx hb dX7_wouldBe_9 (by decide) ?_
  refine lv_icmp_ne (tgt := 35) hx hb dX7_wouldBe_10 (by decide) (fun _ => ?_) (fun c0 => absurd c0 (by decide))
  refine lv_aload_n hx hb dX7_wouldBe_35 rfl (lv_at hl 0 rfl) ?_
  refine t_geti C w hT hm_m_ ht_m_ (by decide) rfl cin_7 41 (by decide) rfl rfl gw_1197 dX7_wouldBe_36 (fun x2 hg => ?_)
  obtain rfl : x2 = 0 := gof_at rfl hg
  have n0 : (0 : Int32).toInt = 0 := by decide
  exact t_iret C hr hlk w ⟨_, _, rfl, rfl, hT, hR, rfl⟩ (by decide) (by decide) dX7_wouldBe_39
set_option maxHeartbeats 4000000 in
set_option maxRecDepth 100000 in
theorem c_X7_triesAt (l : Launch) (D : va_G) (K : Nat → ClassId) (b0 : Nat) (sa : Nat × Nat × Nat) (sz : Nat) (L : List Nat) (f0 : Nat → va_E) (Ψ : Nat → Nat) (hT : TW K (gof gM1) Ψ L f0) (m_ : Nat) (hm_m_ : m_ ∈ L) (ht_m_ : Ψ m_ = 7) (ce : Int32) (hl_ce : 0 ≤ ce.toInt) (hh_ce : ce.toInt ≤ 63) (lt : Int32) (hu_7 : ∀ b c : Nat, b ∈ L → c ∈ L → Ψ b = 7 → Ψ c = 7 → b = c) : Met l yX7_triesAt (.code yX7_triesAt cX7_triesAt 6 none :: gt) { frames := 3, cells := 0, slots := 0, locals := 69 } (va_Pc [.ref m_, .int ce, .int lt] (hPre D K b0 sa sz L f0)) (hQ D K b0 (fun v9 u9 => ∃ f2 : Nat → va_E, v9 = none ∧ u9 = ((gof gM1), Ψ, L, f2) ∧ TW K (gof gM1) Ψ L f2 ∧ rawk Ψ L f0 f2)) 0 0 (fun q => b0 ≤ q) := by
  refine t_of (own := RX7) (by decide) rfl ?_ (Nat.le_of_ble_eq_true rfl)
  intro p e s m below meth c ls C w hsz hr hlk hnm hl
  have hx := C.1
  have hb := C.2.1
  have hl : lv_has ls 6 [(0, .ref m_), (1, .int ce), (2, .int lt)] := hl
  have hb_ce := ti_bd ce
  have hb_lt := ti_bd lt
  have hR : rawk Ψ L f0 f0 := rawk.rf
  refine lv_aload_n hx hb dX7_triesAt_0 rfl (lv_at hl 0 rfl) ?_
  refine lv_iconst (v := 1) hx hb dX7_triesAt_1 (by decide) ?_
  have n1 : (1 : Int32).toInt = 1 := by decide
  refine t_callV (n := 1) C w hT hm_m_ ht_m_ (by decide) rfl rfl (c_X7_namesOf l D K b0 sa _ L _ Ψ hT m_ hm_m_ ht_m_ 1) gw_1445 gw_1442 gw_1444 gs_42 gw_8 ⟨by decide, by decide, by decide +kernel⟩ rfl rfl ⟨by decide, by decide⟩ rfl hl.1 rfl (Nat.le_of_ble_eq_true rfl) dX7_triesAt_2 ⟨by decide, by decide⟩ (fun v u H locs hp w => ?_)
  obtain ⟨f2, rfl, rfl, hT2, hR1⟩ := hp
  have hR := hR.tr hR1
  clear hT
  have hT := hT2
  clear hT2
  generalize f2 = f at w hT hR
  refine lv_aload_n hx hb dX7_triesAt_5 rfl (lv_at hl 0 rfl) ?_
  refine lv_aload_n hx hb dX7_triesAt_6 rfl (lv_at hl 0 rfl) ?_
  refine t_geti C w hT hm_m_ ht_m_ (by decide) rfl cin_7 15 (by decide) rfl rfl gw_1171 dX7_triesAt_7 (fun x1 hg => ?_)
  obtain rfl : x1 = (-1) := gof_at rfl hg
  refine lv_iload_n hx hb dX7_triesAt_10 rfl (lv_at hl 2 rfl) ?_
  refine t_callV (n := 2) C w hT hm_m_ ht_m_ (by decide) rfl rfl (c_X7_tellsBy l D K b0 sa _ L _ Ψ hT m_ hm_m_ ht_m_ lt hu_7) gw_1453 gw_1450 gw_1452 gs_44 gw_8 ⟨by decide, by decide, by decide +kernel⟩ rfl rfl ⟨by decide, by decide⟩ rfl hl.1 rfl (Nat.le_of_ble_eq_true rfl) dX7_triesAt_11 ⟨by decide, by decide⟩ (fun v u H locs hp w => ?_)
  obtain ⟨f2, rfl, rfl, hT2, hR1⟩ := hp
  have hR := hR.tr hR1
  clear hT
  have hT := hT2
  clear hT2
  generalize f2 = f at w hT hR
  refine lv_aload_n hx hb dX7_triesAt_14 rfl (lv_at hl 0 rfl) ?_
  refine lv_iload_n hx hb dX7_triesAt_15 rfl (lv_at hl 1 rfl) ?_
  refine lv_aload_n hx hb dX7_triesAt_16 rfl (lv_at hl 0 rfl) ?_
  refine t_geti C w hT hm_m_ ht_m_ (by decide) rfl cin_7 18 (by decide) rfl rfl gw_1174 dX7_triesAt_17 (fun x2 hg => ?_)
  obtain rfl : x2 = 0 := gof_at rfl hg
  refine lv_aload_n hx hb dX7_triesAt_20 rfl (lv_at hl 0 rfl) ?_
  refine t_geti C w hT hm_m_ ht_m_ (by decide) rfl cin_7 19 (by decide) rfl rfl gw_1175 dX7_triesAt_21 (fun x3 hg => ?_)
  obtain rfl : x3 = 0 := gof_at rfl hg
  have n0 : (0 : Int32).toInt = 0 := by decide
  refine t_callV (n := 3) C w hT hm_m_ ht_m_ (by decide) rfl rfl (c_X7_wouldBe l D K b0 sa _ L _ Ψ (hT.mono (gof_sub rfl)) m_ hm_m_ ht_m_ ce (by omega) (by omega) 0 0) gw_1527 gw_1524 gw_1526 gs_52 gw_8 ⟨by decide, by decide, by decide +kernel⟩ rfl rfl ⟨by decide, by decide⟩ rfl hl.1 rfl (Nat.le_of_ble_eq_true rfl) dX7_triesAt_24 ⟨by decide, by decide⟩ (fun v u H locs hp w => ?_)
  obtain ⟨r4, f2, rfl, rfl, hT2, hR1, hrr4⟩ := hp
  have hR := hR.tr hR1
  clear hT
  have hT := hT2
  clear hT2
  generalize f2 = f at w hT hR
  obtain rfl := hrr4
  refine lv_istore_n (lv' := [(3, .int 0), (0, .ref m_), (1, .int ce), (2, .int lt)]) hx hb dX7_triesAt_27 rfl hl (by decide) rfl (fun ls hl => ?_)
  refine lv_aload_n hx hb dX7_triesAt_28 rfl (lv_at hl 1 rfl) ?_
  refine lv_iload_n hx hb dX7_triesAt_29 rfl (lv_at hl 0 rfl) ?_
  refine t_puti C w hT hm_m_ ht_m_ (by decide) rfl cin_7 tyX7 tyX7_ok nmX7 41 (by decide) rfl rfl rfl rfl rfl (gof_is rfl) gw_1197 dX7_triesAt_30 (fun f H locs w hT hR1 => ?_)
  have hR := hR.tr hR1
  refine lv_aload_n hx hb dX7_triesAt_33 rfl (lv_at hl 1 rfl) ?_
  refine lv_iconst (v := 0) hx hb dX7_triesAt_34 (by decide) ?_
  refine t_puti C w hT hm_m_ ht_m_ (by decide) rfl cin_7 tyX7 tyX7_ok nmX7 43 (by decide) rfl rfl rfl rfl rfl (gof_is rfl) gw_1199 dX7_triesAt_35 (fun f H locs w hT hR1 => ?_)
  have hR := hR.tr hR1
  refine lv_iconst (v := 0) hx hb dX7_triesAt_38 (by decide) ?_
  refine lv_istore (lv' := [(4, .int 0), (3, .int 0), (0, .ref m_), (1, .int ce), (2, .int lt)]) hx hb dX7_triesAt_39 hl (by decide) rfl (fun ls hl => ?_)
  refine lv_iload hx hb dX7_triesAt_41 (lv_at hl 0 rfl) ?_
  refine lv_aload_n hx hb dX7_triesAt_43 rfl (lv_at hl 2 rfl) ?_
  refine t_geti C w hT hm_m_ ht_m_ (by decide) rfl cin_7 40 (by decide) rfl rfl gw_1196 dX7_triesAt_44 (fun x5 hg => ?_)
  obtain rfl : x5 = 0 := gof_at rfl hg
  refine lv_icmp_ge (tgt := 116) hx hb dX7_triesAt_47 (by decide) (fun _ => ?_) (fun c0 => absurd c0 (by decide))
  refine lv_aload_n hx hb dX7_triesAt_116 rfl (lv_at hl 2 rfl) ?_
  refine lv_dup hx hb dX7_triesAt_117 rfl ?_
  refine t_geti C w hT hm_m_ ht_m_ (by decide) rfl cin_7 35 (by decide) rfl rfl gw_1191 dX7_triesAt_118 (fun x6 hg => ?_)
  refine lv_iconst (v := 1) hx hb dX7_triesAt_121 (by decide) ?_
  refine lv_iadd hx hb dX7_triesAt_122 ?_
  refine lv_topi (fun y7 ey7 => ?_)
  refine t_puti C w hT hm_m_ ht_m_ (by decide) rfl cin_7 tyX7 tyX7_ok nmX7 35 (by decide) rfl rfl rfl rfl rfl (gof_no rfl) gw_1191 dX7_triesAt_123 (fun f H locs w hT hR1 => ?_)
  have hR := hR.tr hR1
  refine lv_aload_n hx hb dX7_triesAt_126 rfl (lv_at hl 2 rfl) ?_
  refine lv_iload_n hx hb dX7_triesAt_127 rfl (lv_at hl 1 rfl) ?_
  refine lv_iconst (v := 5) hx hb dX7_triesAt_128 (by decide) ?_
  refine lv_icmp_ne (tgt := 136) hx hb dX7_triesAt_129 (by decide) (fun _ => ?_) (fun c0 => absurd c0 (by decide))
  refine lv_aload_n hx hb dX7_triesAt_136 rfl (lv_at hl 2 rfl) ?_
  refine t_geti C w hT hm_m_ ht_m_ (by decide) rfl cin_7 36 (by decide) rfl rfl gw_1192 dX7_triesAt_137 (fun x8 hg => ?_)
  refine lv_iconst (v := 1) hx hb dX7_triesAt_140 (by decide) ?_
  refine lv_iadd hx hb dX7_triesAt_141 ?_
  refine lv_topi (fun y9 ey9 => ?_)
  refine t_puti C w hT hm_m_ ht_m_ (by decide) rfl cin_7 tyX7 tyX7_ok nmX7 36 (by decide) rfl rfl rfl rfl rfl (gof_no rfl) gw_1192 dX7_triesAt_142 (fun f H locs w hT hR1 => ?_)
  have hR := hR.tr hR1
  refine lv_aload_n hx hb dX7_triesAt_145 rfl (lv_at hl 2 rfl) ?_
  refine lv_dup hx hb dX7_triesAt_146 rfl ?_
  refine t_geti C w hT hm_m_ ht_m_ (by decide) rfl cin_7 37 (by decide) rfl rfl gw_1193 dX7_triesAt_147 (fun x10 hg => ?_)
  refine lv_aload_n hx hb dX7_triesAt_150 rfl (lv_at hl 2 rfl) ?_
  refine t_geti C w hT hm_m_ ht_m_ (by decide) rfl cin_7 32 (by decide) rfl rfl gw_1188 dX7_triesAt_151 (fun x11 hg => ?_)
  obtain rfl : x11 = 1 := gof_at rfl hg
  refine lv_iadd hx hb dX7_triesAt_154 ?_
  refine lv_topi (fun y12 ey12 => ?_)
  refine t_puti C w hT hm_m_ ht_m_ (by decide) rfl cin_7 tyX7 tyX7_ok nmX7 37 (by decide) rfl rfl rfl rfl rfl (gof_no rfl) gw_1193 dX7_triesAt_155 (fun f H locs w hT hR1 => ?_)
  have hR := hR.tr hR1
  refine lv_aload_n hx hb dX7_triesAt_158 rfl (lv_at hl 2 rfl) ?_
  refine lv_dup hx hb dX7_triesAt_159 rfl ?_
  refine t_geti C w hT hm_m_ ht_m_ (by decide) rfl cin_7 38 (by decide) rfl rfl gw_1194 dX7_triesAt_160 (fun x13 hg => ?_)
  refine lv_aload_n hx hb dX7_triesAt_163 rfl (lv_at hl 2 rfl) ?_
  refine t_geti C w hT hm_m_ ht_m_ (by decide) rfl cin_7 43 (by decide) rfl rfl gw_1199 dX7_triesAt_164 (fun x14 hg => ?_)
  obtain rfl : x14 = 0 := gof_at rfl hg
  refine lv_iadd hx hb dX7_triesAt_167 ?_
  refine lv_topi (fun y15 ey15 => ?_)
  have ty15 : y15.toInt = (x13 : Int32).toInt + (0 : Int32).toInt := by rw [ey15]; exact ti_add (by have := ti_bd x13; omega) (by have := ti_bd x13; omega)
  refine t_puti C w hT hm_m_ ht_m_ (by decide) rfl cin_7 tyX7 tyX7_ok nmX7 38 (by decide) rfl rfl rfl rfl rfl (gof_no rfl) gw_1194 dX7_triesAt_168 (fun f H locs w hT hR1 => ?_)
  have hR := hR.tr hR1
  exact t_vret C hr hlk w ⟨_, rfl, rfl, hT, hR⟩ (by decide) (by decide) dX7_triesAt_171
set_option maxHeartbeats 4000000 in
set_option maxRecDepth 100000 in
theorem c_X7_canNow (l : Launch) (D : va_G) (K : Nat → ClassId) (b0 : Nat) (sa : Nat × Nat × Nat) (sz : Nat) (L : List Nat) (f0 : Nat → va_E) (Ψ : Nat → Nat) (hT : TW K (gof gM1) Ψ L f0) (m_ : Nat) (hm_m_ : m_ ∈ L) (ht_m_ : Ψ m_ = 7) (al : Int32) (hl_al : 0 ≤ al.toInt) (hh_al : al.toInt ≤ 1) (hu_7 : ∀ b c : Nat, b ∈ L → c ∈ L → Ψ b = 7 → Ψ c = 7 → b = c) : Met l yX7_canNow (.code yX7_canNow cX7_canNow 8 (some .int) :: gt) { frames := 3, cells := 2, slots := 72, locals := 69 } (va_Pc [.ref m_, .int al] (hPre D K b0 sa sz L f0)) (hQ D K b0 (fun v9 u9 => ∃ (r : Int32) (Ψ2 : Nat → Nat) (L2 : List Nat) (f2 : Nat → va_E), v9 = some (.int r) ∧ u9 = ((gof gM1), Ψ2, L2, f2) ∧ TW K (gof gM1) Ψ2 L2 f2 ∧ Ex [9, 40] (fun _ => False) Ψ L f0 Ψ2 L2 f2 ∧ (r = (-1)))) 2 72 (fun q => b0 ≤ q) := by
  refine t_of (own := RX7) (by decide) rfl ?_ (Nat.le_of_ble_eq_true rfl)
  intro p e s m below meth c ls C w hsz hr hlk hnm hl
  have hx := C.1
  have hb := C.2.1
  have hl : lv_has ls 8 [(0, .ref m_), (1, .int al)] := hl
  have hb_al := ti_bd al
  have hE : Ex [9, 40] (fun _ => False) Ψ L f0 Ψ L f0 := Ex.rf
  have hno_7 : No (fun b => b = m_) 7 Ψ L := fun b h1 h2 => hu_7 b m_ h1 hm_m_ h2 ht_m_
  refine lv_aload_n hx hb dX7_canNow_0 rfl (lv_at hl 0 rfl) ?_
  refine lv_iconst (v := 1) hx hb dX7_canNow_1 (by decide) ?_
  have n1 : (1 : Int32).toInt = 1 := by decide
  refine t_callV (n := 1) C w hT hm_m_ ht_m_ (by decide) rfl rfl (c_X7_namesOf l D K b0 sa _ L _ Ψ hT m_ hm_m_ ht_m_ 1) gw_1445 gw_1442 gw_1444 gs_42 gw_8 ⟨by decide, by decide, by decide +kernel⟩ rfl rfl ⟨by decide, by decide⟩ rfl hl.1 rfl (Nat.le_of_ble_eq_true rfl) dX7_canNow_2 ⟨by decide, by decide⟩ (fun v u H locs hp w => ?_)
  obtain ⟨f2, rfl, rfl, hT2, hR1⟩ := hp
  have hE := hE.up hR1
  clear hT
  have hT := hT2
  clear hT2
  generalize f2 = f at w hT hE
  refine lv_aload_n hx hb dX7_canNow_5 rfl (lv_at hl 0 rfl) ?_
  refine lv_aload_n hx hb dX7_canNow_6 rfl (lv_at hl 0 rfl) ?_
  refine t_geti C w hT hm_m_ ht_m_ (by decide) rfl cin_7 15 (by decide) rfl rfl gw_1171 dX7_canNow_7 (fun x1 hg => ?_)
  obtain rfl : x1 = (-1) := gof_at rfl hg
  refine t_callV (n := 1) C w hT hm_m_ ht_m_ (by decide) rfl rfl (c_X7_lotsBy l D K b0 sa _ L _ Ψ hT m_ hm_m_ ht_m_ (fun b c h1 h2 h3 h4 => (hno_7 b h1 h3).trans (hno_7 c h2 h4).symm)) gw_1449 gw_1446 gw_1448 gs_43 gw_8 ⟨by decide, by decide, by decide +kernel⟩ rfl rfl ⟨by decide, by decide⟩ rfl hl.1 rfl (Nat.le_of_ble_eq_true rfl) dX7_canNow_10 ⟨by decide, by decide⟩ (fun v u H locs hp w => ?_)
  obtain ⟨r2, f2, rfl, rfl, hT2, hR1, hrr2⟩ := hp
  have hE := hE.up hR1
  clear hT
  have hT := hT2
  clear hT2
  generalize f2 = f at w hT hE
  obtain rfl := hrr2
  refine lv_istore_n (lv' := [(2, .int 1), (0, .ref m_), (1, .int al)]) hx hb dX7_canNow_13 rfl hl (by decide) rfl (fun ls hl => ?_)
  refine lv_bipush (v := 36) hx hb dX7_canNow_14 (by decide) ?_
  refine t_newI C w hT hE (by decide) (at_ := .int) (ty := .int) (ti := 0) rfl rfl (Or.inl rfl) gw_85 (N := 36) (by decide) (by decide) (by decide) (by decide) (by decide) dX7_canNow_16 (fun q3 Ψ4 L4 f H w hT hE hsp hm_q3 ht_q3 hf_q3 hz_q3 hnq hbk => ?_)
  have ht_m_ := (hsp m_ hm_m_).2.1.trans ht_m_
  have hm_m_ := (hsp m_ hm_m_).1
  have hno_7 := hno_7.grow hsp hbk ht_q3 (by decide)
  clear hsp hbk hnq
  obtain ⟨Ψ5, hT, hE, hs1, hs2, ht_q3x⟩ := t_tag (t := 40) hT hE ht_q3 hz_q3 (by decide) (t_tya (v := 0) (by decide) hf_q3 rfl rfl (fun i _ => rfl) (fun i => (gof_no rfl)))
  have ht_m_ := (hs1 m_ (by rw [ht_m_]; decide)).trans ht_m_
  have hno_7 := hno_7.tag hs2 ht_q3x (by decide)
  have ht_q3 := ht_q3x
  clear hs1 hs2 ht_q3x
  refine lv_astore_n (lv' := [(3, .ref q3), (2, .int 1), (0, .ref m_), (1, .int al)]) hx hb dX7_canNow_18 rfl hl (by decide) rfl (fun ls hl => ?_)
  refine lv_bipush (v := 36) hx hb dX7_canNow_19 (by decide) ?_
  refine t_newI C w hT hE (by decide) (at_ := .int) (ty := .int) (ti := 0) rfl rfl (Or.inl rfl) gw_85 (N := 36) (by decide) (by decide) (by decide) (by decide) (by decide) dX7_canNow_21 (fun q6 Ψ7 L7 f H w hT hE hsp hm_q6 ht_q6 hf_q6 hz_q6 hnq hbk => ?_)
  have ht_q3 := (hsp q3 hm_q3).2.1.trans ht_q3
  have hm_q3 := (hsp q3 hm_q3).1
  have ht_m_ := (hsp m_ hm_m_).2.1.trans ht_m_
  have hm_m_ := (hsp m_ hm_m_).1
  have hno_7 := hno_7.grow hsp hbk ht_q6 (by decide)
  clear hsp hbk hnq
  obtain ⟨Ψ8, hT, hE, hs1, hs2, ht_q6x⟩ := t_tag (t := 40) hT hE ht_q6 hz_q6 (by decide) (t_tya (v := 0) (by decide) hf_q6 rfl rfl (fun i _ => rfl) (fun i => (gof_no rfl)))
  have ht_q3 := (hs1 q3 (by rw [ht_q3]; decide)).trans ht_q3
  have ht_m_ := (hs1 m_ (by rw [ht_m_]; decide)).trans ht_m_
  have hno_7 := hno_7.tag hs2 ht_q6x (by decide)
  have ht_q6 := ht_q6x
  clear hs1 hs2 ht_q6x
  refine lv_astore (lv' := [(4, .ref q6), (3, .ref q3), (2, .int 1), (0, .ref m_), (1, .int al)]) hx hb dX7_canNow_23 hl (by decide) rfl (fun ls hl => ?_)
  refine lv_iconst (v := 0) hx hb dX7_canNow_25 (by decide) ?_
  refine lv_istore (lv' := [(5, .int 0), (4, .ref q6), (3, .ref q3), (2, .int 1), (0, .ref m_), (1, .int al)]) hx hb dX7_canNow_26 hl (by decide) rfl (fun ls hl => ?_)
  refine lv_iload hx hb dX7_canNow_28 (lv_at hl 0 rfl) ?_
  refine lv_iload_n hx hb dX7_canNow_30 rfl (lv_at hl 3 rfl) ?_
  refine lv_icmp_ge (tgt := 67) hx hb dX7_canNow_31 (by decide) (fun c0 => absurd c0 (by decide)) (fun _ => ?_)
  refine lv_aload_n hx hb dX7_canNow_34 rfl (lv_at hl 4 rfl) ?_
  refine lv_aload_n hx hb dX7_canNow_35 rfl (lv_at hl 4 rfl) ?_
  refine t_geti C w hT hm_m_ ht_m_ (by decide) rfl cin_7 15 (by decide) rfl rfl gw_1171 dX7_canNow_36 (fun x9 hg => ?_)
  obtain rfl : x9 = (-1) := gof_at rfl hg
  refine lv_iload hx hb dX7_canNow_39 (lv_at hl 0 rfl) ?_
  have n0 : (0 : Int32).toInt = 0 := by decide
  refine t_callV (n := 2) C w hT hm_m_ ht_m_ (by decide) rfl rfl (c_X7_tellsBy l D K b0 sa _ L7 _ Ψ8 (hT.mono (gof_sub rfl)) m_ hm_m_ ht_m_ 0 (fun b c h1 h2 h3 h4 => (hno_7 b h1 h3).trans (hno_7 c h2 h4).symm)) gw_1453 gw_1450 gw_1452 gs_44 gw_8 ⟨by decide, by decide, by decide +kernel⟩ rfl rfl ⟨by decide, by decide⟩ rfl hl.1 rfl (Nat.le_of_ble_eq_true rfl) dX7_canNow_41 ⟨by decide, by decide⟩ (fun v u H locs hp w => ?_)
  obtain ⟨f2, rfl, rfl, hT2, hR1⟩ := hp
  have hE := hE.up hR1
  clear hT
  have hT := hT2
  clear hT2
  generalize f2 = f at w hT hE
  refine lv_aload_n hx hb dX7_canNow_44 rfl (lv_at hl 2 rfl) ?_
  refine lv_iload hx hb dX7_canNow_45 (lv_at hl 0 rfl) ?_
  refine lv_aload_n hx hb dX7_canNow_47 rfl (lv_at hl 4 rfl) ?_
  refine t_geti C w hT hm_m_ ht_m_ (by decide) rfl cin_7 18 (by decide) rfl rfl gw_1174 dX7_canNow_48 (fun x10 hg => ?_)
  obtain rfl : x10 = 0 := gof_at rfl hg
  refine t_iast C w hT hm_q3 ht_q3 (by decide) (by decide) rfl (vp_in_iff.mpr ⟨by decide, by decide⟩) (gof_no rfl) dX7_canNow_51 (fun f H locs w hT hR1 => ?_)
  have hE := hE.up hR1
  refine lv_aload hx hb dX7_canNow_52 (lv_at hl 1 rfl) ?_
  refine lv_iload hx hb dX7_canNow_54 (lv_at hl 0 rfl) ?_
  refine lv_aload_n hx hb dX7_canNow_56 rfl (lv_at hl 4 rfl) ?_
  refine t_geti C w hT hm_m_ ht_m_ (by decide) rfl cin_7 19 (by decide) rfl rfl gw_1175 dX7_canNow_57 (fun x11 hg => ?_)
  obtain rfl : x11 = 0 := gof_at rfl hg
  refine t_iast C w hT hm_q6 ht_q6 (by decide) (by decide) rfl (vp_in_iff.mpr ⟨by decide, by decide⟩) (gof_no rfl) dX7_canNow_60 (fun f H locs w hT hR1 => ?_)
  have hE := hE.up hR1
  refine lv_iinc (v := 1) (lv' := [(5, .int 1), (4, .ref q6), (3, .ref q3), (2, .int 1), (0, .ref m_), (1, .int al)]) hx hb dX7_canNow_61 hl (k := 0) rfl (by decide) (by decide) rfl (fun ls hl => ?_)
  refine lv_goto (tgt := 28) hx hb dX7_canNow_64 (by decide) ?_
  refine lv_iload hx hb dX7_canNow_28 (lv_at hl 0 rfl) ?_
  refine lv_iload_n hx hb dX7_canNow_30 rfl (lv_at hl 3 rfl) ?_
  refine lv_icmp_ge (tgt := 67) hx hb dX7_canNow_31 (by decide) (fun _ => ?_) (fun c0 => absurd c0 (by decide))
  have hT := hT.mono (gof_sub (l2 := gM1) rfl)
  refine lv_iconst (v := 0) hx hb dX7_canNow_67 (by decide) ?_
  refine lv_istore (lv' := [(5, .int 0), (4, .ref q6), (3, .ref q3), (2, .int 1), (0, .ref m_), (1, .int al)]) hx hb dX7_canNow_68 hl (by decide) rfl (fun ls hl => ?_)
  have loop12 : ∀ (n i12 : Nat), i12 ≤ 64 → 64 - i12 < n → ∀ (f : Nat → va_E) (H : Heap) (locs : List Loc), Wh D K b0 sa s H locs L7 f → TW K (gof gM1) Ψ8 L7 f → Ex [9, 40] (fun _ => False) Ψ L f0 Ψ8 L7 f → ∀ ls : Array Slot, lv_has ls 8 [(5, .int (nI i12)), (4, .ref q6), (3, .ref q3), (2, .int 1), (0, .ref m_), (1, .int al)] → W p l e { frames := 3, cells := 2, slots := 72, locals := 69 } s m [.ref m_, .int al].toArray below meth c H locs 2 72 (MQ below (hQ D K b0 (fun v9 u9 => ∃ (r : Int32) (Ψ2 : Nat → Nat) (L2 : List Nat) (f2 : Nat → va_E), v9 = some (.int r) ∧ u9 = ((gof gM1), Ψ2, L2, f2) ∧ TW K (gof gM1) Ψ2 L2 f2 ∧ Ex [9, 40] (fun _ => False) Ψ L f0 Ψ2 L2 f2 ∧ (r = (-1)))) [.ref m_, .int al].toArray s 2 72 (fun q => b0 ≤ q)) (F0 m 70 ls []) := by
    intro n
    induction n with
    | zero => intro i12 h1 h2; exact absurd h2 (Nat.not_lt_zero _)
    | succ n ih12 =>
      intro i12 hi12 hn12 f H locs w hT hE ls hl
      have ti12 : (nI i12).toInt = (i12 : Int) := nI_toInt (by omega)
      refine lv_iload hx hb dX7_canNow_70 (lv_at hl 0 rfl) ?_
      refine lv_bipush (v := 64) hx hb dX7_canNow_72 (by decide) ?_
      have n64 : (64 : Int32).toInt = 64 := by decide
      refine lv_icmp_ge (tgt := 151) hx hb dX7_canNow_74 (by decide) (fun c13 => ?_) (fun c13 => ?_)
      · have c13 := le_toInt c13
        refine lv_iconst (v := (-1)) hx hb dX7_canNow_151 (by decide) ?_
        have nm1 : ((-1) : Int32).toInt = -1 := by decide
        exact t_iret C hr hlk w ⟨_, _, _, _, rfl, rfl, hT, hE, rfl⟩ (by decide) (by decide) dX7_canNow_152
      · have c13 := nle_toInt c13
        refine lv_iconst (v := 0) hx hb dX7_canNow_77 (by decide) ?_
        refine lv_istore (lv' := [(6, .int 0), (5, .int (nI i12)), (4, .ref q6), (3, .ref q3), (2, .int 1), (0, .ref m_), (1, .int al)]) hx hb dX7_canNow_78 hl (by decide) rfl (fun ls hl => ?_)
        refine lv_iconst (v := 0) hx hb dX7_canNow_80 (by decide) ?_
        refine lv_istore (lv' := [(7, .int 0), (6, .int 0), (5, .int (nI i12)), (4, .ref q6), (3, .ref q3), (2, .int 1), (0, .ref m_), (1, .int al)]) hx hb dX7_canNow_81 hl (by decide) rfl (fun ls hl => ?_)
        refine lv_iload hx hb dX7_canNow_83 (lv_at hl 0 rfl) ?_
        refine lv_iload_n hx hb dX7_canNow_85 rfl (lv_at hl 5 rfl) ?_
        refine lv_icmp_ge (tgt := 124) hx hb dX7_canNow_86 (by decide) (fun c0 => absurd c0 (by decide)) (fun _ => ?_)
        refine lv_iload hx hb dX7_canNow_89 (lv_at hl 1 rfl) ?_
        refine lv_aload_n hx hb dX7_canNow_91 rfl (lv_at hl 6 rfl) ?_
        refine lv_iload hx hb dX7_canNow_92 (lv_at hl 2 rfl) ?_
        refine lv_aload_n hx hb dX7_canNow_94 rfl (lv_at hl 4 rfl) ?_
        refine lv_iload hx hb dX7_canNow_95 (lv_at hl 0 rfl) ?_
        refine t_iald C w hT hm_q3 ht_q3 (by decide) (by decide) rfl (vp_in_iff.mpr ⟨by decide, by decide⟩) dX7_canNow_97 (fun x14 hg => ?_)
        refine lv_aload hx hb dX7_canNow_98 (lv_at hl 3 rfl) ?_
        refine lv_iload hx hb dX7_canNow_100 (lv_at hl 0 rfl) ?_
        refine t_iald C w hT hm_q6 ht_q6 (by decide) (by decide) rfl (vp_in_iff.mpr ⟨by decide, by decide⟩) dX7_canNow_102 (fun x15 hg => ?_)
        refine t_callV (n := 3) C w hT hm_m_ ht_m_ (by decide) rfl rfl (c_X7_wouldBe l D K b0 sa _ L7 _ Ψ8 hT m_ hm_m_ ht_m_ (nI i12) (by omega) (by omega) x14 x15) gw_1527 gw_1524 gw_1526 gs_52 gw_8 ⟨by decide, by decide, by decide +kernel⟩ rfl rfl ⟨by decide, by decide⟩ rfl hl.1 rfl (Nat.le_of_ble_eq_true rfl) dX7_canNow_103 ⟨by decide, by decide⟩ (fun v u H locs hp w => ?_)
        obtain ⟨r16, f2, rfl, rfl, hT2, hR1, hrr16⟩ := hp
        have hE := hE.up hR1
        clear hT
        have hT := hT2
        clear hT2
        generalize f2 = f at w hT hE
        obtain rfl := hrr16
        refine lv_iconst (v := 5) hx hb dX7_canNow_106 (by decide) ?_
        refine lv_icmp_ne (tgt := 114) hx hb dX7_canNow_107 (by decide) (fun _ => ?_) (fun c0 => absurd c0 (by decide))
        refine lv_iconst (v := 0) hx hb dX7_canNow_114 (by decide) ?_
        refine lv_iadd hx hb dX7_canNow_115 ?_
        refine lv_topi (fun y17 ey17 => ?_)
        obtain rfl : y17 = 0 := ey17.trans (by decide)
        refine lv_istore (lv' := [(6, .int 0), (7, .int 0), (5, .int (nI i12)), (4, .ref q6), (3, .ref q3), (2, .int 1), (0, .ref m_), (1, .int al)]) hx hb dX7_canNow_116 hl (by decide) rfl (fun ls hl => ?_)
        refine lv_iinc (v := 1) (lv' := [(7, .int 1), (6, .int 0), (5, .int (nI i12)), (4, .ref q6), (3, .ref q3), (2, .int 1), (0, .ref m_), (1, .int al)]) hx hb dX7_canNow_118 hl (k := 1) rfl (by decide) (by decide) rfl (fun ls hl => ?_)
        refine lv_goto (tgt := 83) hx hb dX7_canNow_121 (by decide) ?_
        refine lv_iload hx hb dX7_canNow_83 (lv_at hl 0 rfl) ?_
        refine lv_iload_n hx hb dX7_canNow_85 rfl (lv_at hl 5 rfl) ?_
        refine lv_icmp_ge (tgt := 124) hx hb dX7_canNow_86 (by decide) (fun _ => ?_) (fun c0 => absurd c0 (by decide))
        refine lv_iload_n hx hb dX7_canNow_124 rfl (lv_at hl 7 rfl) ?_
        have n0 : (0 : Int32).toInt = 0 := by decide
        refine lv_if_eq (tgt := 137) hx hb dX7_canNow_125 (by decide) (fun c18 => ?_) (fun c18 => ?_)
        · have c18 := eq_toInt c18
          refine lv_iload hx hb dX7_canNow_137 (lv_at hl 1 rfl) ?_
          refine lv_if_le (tgt := 145) hx hb dX7_canNow_139 (by decide) (fun _ => ?_) (fun c0 => absurd c0 (by decide))
          refine lv_iinc (v := (nI (i12 + 1))) (lv' := [(5, .int (nI (i12 + 1))), (7, .int 1), (6, .int 0), (4, .ref q6), (3, .ref q3), (2, .int 1), (0, .ref m_), (1, .int al)]) hx hb dX7_canNow_145 hl (k := 2) rfl (by exact nI_1 i12) (by decide) rfl (fun ls hl => ?_)
          refine lv_goto (tgt := 70) hx hb dX7_canNow_148 (by decide) ?_
          exact ih12 (i12 + 1) (by omega) (by omega) _ _ _ w hT hE ls (lv_sub hl [0, 3, 4, 5, 6, 7] rfl)
        · have c18 := ne_toInt c18
          refine lv_iload hx hb dX7_canNow_128 (lv_at hl 1 rfl) ?_
          refine lv_iload_n hx hb dX7_canNow_130 rfl (lv_at hl 5 rfl) ?_
          refine lv_icmp_ne (tgt := 145) hx hb dX7_canNow_131 (by decide) (fun _ => ?_) (fun c0 => absurd c0 (by decide))
          refine lv_iinc (v := (nI (i12 + 1))) (lv' := [(5, .int (nI (i12 + 1))), (7, .int 1), (6, .int 0), (4, .ref q6), (3, .ref q3), (2, .int 1), (0, .ref m_), (1, .int al)]) hx hb dX7_canNow_145 hl (k := 2) rfl (by exact nI_1 i12) (by decide) rfl (fun ls hl => ?_)
          refine lv_goto (tgt := 70) hx hb dX7_canNow_148 (by decide) ?_
          exact ih12 (i12 + 1) (by omega) (by omega) _ _ _ w hT hE ls (lv_sub hl [0, 3, 4, 5, 6, 7] rfl)
  exact loop12 65 0 (by decide) (by decide) _ _ _ w hT hE ls hl
set_option maxHeartbeats 4000000 in
set_option maxRecDepth 100000 in
theorem c_X7_can (l : Launch) (D : va_G) (K : Nat → ClassId) (b0 : Nat) (sa : Nat × Nat × Nat) (sz : Nat) (L : List Nat) (f0 : Nat → va_E) (Ψ : Nat → Nat) (hT : TW K (gof gM0) Ψ L f0) (m_ : Nat) (hm_m_ : m_ ∈ L) (ht_m_ : Ψ m_ = 7) (al : Int32) (hl_al : 0 ≤ al.toInt) (hh_al : al.toInt ≤ 1) (hu_7 : ∀ b c : Nat, b ∈ L → c ∈ L → Ψ b = 7 → Ψ c = 7 → b = c) : Met l yX7_can (.code yX7_can cX7_can 2 (some .int) :: gt) { frames := 4, cells := 2, slots := 72, locals := 96 } (va_Pc [.ref m_, .int al] (hPre D K b0 sa sz L f0)) (hQ D K b0 (fun v9 u9 => ∃ (r : Int32) (th : Int32) (Ψ2 : Nat → Nat) (L2 : List Nat) (f2 : Nat → va_E), v9 = some (.int r) ∧ u9 = (gof [(700, th)], Ψ2, L2, f2) ∧ TW K (gof [(700, th)]) Ψ2 L2 f2 ∧ Ex [9, 40] (fun _ => False) Ψ L f0 Ψ2 L2 f2 ∧ ((r = (-1) ∧ th = 0)))) 2 72 (fun q => b0 ≤ q) := by
  refine t_of (own := RX7) (by decide) rfl ?_ (Nat.le_of_ble_eq_true rfl)
  intro p e s m below meth c ls C w hsz hr hlk hnm hl
  have hx := C.1
  have hb := C.2.1
  have hl : lv_has ls 2 [(0, .ref m_), (1, .int al)] := hl
  have hb_al := ti_bd al
  have hE : Ex [9, 40] (fun _ => False) Ψ L f0 Ψ L f0 := Ex.rf
  have hno_7 : No (fun b => b = m_) 7 Ψ L := fun b h1 h2 => hu_7 b m_ h1 hm_m_ h2 ht_m_
  refine lv_aload_n hx hb dX7_can_0 rfl (lv_at hl 0 rfl) ?_
  refine lv_iconst (v := 0) hx hb dX7_can_1 (by decide) ?_
  refine t_puti C w hT hm_m_ ht_m_ (by decide) rfl cin_7 tyX7 tyX7_ok nmX7 0 (by decide) rfl rfl rfl rfl rfl (gof_is rfl) gw_1156 dX7_can_2 (fun f H locs w hT hR1 => ?_)
  have hE := hE.up hR1
  refine lv_aload_n hx hb dX7_can_5 rfl (lv_at hl 0 rfl) ?_
  refine lv_iload_n hx hb dX7_can_6 rfl (lv_at hl 1 rfl) ?_
  refine t_callV (n := 1) C w hT hm_m_ ht_m_ (by decide) rfl rfl (c_X7_canNow l D K b0 sa _ L _ Ψ (hT.mono (gof_sub rfl)) m_ hm_m_ ht_m_ al (by omega) (by omega) (fun b c h1 h2 h3 h4 => (hno_7 b h1 h3).trans (hno_7 c h2 h4).symm)) gw_1523 gw_1520 gw_1522 gs_51 gw_8 ⟨by decide, by decide, by decide +kernel⟩ rfl rfl ⟨by decide, by decide⟩ rfl hl.1 rfl (Nat.le_of_ble_eq_true rfl) dX7_can_7 ⟨by decide, by decide⟩ (fun v u H locs hp w => ?_)
  obtain ⟨r2, Ψ1, L1, f2, rfl, rfl, hT2, hE2, hrr2⟩ := hp
  have hE := hE.tr hE2 (by decide) (fun b e9 => e9.elim) (fun b e9 => e9.elim)
  have hsp := hE2.sp hm_m_ (fun e9 => e9)
  have ht_m_ := hsp.2.1.trans ht_m_
  have hm_m_ := hsp.1
  have hno_7 := hno_7.call hE2 (by decide) (fun b e9 => e9.elim)
  clear hT
  have hT := hT2
  clear hT2 hE2
  generalize f2 = f at w hT hE
  obtain rfl := hrr2
  have nm1 : ((-1) : Int32).toInt = -1 := by decide
  exact t_iret C hr hlk w ⟨_, 0, _, _, _, rfl, rfl, hT.mono (gof_sub rfl), hE, ⟨rfl, rfl⟩⟩ (by decide) (by decide) dX7_can_10
set_option maxHeartbeats 4000000 in
set_option maxRecDepth 100000 in
theorem c_X7_attemptAt (l : Launch) (D : va_G) (K : Nat → ClassId) (b0 : Nat) (sa : Nat × Nat × Nat) (sz : Nat) (L : List Nat) (f0 : Nat → va_E) (Ψ : Nat → Nat) (hT : TW K (gof gM1) Ψ L f0) (m_ : Nat) (hm_m_ : m_ ∈ L) (ht_m_ : Ψ m_ = 7) (ce : Int32) (hl_ce : 0 ≤ ce.toInt) (hh_ce : ce.toInt ≤ 63) (hu_7 : ∀ b c : Nat, b ∈ L → c ∈ L → Ψ b = 7 → Ψ c = 7 → b = c) : Met l yX7_attemptAt (.code yX7_attemptAt cX7_attemptAt 6 (some .int) :: gt) { frames := 4, cells := 2, slots := 72, locals := 96 } (va_Pc [.ref m_, .int ce] (hPre D K b0 sa sz L f0)) (hQ D K b0 (fun v9 u9 => ∃ (r : Int32) (Ψ2 : Nat → Nat) (L2 : List Nat) (f2 : Nat → va_E), v9 = some (.int r) ∧ u9 = ((gof ((700, 0) :: [])), Ψ2, L2, f2) ∧ TW K (gof ((700, 0) :: [])) Ψ2 L2 f2 ∧ Ex [9, 40] (fun _ => False) Ψ L f0 Ψ2 L2 f2 ∧ (r = 0))) 2 72 (fun q => b0 ≤ q) := by
  refine t_of (own := RX7) (by decide) rfl ?_ (Nat.le_of_ble_eq_true rfl)
  intro p e s m below meth c ls C w hsz hr hlk hnm hl
  have hx := C.1
  have hb := C.2.1
  have hl : lv_has ls 6 [(0, .ref m_), (1, .int ce)] := hl
  have hb_ce := ti_bd ce
  have hE : Ex [9, 40] (fun _ => False) Ψ L f0 Ψ L f0 := Ex.rf
  have hno_7 : No (fun b => b = m_) 7 Ψ L := fun b h1 h2 => hu_7 b m_ h1 hm_m_ h2 ht_m_
  refine lv_aload_n hx hb dX7_attemptAt_0 rfl (lv_at hl 0 rfl) ?_
  refine t_getr C w hT hm_m_ ht_m_ (by decide) rfl cin_7 47 (by decide) rfl gw_1203 dX7_attemptAt_1 (fun q1 hm_q1 ht_q1 => ?_)
  refine lv_aload_n hx hb dX7_attemptAt_4 rfl (lv_at hl 0 rfl) ?_
  refine t_geti C w hT hm_m_ ht_m_ (by decide) rfl cin_7 46 (by decide) rfl rfl gw_1202 dX7_attemptAt_5 (fun x2 hg => ?_)
  obtain rfl : x2 = 0 := gof_at rfl hg
  refine t_aald C w hT hm_q1 ht_q1 (by decide) rfl rfl (vp_in_iff.mpr ⟨by decide, by decide⟩) rfl dX7_attemptAt_8 (fun q3 hm_q3 ht_q3 => ?_)
  refine lv_astore_n (lv' := [(2, .ref q3), (0, .ref m_), (1, .int ce)]) hx hb dX7_attemptAt_9 rfl hl (by decide) rfl (fun ls hl => ?_)
  refine lv_aload_n hx hb dX7_attemptAt_10 rfl (lv_at hl 0 rfl) ?_
  refine lv_bipush (v := 9) hx hb dX7_attemptAt_11 (by decide) ?_
  refine lv_aload_n hx hb dX7_attemptAt_13 rfl (lv_at hl 1 rfl) ?_
  refine lv_iconst (v := 0) hx hb dX7_attemptAt_14 (by decide) ?_
  have n0 : (0 : Int32).toInt = 0 := by decide
  refine t_callV (n := 1) C w hT hm_m_ ht_m_ (by decide) rfl rfl (c_X7_canNow l D K b0 sa _ L _ Ψ hT m_ hm_m_ ht_m_ 0 (by omega) (by omega) (fun b c h1 h2 h3 h4 => (hno_7 b h1 h3).trans (hno_7 c h2 h4).symm)) gw_1523 gw_1520 gw_1522 gs_51 gw_8 ⟨by decide, by decide, by decide +kernel⟩ rfl rfl ⟨by decide, by decide⟩ rfl hl.1 rfl (Nat.le_of_ble_eq_true rfl) dX7_attemptAt_15 ⟨by decide, by decide⟩ (fun v u H locs hp w => ?_)
  obtain ⟨r5, Ψ4, L4, f2, rfl, rfl, hT2, hE2, hrr5⟩ := hp
  have hE := hE.tr hE2 (by decide) (fun b e9 => e9.elim) (fun b e9 => e9.elim)
  have hsp := hE2.sp hm_q3 (fun e9 => e9)
  have ht_q3 := hsp.2.1.trans ht_q3
  have hm_q3 := hsp.1
  have hsp := hE2.sp hm_m_ (fun e9 => e9)
  have ht_m_ := hsp.2.1.trans ht_m_
  have hm_m_ := hsp.1
  have hno_7 := hno_7.call hE2 (by decide) (fun b e9 => e9.elim)
  clear hT
  have hT := hT2
  clear hT2 hE2
  generalize f2 = f at w hT hE
  obtain rfl := hrr5
  refine lv_iconst (v := (-1)) hx hb dX7_attemptAt_18 (by decide) ?_
  refine lv_icmp_ne (tgt := 26) hx hb dX7_attemptAt_19 (by decide) (fun c0 => absurd c0 (by decide)) (fun _ => ?_)
  refine lv_iconst (v := 0) hx hb dX7_attemptAt_22 (by decide) ?_
  refine lv_goto (tgt := 27) hx hb dX7_attemptAt_23 (by decide) ?_
  refine t_iast C w hT hm_q3 ht_q3 (by decide) (by decide) rfl (vp_in_iff.mpr ⟨by decide, by decide⟩) (gof_no rfl) dX7_attemptAt_27 (fun f H locs w hT hR1 => ?_)
  have hE := hE.up hR1
  refine lv_aload_n hx hb dX7_attemptAt_28 rfl (lv_at hl 1 rfl) ?_
  refine lv_iconst (v := 1) hx hb dX7_attemptAt_29 (by decide) ?_
  have n1 : (1 : Int32).toInt = 1 := by decide
  refine t_callV (n := 1) C w hT hm_m_ ht_m_ (by decide) rfl rfl (c_X7_namesOf l D K b0 sa _ L4 _ Ψ4 hT m_ hm_m_ ht_m_ 1) gw_1445 gw_1442 gw_1444 gs_42 gw_8 ⟨by decide, by decide, by decide +kernel⟩ rfl rfl ⟨by decide, by decide⟩ rfl hl.1 rfl (Nat.le_of_ble_eq_true rfl) dX7_attemptAt_30 ⟨by decide, by decide⟩ (fun v u H locs hp w => ?_)
  obtain ⟨f2, rfl, rfl, hT2, hR1⟩ := hp
  have hE := hE.up hR1
  clear hT
  have hT := hT2
  clear hT2
  generalize f2 = f at w hT hE
  refine lv_iconst (v := 0) hx hb dX7_attemptAt_33 (by decide) ?_
  refine lv_istore_n (lv' := [(3, .int 0), (2, .ref q3), (0, .ref m_), (1, .int ce)]) hx hb dX7_attemptAt_34 rfl hl (by decide) rfl (fun ls hl => ?_)
  refine lv_iload_n hx hb dX7_attemptAt_35 rfl (lv_at hl 0 rfl) ?_
  refine lv_iconst (v := 5) hx hb dX7_attemptAt_36 (by decide) ?_
  refine lv_icmp_ge (tgt := 57) hx hb dX7_attemptAt_37 (by decide) (fun c0 => absurd c0 (by decide)) (fun _ => ?_)
  refine lv_aload_n hx hb dX7_attemptAt_40 rfl (lv_at hl 1 rfl) ?_
  refine lv_iconst (v := 4) hx hb dX7_attemptAt_41 (by decide) ?_
  refine lv_iload_n hx hb dX7_attemptAt_42 rfl (lv_at hl 0 rfl) ?_
  refine lv_iadd hx hb dX7_attemptAt_43 ?_
  refine lv_topi (fun y6 ey6 => ?_)
  obtain rfl : y6 = 4 := ey6.trans (by decide)
  refine lv_aload_n hx hb dX7_attemptAt_44 rfl (lv_at hl 2 rfl) ?_
  refine t_getr C w hT hm_m_ ht_m_ (by decide) rfl cin_7 17 (by decide) rfl gw_1173 dX7_attemptAt_45 (fun q7 hm_q7 ht_q7 => ?_)
  refine lv_iload_n hx hb dX7_attemptAt_48 rfl (lv_at hl 0 rfl) ?_
  refine t_iald C w hT hm_q7 ht_q7 (by decide) (by decide) rfl (vp_in_iff.mpr ⟨by decide, by decide⟩) dX7_attemptAt_49 (fun x8 hg => ?_)
  refine t_iast C w hT hm_q3 ht_q3 (by decide) (by decide) rfl (vp_in_iff.mpr ⟨by decide, by decide⟩) (gof_no rfl) dX7_attemptAt_50 (fun f H locs w hT hR1 => ?_)
  have hE := hE.up hR1
  refine lv_iinc (v := 1) (lv' := [(3, .int 1), (2, .ref q3), (0, .ref m_), (1, .int ce)]) hx hb dX7_attemptAt_51 hl (k := 0) rfl (by decide) (by decide) rfl (fun ls hl => ?_)
  refine lv_goto (tgt := 35) hx hb dX7_attemptAt_54 (by decide) ?_
  refine lv_iload_n hx hb dX7_attemptAt_35 rfl (lv_at hl 0 rfl) ?_
  refine lv_iconst (v := 5) hx hb dX7_attemptAt_36 (by decide) ?_
  refine lv_icmp_ge (tgt := 57) hx hb dX7_attemptAt_37 (by decide) (fun c0 => absurd c0 (by decide)) (fun _ => ?_)
  refine lv_aload_n hx hb dX7_attemptAt_40 rfl (lv_at hl 1 rfl) ?_
  refine lv_iconst (v := 4) hx hb dX7_attemptAt_41 (by decide) ?_
  refine lv_iload_n hx hb dX7_attemptAt_42 rfl (lv_at hl 0 rfl) ?_
  refine lv_iadd hx hb dX7_attemptAt_43 ?_
  refine lv_topi (fun y9 ey9 => ?_)
  obtain rfl : y9 = 5 := ey9.trans (by decide)
  refine lv_aload_n hx hb dX7_attemptAt_44 rfl (lv_at hl 2 rfl) ?_
  refine t_getr C w hT hm_m_ ht_m_ (by decide) rfl cin_7 17 (by decide) rfl gw_1173 dX7_attemptAt_45 (fun q10 hm_q10 ht_q10 => ?_)
  refine lv_iload_n hx hb dX7_attemptAt_48 rfl (lv_at hl 0 rfl) ?_
  refine t_iald C w hT hm_q10 ht_q10 (by decide) (by decide) rfl (vp_in_iff.mpr ⟨by decide, by decide⟩) dX7_attemptAt_49 (fun x11 hg => ?_)
  refine t_iast C w hT hm_q3 ht_q3 (by decide) (by decide) rfl (vp_in_iff.mpr ⟨by decide, by decide⟩) (gof_no rfl) dX7_attemptAt_50 (fun f H locs w hT hR1 => ?_)
  have hE := hE.up hR1
  refine lv_iinc (v := 2) (lv' := [(3, .int 2), (2, .ref q3), (0, .ref m_), (1, .int ce)]) hx hb dX7_attemptAt_51 hl (k := 0) rfl (by decide) (by decide) rfl (fun ls hl => ?_)
  refine lv_goto (tgt := 35) hx hb dX7_attemptAt_54 (by decide) ?_
  refine lv_iload_n hx hb dX7_attemptAt_35 rfl (lv_at hl 0 rfl) ?_
  refine lv_iconst (v := 5) hx hb dX7_attemptAt_36 (by decide) ?_
  refine lv_icmp_ge (tgt := 57) hx hb dX7_attemptAt_37 (by decide) (fun c0 => absurd c0 (by decide)) (fun _ => ?_)
  refine lv_aload_n hx hb dX7_attemptAt_40 rfl (lv_at hl 1 rfl) ?_
  refine lv_iconst (v := 4) hx hb dX7_attemptAt_41 (by decide) ?_
  refine lv_iload_n hx hb dX7_attemptAt_42 rfl (lv_at hl 0 rfl) ?_
  refine lv_iadd hx hb dX7_attemptAt_43 ?_
  refine lv_topi (fun y12 ey12 => ?_)
  obtain rfl : y12 = 6 := ey12.trans (by decide)
  refine lv_aload_n hx hb dX7_attemptAt_44 rfl (lv_at hl 2 rfl) ?_
  refine t_getr C w hT hm_m_ ht_m_ (by decide) rfl cin_7 17 (by decide) rfl gw_1173 dX7_attemptAt_45 (fun q13 hm_q13 ht_q13 => ?_)
  refine lv_iload_n hx hb dX7_attemptAt_48 rfl (lv_at hl 0 rfl) ?_
  refine t_iald C w hT hm_q13 ht_q13 (by decide) (by decide) rfl (vp_in_iff.mpr ⟨by decide, by decide⟩) dX7_attemptAt_49 (fun x14 hg => ?_)
  refine t_iast C w hT hm_q3 ht_q3 (by decide) (by decide) rfl (vp_in_iff.mpr ⟨by decide, by decide⟩) (gof_no rfl) dX7_attemptAt_50 (fun f H locs w hT hR1 => ?_)
  have hE := hE.up hR1
  refine lv_iinc (v := 3) (lv' := [(3, .int 3), (2, .ref q3), (0, .ref m_), (1, .int ce)]) hx hb dX7_attemptAt_51 hl (k := 0) rfl (by decide) (by decide) rfl (fun ls hl => ?_)
  refine lv_goto (tgt := 35) hx hb dX7_attemptAt_54 (by decide) ?_
  refine lv_iload_n hx hb dX7_attemptAt_35 rfl (lv_at hl 0 rfl) ?_
  refine lv_iconst (v := 5) hx hb dX7_attemptAt_36 (by decide) ?_
  refine lv_icmp_ge (tgt := 57) hx hb dX7_attemptAt_37 (by decide) (fun c0 => absurd c0 (by decide)) (fun _ => ?_)
  refine lv_aload_n hx hb dX7_attemptAt_40 rfl (lv_at hl 1 rfl) ?_
  refine lv_iconst (v := 4) hx hb dX7_attemptAt_41 (by decide) ?_
  refine lv_iload_n hx hb dX7_attemptAt_42 rfl (lv_at hl 0 rfl) ?_
  refine lv_iadd hx hb dX7_attemptAt_43 ?_
  refine lv_topi (fun y15 ey15 => ?_)
  obtain rfl : y15 = 7 := ey15.trans (by decide)
  refine lv_aload_n hx hb dX7_attemptAt_44 rfl (lv_at hl 2 rfl) ?_
  refine t_getr C w hT hm_m_ ht_m_ (by decide) rfl cin_7 17 (by decide) rfl gw_1173 dX7_attemptAt_45 (fun q16 hm_q16 ht_q16 => ?_)
  refine lv_iload_n hx hb dX7_attemptAt_48 rfl (lv_at hl 0 rfl) ?_
  refine t_iald C w hT hm_q16 ht_q16 (by decide) (by decide) rfl (vp_in_iff.mpr ⟨by decide, by decide⟩) dX7_attemptAt_49 (fun x17 hg => ?_)
  refine t_iast C w hT hm_q3 ht_q3 (by decide) (by decide) rfl (vp_in_iff.mpr ⟨by decide, by decide⟩) (gof_no rfl) dX7_attemptAt_50 (fun f H locs w hT hR1 => ?_)
  have hE := hE.up hR1
  refine lv_iinc (v := 4) (lv' := [(3, .int 4), (2, .ref q3), (0, .ref m_), (1, .int ce)]) hx hb dX7_attemptAt_51 hl (k := 0) rfl (by decide) (by decide) rfl (fun ls hl => ?_)
  refine lv_goto (tgt := 35) hx hb dX7_attemptAt_54 (by decide) ?_
  refine lv_iload_n hx hb dX7_attemptAt_35 rfl (lv_at hl 0 rfl) ?_
  refine lv_iconst (v := 5) hx hb dX7_attemptAt_36 (by decide) ?_
  refine lv_icmp_ge (tgt := 57) hx hb dX7_attemptAt_37 (by decide) (fun c0 => absurd c0 (by decide)) (fun _ => ?_)
  refine lv_aload_n hx hb dX7_attemptAt_40 rfl (lv_at hl 1 rfl) ?_
  refine lv_iconst (v := 4) hx hb dX7_attemptAt_41 (by decide) ?_
  refine lv_iload_n hx hb dX7_attemptAt_42 rfl (lv_at hl 0 rfl) ?_
  refine lv_iadd hx hb dX7_attemptAt_43 ?_
  refine lv_topi (fun y18 ey18 => ?_)
  obtain rfl : y18 = 8 := ey18.trans (by decide)
  refine lv_aload_n hx hb dX7_attemptAt_44 rfl (lv_at hl 2 rfl) ?_
  refine t_getr C w hT hm_m_ ht_m_ (by decide) rfl cin_7 17 (by decide) rfl gw_1173 dX7_attemptAt_45 (fun q19 hm_q19 ht_q19 => ?_)
  refine lv_iload_n hx hb dX7_attemptAt_48 rfl (lv_at hl 0 rfl) ?_
  refine t_iald C w hT hm_q19 ht_q19 (by decide) (by decide) rfl (vp_in_iff.mpr ⟨by decide, by decide⟩) dX7_attemptAt_49 (fun x20 hg => ?_)
  refine t_iast C w hT hm_q3 ht_q3 (by decide) (by decide) rfl (vp_in_iff.mpr ⟨by decide, by decide⟩) (gof_no rfl) dX7_attemptAt_50 (fun f H locs w hT hR1 => ?_)
  have hE := hE.up hR1
  refine lv_iinc (v := 5) (lv' := [(3, .int 5), (2, .ref q3), (0, .ref m_), (1, .int ce)]) hx hb dX7_attemptAt_51 hl (k := 0) rfl (by decide) (by decide) rfl (fun ls hl => ?_)
  refine lv_goto (tgt := 35) hx hb dX7_attemptAt_54 (by decide) ?_
  refine lv_iload_n hx hb dX7_attemptAt_35 rfl (lv_at hl 0 rfl) ?_
  refine lv_iconst (v := 5) hx hb dX7_attemptAt_36 (by decide) ?_
  refine lv_icmp_ge (tgt := 57) hx hb dX7_attemptAt_37 (by decide) (fun _ => ?_) (fun c0 => absurd c0 (by decide))
  refine lv_aload_n hx hb dX7_attemptAt_57 rfl (lv_at hl 2 rfl) ?_
  refine lv_aload_n hx hb dX7_attemptAt_58 rfl (lv_at hl 2 rfl) ?_
  refine t_geti C w hT hm_m_ ht_m_ (by decide) rfl cin_7 15 (by decide) rfl rfl gw_1171 dX7_attemptAt_59 (fun x21 hg => ?_)
  obtain rfl : x21 = (-1) := gof_at rfl hg
  refine t_callV (n := 1) C w hT hm_m_ ht_m_ (by decide) rfl rfl (c_X7_lotsBy l D K b0 sa _ L4 _ Ψ4 hT m_ hm_m_ ht_m_ (fun b c h1 h2 h3 h4 => (hno_7 b h1 h3).trans (hno_7 c h2 h4).symm)) gw_1449 gw_1446 gw_1448 gs_43 gw_8 ⟨by decide, by decide, by decide +kernel⟩ rfl rfl ⟨by decide, by decide⟩ rfl hl.1 rfl (Nat.le_of_ble_eq_true rfl) dX7_attemptAt_62 ⟨by decide, by decide⟩ (fun v u H locs hp w => ?_)
  obtain ⟨r22, f2, rfl, rfl, hT2, hR1, hrr22⟩ := hp
  have hE := hE.up hR1
  clear hT
  have hT := hT2
  clear hT2
  generalize f2 = f at w hT hE
  obtain rfl := hrr22
  refine lv_istore_n (lv' := [(3, .int 1), (2, .ref q3), (0, .ref m_), (1, .int ce)]) hx hb dX7_attemptAt_65 rfl hl (by decide) rfl (fun ls hl => ?_)
  refine lv_iload_n hx hb dX7_attemptAt_66 rfl (lv_at hl 0 rfl) ?_
  refine lv_iconst (v := 1) hx hb dX7_attemptAt_67 (by decide) ?_
  refine lv_icmp_le (tgt := 79) hx hb dX7_attemptAt_68 (by decide) (fun _ => ?_) (fun c0 => absurd c0 (by decide))
  refine lv_iconst (v := 0) hx hb dX7_attemptAt_79 (by decide) ?_
  refine lv_istore (lv' := [(4, .int 0), (3, .int 1), (2, .ref q3), (0, .ref m_), (1, .int ce)]) hx hb dX7_attemptAt_80 hl (by decide) rfl (fun ls hl => ?_)
  refine lv_aload_n hx hb dX7_attemptAt_82 rfl (lv_at hl 3 rfl) ?_
  refine t_geti C w hT hm_m_ ht_m_ (by decide) rfl cin_7 30 (by decide) rfl rfl gw_1186 dX7_attemptAt_83 (fun x23 hg => ?_)
  obtain rfl : x23 = 63 := gof_at rfl hg
  refine lv_istore (lv' := [(5, .int 63), (4, .int 0), (3, .int 1), (2, .ref q3), (0, .ref m_), (1, .int ce)]) hx hb dX7_attemptAt_86 hl (by decide) rfl (fun ls hl => ?_)
  refine lv_aload_n hx hb dX7_attemptAt_88 rfl (lv_at hl 4 rfl) ?_
  refine lv_iload_n hx hb dX7_attemptAt_89 rfl (lv_at hl 5 rfl) ?_
  refine t_callV (n := 1) C w hT hm_m_ ht_m_ (by decide) rfl rfl (c_X7_grips l D K b0 sa _ L4 _ Ψ4 (hT.mono (gof_sub rfl)) m_ hm_m_ ht_m_ ce (by omega) (by omega)) gw_1531 gw_1528 gw_1530 gs_53 gw_8 ⟨by decide, by decide, by decide +kernel⟩ rfl rfl ⟨by decide, by decide⟩ rfl hl.1 rfl (Nat.le_of_ble_eq_true rfl) dX7_attemptAt_90 ⟨by decide, by decide⟩ (fun v u H locs hp w => ?_)
  obtain ⟨f2, rfl, rfl, hT2, hR1⟩ := hp
  have hE := hE.up hR1
  clear hT
  have hT := hT2
  clear hT2
  generalize f2 = f at w hT hE
  refine lv_aload_n hx hb dX7_attemptAt_93 rfl (lv_at hl 3 rfl) ?_
  refine lv_bipush (v := 10) hx hb dX7_attemptAt_94 (by decide) ?_
  refine lv_aload_n hx hb dX7_attemptAt_96 rfl (lv_at hl 4 rfl) ?_
  refine t_geti C w hT hm_m_ ht_m_ (by decide) rfl cin_7 44 (by decide) rfl rfl gw_1200 dX7_attemptAt_97 (fun x24 hg => ?_)
  refine t_iast C w hT hm_q3 ht_q3 (by decide) (by decide) rfl (vp_in_iff.mpr ⟨by decide, by decide⟩) (gof_no rfl) dX7_attemptAt_100 (fun f H locs w hT hR1 => ?_)
  have hE := hE.up hR1
  refine lv_aload_n hx hb dX7_attemptAt_101 rfl (lv_at hl 3 rfl) ?_
  refine lv_bipush (v := 11) hx hb dX7_attemptAt_102 (by decide) ?_
  refine lv_aload_n hx hb dX7_attemptAt_104 rfl (lv_at hl 4 rfl) ?_
  refine t_geti C w hT hm_m_ ht_m_ (by decide) rfl cin_7 45 (by decide) rfl rfl gw_1201 dX7_attemptAt_105 (fun x25 hg => ?_)
  refine t_iast C w hT hm_q3 ht_q3 (by decide) (by decide) rfl (vp_in_iff.mpr ⟨by decide, by decide⟩) (gof_no rfl) dX7_attemptAt_108 (fun f H locs w hT hR1 => ?_)
  have hE := hE.up hR1
  refine lv_aload_n hx hb dX7_attemptAt_109 rfl (lv_at hl 3 rfl) ?_
  refine lv_bipush (v := 12) hx hb dX7_attemptAt_110 (by decide) ?_
  refine lv_iload hx hb dX7_attemptAt_112 (lv_at hl 0 rfl) ?_
  refine t_iast C w hT hm_q3 ht_q3 (by decide) (by decide) rfl (vp_in_iff.mpr ⟨by decide, by decide⟩) (gof_no rfl) dX7_attemptAt_114 (fun f H locs w hT hR1 => ?_)
  have hE := hE.up hR1
  refine lv_aload_n hx hb dX7_attemptAt_115 rfl (lv_at hl 4 rfl) ?_
  refine lv_iload_n hx hb dX7_attemptAt_116 rfl (lv_at hl 5 rfl) ?_
  refine lv_iload hx hb dX7_attemptAt_117 (lv_at hl 1 rfl) ?_
  refine t_callV (n := 2) C w hT hm_m_ ht_m_ (by decide) rfl rfl (c_X7_triesAt l D K b0 sa _ L4 _ Ψ4 hT m_ hm_m_ ht_m_ ce (by omega) (by omega) 0 (fun b c h1 h2 h3 h4 => (hno_7 b h1 h3).trans (hno_7 c h2 h4).symm)) gw_1557 gw_1554 gw_1556 gs_57 gw_8 ⟨by decide, by decide, by decide +kernel⟩ rfl rfl ⟨by decide, by decide⟩ rfl hl.1 rfl (Nat.le_of_ble_eq_true rfl) dX7_attemptAt_119 ⟨by decide, by decide⟩ (fun v u H locs hp w => ?_)
  obtain ⟨f2, rfl, rfl, hT2, hR1⟩ := hp
  have hE := hE.up hR1
  clear hT
  have hT := hT2
  clear hT2
  generalize f2 = f at w hT hE
  refine lv_aload_n hx hb dX7_attemptAt_122 rfl (lv_at hl 3 rfl) ?_
  refine lv_iconst (v := 0) hx hb dX7_attemptAt_123 (by decide) ?_
  refine lv_iload_n hx hb dX7_attemptAt_124 rfl (lv_at hl 5 rfl) ?_
  refine t_iast C w hT hm_q3 ht_q3 (by decide) (by decide) rfl (vp_in_iff.mpr ⟨by decide, by decide⟩) (gof_no rfl) dX7_attemptAt_125 (fun f H locs w hT hR1 => ?_)
  have hE := hE.up hR1
  refine lv_aload_n hx hb dX7_attemptAt_126 rfl (lv_at hl 3 rfl) ?_
  refine lv_iconst (v := 1) hx hb dX7_attemptAt_127 (by decide) ?_
  refine lv_aload_n hx hb dX7_attemptAt_128 rfl (lv_at hl 4 rfl) ?_
  refine t_geti C w hT hm_m_ ht_m_ (by decide) rfl cin_7 41 (by decide) rfl rfl gw_1197 dX7_attemptAt_129 (fun x26 hg => ?_)
  obtain rfl : x26 = 0 := gof_at rfl hg
  refine t_iast C w hT hm_q3 ht_q3 (by decide) (by decide) rfl (vp_in_iff.mpr ⟨by decide, by decide⟩) (gof_no rfl) dX7_attemptAt_132 (fun f H locs w hT hR1 => ?_)
  have hE := hE.up hR1
  refine lv_aload_n hx hb dX7_attemptAt_133 rfl (lv_at hl 3 rfl) ?_
  refine lv_iconst (v := 2) hx hb dX7_attemptAt_134 (by decide) ?_
  refine lv_aload_n hx hb dX7_attemptAt_135 rfl (lv_at hl 4 rfl) ?_
  refine t_geti C w hT hm_m_ ht_m_ (by decide) rfl cin_7 41 (by decide) rfl rfl gw_1197 dX7_attemptAt_136 (fun x27 hg => ?_)
  obtain rfl : x27 = 0 := gof_at rfl hg
  refine lv_iconst (v := 3) hx hb dX7_attemptAt_139 (by decide) ?_
  refine lv_icmp_ne (tgt := 150) hx hb dX7_attemptAt_140 (by decide) (fun _ => ?_) (fun c0 => absurd c0 (by decide))
  refine lv_iconst (v := (-1)) hx hb dX7_attemptAt_150 (by decide) ?_
  refine t_iast C w hT hm_q3 ht_q3 (by decide) (by decide) rfl (vp_in_iff.mpr ⟨by decide, by decide⟩) (gof_no rfl) dX7_attemptAt_151 (fun f H locs w hT hR1 => ?_)
  have hE := hE.up hR1
  refine lv_aload_n hx hb dX7_attemptAt_152 rfl (lv_at hl 3 rfl) ?_
  refine lv_iconst (v := 3) hx hb dX7_attemptAt_153 (by decide) ?_
  refine lv_iload hx hb dX7_attemptAt_154 (lv_at hl 1 rfl) ?_
  refine t_iast C w hT hm_q3 ht_q3 (by decide) (by decide) rfl (vp_in_iff.mpr ⟨by decide, by decide⟩) (gof_no rfl) dX7_attemptAt_156 (fun f H locs w hT hR1 => ?_)
  have hE := hE.up hR1
  refine lv_aload_n hx hb dX7_attemptAt_157 rfl (lv_at hl 4 rfl) ?_
  refine lv_dup hx hb dX7_attemptAt_158 rfl ?_
  refine t_geti C w hT hm_m_ ht_m_ (by decide) rfl cin_7 46 (by decide) rfl rfl gw_1202 dX7_attemptAt_159 (fun x28 hg => ?_)
  obtain rfl : x28 = 0 := gof_at rfl hg
  refine lv_iconst (v := 1) hx hb dX7_attemptAt_162 (by decide) ?_
  refine lv_iadd hx hb dX7_attemptAt_163 ?_
  refine lv_topi (fun y29 ey29 => ?_)
  obtain rfl : y29 = 1 := ey29.trans (by decide)
  refine t_putS C w hT hm_m_ ht_m_ (fun b h1 h2 => (hno_7 b h1 h2).trans (hno_7 m_ hm_m_ ht_m_).symm) (by decide) rfl cin_7 tyX7 tyX7_ok nmX7 46 (by decide) rfl rfl rfl rfl rfl gw_1202 dX7_attemptAt_164 (fun f H locs w hT hR1 => ?_)
  have hT := hT.mono gof_set
  have hE := hE.up hR1
  refine lv_aload_n hx hb dX7_attemptAt_167 rfl (lv_at hl 4 rfl) ?_
  refine t_geti C w hT hm_m_ ht_m_ (by decide) rfl cin_7 41 (by decide) rfl rfl gw_1197 dX7_attemptAt_168 (fun x30 hg => ?_)
  obtain rfl : x30 = 0 := gof_at rfl hg
  exact t_iret C hr hlk w ⟨_, _, _, _, rfl, rfl, (hT.mono (gof_sub rfl)), hE, rfl⟩ (by decide) (by decide) dX7_attemptAt_171
set_option maxHeartbeats 4000000 in
set_option maxRecDepth 100000 in
theorem c_X7_attempt (l : Launch) (D : va_G) (K : Nat → ClassId) (b0 : Nat) (sa : Nat × Nat × Nat) (sz : Nat) (L : List Nat) (f0 : Nat → va_E) (Ψ : Nat → Nat) (hT : TW K (gof gM0) Ψ L f0) (m_ : Nat) (hm_m_ : m_ ∈ L) (ht_m_ : Ψ m_ = 7) (ce : Int32) (hu_7 : ∀ b c : Nat, b ∈ L → c ∈ L → Ψ b = 7 → Ψ c = 7 → b = c) : Met l yX7_attempt (.code yX7_attempt cX7_attempt 2 (some .int) :: gt) { frames := 5, cells := 2, slots := 72, locals := 121 } (va_Pc [.ref m_, .int ce] (hPre D K b0 sa sz L f0)) (hQ D K b0 (fun v9 u9 => ∃ (r : Int32) (th : Int32) (Ψ2 : Nat → Nat) (L2 : List Nat) (f2 : Nat → va_E), v9 = some (.int r) ∧ u9 = (gof [(700, th)], Ψ2, L2, f2) ∧ TW K (gof [(700, th)]) Ψ2 L2 f2 ∧ Ex [9, 40] (fun _ => False) Ψ L f0 Ψ2 L2 f2 ∧ ((r = 0 ∧ th = 1 ∧ (¬ (0 ≤ ce.toInt ∧ ce.toInt ≤ 63))) ∨ (r = 0 ∧ th = 0 ∧ (0 ≤ ce.toInt) ∧ (ce.toInt ≤ 63))))) 2 72 (fun q => b0 ≤ q) := by
  refine t_of (own := RX7) (by decide) rfl ?_ (Nat.le_of_ble_eq_true rfl)
  intro p e s m below meth c ls C w hsz hr hlk hnm hl
  have hx := C.1
  have hb := C.2.1
  have hl : lv_has ls 2 [(0, .ref m_), (1, .int ce)] := hl
  have hb_ce := ti_bd ce
  have hE : Ex [9, 40] (fun _ => False) Ψ L f0 Ψ L f0 := Ex.rf
  have hno_7 : No (fun b => b = m_) 7 Ψ L := fun b h1 h2 => hu_7 b m_ h1 hm_m_ h2 ht_m_
  refine lv_aload_n hx hb dX7_attempt_0 rfl (lv_at hl 0 rfl) ?_
  refine lv_iconst (v := 0) hx hb dX7_attempt_1 (by decide) ?_
  refine t_puti C w hT hm_m_ ht_m_ (by decide) rfl cin_7 tyX7 tyX7_ok nmX7 0 (by decide) rfl rfl rfl rfl rfl (gof_is rfl) gw_1156 dX7_attempt_2 (fun f H locs w hT hR1 => ?_)
  have hE := hE.up hR1
  refine lv_aload_n hx hb dX7_attempt_5 rfl (lv_at hl 0 rfl) ?_
  refine lv_iload_n hx hb dX7_attempt_6 rfl (lv_at hl 1 rfl) ?_
  refine t_callS (n := 1) C w (c_X7_isCell l D K b0 sa _ L _ Ψ (gof gM0) hT ce) gw_1467 gw_1465 gw_1466 gw_8 ⟨by decide, by decide, by decide +kernel⟩ rfl rfl ⟨by decide, by decide⟩ rfl hl.1 rfl (Nat.le_of_ble_eq_true rfl) dX7_attempt_7 ⟨by decide, by decide⟩ (fun v u H locs hp w => ?_)
  obtain ⟨r1, rfl, rfl, hrr1⟩ := hp
  rcases hrr1 with ⟨rfl, hf0_r1, hf1_r1⟩ | ⟨rfl, hf0_r1⟩
  ·
    refine lv_if_ne (tgt := 17) hx hb dX7_attempt_10 (by decide) (fun _ => ?_) (fun c0 => absurd c0 (by decide))
    refine lv_iconst (v := 0) hx hb dX7_attempt_17 (by decide) ?_
    refine lv_iconst (v := 1) hx hb dX7_attempt_18 (by decide) ?_
    have n1 : (1 : Int32).toInt = 1 := by decide
    refine t_callV (n := 2) C w hT hm_m_ ht_m_ (by decide) rfl rfl (c_X7_bad0 l D K b0 sa _ L _ Ψ (hT.mono (gof_sub rfl)) m_ hm_m_ ht_m_ 1) gw_1347 gw_1344 gw_1346 gs_22 gw_8 ⟨by decide, by decide, by decide +kernel⟩ rfl rfl ⟨by decide, by decide⟩ rfl hl.1 rfl (Nat.le_of_ble_eq_true rfl) dX7_attempt_19 ⟨by decide, by decide⟩ (fun v u H locs hp w => ?_)
    obtain ⟨r2, rfl, rfl, hrr2⟩ := hp
    obtain rfl := hrr2
    refine lv_if_eq (tgt := 27) hx hb dX7_attempt_22 (by decide) (fun _ => ?_) (fun c0 => absurd c0 (by decide))
    refine lv_aload_n hx hb dX7_attempt_27 rfl (lv_at hl 0 rfl) ?_
    refine t_geti C w hT hm_m_ ht_m_ (by decide) rfl cin_7 46 (by decide) rfl rfl gw_1202 dX7_attempt_28 (fun x3 hg => ?_)
    obtain rfl : x3 = 0 := gof_at rfl hg
    refine lv_sipush (v := 200) hx hb dX7_attempt_31 (by decide) ?_
    refine lv_icmp_ne (tgt := 41) hx hb dX7_attempt_34 (by decide) (fun _ => ?_) (fun c0 => absurd c0 (by decide))
    refine lv_aload_n hx hb dX7_attempt_41 rfl (lv_at hl 0 rfl) ?_
    refine lv_iload_n hx hb dX7_attempt_42 rfl (lv_at hl 1 rfl) ?_
    refine t_callV (n := 1) C w hT hm_m_ ht_m_ (by decide) rfl rfl (c_X7_attemptAt l D K b0 sa _ L _ Ψ (hT.mono (gof_sub rfl)) m_ hm_m_ ht_m_ ce (by omega) (by omega) (fun b c h1 h2 h3 h4 => (hno_7 b h1 h3).trans (hno_7 c h2 h4).symm)) gw_1519 gw_1516 gw_1518 gs_50 gw_8 ⟨by decide, by decide, by decide +kernel⟩ rfl rfl ⟨by decide, by decide⟩ rfl hl.1 rfl (Nat.le_of_ble_eq_true rfl) dX7_attempt_43 ⟨by decide, by decide⟩ (fun v u H locs hp w => ?_)
    obtain ⟨r5, Ψ4, L4, f2, rfl, rfl, hT2, hE2, hrr5⟩ := hp
    have hE := hE.tr hE2 (by decide) (fun b e9 => e9.elim) (fun b e9 => e9.elim)
    have hsp := hE2.sp hm_m_ (fun e9 => e9)
    have ht_m_ := hsp.2.1.trans ht_m_
    have hm_m_ := hsp.1
    have hno_7 := hno_7.call hE2 (by decide) (fun b e9 => e9.elim)
    clear hT
    have hT := hT2
    clear hT2 hE2
    generalize f2 = f at w hT hE
    obtain rfl := hrr5
    have n0 : (0 : Int32).toInt = 0 := by decide
    exact t_iret C hr hlk w ⟨_, 0, _, _, _, rfl, rfl, hT.mono (gof_sub rfl), hE, Or.inr (⟨rfl, rfl, (by omega), (by omega)⟩)⟩ (by decide) (by decide) dX7_attempt_46
  ·
    refine lv_if_ne (tgt := 17) hx hb dX7_attempt_10 (by decide) (fun c0 => absurd c0 (by decide)) (fun _ => ?_)
    refine lv_iconst (v := 1) hx hb dX7_attempt_13 (by decide) ?_
    refine lv_goto (tgt := 18) hx hb dX7_attempt_14 (by decide) ?_
    refine lv_iconst (v := 1) hx hb dX7_attempt_18 (by decide) ?_
    refine t_callV (n := 2) C w hT hm_m_ ht_m_ (by decide) rfl rfl (c_X7_bad1 l D K b0 sa _ L _ Ψ hT m_ hm_m_ ht_m_ (fun b c h1 h2 h3 h4 => (hno_7 b h1 h3).trans (hno_7 c h2 h4).symm)) gw_1347 gw_1344 gw_1346 gs_22 gw_8 ⟨by decide, by decide, by decide +kernel⟩ rfl rfl ⟨by decide, by decide⟩ rfl hl.1 rfl (Nat.le_of_ble_eq_true rfl) dX7_attempt_19 ⟨by decide, by decide⟩ (fun v u H locs hp w => ?_)
    obtain ⟨r6, f2, rfl, rfl, hT2, hR1, hrr6⟩ := hp
    have hE := hE.up hR1
    clear hT
    have hT := hT2
    clear hT2
    generalize f2 = f at w hT hE
    obtain rfl := hrr6
    refine lv_if_eq (tgt := 27) hx hb dX7_attempt_22 (by decide) (fun c0 => absurd c0 (by decide)) (fun _ => ?_)
    refine lv_iconst (v := 0) hx hb dX7_attempt_25 (by decide) ?_
    have n0 : (0 : Int32).toInt = 0 := by decide
    exact t_iret C hr hlk w ⟨_, 1, _, _, _, rfl, rfl, hT.mono (gof_sub rfl), hE, Or.inl ⟨rfl, rfl, (by omega)⟩⟩ (by decide) (by decide) dX7_attempt_26
