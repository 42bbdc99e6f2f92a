theorem dX7_byteAt_0 : decode cX7_byteAt 0 = .ok (.iload_n 1, 1) := by decide +kernel
theorem dX7_byteAt_1 : decode cX7_byteAt 1 = .ok (.aload_n 0, 1) := by decide +kernel
theorem dX7_byteAt_2 : decode cX7_byteAt 2 = .ok (.getfield 107, 3) := by decide +kernel
theorem dX7_byteAt_5 : decode cX7_byteAt 5 = .ok (.if_icmp .lt 7, 3) := by decide +kernel
theorem dX7_byteAt_8 : decode cX7_byteAt 8 = .ok (.iconst (-1), 1) := by decide +kernel
theorem dX7_byteAt_9 : decode cX7_byteAt 9 = .ok (.goto 31, 3) := by decide +kernel
theorem dX7_byteAt_12 : decode cX7_byteAt 12 = .ok (.aload_n 0, 1) := by decide +kernel
theorem dX7_byteAt_13 : decode cX7_byteAt 13 = .ok (.getfield 110, 3) := by decide +kernel
theorem dX7_byteAt_16 : decode cX7_byteAt 16 = .ok (.iconst (-1), 1) := by decide +kernel
theorem dX7_byteAt_17 : decode cX7_byteAt 17 = .ok (.if_icmp .ne 12, 3) := by decide +kernel
theorem dX7_byteAt_20 : decode cX7_byteAt 20 = .ok (.aload_n 0, 1) := by decide +kernel
theorem dX7_byteAt_21 : decode cX7_byteAt 21 = .ok (.getfield 15, 3) := by decide +kernel
theorem dX7_byteAt_24 : decode cX7_byteAt 24 = .ok (.iload_n 1, 1) := by decide +kernel
theorem dX7_byteAt_25 : decode cX7_byteAt 25 = .ok (.iaload, 1) := by decide +kernel
theorem dX7_byteAt_26 : decode cX7_byteAt 26 = .ok (.goto 14, 3) := by decide +kernel
theorem dX7_byteAt_29 : decode cX7_byteAt 29 = .ok (.aload_n 0, 1) := by decide +kernel
theorem dX7_byteAt_30 : decode cX7_byteAt 30 = .ok (.getfield 21, 3) := by decide +kernel
theorem dX7_byteAt_33 : decode cX7_byteAt 33 = .ok (.aload_n 0, 1) := by decide +kernel
theorem dX7_byteAt_34 : decode cX7_byteAt 34 = .ok (.getfield 110, 3) := by decide +kernel
theorem dX7_byteAt_37 : decode cX7_byteAt 37 = .ok (.aaload, 1) := by decide +kernel
theorem dX7_byteAt_38 : decode cX7_byteAt 38 = .ok (.iload_n 1, 1) := by decide +kernel
theorem dX7_byteAt_39 : decode cX7_byteAt 39 = .ok (.iaload, 1) := by decide +kernel
theorem dX7_byteAt_40 : decode cX7_byteAt 40 = .ok (.ireturn, 1) := by decide +kernel
theorem dX7_blanks_0 : decode cX7_blanks 0 = .ok (.aload_n 0, 1) := by decide +kernel
theorem dX7_blanks_1 : decode cX7_blanks 1 = .ok (.aload_n 0, 1) := by decide +kernel
theorem dX7_blanks_2 : decode cX7_blanks 2 = .ok (.getfield 113, 3) := by decide +kernel
theorem dX7_blanks_5 : decode cX7_blanks 5 = .ok (.invokevirtual 116, 3) := by decide +kernel
theorem dX7_blanks_8 : decode cX7_blanks 8 = .ok (.bipush 32, 2) := by decide +kernel
theorem dX7_blanks_10 : decode cX7_blanks 10 = .ok (.if_icmp .ne 16, 3) := by decide +kernel
theorem dX7_blanks_13 : decode cX7_blanks 13 = .ok (.aload_n 0, 1) := by decide +kernel
theorem dX7_blanks_14 : decode cX7_blanks 14 = .ok (.dup, 1) := by decide +kernel
theorem dX7_blanks_15 : decode cX7_blanks 15 = .ok (.getfield 113, 3) := by decide +kernel
theorem dX7_blanks_18 : decode cX7_blanks 18 = .ok (.iconst 1, 1) := by decide +kernel
theorem dX7_blanks_19 : decode cX7_blanks 19 = .ok (.iadd, 1) := by decide +kernel
theorem dX7_blanks_20 : decode cX7_blanks 20 = .ok (.putfield 113, 3) := by decide +kernel
theorem dX7_blanks_23 : decode cX7_blanks 23 = .ok (.goto (-23), 3) := by decide +kernel
theorem dX7_blanks_26 : decode cX7_blanks 26 = .ok (.return_, 1) := by decide +kernel
theorem dX7_isDigit_0 : decode cX7_isDigit 0 = .ok (.iload_n 0, 1) := by decide +kernel
theorem dX7_isDigit_1 : decode cX7_isDigit 1 = .ok (.bipush 48, 2) := by decide +kernel
theorem dX7_isDigit_3 : decode cX7_isDigit 3 = .ok (.if_icmp .lt 13, 3) := by decide +kernel
theorem dX7_isDigit_6 : decode cX7_isDigit 6 = .ok (.iload_n 0, 1) := by decide +kernel
theorem dX7_isDigit_7 : decode cX7_isDigit 7 = .ok (.bipush 57, 2) := by decide +kernel
theorem dX7_isDigit_9 : decode cX7_isDigit 9 = .ok (.if_icmp .gt 7, 3) := by decide +kernel
theorem dX7_isDigit_12 : decode cX7_isDigit 12 = .ok (.iconst 1, 1) := by decide +kernel
theorem dX7_isDigit_13 : decode cX7_isDigit 13 = .ok (.goto 4, 3) := by decide +kernel
theorem dX7_isDigit_16 : decode cX7_isDigit 16 = .ok (.iconst 0, 1) := by decide +kernel
theorem dX7_isDigit_17 : decode cX7_isDigit 17 = .ok (.ireturn, 1) := by decide +kernel
theorem dX7_wordHere_0 : decode cX7_wordHere 0 = .ok (.aload_n 0, 1) := by decide +kernel
theorem dX7_wordHere_1 : decode cX7_wordHere 1 = .ok (.invokevirtual 134, 3) := by decide +kernel
theorem dX7_wordHere_4 : decode cX7_wordHere 4 = .ok (.iconst 0, 1) := by decide +kernel
theorem dX7_wordHere_5 : decode cX7_wordHere 5 = .ok (.istore_n 1, 1) := by decide +kernel
theorem dX7_wordHere_6 : decode cX7_wordHere 6 = .ok (.iconst 0, 1) := by decide +kernel
theorem dX7_wordHere_7 : decode cX7_wordHere 7 = .ok (.istore_n 2, 1) := by decide +kernel
theorem dX7_wordHere_8 : decode cX7_wordHere 8 = .ok (.aload_n 0, 1) := by decide +kernel
theorem dX7_wordHere_9 : decode cX7_wordHere 9 = .ok (.aload_n 0, 1) := by decide +kernel
theorem dX7_wordHere_10 : decode cX7_wordHere 10 = .ok (.getfield 113, 3) := by decide +kernel
theorem dX7_wordHere_13 : decode cX7_wordHere 13 = .ok (.iload_n 2, 1) := by decide +kernel
theorem dX7_wordHere_14 : decode cX7_wordHere 14 = .ok (.iadd, 1) := by decide +kernel
theorem dX7_wordHere_15 : decode cX7_wordHere 15 = .ok (.invokevirtual 116, 3) := by decide +kernel
theorem dX7_wordHere_18 : decode cX7_wordHere 18 = .ok (.bipush 97, 2) := by decide +kernel
theorem dX7_wordHere_20 : decode cX7_wordHere 20 = .ok (.if_icmp .lt 54, 3) := by decide +kernel
theorem dX7_wordHere_23 : decode cX7_wordHere 23 = .ok (.aload_n 0, 1) := by decide +kernel
theorem dX7_wordHere_24 : decode cX7_wordHere 24 = .ok (.aload_n 0, 1) := by decide +kernel
theorem dX7_wordHere_25 : decode cX7_wordHere 25 = .ok (.getfield 113, 3) := by decide +kernel
theorem dX7_wordHere_28 : decode cX7_wordHere 28 = .ok (.iload_n 2, 1) := by decide +kernel
theorem dX7_wordHere_29 : decode cX7_wordHere 29 = .ok (.iadd, 1) := by decide +kernel
theorem dX7_wordHere_30 : decode cX7_wordHere 30 = .ok (.invokevirtual 116, 3) := by decide +kernel
theorem dX7_wordHere_33 : decode cX7_wordHere 33 = .ok (.bipush 122, 2) := by decide +kernel
theorem dX7_wordHere_35 : decode cX7_wordHere 35 = .ok (.if_icmp .gt 39, 3) := by decide +kernel
theorem dX7_wordHere_38 : decode cX7_wordHere 38 = .ok (.iload_n 2, 1) := by decide +kernel
theorem dX7_wordHere_39 : decode cX7_wordHere 39 = .ok (.iconst 5, 1) := by decide +kernel
theorem dX7_wordHere_40 : decode cX7_wordHere 40 = .ok (.if_icmp .ge 26, 3) := by decide +kernel
theorem dX7_wordHere_43 : decode cX7_wordHere 43 = .ok (.bipush 27, 2) := by decide +kernel
theorem dX7_wordHere_45 : decode cX7_wordHere 45 = .ok (.iload_n 1, 1) := by decide +kernel
theorem dX7_wordHere_46 : decode cX7_wordHere 46 = .ok (.imul, 1) := by decide +kernel
theorem dX7_wordHere_47 : decode cX7_wordHere 47 = .ok (.aload_n 0, 1) := by decide +kernel
theorem dX7_wordHere_48 : decode cX7_wordHere 48 = .ok (.aload_n 0, 1) := by decide +kernel
theorem dX7_wordHere_49 : decode cX7_wordHere 49 = .ok (.getfield 113, 3) := by decide +kernel
theorem dX7_wordHere_52 : decode cX7_wordHere 52 = .ok (.iload_n 2, 1) := by decide +kernel
theorem dX7_wordHere_53 : decode cX7_wordHere 53 = .ok (.iadd, 1) := by decide +kernel
theorem dX7_wordHere_54 : decode cX7_wordHere 54 = .ok (.invokevirtual 116, 3) := by decide +kernel
theorem dX7_wordHere_57 : decode cX7_wordHere 57 = .ok (.iadd, 1) := by decide +kernel
theorem dX7_wordHere_58 : decode cX7_wordHere 58 = .ok (.bipush 97, 2) := by decide +kernel
theorem dX7_wordHere_60 : decode cX7_wordHere 60 = .ok (.isub, 1) := by decide +kernel
theorem dX7_wordHere_61 : decode cX7_wordHere 61 = .ok (.iconst 1, 1) := by decide +kernel
theorem dX7_wordHere_62 : decode cX7_wordHere 62 = .ok (.iadd, 1) := by decide +kernel
theorem dX7_wordHere_63 : decode cX7_wordHere 63 = .ok (.goto 4, 3) := by decide +kernel
theorem dX7_wordHere_66 : decode cX7_wordHere 66 = .ok (.iload_n 1, 1) := by decide +kernel
theorem dX7_wordHere_67 : decode cX7_wordHere 67 = .ok (.istore_n 1, 1) := by decide +kernel
theorem dX7_wordHere_68 : decode cX7_wordHere 68 = .ok (.iinc 2 1, 3) := by decide +kernel
theorem dX7_wordHere_71 : decode cX7_wordHere 71 = .ok (.goto (-63), 3) := by decide +kernel
theorem dX7_wordHere_74 : decode cX7_wordHere 74 = .ok (.iload_n 2, 1) := by decide +kernel
theorem dX7_wordHere_75 : decode cX7_wordHere 75 = .ok (.iconst 5, 1) := by decide +kernel
theorem dX7_wordHere_76 : decode cX7_wordHere 76 = .ok (.if_icmp .le 7, 3) := by decide +kernel
theorem dX7_wordHere_79 : decode cX7_wordHere 79 = .ok (.iconst (-1), 1) := by decide +kernel
theorem dX7_wordHere_80 : decode cX7_wordHere 80 = .ok (.goto 4, 3) := by decide +kernel
theorem dX7_wordHere_83 : decode cX7_wordHere 83 = .ok (.iload_n 1, 1) := by decide +kernel
theorem dX7_wordHere_84 : decode cX7_wordHere 84 = .ok (.ireturn, 1) := by decide +kernel
theorem dX7_word_0 : decode cX7_word 0 = .ok (.bipush 27, 2) := by decide +kernel
theorem dX7_word_2 : decode cX7_word 2 = .ok (.iload_n 0, 1) := by decide +kernel
theorem dX7_word_3 : decode cX7_word 3 = .ok (.imul, 1) := by decide +kernel
theorem dX7_word_4 : decode cX7_word 4 = .ok (.iload_n 1, 1) := by decide +kernel
theorem dX7_word_5 : decode cX7_word 5 = .ok (.iadd, 1) := by decide +kernel
theorem dX7_word_6 : decode cX7_word 6 = .ok (.istore 5, 2) := by decide +kernel
theorem dX7_word_8 : decode cX7_word 8 = .ok (.iload_n 2, 1) := by decide +kernel
theorem dX7_word_9 : decode cX7_word 9 = .ok (.ifCond .ne 8, 3) := by decide +kernel
theorem dX7_word_12 : decode cX7_word 12 = .ok (.iload 5, 2) := by decide +kernel
theorem dX7_word_14 : decode cX7_word 14 = .ok (.goto 10, 3) := by decide +kernel
theorem dX7_word_17 : decode cX7_word 17 = .ok (.bipush 27, 2) := by decide +kernel
theorem dX7_word_19 : decode cX7_word 19 = .ok (.iload 5, 2) := by decide +kernel
theorem dX7_word_21 : decode cX7_word 21 = .ok (.imul, 1) := by decide +kernel
theorem dX7_word_22 : decode cX7_word 22 = .ok (.iload_n 2, 1) := by decide +kernel
theorem dX7_word_23 : decode cX7_word 23 = .ok (.iadd, 1) := by decide +kernel
theorem dX7_word_24 : decode cX7_word 24 = .ok (.istore 5, 2) := by decide +kernel
theorem dX7_word_26 : decode cX7_word 26 = .ok (.iload_n 3, 1) := by decide +kernel
theorem dX7_word_27 : decode cX7_word 27 = .ok (.ifCond .ne 8, 3) := by decide +kernel
theorem dX7_word_30 : decode cX7_word 30 = .ok (.iload 5, 2) := by decide +kernel
theorem dX7_word_32 : decode cX7_word 32 = .ok (.goto 10, 3) := by decide +kernel
theorem dX7_word_35 : decode cX7_word 35 = .ok (.bipush 27, 2) := by decide +kernel
theorem dX7_word_37 : decode cX7_word 37 = .ok (.iload 5, 2) := by decide +kernel
theorem dX7_word_39 : decode cX7_word 39 = .ok (.imul, 1) := by decide +kernel
theorem dX7_word_40 : decode cX7_word 40 = .ok (.iload_n 3, 1) := by decide +kernel
theorem dX7_word_41 : decode cX7_word 41 = .ok (.iadd, 1) := by decide +kernel
theorem dX7_word_42 : decode cX7_word 42 = .ok (.istore 5, 2) := by decide +kernel
theorem dX7_word_44 : decode cX7_word 44 = .ok (.iload 4, 2) := by decide +kernel
theorem dX7_word_46 : decode cX7_word 46 = .ok (.ifCond .ne 8, 3) := by decide +kernel
theorem dX7_word_49 : decode cX7_word 49 = .ok (.iload 5, 2) := by decide +kernel
theorem dX7_word_51 : decode cX7_word 51 = .ok (.goto 11, 3) := by decide +kernel
theorem dX7_word_54 : decode cX7_word 54 = .ok (.bipush 27, 2) := by decide +kernel
theorem dX7_word_56 : decode cX7_word 56 = .ok (.iload 5, 2) := by decide +kernel
theorem dX7_word_58 : decode cX7_word 58 = .ok (.imul, 1) := by decide +kernel
theorem dX7_word_59 : decode cX7_word 59 = .ok (.iload 4, 2) := by decide +kernel
theorem dX7_word_61 : decode cX7_word 61 = .ok (.iadd, 1) := by decide +kernel
theorem dX7_word_62 : decode cX7_word 62 = .ok (.ireturn, 1) := by decide +kernel
theorem dX7_isWord_0 : decode cX7_isWord 0 = .ok (.aload_n 0, 1) := by decide +kernel
theorem dX7_isWord_1 : decode cX7_isWord 1 = .ok (.invokevirtual 137, 3) := by decide +kernel
theorem dX7_isWord_4 : decode cX7_isWord 4 = .ok (.iload_n 1, 1) := by decide +kernel
theorem dX7_isWord_5 : decode cX7_isWord 5 = .ok (.iload_n 2, 1) := by decide +kernel
theorem dX7_isWord_6 : decode cX7_isWord 6 = .ok (.iload_n 3, 1) := by decide +kernel
theorem dX7_isWord_7 : decode cX7_isWord 7 = .ok (.iload 4, 2) := by decide +kernel
theorem dX7_isWord_9 : decode cX7_isWord 9 = .ok (.iload 5, 2) := by decide +kernel
theorem dX7_isWord_11 : decode cX7_isWord 11 = .ok (.invokestatic 141, 3) := by decide +kernel
theorem dX7_isWord_14 : decode cX7_isWord 14 = .ok (.if_icmp .ne 7, 3) := by decide +kernel
theorem dX7_isWord_17 : decode cX7_isWord 17 = .ok (.iconst 1, 1) := by decide +kernel
theorem dX7_isWord_18 : decode cX7_isWord 18 = .ok (.goto 4, 3) := by decide +kernel
theorem dX7_isWord_21 : decode cX7_isWord 21 = .ok (.iconst 0, 1) := by decide +kernel
theorem dX7_isWord_22 : decode cX7_isWord 22 = .ok (.ireturn, 1) := by decide +kernel
theorem dX7_nameHere_0 : decode cX7_nameHere 0 = .ok (.aload_n 0, 1) := by decide +kernel
theorem dX7_nameHere_1 : decode cX7_nameHere 1 = .ok (.bipush 20, 2) := by decide +kernel
theorem dX7_nameHere_3 : decode cX7_nameHere 3 = .ok (.bipush 18, 2) := by decide +kernel
theorem dX7_nameHere_5 : decode cX7_nameHere 5 = .ok (.bipush 9, 2) := by decide +kernel
theorem dX7_nameHere_7 : decode cX7_nameHere 7 = .ok (.iconst 5, 1) := by decide +kernel
theorem dX7_nameHere_8 : decode cX7_nameHere 8 = .ok (.bipush 19, 2) := by decide +kernel
theorem dX7_nameHere_10 : decode cX7_nameHere 10 = .ok (.invokevirtual 148, 3) := by decide +kernel
theorem dX7_nameHere_13 : decode cX7_nameHere 13 = .ok (.ifCond .eq 5, 3) := by decide +kernel
theorem dX7_nameHere_16 : decode cX7_nameHere 16 = .ok (.iconst 0, 1) := by decide +kernel
theorem dX7_nameHere_17 : decode cX7_nameHere 17 = .ok (.ireturn, 1) := by decide +kernel
theorem dX7_nameHere_18 : decode cX7_nameHere 18 = .ok (.aload_n 0, 1) := by decide +kernel
theorem dX7_nameHere_19 : decode cX7_nameHere 19 = .ok (.bipush 19, 2) := by decide +kernel
theorem dX7_nameHere_21 : decode cX7_nameHere 21 = .ok (.bipush 9, 2) := by decide +kernel
theorem dX7_nameHere_23 : decode cX7_nameHere 23 = .ok (.bipush 14, 2) := by decide +kernel
theorem dX7_nameHere_25 : decode cX7_nameHere 25 = .ok (.iconst 3, 1) := by decide +kernel
theorem dX7_nameHere_26 : decode cX7_nameHere 26 = .ok (.iconst 5, 1) := by decide +kernel
theorem dX7_nameHere_27 : decode cX7_nameHere 27 = .ok (.invokevirtual 148, 3) := by decide +kernel
theorem dX7_nameHere_30 : decode cX7_nameHere 30 = .ok (.ifCond .eq 5, 3) := by decide +kernel
theorem dX7_nameHere_33 : decode cX7_nameHere 33 = .ok (.iconst 1, 1) := by decide +kernel
theorem dX7_nameHere_34 : decode cX7_nameHere 34 = .ok (.ireturn, 1) := by decide +kernel
theorem dX7_nameHere_35 : decode cX7_nameHere 35 = .ok (.aload_n 0, 1) := by decide +kernel
theorem dX7_nameHere_36 : decode cX7_nameHere 36 = .ok (.iconst 3, 1) := by decide +kernel
theorem dX7_nameHere_37 : decode cX7_nameHere 37 = .ok (.bipush 15, 2) := by decide +kernel
theorem dX7_nameHere_39 : decode cX7_nameHere 39 = .ok (.bipush 9, 2) := by decide +kernel
theorem dX7_nameHere_41 : decode cX7_nameHere 41 = .ok (.bipush 14, 2) := by decide +kernel
theorem dX7_nameHere_43 : decode cX7_nameHere 43 = .ok (.bipush 19, 2) := by decide +kernel
theorem dX7_nameHere_45 : decode cX7_nameHere 45 = .ok (.invokevirtual 148, 3) := by decide +kernel
theorem dX7_nameHere_48 : decode cX7_nameHere 48 = .ok (.ifCond .eq 5, 3) := by decide +kernel
theorem dX7_nameHere_51 : decode cX7_nameHere 51 = .ok (.iconst 2, 1) := by decide +kernel
theorem dX7_nameHere_52 : decode cX7_nameHere 52 = .ok (.ireturn, 1) := by decide +kernel
theorem dX7_nameHere_53 : decode cX7_nameHere 53 = .ok (.aload_n 0, 1) := by decide +kernel
theorem dX7_nameHere_54 : decode cX7_nameHere 54 = .ok (.bipush 16, 2) := by decide +kernel
theorem dX7_nameHere_56 : decode cX7_nameHere 56 = .ok (.iconst 1, 1) := by decide +kernel
theorem dX7_nameHere_57 : decode cX7_nameHere 57 = .ok (.bipush 9, 2) := by decide +kernel
theorem dX7_nameHere_59 : decode cX7_nameHere 59 = .ok (.iconst 4, 1) := by decide +kernel
theorem dX7_nameHere_60 : decode cX7_nameHere 60 = .ok (.iconst 0, 1) := by decide +kernel
theorem dX7_nameHere_61 : decode cX7_nameHere 61 = .ok (.invokevirtual 148, 3) := by decide +kernel
theorem dX7_nameHere_64 : decode cX7_nameHere 64 = .ok (.ifCond .eq 5, 3) := by decide +kernel
theorem dX7_nameHere_67 : decode cX7_nameHere 67 = .ok (.iconst 3, 1) := by decide +kernel
theorem dX7_nameHere_68 : decode cX7_nameHere 68 = .ok (.ireturn, 1) := by decide +kernel
theorem dX7_nameHere_69 : decode cX7_nameHere 69 = .ok (.aload_n 0, 1) := by decide +kernel
theorem dX7_nameHere_70 : decode cX7_nameHere 70 = .ok (.bipush 8, 2) := by decide +kernel
theorem dX7_nameHere_72 : decode cX7_nameHere 72 = .ok (.bipush 15, 2) := by decide +kernel
theorem dX7_nameHere_74 : decode cX7_nameHere 74 = .ok (.bipush 21, 2) := by decide +kernel
theorem dX7_nameHere_76 : decode cX7_nameHere 76 = .ok (.bipush 18, 2) := by decide +kernel
theorem dX7_nameHere_78 : decode cX7_nameHere 78 = .ok (.iconst 0, 1) := by decide +kernel
theorem dX7_nameHere_79 : decode cX7_nameHere 79 = .ok (.invokevirtual 148, 3) := by decide +kernel
theorem dX7_nameHere_82 : decode cX7_nameHere 82 = .ok (.ifCond .eq 5, 3) := by decide +kernel
theorem dX7_nameHere_85 : decode cX7_nameHere 85 = .ok (.iconst 4, 1) := by decide +kernel
theorem dX7_nameHere_86 : decode cX7_nameHere 86 = .ok (.ireturn, 1) := by decide +kernel
theorem dX7_nameHere_87 : decode cX7_nameHere 87 = .ok (.aload_n 0, 1) := by decide +kernel
theorem dX7_nameHere_88 : decode cX7_nameHere 88 = .ok (.bipush 12, 2) := by decide +kernel
theorem dX7_nameHere_90 : decode cX7_nameHere 90 = .ok (.bipush 15, 2) := by decide +kernel
theorem dX7_nameHere_92 : decode cX7_nameHere 92 = .ok (.bipush 20, 2) := by decide +kernel
theorem dX7_nameHere_94 : decode cX7_nameHere 94 = .ok (.iconst 0, 1) := by decide +kernel
theorem dX7_nameHere_95 : decode cX7_nameHere 95 = .ok (.iconst 0, 1) := by decide +kernel
theorem dX7_nameHere_96 : decode cX7_nameHere 96 = .ok (.invokevirtual 148, 3) := by decide +kernel
theorem dX7_nameHere_99 : decode cX7_nameHere 99 = .ok (.ifCond .eq 5, 3) := by decide +kernel
theorem dX7_nameHere_102 : decode cX7_nameHere 102 = .ok (.iconst 5, 1) := by decide +kernel
theorem dX7_nameHere_103 : decode cX7_nameHere 103 = .ok (.ireturn, 1) := by decide +kernel
theorem dX7_nameHere_104 : decode cX7_nameHere 104 = .ok (.aload_n 0, 1) := by decide +kernel
theorem dX7_nameHere_105 : decode cX7_nameHere 105 = .ok (.getfield 152, 3) := by decide +kernel
theorem dX7_nameHere_108 : decode cX7_nameHere 108 = .ok (.ifCond .eq 21, 3) := by decide +kernel
theorem dX7_nameHere_111 : decode cX7_nameHere 111 = .ok (.aload_n 0, 1) := by decide +kernel
theorem dX7_nameHere_112 : decode cX7_nameHere 112 = .ok (.iconst 3, 1) := by decide +kernel
theorem dX7_nameHere_113 : decode cX7_nameHere 113 = .ok (.iconst 1, 1) := by decide +kernel
theorem dX7_nameHere_114 : decode cX7_nameHere 114 = .ok (.bipush 14, 2) := by decide +kernel
theorem dX7_nameHere_116 : decode cX7_nameHere 116 = .ok (.iconst 0, 1) := by decide +kernel
theorem dX7_nameHere_117 : decode cX7_nameHere 117 = .ok (.iconst 0, 1) := by decide +kernel
theorem dX7_nameHere_118 : decode cX7_nameHere 118 = .ok (.invokevirtual 148, 3) := by decide +kernel
theorem dX7_nameHere_121 : decode cX7_nameHere 121 = .ok (.ifCond .eq 8, 3) := by decide +kernel
theorem dX7_nameHere_124 : decode cX7_nameHere 124 = .ok (.bipush 6, 2) := by decide +kernel
theorem dX7_nameHere_126 : decode cX7_nameHere 126 = .ok (.goto 4, 3) := by decide +kernel
theorem dX7_nameHere_129 : decode cX7_nameHere 129 = .ok (.iconst (-1), 1) := by decide +kernel
theorem dX7_nameHere_130 : decode cX7_nameHere 130 = .ok (.ireturn, 1) := by decide +kernel
theorem dX7_wrong_0 : decode cX7_wrong 0 = .ok (.aload_n 0, 1) := by decide +kernel
theorem dX7_wrong_1 : decode cX7_wrong 1 = .ok (.getfield 120, 3) := by decide +kernel
theorem dX7_wrong_4 : decode cX7_wrong 4 = .ok (.ifCond .ne 13, 3) := by decide +kernel
theorem dX7_wrong_7 : decode cX7_wrong 7 = .ok (.aload_n 0, 1) := by decide +kernel
theorem dX7_wrong_8 : decode cX7_wrong 8 = .ok (.iload_n 1, 1) := by decide +kernel
theorem dX7_wrong_9 : decode cX7_wrong 9 = .ok (.putfield 120, 3) := by decide +kernel
theorem dX7_wrong_12 : decode cX7_wrong 12 = .ok (.aload_n 0, 1) := by decide +kernel
theorem dX7_wrong_13 : decode cX7_wrong 13 = .ok (.iload_n 2, 1) := by decide +kernel
theorem dX7_wrong_14 : decode cX7_wrong 14 = .ok (.putfield 123, 3) := by decide +kernel
theorem dX7_wrong_17 : decode cX7_wrong 17 = .ok (.return_, 1) := by decide +kernel
theorem dX7_unit_0 : decode cX7_unit 0 = .ok (.aload_n 0, 1) := by decide +kernel
theorem dX7_unit_1 : decode cX7_unit 1 = .ok (.getfield 120, 3) := by decide +kernel
theorem dX7_unit_4 : decode cX7_unit 4 = .ok (.ifCond .eq 5, 3) := by decide +kernel
theorem dX7_unit_7 : decode cX7_unit 7 = .ok (.iconst 0, 1) := by decide +kernel
theorem dX7_unit_8 : decode cX7_unit 8 = .ok (.ireturn, 1) := by decide +kernel
theorem dX7_unit_9 : decode cX7_unit 9 = .ok (.aload_n 0, 1) := by decide +kernel
theorem dX7_unit_10 : decode cX7_unit 10 = .ok (.invokevirtual 134, 3) := by decide +kernel
theorem dX7_unit_13 : decode cX7_unit 13 = .ok (.aload_n 0, 1) := by decide +kernel
theorem dX7_unit_14 : decode cX7_unit 14 = .ok (.aload_n 0, 1) := by decide +kernel
theorem dX7_unit_15 : decode cX7_unit 15 = .ok (.getfield 113, 3) := by decide +kernel
theorem dX7_unit_18 : decode cX7_unit 18 = .ok (.invokevirtual 116, 3) := by decide +kernel
theorem dX7_unit_21 : decode cX7_unit 21 = .ok (.invokestatic 126, 3) := by decide +kernel
theorem dX7_unit_24 : decode cX7_unit 24 = .ok (.ifCond .eq 8, 3) := by decide +kernel
theorem dX7_unit_27 : decode cX7_unit 27 = .ok (.aload_n 0, 1) := by decide +kernel
theorem dX7_unit_28 : decode cX7_unit 28 = .ok (.invokevirtual 156, 3) := by decide +kernel
theorem dX7_unit_31 : decode cX7_unit 31 = .ok (.ireturn, 1) := by decide +kernel
theorem dX7_unit_32 : decode cX7_unit 32 = .ok (.aload_n 0, 1) := by decide +kernel
theorem dX7_unit_33 : decode cX7_unit 33 = .ok (.invokevirtual 159, 3) := by decide +kernel
theorem dX7_unit_36 : decode cX7_unit 36 = .ok (.istore_n 1, 1) := by decide +kernel
theorem dX7_unit_37 : decode cX7_unit 37 = .ok (.iload_n 1, 1) := by decide +kernel
theorem dX7_unit_38 : decode cX7_unit 38 = .ok (.iconst (-1), 1) := by decide +kernel
theorem dX7_unit_39 : decode cX7_unit 39 = .ok (.if_icmp .eq 14, 3) := by decide +kernel
theorem dX7_unit_42 : decode cX7_unit 42 = .ok (.aload_n 0, 1) := by decide +kernel
theorem dX7_unit_43 : decode cX7_unit 43 = .ok (.invokevirtual 162, 3) := by decide +kernel
theorem dX7_unit_46 : decode cX7_unit 46 = .ok (.aload_n 0, 1) := by decide +kernel
theorem dX7_unit_47 : decode cX7_unit 47 = .ok (.getfield 30, 3) := by decide +kernel
theorem dX7_unit_50 : decode cX7_unit 50 = .ok (.iload_n 1, 1) := by decide +kernel
theorem dX7_unit_51 : decode cX7_unit 51 = .ok (.iaload, 1) := by decide +kernel
theorem dX7_unit_52 : decode cX7_unit 52 = .ok (.ireturn, 1) := by decide +kernel
theorem dX7_unit_53 : decode cX7_unit 53 = .ok (.aload_n 0, 1) := by decide +kernel
theorem dX7_unit_54 : decode cX7_unit 54 = .ok (.bipush 12, 2) := by decide +kernel
theorem dX7_unit_56 : decode cX7_unit 56 = .ok (.iconst 5, 1) := by decide +kernel
theorem dX7_unit_57 : decode cX7_unit 57 = .ok (.iconst 1, 1) := by decide +kernel
theorem dX7_unit_58 : decode cX7_unit 58 = .ok (.bipush 19, 2) := by decide +kernel
theorem dX7_unit_60 : decode cX7_unit 60 = .ok (.bipush 20, 2) := by decide +kernel
theorem dX7_unit_62 : decode cX7_unit 62 = .ok (.invokevirtual 148, 3) := by decide +kernel
theorem dX7_unit_65 : decode cX7_unit 65 = .ok (.istore_n 2, 1) := by decide +kernel
theorem dX7_unit_66 : decode cX7_unit 66 = .ok (.aload_n 0, 1) := by decide +kernel
theorem dX7_unit_67 : decode cX7_unit 67 = .ok (.bipush 13, 2) := by decide +kernel
theorem dX7_unit_69 : decode cX7_unit 69 = .ok (.bipush 15, 2) := by decide +kernel
theorem dX7_unit_71 : decode cX7_unit 71 = .ok (.bipush 19, 2) := by decide +kernel
theorem dX7_unit_73 : decode cX7_unit 73 = .ok (.bipush 20, 2) := by decide +kernel
theorem dX7_unit_75 : decode cX7_unit 75 = .ok (.iconst 0, 1) := by decide +kernel
theorem dX7_unit_76 : decode cX7_unit 76 = .ok (.invokevirtual 148, 3) := by decide +kernel
theorem dX7_unit_79 : decode cX7_unit 79 = .ok (.istore_n 3, 1) := by decide +kernel
theorem dX7_unit_80 : decode cX7_unit 80 = .ok (.iload_n 2, 1) := by decide +kernel
theorem dX7_unit_81 : decode cX7_unit 81 = .ok (.ifCond .ne 7, 3) := by decide +kernel
theorem dX7_unit_84 : decode cX7_unit 84 = .ok (.iload_n 3, 1) := by decide +kernel
theorem dX7_unit_85 : decode cX7_unit 85 = .ok (.ifCond .eq 7, 3) := by decide +kernel
theorem dX7_unit_88 : decode cX7_unit 88 = .ok (.aload_n 0, 1) := by decide +kernel
theorem dX7_unit_89 : decode cX7_unit 89 = .ok (.invokevirtual 162, 3) := by decide +kernel
theorem dX7_unit_92 : decode cX7_unit 92 = .ok (.aload_n 0, 1) := by decide +kernel
theorem dX7_unit_93 : decode cX7_unit 93 = .ok (.invokevirtual 134, 3) := by decide +kernel
theorem dX7_unit_96 : decode cX7_unit 96 = .ok (.aload_n 0, 1) := by decide +kernel
theorem dX7_unit_97 : decode cX7_unit 97 = .ok (.aload_n 0, 1) := by decide +kernel
theorem dX7_unit_98 : decode cX7_unit 98 = .ok (.getfield 113, 3) := by decide +kernel
theorem dX7_unit_101 : decode cX7_unit 101 = .ok (.invokevirtual 116, 3) := by decide +kernel
theorem dX7_unit_104 : decode cX7_unit 104 = .ok (.bipush 40, 2) := by decide +kernel
theorem dX7_unit_106 : decode cX7_unit 106 = .ok (.if_icmp .eq 14, 3) := by decide +kernel
theorem dX7_unit_109 : decode cX7_unit 109 = .ok (.aload_n 0, 1) := by decide +kernel
theorem dX7_unit_110 : decode cX7_unit 110 = .ok (.iconst 1, 1) := by decide +kernel
theorem dX7_unit_111 : decode cX7_unit 111 = .ok (.aload_n 0, 1) := by decide +kernel
theorem dX7_unit_112 : decode cX7_unit 112 = .ok (.getfield 113, 3) := by decide +kernel
theorem dX7_unit_115 : decode cX7_unit 115 = .ok (.invokevirtual 130, 3) := by decide +kernel
theorem dX7_unit_118 : decode cX7_unit 118 = .ok (.iconst 0, 1) := by decide +kernel
theorem dX7_unit_119 : decode cX7_unit 119 = .ok (.ireturn, 1) := by decide +kernel
theorem dX7_unit_120 : decode cX7_unit 120 = .ok (.aload_n 0, 1) := by decide +kernel
theorem dX7_unit_121 : decode cX7_unit 121 = .ok (.iconst 1, 1) := by decide +kernel
theorem dX7_unit_122 : decode cX7_unit 122 = .ok (.invokevirtual 165, 3) := by decide +kernel
theorem dX7_unit_125 : decode cX7_unit 125 = .ok (.aload_n 0, 1) := by decide +kernel
theorem dX7_unit_126 : decode cX7_unit 126 = .ok (.invokevirtual 169, 3) := by decide +kernel
theorem dX7_unit_129 : decode cX7_unit 129 = .ok (.istore 4, 2) := by decide +kernel
theorem dX7_unit_131 : decode cX7_unit 131 = .ok (.iload_n 2, 1) := by decide +kernel
theorem dX7_unit_132 : decode cX7_unit 132 = .ok (.ifCond .ne 7, 3) := by decide +kernel
theorem dX7_unit_135 : decode cX7_unit 135 = .ok (.iload_n 3, 1) := by decide +kernel
theorem dX7_unit_136 : decode cX7_unit 136 = .ok (.ifCond .eq 40, 3) := by decide +kernel
theorem dX7_unit_139 : decode cX7_unit 139 = .ok (.aload_n 0, 1) := by decide +kernel
theorem dX7_unit_140 : decode cX7_unit 140 = .ok (.bipush 44, 2) := by decide +kernel
theorem dX7_unit_142 : decode cX7_unit 142 = .ok (.invokevirtual 172, 3) := by decide +kernel
theorem dX7_unit_145 : decode cX7_unit 145 = .ok (.aload_n 0, 1) := by decide +kernel
theorem dX7_unit_146 : decode cX7_unit 146 = .ok (.invokevirtual 169, 3) := by decide +kernel
theorem dX7_unit_149 : decode cX7_unit 149 = .ok (.istore 5, 2) := by decide +kernel
theorem dX7_unit_151 : decode cX7_unit 151 = .ok (.iload_n 2, 1) := by decide +kernel
theorem dX7_unit_152 : decode cX7_unit 152 = .ok (.iload 5, 2) := by decide +kernel
theorem dX7_unit_154 : decode cX7_unit 154 = .ok (.iload 4, 2) := by decide +kernel
theorem dX7_unit_156 : decode cX7_unit 156 = .ok (.if_icmp .ge 7, 3) := by decide +kernel
theorem dX7_unit_159 : decode cX7_unit 159 = .ok (.iconst 1, 1) := by decide +kernel
theorem dX7_unit_160 : decode cX7_unit 160 = .ok (.goto 4, 3) := by decide +kernel
theorem dX7_unit_163 : decode cX7_unit 163 = .ok (.iconst 0, 1) := by decide +kernel
theorem dX7_unit_164 : decode cX7_unit 164 = .ok (.if_icmp .ne 8, 3) := by decide +kernel
theorem dX7_unit_167 : decode cX7_unit 167 = .ok (.iload 5, 2) := by decide +kernel
theorem dX7_unit_169 : decode cX7_unit 169 = .ok (.goto 5, 3) := by decide +kernel
theorem dX7_unit_172 : decode cX7_unit 172 = .ok (.iload 4, 2) := by decide +kernel
theorem dX7_unit_174 : decode cX7_unit 174 = .ok (.istore 4, 2) := by decide +kernel
theorem dX7_unit_176 : decode cX7_unit 176 = .ok (.aload_n 0, 1) := by decide +kernel
theorem dX7_unit_177 : decode cX7_unit 177 = .ok (.bipush 41, 2) := by decide +kernel
theorem dX7_unit_179 : decode cX7_unit 179 = .ok (.invokevirtual 172, 3) := by decide +kernel
theorem dX7_unit_182 : decode cX7_unit 182 = .ok (.aload_n 0, 1) := by decide +kernel
theorem dX7_unit_183 : decode cX7_unit 183 = .ok (.dup, 1) := by decide +kernel
theorem dX7_unit_184 : decode cX7_unit 184 = .ok (.getfield 145, 3) := by decide +kernel
theorem dX7_unit_187 : decode cX7_unit 187 = .ok (.iconst 1, 1) := by decide +kernel
theorem dX7_unit_188 : decode cX7_unit 188 = .ok (.isub, 1) := by decide +kernel
theorem dX7_unit_189 : decode cX7_unit 189 = .ok (.putfield 145, 3) := by decide +kernel
theorem dX7_unit_192 : decode cX7_unit 192 = .ok (.iload 4, 2) := by decide +kernel
theorem dX7_unit_194 : decode cX7_unit 194 = .ok (.ireturn, 1) := by decide +kernel
theorem dX7_product_0 : decode cX7_product 0 = .ok (.aload_n 0, 1) := by decide +kernel
theorem dX7_product_1 : decode cX7_product 1 = .ok (.invokevirtual 175, 3) := by decide +kernel
theorem dX7_product_4 : decode cX7_product 4 = .ok (.istore_n 1, 1) := by decide +kernel
theorem dX7_product_5 : decode cX7_product 5 = .ok (.aload_n 0, 1) := by decide +kernel
theorem dX7_product_6 : decode cX7_product 6 = .ok (.invokevirtual 134, 3) := by decide +kernel
theorem dX7_product_9 : decode cX7_product 9 = .ok (.aload_n 0, 1) := by decide +kernel
theorem dX7_product_10 : decode cX7_product 10 = .ok (.getfield 120, 3) := by decide +kernel
theorem dX7_product_13 : decode cX7_product 13 = .ok (.ifCond .ne 84, 3) := by decide +kernel
theorem dX7_product_16 : decode cX7_product 16 = .ok (.aload_n 0, 1) := by decide +kernel
theorem dX7_product_17 : decode cX7_product 17 = .ok (.aload_n 0, 1) := by decide +kernel
theorem dX7_product_18 : decode cX7_product 18 = .ok (.getfield 113, 3) := by decide +kernel
theorem dX7_product_21 : decode cX7_product 21 = .ok (.invokevirtual 116, 3) := by decide +kernel
theorem dX7_product_24 : decode cX7_product 24 = .ok (.bipush 42, 2) := by decide +kernel
theorem dX7_product_26 : decode cX7_product 26 = .ok (.if_icmp .eq 16, 3) := by decide +kernel
theorem dX7_product_29 : decode cX7_product 29 = .ok (.aload_n 0, 1) := by decide +kernel
theorem dX7_product_30 : decode cX7_product 30 = .ok (.aload_n 0, 1) := by decide +kernel
theorem dX7_product_31 : decode cX7_product 31 = .ok (.getfield 113, 3) := by decide +kernel
theorem dX7_product_34 : decode cX7_product 34 = .ok (.invokevirtual 116, 3) := by decide +kernel
theorem dX7_product_37 : decode cX7_product 37 = .ok (.bipush 47, 2) := by decide +kernel
theorem dX7_product_39 : decode cX7_product 39 = .ok (.if_icmp .ne 58, 3) := by decide +kernel
theorem dX7_product_42 : decode cX7_product 42 = .ok (.aload_n 0, 1) := by decide +kernel
theorem dX7_product_43 : decode cX7_product 43 = .ok (.aload_n 0, 1) := by decide +kernel
theorem dX7_product_44 : decode cX7_product 44 = .ok (.getfield 113, 3) := by decide +kernel
theorem dX7_product_47 : decode cX7_product 47 = .ok (.invokevirtual 116, 3) := by decide +kernel
theorem dX7_product_50 : decode cX7_product 50 = .ok (.istore_n 2, 1) := by decide +kernel
theorem dX7_product_51 : decode cX7_product 51 = .ok (.aload_n 0, 1) := by decide +kernel
theorem dX7_product_52 : decode cX7_product 52 = .ok (.dup, 1) := by decide +kernel
theorem dX7_product_53 : decode cX7_product 53 = .ok (.getfield 113, 3) := by decide +kernel
theorem dX7_product_56 : decode cX7_product 56 = .ok (.iconst 1, 1) := by decide +kernel
theorem dX7_product_57 : decode cX7_product 57 = .ok (.iadd, 1) := by decide +kernel
theorem dX7_product_58 : decode cX7_product 58 = .ok (.putfield 113, 3) := by decide +kernel
theorem dX7_product_61 : decode cX7_product 61 = .ok (.aload_n 0, 1) := by decide +kernel
theorem dX7_product_62 : decode cX7_product 62 = .ok (.invokevirtual 175, 3) := by decide +kernel
theorem dX7_product_65 : decode cX7_product 65 = .ok (.istore_n 3, 1) := by decide +kernel
theorem dX7_product_66 : decode cX7_product 66 = .ok (.iload_n 2, 1) := by decide +kernel
theorem dX7_product_67 : decode cX7_product 67 = .ok (.bipush 42, 2) := by decide +kernel
theorem dX7_product_69 : decode cX7_product 69 = .ok (.if_icmp .ne 9, 3) := by decide +kernel
theorem dX7_product_72 : decode cX7_product 72 = .ok (.iload_n 1, 1) := by decide +kernel
theorem dX7_product_73 : decode cX7_product 73 = .ok (.iload_n 3, 1) := by decide +kernel
theorem dX7_product_74 : decode cX7_product 74 = .ok (.imul, 1) := by decide +kernel
theorem dX7_product_75 : decode cX7_product 75 = .ok (.goto 14, 3) := by decide +kernel
theorem dX7_product_78 : decode cX7_product 78 = .ok (.iload_n 3, 1) := by decide +kernel
theorem dX7_product_79 : decode cX7_product 79 = .ok (.ifCond .ne 7, 3) := by decide +kernel
theorem dX7_product_82 : decode cX7_product 82 = .ok (.iconst 0, 1) := by decide +kernel
theorem dX7_product_83 : decode cX7_product 83 = .ok (.goto 6, 3) := by decide +kernel
theorem dX7_product_86 : decode cX7_product 86 = .ok (.iload_n 1, 1) := by decide +kernel
theorem dX7_product_87 : decode cX7_product 87 = .ok (.iload_n 3, 1) := by decide +kernel
theorem dX7_product_88 : decode cX7_product 88 = .ok (.idiv, 1) := by decide +kernel
theorem dX7_product_89 : decode cX7_product 89 = .ok (.istore_n 1, 1) := by decide +kernel
theorem dX7_product_90 : decode cX7_product 90 = .ok (.aload_n 0, 1) := by decide +kernel
theorem dX7_product_91 : decode cX7_product 91 = .ok (.invokevirtual 134, 3) := by decide +kernel
theorem dX7_product_94 : decode cX7_product 94 = .ok (.goto (-85), 3) := by decide +kernel
theorem dX7_product_97 : decode cX7_product 97 = .ok (.iload_n 1, 1) := by decide +kernel
theorem dX7_product_98 : decode cX7_product 98 = .ok (.ireturn, 1) := by decide +kernel
theorem dX7_sum_0 : decode cX7_sum 0 = .ok (.aload_n 0, 1) := by decide +kernel
theorem dX7_sum_1 : decode cX7_sum 1 = .ok (.invokevirtual 178, 3) := by decide +kernel
theorem dX7_sum_4 : decode cX7_sum 4 = .ok (.istore_n 1, 1) := by decide +kernel
theorem dX7_sum_5 : decode cX7_sum 5 = .ok (.aload_n 0, 1) := by decide +kernel
theorem dX7_sum_6 : decode cX7_sum 6 = .ok (.invokevirtual 134, 3) := by decide +kernel
theorem dX7_sum_9 : decode cX7_sum 9 = .ok (.aload_n 0, 1) := by decide +kernel
theorem dX7_sum_10 : decode cX7_sum 10 = .ok (.getfield 120, 3) := by decide +kernel
theorem dX7_sum_13 : decode cX7_sum 13 = .ok (.ifCond .ne 76, 3) := by decide +kernel
theorem dX7_sum_16 : decode cX7_sum 16 = .ok (.aload_n 0, 1) := by decide +kernel
theorem dX7_sum_17 : decode cX7_sum 17 = .ok (.aload_n 0, 1) := by decide +kernel
theorem dX7_sum_18 : decode cX7_sum 18 = .ok (.getfield 113, 3) := by decide +kernel
theorem dX7_sum_21 : decode cX7_sum 21 = .ok (.invokevirtual 116, 3) := by decide +kernel
theorem dX7_sum_24 : decode cX7_sum 24 = .ok (.bipush 43, 2) := by decide +kernel
theorem dX7_sum_26 : decode cX7_sum 26 = .ok (.if_icmp .eq 16, 3) := by decide +kernel
theorem dX7_sum_29 : decode cX7_sum 29 = .ok (.aload_n 0, 1) := by decide +kernel
theorem dX7_sum_30 : decode cX7_sum 30 = .ok (.aload_n 0, 1) := by decide +kernel
theorem dX7_sum_31 : decode cX7_sum 31 = .ok (.getfield 113, 3) := by decide +kernel
theorem dX7_sum_34 : decode cX7_sum 34 = .ok (.invokevirtual 116, 3) := by decide +kernel
theorem dX7_sum_37 : decode cX7_sum 37 = .ok (.bipush 45, 2) := by decide +kernel
theorem dX7_sum_39 : decode cX7_sum 39 = .ok (.if_icmp .ne 50, 3) := by decide +kernel
theorem dX7_sum_42 : decode cX7_sum 42 = .ok (.aload_n 0, 1) := by decide +kernel
theorem dX7_sum_43 : decode cX7_sum 43 = .ok (.aload_n 0, 1) := by decide +kernel
theorem dX7_sum_44 : decode cX7_sum 44 = .ok (.getfield 113, 3) := by decide +kernel
theorem dX7_sum_47 : decode cX7_sum 47 = .ok (.invokevirtual 116, 3) := by decide +kernel
theorem dX7_sum_50 : decode cX7_sum 50 = .ok (.istore_n 2, 1) := by decide +kernel
theorem dX7_sum_51 : decode cX7_sum 51 = .ok (.aload_n 0, 1) := by decide +kernel
theorem dX7_sum_52 : decode cX7_sum 52 = .ok (.dup, 1) := by decide +kernel
theorem dX7_sum_53 : decode cX7_sum 53 = .ok (.getfield 113, 3) := by decide +kernel
theorem dX7_sum_56 : decode cX7_sum 56 = .ok (.iconst 1, 1) := by decide +kernel
theorem dX7_sum_57 : decode cX7_sum 57 = .ok (.iadd, 1) := by decide +kernel
theorem dX7_sum_58 : decode cX7_sum 58 = .ok (.putfield 113, 3) := by decide +kernel
theorem dX7_sum_61 : decode cX7_sum 61 = .ok (.aload_n 0, 1) := by decide +kernel
theorem dX7_sum_62 : decode cX7_sum 62 = .ok (.invokevirtual 178, 3) := by decide +kernel
theorem dX7_sum_65 : decode cX7_sum 65 = .ok (.istore_n 3, 1) := by decide +kernel
theorem dX7_sum_66 : decode cX7_sum 66 = .ok (.iload_n 2, 1) := by decide +kernel
theorem dX7_sum_67 : decode cX7_sum 67 = .ok (.bipush 43, 2) := by decide +kernel
theorem dX7_sum_69 : decode cX7_sum 69 = .ok (.if_icmp .ne 9, 3) := by decide +kernel
theorem dX7_sum_72 : decode cX7_sum 72 = .ok (.iload_n 1, 1) := by decide +kernel
theorem dX7_sum_73 : decode cX7_sum 73 = .ok (.iload_n 3, 1) := by decide +kernel
theorem dX7_sum_74 : decode cX7_sum 74 = .ok (.iadd, 1) := by decide +kernel
theorem dX7_sum_75 : decode cX7_sum 75 = .ok (.goto 6, 3) := by decide +kernel
theorem dX7_sum_78 : decode cX7_sum 78 = .ok (.iload_n 1, 1) := by decide +kernel
theorem dX7_sum_79 : decode cX7_sum 79 = .ok (.iload_n 3, 1) := by decide +kernel
theorem dX7_sum_80 : decode cX7_sum 80 = .ok (.isub, 1) := by decide +kernel
theorem dX7_sum_81 : decode cX7_sum 81 = .ok (.istore_n 1, 1) := by decide +kernel
theorem dX7_sum_82 : decode cX7_sum 82 = .ok (.aload_n 0, 1) := by decide +kernel
theorem dX7_sum_83 : decode cX7_sum 83 = .ok (.invokevirtual 134, 3) := by decide +kernel
theorem dX7_sum_86 : decode cX7_sum 86 = .ok (.goto (-77), 3) := by decide +kernel
theorem dX7_sum_89 : decode cX7_sum 89 = .ok (.iload_n 1, 1) := by decide +kernel
theorem dX7_sum_90 : decode cX7_sum 90 = .ok (.ireturn, 1) := by decide +kernel
theorem dX7_test_0 : decode cX7_test 0 = .ok (.aload_n 0, 1) := by decide +kernel
theorem dX7_test_1 : decode cX7_test 1 = .ok (.getfield 120, 3) := by decide +kernel
theorem dX7_test_4 : decode cX7_test 4 = .ok (.ifCond .eq 5, 3) := by decide +kernel
theorem dX7_test_7 : decode cX7_test 7 = .ok (.iconst 0, 1) := by decide +kernel
theorem dX7_test_8 : decode cX7_test 8 = .ok (.ireturn, 1) := by decide +kernel
theorem dX7_test_9 : decode cX7_test 9 = .ok (.aload_n 0, 1) := by decide +kernel
theorem dX7_test_10 : decode cX7_test 10 = .ok (.bipush 14, 2) := by decide +kernel
theorem dX7_test_12 : decode cX7_test 12 = .ok (.bipush 15, 2) := by decide +kernel
theorem dX7_test_14 : decode cX7_test 14 = .ok (.bipush 20, 2) := by decide +kernel
theorem dX7_test_16 : decode cX7_test 16 = .ok (.iconst 0, 1) := by decide +kernel
theorem dX7_test_17 : decode cX7_test 17 = .ok (.iconst 0, 1) := by decide +kernel
theorem dX7_test_18 : decode cX7_test 18 = .ok (.invokevirtual 148, 3) := by decide +kernel
theorem dX7_test_21 : decode cX7_test 21 = .ok (.ifCond .eq 33, 3) := by decide +kernel
theorem dX7_test_24 : decode cX7_test 24 = .ok (.aload_n 0, 1) := by decide +kernel
theorem dX7_test_25 : decode cX7_test 25 = .ok (.iconst 3, 1) := by decide +kernel
theorem dX7_test_26 : decode cX7_test 26 = .ok (.invokevirtual 165, 3) := by decide +kernel
theorem dX7_test_29 : decode cX7_test 29 = .ok (.aload_n 0, 1) := by decide +kernel
theorem dX7_test_30 : decode cX7_test 30 = .ok (.invokevirtual 181, 3) := by decide +kernel
theorem dX7_test_33 : decode cX7_test 33 = .ok (.ifCond .ne 7, 3) := by decide +kernel
theorem dX7_test_36 : decode cX7_test 36 = .ok (.iconst 1, 1) := by decide +kernel
theorem dX7_test_37 : decode cX7_test 37 = .ok (.goto 4, 3) := by decide +kernel
theorem dX7_test_40 : decode cX7_test 40 = .ok (.iconst 0, 1) := by decide +kernel
theorem dX7_test_41 : decode cX7_test 41 = .ok (.istore_n 1, 1) := by decide +kernel
theorem dX7_test_42 : decode cX7_test 42 = .ok (.aload_n 0, 1) := by decide +kernel
theorem dX7_test_43 : decode cX7_test 43 = .ok (.dup, 1) := by decide +kernel
theorem dX7_test_44 : decode cX7_test 44 = .ok (.getfield 145, 3) := by decide +kernel
theorem dX7_test_47 : decode cX7_test 47 = .ok (.iconst 1, 1) := by decide +kernel
theorem dX7_test_48 : decode cX7_test 48 = .ok (.isub, 1) := by decide +kernel
theorem dX7_test_49 : decode cX7_test 49 = .ok (.putfield 145, 3) := by decide +kernel
theorem dX7_test_52 : decode cX7_test 52 = .ok (.iload_n 1, 1) := by decide +kernel
theorem dX7_test_53 : decode cX7_test 53 = .ok (.ireturn, 1) := by decide +kernel
theorem dX7_test_54 : decode cX7_test 54 = .ok (.aload_n 0, 1) := by decide +kernel
theorem dX7_test_55 : decode cX7_test 55 = .ok (.aload_n 0, 1) := by decide +kernel
theorem dX7_test_56 : decode cX7_test 56 = .ok (.getfield 113, 3) := by decide +kernel
theorem dX7_test_59 : decode cX7_test 59 = .ok (.invokevirtual 116, 3) := by decide +kernel
theorem dX7_test_62 : decode cX7_test 62 = .ok (.bipush 91, 2) := by decide +kernel
theorem dX7_test_64 : decode cX7_test 64 = .ok (.if_icmp .ne 31, 3) := by decide +kernel
theorem dX7_test_67 : decode cX7_test 67 = .ok (.aload_n 0, 1) := by decide +kernel
theorem dX7_test_68 : decode cX7_test 68 = .ok (.iconst 1, 1) := by decide +kernel
theorem dX7_test_69 : decode cX7_test 69 = .ok (.invokevirtual 165, 3) := by decide +kernel
theorem dX7_test_72 : decode cX7_test 72 = .ok (.aload_n 0, 1) := by decide +kernel
theorem dX7_test_73 : decode cX7_test 73 = .ok (.invokevirtual 185, 3) := by decide +kernel
theorem dX7_test_76 : decode cX7_test 76 = .ok (.istore_n 1, 1) := by decide +kernel
theorem dX7_test_77 : decode cX7_test 77 = .ok (.aload_n 0, 1) := by decide +kernel
theorem dX7_test_78 : decode cX7_test 78 = .ok (.bipush 93, 2) := by decide +kernel
theorem dX7_test_80 : decode cX7_test 80 = .ok (.invokevirtual 172, 3) := by decide +kernel
theorem dX7_test_83 : decode cX7_test 83 = .ok (.aload_n 0, 1) := by decide +kernel
theorem dX7_test_84 : decode cX7_test 84 = .ok (.dup, 1) := by decide +kernel
theorem dX7_test_85 : decode cX7_test 85 = .ok (.getfield 145, 3) := by decide +kernel
theorem dX7_test_88 : decode cX7_test 88 = .ok (.iconst 1, 1) := by decide +kernel
theorem dX7_test_89 : decode cX7_test 89 = .ok (.isub, 1) := by decide +kernel
theorem dX7_test_90 : decode cX7_test 90 = .ok (.putfield 145, 3) := by decide +kernel
theorem dX7_test_93 : decode cX7_test 93 = .ok (.iload_n 1, 1) := by decide +kernel
theorem dX7_test_94 : decode cX7_test 94 = .ok (.ireturn, 1) := by decide +kernel
theorem dX7_test_95 : decode cX7_test 95 = .ok (.aload_n 0, 1) := by decide +kernel
theorem dX7_test_96 : decode cX7_test 96 = .ok (.invokevirtual 169, 3) := by decide +kernel
theorem dX7_test_99 : decode cX7_test 99 = .ok (.istore_n 1, 1) := by decide +kernel
theorem dX7_test_100 : decode cX7_test 100 = .ok (.aload_n 0, 1) := by decide +kernel
theorem dX7_test_101 : decode cX7_test 101 = .ok (.invokevirtual 134, 3) := by decide +kernel
theorem dX7_test_104 : decode cX7_test 104 = .ok (.aload_n 0, 1) := by decide +kernel
theorem dX7_test_105 : decode cX7_test 105 = .ok (.aload_n 0, 1) := by decide +kernel
theorem dX7_test_106 : decode cX7_test 106 = .ok (.getfield 113, 3) := by decide +kernel
theorem dX7_test_109 : decode cX7_test 109 = .ok (.invokevirtual 116, 3) := by decide +kernel
theorem dX7_test_112 : decode cX7_test 112 = .ok (.istore_n 2, 1) := by decide +kernel
theorem dX7_test_113 : decode cX7_test 113 = .ok (.iload_n 2, 1) := by decide +kernel
theorem dX7_test_114 : decode cX7_test 114 = .ok (.bipush 60, 2) := by decide +kernel
theorem dX7_test_116 : decode cX7_test 116 = .ok (.if_icmp .eq 24, 3) := by decide +kernel
theorem dX7_test_119 : decode cX7_test 119 = .ok (.iload_n 2, 1) := by decide +kernel
theorem dX7_test_120 : decode cX7_test 120 = .ok (.bipush 62, 2) := by decide +kernel
theorem dX7_test_122 : decode cX7_test 122 = .ok (.if_icmp .eq 18, 3) := by decide +kernel
theorem dX7_test_125 : decode cX7_test 125 = .ok (.iload_n 2, 1) := by decide +kernel
theorem dX7_test_126 : decode cX7_test 126 = .ok (.bipush 61, 2) := by decide +kernel
theorem dX7_test_128 : decode cX7_test 128 = .ok (.if_icmp .eq 12, 3) := by decide +kernel
theorem dX7_test_131 : decode cX7_test 131 = .ok (.aload_n 0, 1) := by decide +kernel
theorem dX7_test_132 : decode cX7_test 132 = .ok (.iconst 1, 1) := by decide +kernel
theorem dX7_test_133 : decode cX7_test 133 = .ok (.aload_n 0, 1) := by decide +kernel
theorem dX7_test_134 : decode cX7_test 134 = .ok (.getfield 113, 3) := by decide +kernel
theorem dX7_test_137 : decode cX7_test 137 = .ok (.invokevirtual 130, 3) := by decide +kernel
theorem dX7_test_140 : decode cX7_test 140 = .ok (.aload_n 0, 1) := by decide +kernel
theorem dX7_test_141 : decode cX7_test 141 = .ok (.dup, 1) := by decide +kernel
theorem dX7_test_142 : decode cX7_test 142 = .ok (.getfield 113, 3) := by decide +kernel
theorem dX7_test_145 : decode cX7_test 145 = .ok (.iconst 1, 1) := by decide +kernel
theorem dX7_test_146 : decode cX7_test 146 = .ok (.iadd, 1) := by decide +kernel
theorem dX7_test_147 : decode cX7_test 147 = .ok (.putfield 113, 3) := by decide +kernel
theorem dX7_test_150 : decode cX7_test 150 = .ok (.aload_n 0, 1) := by decide +kernel
theorem dX7_test_151 : decode cX7_test 151 = .ok (.invokevirtual 169, 3) := by decide +kernel
theorem dX7_test_154 : decode cX7_test 154 = .ok (.istore_n 3, 1) := by decide +kernel
theorem dX7_test_155 : decode cX7_test 155 = .ok (.iload_n 2, 1) := by decide +kernel
theorem dX7_test_156 : decode cX7_test 156 = .ok (.bipush 60, 2) := by decide +kernel
theorem dX7_test_158 : decode cX7_test 158 = .ok (.if_icmp .ne 16, 3) := by decide +kernel
theorem dX7_test_161 : decode cX7_test 161 = .ok (.iload_n 1, 1) := by decide +kernel
theorem dX7_test_162 : decode cX7_test 162 = .ok (.iload_n 3, 1) := by decide +kernel
theorem dX7_test_163 : decode cX7_test 163 = .ok (.if_icmp .ge 7, 3) := by decide +kernel
theorem dX7_test_166 : decode cX7_test 166 = .ok (.iconst 1, 1) := by decide +kernel
theorem dX7_test_167 : decode cX7_test 167 = .ok (.goto 36, 3) := by decide +kernel
theorem dX7_test_170 : decode cX7_test 170 = .ok (.iconst 0, 1) := by decide +kernel
theorem dX7_test_171 : decode cX7_test 171 = .ok (.goto 32, 3) := by decide +kernel
theorem dX7_test_174 : decode cX7_test 174 = .ok (.iload_n 2, 1) := by decide +kernel
theorem dX7_test_175 : decode cX7_test 175 = .ok (.bipush 62, 2) := by decide +kernel
theorem dX7_test_177 : decode cX7_test 177 = .ok (.if_icmp .ne 16, 3) := by decide +kernel
theorem dX7_test_180 : decode cX7_test 180 = .ok (.iload_n 1, 1) := by decide +kernel
theorem dX7_test_181 : decode cX7_test 181 = .ok (.iload_n 3, 1) := by decide +kernel
theorem dX7_test_182 : decode cX7_test 182 = .ok (.if_icmp .le 7, 3) := by decide +kernel
theorem dX7_test_185 : decode cX7_test 185 = .ok (.iconst 1, 1) := by decide +kernel
theorem dX7_test_186 : decode cX7_test 186 = .ok (.goto 17, 3) := by decide +kernel
theorem dX7_test_189 : decode cX7_test 189 = .ok (.iconst 0, 1) := by decide +kernel
theorem dX7_test_190 : decode cX7_test 190 = .ok (.goto 13, 3) := by decide +kernel
theorem dX7_test_193 : decode cX7_test 193 = .ok (.iload_n 1, 1) := by decide +kernel
theorem dX7_test_194 : decode cX7_test 194 = .ok (.iload_n 3, 1) := by decide +kernel
theorem dX7_test_195 : decode cX7_test 195 = .ok (.if_icmp .ne 7, 3) := by decide +kernel
theorem dX7_test_198 : decode cX7_test 198 = .ok (.iconst 1, 1) := by decide +kernel
theorem dX7_test_199 : decode cX7_test 199 = .ok (.goto 4, 3) := by decide +kernel
theorem dX7_test_202 : decode cX7_test 202 = .ok (.iconst 0, 1) := by decide +kernel
theorem dX7_test_203 : decode cX7_test 203 = .ok (.ireturn, 1) := by decide +kernel
theorem dX7_ands_0 : decode cX7_ands 0 = .ok (.aload_n 0, 1) := by decide +kernel
theorem dX7_ands_1 : decode cX7_ands 1 = .ok (.invokevirtual 181, 3) := by decide +kernel
theorem dX7_ands_4 : decode cX7_ands 4 = .ok (.istore_n 1, 1) := by decide +kernel
theorem dX7_ands_5 : decode cX7_ands 5 = .ok (.aload_n 0, 1) := by decide +kernel
theorem dX7_ands_6 : decode cX7_ands 6 = .ok (.getfield 120, 3) := by decide +kernel
theorem dX7_ands_9 : decode cX7_ands 9 = .ok (.ifCond .ne 42, 3) := by decide +kernel
theorem dX7_ands_12 : decode cX7_ands 12 = .ok (.aload_n 0, 1) := by decide +kernel
theorem dX7_ands_13 : decode cX7_ands 13 = .ok (.iconst 1, 1) := by decide +kernel
theorem dX7_ands_14 : decode cX7_ands 14 = .ok (.bipush 14, 2) := by decide +kernel
theorem dX7_ands_16 : decode cX7_ands 16 = .ok (.iconst 4, 1) := by decide +kernel
theorem dX7_ands_17 : decode cX7_ands 17 = .ok (.iconst 0, 1) := by decide +kernel
theorem dX7_ands_18 : decode cX7_ands 18 = .ok (.iconst 0, 1) := by decide +kernel
theorem dX7_ands_19 : decode cX7_ands 19 = .ok (.invokevirtual 148, 3) := by decide +kernel
theorem dX7_ands_22 : decode cX7_ands 22 = .ok (.ifCond .eq 29, 3) := by decide +kernel
theorem dX7_ands_25 : decode cX7_ands 25 = .ok (.aload_n 0, 1) := by decide +kernel
theorem dX7_ands_26 : decode cX7_ands 26 = .ok (.invokevirtual 162, 3) := by decide +kernel
theorem dX7_ands_29 : decode cX7_ands 29 = .ok (.aload_n 0, 1) := by decide +kernel
theorem dX7_ands_30 : decode cX7_ands 30 = .ok (.invokevirtual 181, 3) := by decide +kernel
theorem dX7_ands_33 : decode cX7_ands 33 = .ok (.istore_n 2, 1) := by decide +kernel
theorem dX7_ands_34 : decode cX7_ands 34 = .ok (.iload_n 1, 1) := by decide +kernel
theorem dX7_ands_35 : decode cX7_ands 35 = .ok (.ifCond .eq 11, 3) := by decide +kernel
theorem dX7_ands_38 : decode cX7_ands 38 = .ok (.iload_n 2, 1) := by decide +kernel
theorem dX7_ands_39 : decode cX7_ands 39 = .ok (.ifCond .eq 7, 3) := by decide +kernel
theorem dX7_ands_42 : decode cX7_ands 42 = .ok (.iconst 1, 1) := by decide +kernel
theorem dX7_ands_43 : decode cX7_ands 43 = .ok (.goto 4, 3) := by decide +kernel
theorem dX7_ands_46 : decode cX7_ands 46 = .ok (.iconst 0, 1) := by decide +kernel
theorem dX7_ands_47 : decode cX7_ands 47 = .ok (.istore_n 1, 1) := by decide +kernel
theorem dX7_ands_48 : decode cX7_ands 48 = .ok (.goto (-43), 3) := by decide +kernel
theorem dX7_ands_51 : decode cX7_ands 51 = .ok (.iload_n 1, 1) := by decide +kernel
theorem dX7_ands_52 : decode cX7_ands 52 = .ok (.ireturn, 1) := by decide +kernel
theorem dX7_ors_0 : decode cX7_ors 0 = .ok (.aload_n 0, 1) := by decide +kernel
theorem dX7_ors_1 : decode cX7_ors 1 = .ok (.invokevirtual 188, 3) := by decide +kernel
theorem dX7_ors_4 : decode cX7_ors 4 = .ok (.istore_n 1, 1) := by decide +kernel
theorem dX7_ors_5 : decode cX7_ors 5 = .ok (.aload_n 0, 1) := by decide +kernel
theorem dX7_ors_6 : decode cX7_ors 6 = .ok (.getfield 120, 3) := by decide +kernel
theorem dX7_ors_9 : decode cX7_ors 9 = .ok (.ifCond .ne 43, 3) := by decide +kernel
theorem dX7_ors_12 : decode cX7_ors 12 = .ok (.aload_n 0, 1) := by decide +kernel
theorem dX7_ors_13 : decode cX7_ors 13 = .ok (.bipush 15, 2) := by decide +kernel
theorem dX7_ors_15 : decode cX7_ors 15 = .ok (.bipush 18, 2) := by decide +kernel
theorem dX7_ors_17 : decode cX7_ors 17 = .ok (.iconst 0, 1) := by decide +kernel
theorem dX7_ors_18 : decode cX7_ors 18 = .ok (.iconst 0, 1) := by decide +kernel
theorem dX7_ors_19 : decode cX7_ors 19 = .ok (.iconst 0, 1) := by decide +kernel
theorem dX7_ors_20 : decode cX7_ors 20 = .ok (.invokevirtual 148, 3) := by decide +kernel
theorem dX7_ors_23 : decode cX7_ors 23 = .ok (.ifCond .eq 29, 3) := by decide +kernel
theorem dX7_ors_26 : decode cX7_ors 26 = .ok (.aload_n 0, 1) := by decide +kernel
theorem dX7_ors_27 : decode cX7_ors 27 = .ok (.invokevirtual 162, 3) := by decide +kernel
theorem dX7_ors_30 : decode cX7_ors 30 = .ok (.aload_n 0, 1) := by decide +kernel
theorem dX7_ors_31 : decode cX7_ors 31 = .ok (.invokevirtual 188, 3) := by decide +kernel
theorem dX7_ors_34 : decode cX7_ors 34 = .ok (.istore_n 2, 1) := by decide +kernel
theorem dX7_ors_35 : decode cX7_ors 35 = .ok (.iload_n 1, 1) := by decide +kernel
theorem dX7_ors_36 : decode cX7_ors 36 = .ok (.ifCond .ne 7, 3) := by decide +kernel
theorem dX7_ors_39 : decode cX7_ors 39 = .ok (.iload_n 2, 1) := by decide +kernel
theorem dX7_ors_40 : decode cX7_ors 40 = .ok (.ifCond .eq 7, 3) := by decide +kernel
theorem dX7_ors_43 : decode cX7_ors 43 = .ok (.iconst 1, 1) := by decide +kernel
theorem dX7_ors_44 : decode cX7_ors 44 = .ok (.goto 4, 3) := by decide +kernel
theorem dX7_ors_47 : decode cX7_ors 47 = .ok (.iconst 0, 1) := by decide +kernel
theorem dX7_ors_48 : decode cX7_ors 48 = .ok (.istore_n 1, 1) := by decide +kernel
theorem dX7_ors_49 : decode cX7_ors 49 = .ok (.goto (-44), 3) := by decide +kernel
theorem dX7_ors_52 : decode cX7_ors 52 = .ok (.iload_n 1, 1) := by decide +kernel
theorem dX7_ors_53 : decode cX7_ors 53 = .ok (.ireturn, 1) := by decide +kernel
theorem dX7_walksLaw_0 : decode cX7_walksLaw 0 = .ok (.aload_n 0, 1) := by decide +kernel
theorem dX7_walksLaw_1 : decode cX7_walksLaw 1 = .ok (.iconst 0, 1) := by decide +kernel
theorem dX7_walksLaw_2 : decode cX7_walksLaw 2 = .ok (.putfield 113, 3) := by decide +kernel
theorem dX7_walksLaw_5 : decode cX7_walksLaw 5 = .ok (.aload_n 0, 1) := by decide +kernel
theorem dX7_walksLaw_6 : decode cX7_walksLaw 6 = .ok (.iconst 0, 1) := by decide +kernel
theorem dX7_walksLaw_7 : decode cX7_walksLaw 7 = .ok (.putfield 145, 3) := by decide +kernel
theorem dX7_walksLaw_10 : decode cX7_walksLaw 10 = .ok (.aload_n 0, 1) := by decide +kernel
theorem dX7_walksLaw_11 : decode cX7_walksLaw 11 = .ok (.iconst 0, 1) := by decide +kernel
theorem dX7_walksLaw_12 : decode cX7_walksLaw 12 = .ok (.putfield 120, 3) := by decide +kernel
theorem dX7_walksLaw_15 : decode cX7_walksLaw 15 = .ok (.aload_n 0, 1) := by decide +kernel
theorem dX7_walksLaw_16 : decode cX7_walksLaw 16 = .ok (.iconst (-1), 1) := by decide +kernel
theorem dX7_walksLaw_17 : decode cX7_walksLaw 17 = .ok (.putfield 123, 3) := by decide +kernel
theorem dX7_walksLaw_20 : decode cX7_walksLaw 20 = .ok (.aload_n 0, 1) := by decide +kernel
theorem dX7_walksLaw_21 : decode cX7_walksLaw 21 = .ok (.invokevirtual 185, 3) := by decide +kernel
theorem dX7_walksLaw_24 : decode cX7_walksLaw 24 = .ok (.istore_n 1, 1) := by decide +kernel
theorem dX7_walksLaw_25 : decode cX7_walksLaw 25 = .ok (.aload_n 0, 1) := by decide +kernel
theorem dX7_walksLaw_26 : decode cX7_walksLaw 26 = .ok (.getfield 120, 3) := by decide +kernel
theorem dX7_walksLaw_29 : decode cX7_walksLaw 29 = .ok (.ifCond .ne 9, 3) := by decide +kernel
theorem dX7_walksLaw_32 : decode cX7_walksLaw 32 = .ok (.aload_n 0, 1) := by decide +kernel
theorem dX7_walksLaw_33 : decode cX7_walksLaw 33 = .ok (.bipush 59, 2) := by decide +kernel
theorem dX7_walksLaw_35 : decode cX7_walksLaw 35 = .ok (.invokevirtual 172, 3) := by decide +kernel
theorem dX7_walksLaw_38 : decode cX7_walksLaw 38 = .ok (.aload_n 0, 1) := by decide +kernel
theorem dX7_walksLaw_39 : decode cX7_walksLaw 39 = .ok (.invokevirtual 134, 3) := by decide +kernel
theorem dX7_walksLaw_42 : decode cX7_walksLaw 42 = .ok (.aload_n 0, 1) := by decide +kernel
theorem dX7_walksLaw_43 : decode cX7_walksLaw 43 = .ok (.getfield 120, 3) := by decide +kernel
theorem dX7_walksLaw_46 : decode cX7_walksLaw 46 = .ok (.ifCond .ne 23, 3) := by decide +kernel
theorem dX7_walksLaw_49 : decode cX7_walksLaw 49 = .ok (.aload_n 0, 1) := by decide +kernel
theorem dX7_walksLaw_50 : decode cX7_walksLaw 50 = .ok (.getfield 113, 3) := by decide +kernel
theorem dX7_walksLaw_53 : decode cX7_walksLaw 53 = .ok (.aload_n 0, 1) := by decide +kernel
theorem dX7_walksLaw_54 : decode cX7_walksLaw 54 = .ok (.getfield 107, 3) := by decide +kernel
theorem dX7_walksLaw_57 : decode cX7_walksLaw 57 = .ok (.if_icmp .ge 12, 3) := by decide +kernel
theorem dX7_walksLaw_60 : decode cX7_walksLaw 60 = .ok (.aload_n 0, 1) := by decide +kernel
theorem dX7_walksLaw_61 : decode cX7_walksLaw 61 = .ok (.iconst 1, 1) := by decide +kernel
theorem dX7_walksLaw_62 : decode cX7_walksLaw 62 = .ok (.aload_n 0, 1) := by decide +kernel
theorem dX7_walksLaw_63 : decode cX7_walksLaw 63 = .ok (.getfield 113, 3) := by decide +kernel
theorem dX7_walksLaw_66 : decode cX7_walksLaw 66 = .ok (.invokevirtual 130, 3) := by decide +kernel
theorem dX7_walksLaw_69 : decode cX7_walksLaw 69 = .ok (.iload_n 1, 1) := by decide +kernel
theorem dX7_walksLaw_70 : decode cX7_walksLaw 70 = .ok (.ireturn, 1) := by decide +kernel
theorem dX7_walks_0 : decode cX7_walks 0 = .ok (.aload_n 0, 1) := by decide +kernel
theorem dX7_walks_1 : decode cX7_walks 1 = .ok (.iconst 0, 1) := by decide +kernel
theorem dX7_walks_2 : decode cX7_walks 2 = .ok (.putfield 113, 3) := by decide +kernel
theorem dX7_walks_5 : decode cX7_walks 5 = .ok (.aload_n 0, 1) := by decide +kernel
theorem dX7_walks_6 : decode cX7_walks 6 = .ok (.iconst 0, 1) := by decide +kernel
theorem dX7_walks_7 : decode cX7_walks 7 = .ok (.putfield 145, 3) := by decide +kernel
theorem dX7_walks_10 : decode cX7_walks 10 = .ok (.aload_n 0, 1) := by decide +kernel
theorem dX7_walks_11 : decode cX7_walks 11 = .ok (.iconst 0, 1) := by decide +kernel
theorem dX7_walks_12 : decode cX7_walks 12 = .ok (.putfield 120, 3) := by decide +kernel
theorem dX7_walks_15 : decode cX7_walks 15 = .ok (.aload_n 0, 1) := by decide +kernel
theorem dX7_walks_16 : decode cX7_walks 16 = .ok (.iconst (-1), 1) := by decide +kernel
theorem dX7_walks_17 : decode cX7_walks 17 = .ok (.putfield 123, 3) := by decide +kernel
theorem dX7_walks_20 : decode cX7_walks 20 = .ok (.aload_n 0, 1) := by decide +kernel
theorem dX7_walks_21 : decode cX7_walks 21 = .ok (.iconst 0, 1) := by decide +kernel
theorem dX7_walks_22 : decode cX7_walks 22 = .ok (.putfield 191, 3) := by decide +kernel
theorem dX7_walks_25 : decode cX7_walks 25 = .ok (.aload_n 0, 1) := by decide +kernel
theorem dX7_walks_26 : decode cX7_walks 26 = .ok (.iconst 0, 1) := by decide +kernel
theorem dX7_walks_27 : decode cX7_walks 27 = .ok (.putfield 194, 3) := by decide +kernel
theorem dX7_walks_30 : decode cX7_walks 30 = .ok (.aload_n 0, 1) := by decide +kernel
theorem dX7_walks_31 : decode cX7_walks 31 = .ok (.iconst 0, 1) := by decide +kernel
theorem dX7_walks_32 : decode cX7_walks 32 = .ok (.putfield 197, 3) := by decide +kernel
theorem dX7_walks_35 : decode cX7_walks 35 = .ok (.aload_n 0, 1) := by decide +kernel
theorem dX7_walks_36 : decode cX7_walks 36 = .ok (.iconst 0, 1) := by decide +kernel
theorem dX7_walks_37 : decode cX7_walks 37 = .ok (.putfield 200, 3) := by decide +kernel
theorem dX7_walks_40 : decode cX7_walks 40 = .ok (.aload_n 0, 1) := by decide +kernel
theorem dX7_walks_41 : decode cX7_walks 41 = .ok (.invokevirtual 134, 3) := by decide +kernel
theorem dX7_walks_44 : decode cX7_walks 44 = .ok (.aload_n 0, 1) := by decide +kernel
theorem dX7_walks_45 : decode cX7_walks 45 = .ok (.getfield 120, 3) := by decide +kernel
theorem dX7_walks_48 : decode cX7_walks 48 = .ok (.ifCond .ne 25, 3) := by decide +kernel
theorem dX7_walks_51 : decode cX7_walks 51 = .ok (.aload_n 0, 1) := by decide +kernel
theorem dX7_walks_52 : decode cX7_walks 52 = .ok (.getfield 113, 3) := by decide +kernel
theorem dX7_walks_55 : decode cX7_walks 55 = .ok (.aload_n 0, 1) := by decide +kernel
theorem dX7_walks_56 : decode cX7_walks 56 = .ok (.getfield 107, 3) := by decide +kernel
theorem dX7_walks_59 : decode cX7_walks 59 = .ok (.if_icmp .ge 14, 3) := by decide +kernel
theorem dX7_walks_62 : decode cX7_walks 62 = .ok (.aload_n 0, 1) := by decide +kernel
theorem dX7_walks_63 : decode cX7_walks 63 = .ok (.invokevirtual 203, 3) := by decide +kernel
theorem dX7_walks_66 : decode cX7_walks 66 = .ok (.aload_n 0, 1) := by decide +kernel
theorem dX7_walks_67 : decode cX7_walks 67 = .ok (.invokevirtual 134, 3) := by decide +kernel
theorem dX7_walks_70 : decode cX7_walks 70 = .ok (.goto (-26), 3) := by decide +kernel
theorem dX7_walks_73 : decode cX7_walks 73 = .ok (.return_, 1) := by decide +kernel
theorem dX7_program_0 : decode cX7_program 0 = .ok (.aload_n 0, 1) := by decide +kernel
theorem dX7_program_1 : decode cX7_program 1 = .ok (.iconst 0, 1) := by decide +kernel
theorem dX7_program_2 : decode cX7_program 2 = .ok (.putfield 97, 3) := by decide +kernel
theorem dX7_program_5 : decode cX7_program 5 = .ok (.aload_n 0, 1) := by decide +kernel
theorem dX7_program_6 : decode cX7_program 6 = .ok (.iload_n 1, 1) := by decide +kernel
theorem dX7_program_7 : decode cX7_program 7 = .ok (.iconst 0, 1) := by decide +kernel
theorem dX7_program_8 : decode cX7_program 8 = .ok (.aload_n 0, 1) := by decide +kernel
theorem dX7_program_9 : decode cX7_program 9 = .ok (.getfield 104, 3) := by decide +kernel
theorem dX7_program_12 : decode cX7_program 12 = .ok (.invokestatic 100, 3) := by decide +kernel
theorem dX7_program_15 : decode cX7_program 15 = .ok (.ifCond .ne 7, 3) := by decide +kernel
theorem dX7_program_18 : decode cX7_program 18 = .ok (.iconst 1, 1) := by decide +kernel
theorem dX7_program_19 : decode cX7_program 19 = .ok (.goto 4, 3) := by decide +kernel
theorem dX7_program_22 : decode cX7_program 22 = .ok (.iconst 0, 1) := by decide +kernel
theorem dX7_program_23 : decode cX7_program 23 = .ok (.iconst 1, 1) := by decide +kernel
theorem dX7_program_24 : decode cX7_program 24 = .ok (.invokevirtual 206, 3) := by decide +kernel
theorem dX7_program_27 : decode cX7_program 27 = .ok (.ifCond .eq 5, 3) := by decide +kernel
theorem dX7_program_30 : decode cX7_program 30 = .ok (.iconst 0, 1) := by decide +kernel
theorem dX7_program_31 : decode cX7_program 31 = .ok (.ireturn, 1) := by decide +kernel
theorem dX7_program_32 : decode cX7_program 32 = .ok (.aload_n 0, 1) := by decide +kernel
theorem dX7_program_33 : decode cX7_program 33 = .ok (.iconst 0, 1) := by decide +kernel
theorem dX7_program_34 : decode cX7_program 34 = .ok (.putfield 104, 3) := by decide +kernel
theorem dX7_program_37 : decode cX7_program 37 = .ok (.aload_n 0, 1) := by decide +kernel
theorem dX7_program_38 : decode cX7_program 38 = .ok (.iconst (-1), 1) := by decide +kernel
theorem dX7_program_39 : decode cX7_program 39 = .ok (.putfield 11, 3) := by decide +kernel
theorem dX7_program_42 : decode cX7_program 42 = .ok (.iload_n 2, 1) := by decide +kernel
theorem dX7_program_43 : decode cX7_program 43 = .ok (.ifCond .eq 14, 3) := by decide +kernel
theorem dX7_program_46 : decode cX7_program 46 = .ok (.aload_n 0, 1) := by decide +kernel
theorem dX7_program_47 : decode cX7_program 47 = .ok (.getfield 210, 3) := by decide +kernel
theorem dX7_program_50 : decode cX7_program 50 = .ok (.iconst 3, 1) := by decide +kernel
theorem dX7_program_51 : decode cX7_program 51 = .ok (.if_icmp .ne 17, 3) := by decide +kernel
theorem dX7_program_54 : decode cX7_program 54 = .ok (.goto 12, 3) := by decide +kernel
theorem dX7_program_57 : decode cX7_program 57 = .ok (.aload_n 0, 1) := by decide +kernel
theorem dX7_program_58 : decode cX7_program 58 = .ok (.getfield 213, 3) := by decide +kernel
theorem dX7_program_61 : decode cX7_program 61 = .ok (.bipush 6, 2) := by decide +kernel
theorem dX7_program_63 : decode cX7_program 63 = .ok (.if_icmp .ne 5, 3) := by decide +kernel
theorem dX7_program_66 : decode cX7_program 66 = .ok (.iconst (-1), 1) := by decide +kernel
theorem dX7_program_67 : decode cX7_program 67 = .ok (.ireturn, 1) := by decide +kernel
theorem dX7_program_68 : decode cX7_program 68 = .ok (.aload_n 0, 1) := by decide +kernel
theorem dX7_program_69 : decode cX7_program 69 = .ok (.iconst (-1), 1) := by decide +kernel
theorem dX7_program_70 : decode cX7_program 70 = .ok (.putfield 110, 3) := by decide +kernel
theorem dX7_program_73 : decode cX7_program 73 = .ok (.aload_n 0, 1) := by decide +kernel
theorem dX7_program_74 : decode cX7_program 74 = .ok (.iload_n 1, 1) := by decide +kernel
theorem dX7_program_75 : decode cX7_program 75 = .ok (.putfield 107, 3) := by decide +kernel
theorem dX7_program_78 : decode cX7_program 78 = .ok (.aload_n 0, 1) := by decide +kernel
theorem dX7_program_79 : decode cX7_program 79 = .ok (.iload_n 2, 1) := by decide +kernel
theorem dX7_program_80 : decode cX7_program 80 = .ok (.putfield 152, 3) := by decide +kernel
theorem dX7_program_83 : decode cX7_program 83 = .ok (.iload_n 2, 1) := by decide +kernel
theorem dX7_program_84 : decode cX7_program 84 = .ok (.ifCond .eq 11, 3) := by decide +kernel
theorem dX7_program_87 : decode cX7_program 87 = .ok (.aload_n 0, 1) := by decide +kernel
theorem dX7_program_88 : decode cX7_program 88 = .ok (.invokevirtual 216, 3) := by decide +kernel
theorem dX7_program_91 : decode cX7_program 91 = .ok (.pop, 1) := by decide +kernel
theorem dX7_program_92 : decode cX7_program 92 = .ok (.goto 7, 3) := by decide +kernel
theorem dX7_program_95 : decode cX7_program 95 = .ok (.aload_n 0, 1) := by decide +kernel
theorem dX7_program_96 : decode cX7_program 96 = .ok (.invokevirtual 219, 3) := by decide +kernel
theorem dX7_program_99 : decode cX7_program 99 = .ok (.aload_n 0, 1) := by decide +kernel
theorem dX7_program_100 : decode cX7_program 100 = .ok (.aload_n 0, 1) := by decide +kernel
theorem dX7_program_101 : decode cX7_program 101 = .ok (.getfield 123, 3) := by decide +kernel
theorem dX7_program_104 : decode cX7_program 104 = .ok (.putfield 11, 3) := by decide +kernel
theorem dX7_program_107 : decode cX7_program 107 = .ok (.aload_n 0, 1) := by decide +kernel
theorem dX7_program_108 : decode cX7_program 108 = .ok (.getfield 120, 3) := by decide +kernel
theorem dX7_program_111 : decode cX7_program 111 = .ok (.ifCond .eq 11, 3) := by decide +kernel
theorem dX7_program_114 : decode cX7_program 114 = .ok (.aload_n 0, 1) := by decide +kernel
theorem dX7_program_115 : decode cX7_program 115 = .ok (.getfield 120, 3) := by decide +kernel
theorem dX7_program_118 : decode cX7_program 118 = .ok (.bipush 10, 2) := by decide +kernel
theorem dX7_program_120 : decode cX7_program 120 = .ok (.isub, 1) := by decide +kernel
theorem dX7_program_121 : decode cX7_program 121 = .ok (.ireturn, 1) := by decide +kernel
theorem dX7_program_122 : decode cX7_program 122 = .ok (.iload_n 2, 1) := by decide +kernel
theorem dX7_program_123 : decode cX7_program 123 = .ok (.ifCond .eq 13, 3) := by decide +kernel
theorem dX7_program_126 : decode cX7_program 126 = .ok (.bipush 6, 2) := by decide +kernel
theorem dX7_program_128 : decode cX7_program 128 = .ok (.aload_n 0, 1) := by decide +kernel
theorem dX7_program_129 : decode cX7_program 129 = .ok (.getfield 210, 3) := by decide +kernel
theorem dX7_program_132 : decode cX7_program 132 = .ok (.iadd, 1) := by decide +kernel
theorem dX7_program_133 : decode cX7_program 133 = .ok (.goto 7, 3) := by decide +kernel
theorem dX7_program_136 : decode cX7_program 136 = .ok (.aload_n 0, 1) := by decide +kernel
theorem dX7_program_137 : decode cX7_program 137 = .ok (.getfield 213, 3) := by decide +kernel
theorem dX7_program_140 : decode cX7_program 140 = .ok (.istore_n 3, 1) := by decide +kernel
theorem dX7_program_141 : decode cX7_program 141 = .ok (.iconst 0, 1) := by decide +kernel
theorem dX7_program_142 : decode cX7_program 142 = .ok (.istore 4, 2) := by decide +kernel
theorem dX7_program_144 : decode cX7_program 144 = .ok (.iload 4, 2) := by decide +kernel
theorem dX7_program_146 : decode cX7_program 146 = .ok (.iload_n 1, 1) := by decide +kernel
theorem dX7_program_147 : decode cX7_program 147 = .ok (.if_icmp .ge 25, 3) := by decide +kernel
theorem dX7_program_150 : decode cX7_program 150 = .ok (.aload_n 0, 1) := by decide +kernel
theorem dX7_program_151 : decode cX7_program 151 = .ok (.getfield 21, 3) := by decide +kernel
theorem dX7_program_154 : decode cX7_program 154 = .ok (.iload_n 3, 1) := by decide +kernel
theorem dX7_program_155 : decode cX7_program 155 = .ok (.aaload, 1) := by decide +kernel
theorem dX7_program_156 : decode cX7_program 156 = .ok (.iload 4, 2) := by decide +kernel
theorem dX7_program_158 : decode cX7_program 158 = .ok (.aload_n 0, 1) := by decide +kernel
theorem dX7_program_159 : decode cX7_program 159 = .ok (.getfield 15, 3) := by decide +kernel
theorem dX7_program_162 : decode cX7_program 162 = .ok (.iload 4, 2) := by decide +kernel
theorem dX7_program_164 : decode cX7_program 164 = .ok (.iaload, 1) := by decide +kernel
theorem dX7_program_165 : decode cX7_program 165 = .ok (.iastore, 1) := by decide +kernel
theorem dX7_program_166 : decode cX7_program 166 = .ok (.iinc 4 1, 3) := by decide +kernel
theorem dX7_program_169 : decode cX7_program 169 = .ok (.goto (-25), 3) := by decide +kernel
theorem dX7_program_172 : decode cX7_program 172 = .ok (.aload_n 0, 1) := by decide +kernel
theorem dX7_program_173 : decode cX7_program 173 = .ok (.getfield 24, 3) := by decide +kernel
theorem dX7_program_176 : decode cX7_program 176 = .ok (.iload_n 3, 1) := by decide +kernel
theorem dX7_program_177 : decode cX7_program 177 = .ok (.iload_n 1, 1) := by decide +kernel
theorem dX7_program_178 : decode cX7_program 178 = .ok (.iastore, 1) := by decide +kernel
theorem dX7_program_179 : decode cX7_program 179 = .ok (.iload_n 2, 1) := by decide +kernel
theorem dX7_program_180 : decode cX7_program 180 = .ok (.ifCond .eq 16, 3) := by decide +kernel
theorem dX7_program_183 : decode cX7_program 183 = .ok (.aload_n 0, 1) := by decide +kernel
theorem dX7_program_184 : decode cX7_program 184 = .ok (.dup, 1) := by decide +kernel
theorem dX7_program_185 : decode cX7_program 185 = .ok (.getfield 210, 3) := by decide +kernel
theorem dX7_program_188 : decode cX7_program 188 = .ok (.iconst 1, 1) := by decide +kernel
theorem dX7_program_189 : decode cX7_program 189 = .ok (.iadd, 1) := by decide +kernel
theorem dX7_program_190 : decode cX7_program 190 = .ok (.putfield 210, 3) := by decide +kernel
theorem dX7_program_193 : decode cX7_program 193 = .ok (.goto 13, 3) := by decide +kernel
theorem dX7_program_196 : decode cX7_program 196 = .ok (.aload_n 0, 1) := by decide +kernel
theorem dX7_program_197 : decode cX7_program 197 = .ok (.dup, 1) := by decide +kernel
theorem dX7_program_198 : decode cX7_program 198 = .ok (.getfield 213, 3) := by decide +kernel
theorem dX7_program_201 : decode cX7_program 201 = .ok (.iconst 1, 1) := by decide +kernel
theorem dX7_program_202 : decode cX7_program 202 = .ok (.iadd, 1) := by decide +kernel
theorem dX7_program_203 : decode cX7_program 203 = .ok (.putfield 213, 3) := by decide +kernel
theorem dX7_program_206 : decode cX7_program 206 = .ok (.iload_n 2, 1) := by decide +kernel
theorem dX7_program_207 : decode cX7_program 207 = .ok (.ifCond .eq 12, 3) := by decide +kernel
theorem dX7_program_210 : decode cX7_program 210 = .ok (.aload_n 0, 1) := by decide +kernel
theorem dX7_program_211 : decode cX7_program 211 = .ok (.getfield 210, 3) := by decide +kernel
theorem dX7_program_214 : decode cX7_program 214 = .ok (.iconst 1, 1) := by decide +kernel
theorem dX7_program_215 : decode cX7_program 215 = .ok (.isub, 1) := by decide +kernel
theorem dX7_program_216 : decode cX7_program 216 = .ok (.goto 9, 3) := by decide +kernel
theorem dX7_program_219 : decode cX7_program 219 = .ok (.aload_n 0, 1) := by decide +kernel
theorem dX7_program_220 : decode cX7_program 220 = .ok (.getfield 213, 3) := by decide +kernel
theorem dX7_program_223 : decode cX7_program 223 = .ok (.iconst 1, 1) := by decide +kernel
theorem dX7_program_224 : decode cX7_program 224 = .ok (.isub, 1) := by decide +kernel
theorem dX7_program_225 : decode cX7_program 225 = .ok (.ireturn, 1) := by decide +kernel
set_option maxHeartbeats 4000000 in
set_option maxRecDepth 100000 in
theorem c_X7_byteAt0 (l : Launch) (D : va_G) (K : Nat → ClassId) (b0 : Nat) (sa : Nat × Nat × Nat) (sz : Nat) (L : List Nat) (f0 : Nat → va_E) (Ψ : Nat → Nat) (hT : TW K (gof ((702, 0) :: [])) Ψ L f0) (m_ : Nat) (hm_m_ : m_ ∈ L) (ht_m_ : Ψ m_ = 7) : Met l yX7_byteAt (.code yX7_byteAt cX7_byteAt 2 (some .int) :: gt) { frames := 0, cells := 0, slots := 0, locals := 0 } (va_Pc [.ref m_, .int 0] (hPre D K b0 sa sz L f0)) (hQ D K b0 (fun v9 u9 => ∃ r : Int32, v9 = some (.int r) ∧ u9 = ((gof ((702, 0) :: [])), Ψ, L, f0) ∧ (r = (-1)))) 0 0 (fun q => b0 ≤ q) := by
  refine t_of (own := RX7) (by decide) rfl ?_ (Nat.le_of_ble_eq_true rfl)
  intro p e s m below meth c ls C w hsz hr hlk hnm hl
  have hx := C.1
  have hb := C.2.1
  have hl : lv_has ls 2 [(0, .ref m_), (1, .int 0)] := hl
  have hR : rawk Ψ L f0 f0 := rawk.rf
  refine lv_iload_n hx hb dX7_byteAt_0 rfl (lv_at hl 1 rfl) ?_
  refine lv_aload_n hx hb dX7_byteAt_1 rfl (lv_at hl 0 rfl) ?_
  refine t_geti C w hT hm_m_ ht_m_ (by decide) rfl cin_7 2 (by decide) rfl rfl gw_1158 dX7_byteAt_2 (fun x1 hg => ?_)
  obtain rfl : x1 = 0 := gof_at rfl hg
  refine lv_icmp_lt (tgt := 12) hx hb dX7_byteAt_5 (by decide) (fun c0 => absurd c0 (by decide)) (fun _ => ?_)
  refine lv_iconst (v := (-1)) hx hb dX7_byteAt_8 (by decide) ?_
  refine lv_goto (tgt := 40) hx hb dX7_byteAt_9 (by decide) ?_
  have nm1 : ((-1) : Int32).toInt = -1 := by decide
  exact t_iret C hr hlk w ⟨_, rfl, rfl, rfl⟩ (by decide) (by decide) dX7_byteAt_40
set_option maxHeartbeats 4000000 in
set_option maxRecDepth 100000 in
theorem c_X7_byteAt1 (l : Launch) (D : va_G) (K : Nat → ClassId) (b0 : Nat) (sa : Nat × Nat × Nat) (sz : Nat) (L : List Nat) (f0 : Nat → va_E) (Ψ : Nat → Nat) (hT : TW K (gof ((702, 0) :: [])) Ψ L f0) (m_ : Nat) (hm_m_ : m_ ∈ L) (ht_m_ : Ψ m_ = 7) : Met l yX7_byteAt (.code yX7_byteAt cX7_byteAt 2 (some .int) :: gt) { frames := 0, cells := 0, slots := 0, locals := 0 } (va_Pc [.ref m_, .int 1] (hPre D K b0 sa sz L f0)) (hQ D K b0 (fun v9 u9 => ∃ r : Int32, v9 = some (.int r) ∧ u9 = ((gof ((702, 0) :: [])), Ψ, L, f0) ∧ (r = (-1)))) 0 0 (fun q => b0 ≤ q) := by
  refine t_of (own := RX7) (by decide) rfl ?_ (Nat.le_of_ble_eq_true rfl)
  intro p e s m below meth c ls C w hsz hr hlk hnm hl
  have hx := C.1
  have hb := C.2.1
  have hl : lv_has ls 2 [(0, .ref m_), (1, .int 1)] := hl
  have hR : rawk Ψ L f0 f0 := rawk.rf
  refine lv_iload_n hx hb dX7_byteAt_0 rfl (lv_at hl 1 rfl) ?_
  refine lv_aload_n hx hb dX7_byteAt_1 rfl (lv_at hl 0 rfl) ?_
  refine t_geti C w hT hm_m_ ht_m_ (by decide) rfl cin_7 2 (by decide) rfl rfl gw_1158 dX7_byteAt_2 (fun x1 hg => ?_)
  obtain rfl : x1 = 0 := gof_at rfl hg
  refine lv_icmp_lt (tgt := 12) hx hb dX7_byteAt_5 (by decide) (fun c0 => absurd c0 (by decide)) (fun _ => ?_)
  refine lv_iconst (v := (-1)) hx hb dX7_byteAt_8 (by decide) ?_
  refine lv_goto (tgt := 40) hx hb dX7_byteAt_9 (by decide) ?_
  have nm1 : ((-1) : Int32).toInt = -1 := by decide
  exact t_iret C hr hlk w ⟨_, rfl, rfl, rfl⟩ (by decide) (by decide) dX7_byteAt_40
set_option maxHeartbeats 4000000 in
set_option maxRecDepth 100000 in
theorem c_X7_blanks0 (l : Launch) (D : va_G) (K : Nat → ClassId) (b0 : Nat) (sa : Nat × Nat × Nat) (sz : Nat) (L : List Nat) (f0 : Nat → va_E) (Ψ : Nat → Nat) (hT : TW K (gof ((702, 0) :: ((704, 0) :: []))) Ψ L f0) (m_ : Nat) (hm_m_ : m_ ∈ L) (ht_m_ : Ψ m_ = 7) : Met l yX7_blanks (.code yX7_blanks cX7_blanks 1 none :: gt) { frames := 1, cells := 0, slots := 0, locals := 21 } (va_Pc [.ref m_] (hPre D K b0 sa sz L f0)) (hQ D K b0 (fun v9 u9 => v9 = none ∧ u9 = ((gof ((702, 0) :: ((704, 0) :: []))), Ψ, L, f0))) 0 0 (fun q => b0 ≤ q) := by
  refine t_of (own := RX7) (by decide) rfl ?_ (Nat.le_of_ble_eq_true rfl)
  intro p e s m below meth c ls C w hsz hr hlk hnm hl
  have hx := C.1
  have hb := C.2.1
  have hl : lv_has ls 1 [(0, .ref m_)] := hl
  have hR : rawk Ψ L f0 f0 := rawk.rf
  refine lv_aload_n hx hb dX7_blanks_0 rfl (lv_at hl 0 rfl) ?_
  refine lv_aload_n hx hb dX7_blanks_1 rfl (lv_at hl 0 rfl) ?_
  refine t_geti C w hT hm_m_ ht_m_ (by decide) rfl cin_7 4 (by decide) rfl rfl gw_1160 dX7_blanks_2 (fun x1 hg => ?_)
  obtain rfl : x1 = 0 := gof_at rfl hg
  refine t_callV (n := 1) C w hT hm_m_ ht_m_ (by decide) rfl rfl (c_X7_byteAt0 l D K b0 sa _ L _ Ψ (hT.mono (gof_sub rfl)) m_ hm_m_ ht_m_) gw_1379 gw_1376 gw_1378 gs_30 gw_8 ⟨by decide, by decide, by decide +kernel⟩ rfl rfl ⟨by decide, by decide⟩ rfl hl.1 rfl (Nat.le_of_ble_eq_true rfl) dX7_blanks_5 ⟨by decide, by decide⟩ (fun v u H locs hp w => ?_)
  obtain ⟨r2, rfl, rfl, hrr2⟩ := hp
  obtain rfl := hrr2
  refine lv_bipush (v := 32) hx hb dX7_blanks_8 (by decide) ?_
  refine lv_icmp_ne (tgt := 26) hx hb dX7_blanks_10 (by decide) (fun _ => ?_) (fun c0 => absurd c0 (by decide))
  exact t_vret C hr hlk w ⟨rfl, rfl⟩ (by decide) (by decide) dX7_blanks_26
set_option maxHeartbeats 4000000 in
set_option maxRecDepth 100000 in
theorem c_X7_blanks1 (l : Launch) (D : va_G) (K : Nat → ClassId) (b0 : Nat) (sa : Nat × Nat × Nat) (sz : Nat) (L : List Nat) (f0 : Nat → va_E) (Ψ : Nat → Nat) (hT : TW K (gof ((702, 0) :: ((704, 1) :: []))) Ψ L f0) (m_ : Nat) (hm_m_ : m_ ∈ L) (ht_m_ : Ψ m_ = 7) : Met l yX7_blanks (.code yX7_blanks cX7_blanks 1 none :: gt) { frames := 1, cells := 0, slots := 0, locals := 21 } (va_Pc [.ref m_] (hPre D K b0 sa sz L f0)) (hQ D K b0 (fun v9 u9 => v9 = none ∧ u9 = ((gof ((702, 0) :: ((704, 1) :: []))), Ψ, L, f0))) 0 0 (fun q => b0 ≤ q) := by
  refine t_of (own := RX7) (by decide) rfl ?_ (Nat.le_of_ble_eq_true rfl)
  intro p e s m below meth c ls C w hsz hr hlk hnm hl
  have hx := C.1
  have hb := C.2.1
  have hl : lv_has ls 1 [(0, .ref m_)] := hl
  have hR : rawk Ψ L f0 f0 := rawk.rf
  refine lv_aload_n hx hb dX7_blanks_0 rfl (lv_at hl 0 rfl) ?_
  refine lv_aload_n hx hb dX7_blanks_1 rfl (lv_at hl 0 rfl) ?_
  refine t_geti C w hT hm_m_ ht_m_ (by decide) rfl cin_7 4 (by decide) rfl rfl gw_1160 dX7_blanks_2 (fun x1 hg => ?_)
  obtain rfl : x1 = 1 := gof_at rfl hg
  refine t_callV (n := 1) C w hT hm_m_ ht_m_ (by decide) rfl rfl (c_X7_byteAt1 l D K b0 sa _ L _ Ψ (hT.mono (gof_sub rfl)) m_ hm_m_ ht_m_) gw_1379 gw_1376 gw_1378 gs_30 gw_8 ⟨by decide, by decide, by decide +kernel⟩ rfl rfl ⟨by decide, by decide⟩ rfl hl.1 rfl (Nat.le_of_ble_eq_true rfl) dX7_blanks_5 ⟨by decide, by decide⟩ (fun v u H locs hp w => ?_)
  obtain ⟨r2, rfl, rfl, hrr2⟩ := hp
  obtain rfl := hrr2
  refine lv_bipush (v := 32) hx hb dX7_blanks_8 (by decide) ?_
  refine lv_icmp_ne (tgt := 26) hx hb dX7_blanks_10 (by decide) (fun _ => ?_) (fun c0 => absurd c0 (by decide))
  exact t_vret C hr hlk w ⟨rfl, rfl⟩ (by decide) (by decide) dX7_blanks_26
set_option maxHeartbeats 4000000 in
set_option maxRecDepth 100000 in
theorem c_X7_isDigitN (l : Launch) (D : va_G) (K : Nat → ClassId) (b0 : Nat) (sa : Nat × Nat × Nat) (sz : Nat) (L : List Nat) (f0 : Nat → va_E) (Ψ : Nat → Nat) (G : tG) (hT : TW K G Ψ L f0)  : Met l yX7_isDigit (.code yX7_isDigit cX7_isDigit 1 (some .boolean) :: gt) { frames := 0, cells := 0, slots := 0, locals := 0 } (va_Pc [.int (-1)] (hPre D K b0 sa sz L f0)) (hQ D K b0 (fun v9 u9 => ∃ r : Int32, v9 = some (.int r) ∧ u9 = (G, Ψ, L, f0) ∧ (r = 0))) 0 0 (fun q => b0 ≤ q) := by
  refine t_of (own := RX7) (by decide) rfl ?_ (Nat.le_of_ble_eq_true rfl)
  intro p e s m below meth c ls C w hsz hr hlk hnm hl
  have hx := C.1
  have hb := C.2.1
  have hl : lv_has ls 1 [(0, .int (-1))] := hl
  have hR : rawk Ψ L f0 f0 := rawk.rf
  refine lv_iload_n hx hb dX7_isDigit_0 rfl (lv_at hl 0 rfl) ?_
  refine lv_bipush (v := 48) hx hb dX7_isDigit_1 (by decide) ?_
  refine lv_icmp_lt (tgt := 16) hx hb dX7_isDigit_3 (by decide) (fun _ => ?_) (fun c0 => absurd c0 (by decide))
  refine lv_iconst (v := 0) hx hb dX7_isDigit_16 (by decide) ?_
  have n0 : (0 : Int32).toInt = 0 := by decide
  exact t_zret C hr hlk w (by decide) ⟨_, rfl, rfl, rfl⟩ (by decide) (by decide) dX7_isDigit_17
set_option maxHeartbeats 4000000 in
set_option maxRecDepth 100000 in
theorem c_X7_wordHere0 (l : Launch) (D : va_G) (K : Nat → ClassId) (b0 : Nat) (sa : Nat × Nat × Nat) (sz : Nat) (L : List Nat) (f0 : Nat → va_E) (Ψ : Nat → Nat) (hT : TW K (gof ((702, 0) :: ((704, 0) :: []))) Ψ L f0) (m_ : Nat) (hm_m_ : m_ ∈ L) (ht_m_ : Ψ m_ = 7) : Met l yX7_wordHere (.code yX7_wordHere cX7_wordHere 3 (some .int) :: gt) { frames := 2, cells := 0, slots := 0, locals := 41 } (va_Pc [.ref m_] (hPre D K b0 sa sz L f0)) (hQ D K b0 (fun v9 u9 => ∃ r : Int32, v9 = some (.int r) ∧ u9 = ((gof ((702, 0) :: ((704, 0) :: []))), Ψ, L, f0) ∧ (r = 0))) 0 0 (fun q => b0 ≤ q) := by
  refine t_of (own := RX7) (by decide) rfl ?_ (Nat.le_of_ble_eq_true rfl)
  intro p e s m below meth c ls C w hsz hr hlk hnm hl
  have hx := C.1
  have hb := C.2.1
  have hl : lv_has ls 3 [(0, .ref m_)] := hl
  have hR : rawk Ψ L f0 f0 := rawk.rf
  refine lv_aload_n hx hb dX7_wordHere_0 rfl (lv_at hl 0 rfl) ?_
  refine t_callV (n := 0) C w hT hm_m_ ht_m_ (by decide) rfl rfl (c_X7_blanks0 l D K b0 sa _ L _ Ψ hT m_ hm_m_ ht_m_) gw_1375 gw_1372 gw_1374 gs_29 gw_8 ⟨by decide, by decide, by decide +kernel⟩ rfl rfl ⟨by decide, by decide⟩ rfl hl.1 rfl (Nat.le_of_ble_eq_true rfl) dX7_wordHere_1 ⟨by decide, by decide⟩ (fun v u H locs hp w => ?_)
  obtain ⟨rfl, rfl⟩ := hp
  refine lv_iconst (v := 0) hx hb dX7_wordHere_4 (by decide) ?_
  refine lv_istore_n (lv' := [(1, .int 0), (0, .ref m_)]) hx hb dX7_wordHere_5 rfl hl (by decide) rfl (fun ls hl => ?_)
  refine lv_iconst (v := 0) hx hb dX7_wordHere_6 (by decide) ?_
  refine lv_istore_n (lv' := [(2, .int 0), (1, .int 0), (0, .ref m_)]) hx hb dX7_wordHere_7 rfl hl (by decide) rfl (fun ls hl => ?_)
  refine lv_aload_n hx hb dX7_wordHere_8 rfl (lv_at hl 2 rfl) ?_
  refine lv_aload_n hx hb dX7_wordHere_9 rfl (lv_at hl 2 rfl) ?_
  refine t_geti C w hT hm_m_ ht_m_ (by decide) rfl cin_7 4 (by decide) rfl rfl gw_1160 dX7_wordHere_10 (fun x1 hg => ?_)
  obtain rfl : x1 = 0 := gof_at rfl hg
  refine lv_iload_n hx hb dX7_wordHere_13 rfl (lv_at hl 0 rfl) ?_
  refine lv_iadd hx hb dX7_wordHere_14 ?_
  refine lv_topi (fun y2 ey2 => ?_)
  obtain rfl : y2 = 0 := ey2.trans (by decide)
  refine t_callV (n := 1) C w hT hm_m_ ht_m_ (by decide) rfl rfl (c_X7_byteAt0 l D K b0 sa _ L _ Ψ (hT.mono (gof_sub rfl)) m_ hm_m_ ht_m_) gw_1379 gw_1376 gw_1378 gs_30 gw_8 ⟨by decide, by decide, by decide +kernel⟩ rfl rfl ⟨by decide, by decide⟩ rfl hl.1 rfl (Nat.le_of_ble_eq_true rfl) dX7_wordHere_15 ⟨by decide, by decide⟩ (fun v u H locs hp w => ?_)
  obtain ⟨r3, rfl, rfl, hrr3⟩ := hp
  obtain rfl := hrr3
  refine lv_bipush (v := 97) hx hb dX7_wordHere_18 (by decide) ?_
  refine lv_icmp_lt (tgt := 74) hx hb dX7_wordHere_20 (by decide) (fun _ => ?_) (fun c0 => absurd c0 (by decide))
  refine lv_iload_n hx hb dX7_wordHere_74 rfl (lv_at hl 0 rfl) ?_
  refine lv_iconst (v := 5) hx hb dX7_wordHere_75 (by decide) ?_
  refine lv_icmp_le (tgt := 83) hx hb dX7_wordHere_76 (by decide) (fun _ => ?_) (fun c0 => absurd c0 (by decide))
  refine lv_iload_n hx hb dX7_wordHere_83 rfl (lv_at hl 1 rfl) ?_
  have n0 : (0 : Int32).toInt = 0 := by decide
  exact t_iret C hr hlk w ⟨_, rfl, rfl, rfl⟩ (by decide) (by decide) dX7_wordHere_84
set_option maxHeartbeats 4000000 in
set_option maxRecDepth 100000 in
theorem c_X7_word0 (l : Launch) (D : va_G) (K : Nat → ClassId) (b0 : Nat) (sa : Nat × Nat × Nat) (sz : Nat) (L : List Nat) (f0 : Nat → va_E) (Ψ : Nat → Nat) (G : tG) (hT : TW K G Ψ L f0)  : Met l yX7_word (.code yX7_word cX7_word 6 (some .int) :: gt) { frames := 0, cells := 0, slots := 0, locals := 0 } (va_Pc [.int 20, .int 18, .int 9, .int 5, .int 19] (hPre D K b0 sa sz L f0)) (hQ D K b0 (fun v9 u9 => ∃ r : Int32, v9 = some (.int r) ∧ u9 = (G, Ψ, L, f0) ∧ (r = 10989829))) 0 0 (fun q => b0 ≤ q) := by
  refine t_of (own := RX7) (by decide) rfl ?_ (Nat.le_of_ble_eq_true rfl)
  intro p e s m below meth c ls C w hsz hr hlk hnm hl
  have hx := C.1
  have hb := C.2.1
  have hl : lv_has ls 6 [(0, .int 20), (1, .int 18), (2, .int 9), (3, .int 5), (4, .int 19)] := hl
  have hR : rawk Ψ L f0 f0 := rawk.rf
  refine lv_bipush (v := 27) hx hb dX7_word_0 (by decide) ?_
  refine lv_iload_n hx hb dX7_word_2 rfl (lv_at hl 0 rfl) ?_
  refine lv_imul hx hb dX7_word_3 ?_
  refine lv_topi (fun y1 ey1 => ?_)
  obtain rfl : y1 = 540 := ey1.trans (by decide)
  refine lv_iload_n hx hb dX7_word_4 rfl (lv_at hl 1 rfl) ?_
  refine lv_iadd hx hb dX7_word_5 ?_
  refine lv_topi (fun y2 ey2 => ?_)
  obtain rfl : y2 = 558 := ey2.trans (by decide)
  refine lv_istore (lv' := [(5, .int 558), (0, .int 20), (1, .int 18), (2, .int 9), (3, .int 5), (4, .int 19)]) hx hb dX7_word_6 hl (by decide) rfl (fun ls hl => ?_)
  refine lv_iload_n hx hb dX7_word_8 rfl (lv_at hl 3 rfl) ?_
  refine lv_if_ne (tgt := 17) hx hb dX7_word_9 (by decide) (fun _ => ?_) (fun c0 => absurd c0 (by decide))
  refine lv_bipush (v := 27) hx hb dX7_word_17 (by decide) ?_
  refine lv_iload hx hb dX7_word_19 (lv_at hl 0 rfl) ?_
  refine lv_imul hx hb dX7_word_21 ?_
  refine lv_topi (fun y3 ey3 => ?_)
  obtain rfl : y3 = 15066 := ey3.trans (by decide)
  refine lv_iload_n hx hb dX7_word_22 rfl (lv_at hl 3 rfl) ?_
  refine lv_iadd hx hb dX7_word_23 ?_
  refine lv_topi (fun y4 ey4 => ?_)
  obtain rfl : y4 = 15075 := ey4.trans (by decide)
  refine lv_istore (lv' := [(5, .int 15075), (0, .int 20), (1, .int 18), (2, .int 9), (3, .int 5), (4, .int 19)]) hx hb dX7_word_24 hl (by decide) rfl (fun ls hl => ?_)
  refine lv_iload_n hx hb dX7_word_26 rfl (lv_at hl 4 rfl) ?_
  refine lv_if_ne (tgt := 35) hx hb dX7_word_27 (by decide) (fun _ => ?_) (fun c0 => absurd c0 (by decide))
  refine lv_bipush (v := 27) hx hb dX7_word_35 (by decide) ?_
  refine lv_iload hx hb dX7_word_37 (lv_at hl 0 rfl) ?_
  refine lv_imul hx hb dX7_word_39 ?_
  refine lv_topi (fun y5 ey5 => ?_)
  obtain rfl : y5 = 407025 := ey5.trans (by decide)
  refine lv_iload_n hx hb dX7_word_40 rfl (lv_at hl 4 rfl) ?_
  refine lv_iadd hx hb dX7_word_41 ?_
  refine lv_topi (fun y6 ey6 => ?_)
  obtain rfl : y6 = 407030 := ey6.trans (by decide)
  refine lv_istore (lv' := [(5, .int 407030), (0, .int 20), (1, .int 18), (2, .int 9), (3, .int 5), (4, .int 19)]) hx hb dX7_word_42 hl (by decide) rfl (fun ls hl => ?_)
  refine lv_iload hx hb dX7_word_44 (lv_at hl 5 rfl) ?_
  refine lv_if_ne (tgt := 54) hx hb dX7_word_46 (by decide) (fun _ => ?_) (fun c0 => absurd c0 (by decide))
  refine lv_bipush (v := 27) hx hb dX7_word_54 (by decide) ?_
  refine lv_iload hx hb dX7_word_56 (lv_at hl 0 rfl) ?_
  refine lv_imul hx hb dX7_word_58 ?_
  refine lv_topi (fun y7 ey7 => ?_)
  obtain rfl : y7 = 10989810 := ey7.trans (by decide)
  refine lv_iload hx hb dX7_word_59 (lv_at hl 5 rfl) ?_
  refine lv_iadd hx hb dX7_word_61 ?_
  refine lv_topi (fun y8 ey8 => ?_)
  obtain rfl : y8 = 10989829 := ey8.trans (by decide)
  have n10989829 : (10989829 : Int32).toInt = 10989829 := by decide
  exact t_iret C hr hlk w ⟨_, rfl, rfl, rfl⟩ (by decide) (by decide) dX7_word_62
set_option maxHeartbeats 4000000 in
set_option maxRecDepth 100000 in
theorem c_X7_word1 (l : Launch) (D : va_G) (K : Nat → ClassId) (b0 : Nat) (sa : Nat × Nat × Nat) (sz : Nat) (L : List Nat) (f0 : Nat → va_E) (Ψ : Nat → Nat) (G : tG) (hT : TW K G Ψ L f0)  : Met l yX7_word (.code yX7_word cX7_word 6 (some .int) :: gt) { frames := 0, cells := 0, slots := 0, locals := 0 } (va_Pc [.int 19, .int 9, .int 14, .int 3, .int 5] (hPre D K b0 sa sz L f0)) (hQ D K b0 (fun v9 u9 => ∃ r : Int32, v9 = some (.int r) ∧ u9 = (G, Ψ, L, f0) ∧ (r = 10284818))) 0 0 (fun q => b0 ≤ q) := by
  refine t_of (own := RX7) (by decide) rfl ?_ (Nat.le_of_ble_eq_true rfl)
  intro p e s m below meth c ls C w hsz hr hlk hnm hl
  have hx := C.1
  have hb := C.2.1
  have hl : lv_has ls 6 [(0, .int 19), (1, .int 9), (2, .int 14), (3, .int 3), (4, .int 5)] := hl
  have hR : rawk Ψ L f0 f0 := rawk.rf
  refine lv_bipush (v := 27) hx hb dX7_word_0 (by decide) ?_
  refine lv_iload_n hx hb dX7_word_2 rfl (lv_at hl 0 rfl) ?_
  refine lv_imul hx hb dX7_word_3 ?_
  refine lv_topi (fun y1 ey1 => ?_)
  obtain rfl : y1 = 513 := ey1.trans (by decide)
  refine lv_iload_n hx hb dX7_word_4 rfl (lv_at hl 1 rfl) ?_
  refine lv_iadd hx hb dX7_word_5 ?_
  refine lv_topi (fun y2 ey2 => ?_)
  obtain rfl : y2 = 522 := ey2.trans (by decide)
  refine lv_istore (lv' := [(5, .int 522), (0, .int 19), (1, .int 9), (2, .int 14), (3, .int 3), (4, .int 5)]) hx hb dX7_word_6 hl (by decide) rfl (fun ls hl => ?_)
  refine lv_iload_n hx hb dX7_word_8 rfl (lv_at hl 3 rfl) ?_
  refine lv_if_ne (tgt := 17) hx hb dX7_word_9 (by decide) (fun _ => ?_) (fun c0 => absurd c0 (by decide))
  refine lv_bipush (v := 27) hx hb dX7_word_17 (by decide) ?_
  refine lv_iload hx hb dX7_word_19 (lv_at hl 0 rfl) ?_
  refine lv_imul hx hb dX7_word_21 ?_
  refine lv_topi (fun y3 ey3 => ?_)
  obtain rfl : y3 = 14094 := ey3.trans (by decide)
  refine lv_iload_n hx hb dX7_word_22 rfl (lv_at hl 3 rfl) ?_
  refine lv_iadd hx hb dX7_word_23 ?_
  refine lv_topi (fun y4 ey4 => ?_)
  obtain rfl : y4 = 14108 := ey4.trans (by decide)
  refine lv_istore (lv' := [(5, .int 14108), (0, .int 19), (1, .int 9), (2, .int 14), (3, .int 3), (4, .int 5)]) hx hb dX7_word_24 hl (by decide) rfl (fun ls hl => ?_)
  refine lv_iload_n hx hb dX7_word_26 rfl (lv_at hl 4 rfl) ?_
  refine lv_if_ne (tgt := 35) hx hb dX7_word_27 (by decide) (fun _ => ?_) (fun c0 => absurd c0 (by decide))
  refine lv_bipush (v := 27) hx hb dX7_word_35 (by decide) ?_
  refine lv_iload hx hb dX7_word_37 (lv_at hl 0 rfl) ?_
  refine lv_imul hx hb dX7_word_39 ?_
  refine lv_topi (fun y5 ey5 => ?_)
  obtain rfl : y5 = 380916 := ey5.trans (by decide)
  refine lv_iload_n hx hb dX7_word_40 rfl (lv_at hl 4 rfl) ?_
  refine lv_iadd hx hb dX7_word_41 ?_
  refine lv_topi (fun y6 ey6 => ?_)
  obtain rfl : y6 = 380919 := ey6.trans (by decide)
  refine lv_istore (lv' := [(5, .int 380919), (0, .int 19), (1, .int 9), (2, .int 14), (3, .int 3), (4, .int 5)]) hx hb dX7_word_42 hl (by decide) rfl (fun ls hl => ?_)
  refine lv_iload hx hb dX7_word_44 (lv_at hl 5 rfl) ?_
  refine lv_if_ne (tgt := 54) hx hb dX7_word_46 (by decide) (fun _ => ?_) (fun c0 => absurd c0 (by decide))
  refine lv_bipush (v := 27) hx hb dX7_word_54 (by decide) ?_
  refine lv_iload hx hb dX7_word_56 (lv_at hl 0 rfl) ?_
  refine lv_imul hx hb dX7_word_58 ?_
  refine lv_topi (fun y7 ey7 => ?_)
  obtain rfl : y7 = 10284813 := ey7.trans (by decide)
  refine lv_iload hx hb dX7_word_59 (lv_at hl 5 rfl) ?_
  refine lv_iadd hx hb dX7_word_61 ?_
  refine lv_topi (fun y8 ey8 => ?_)
  obtain rfl : y8 = 10284818 := ey8.trans (by decide)
  have n10284818 : (10284818 : Int32).toInt = 10284818 := by decide
  exact t_iret C hr hlk w ⟨_, rfl, rfl, rfl⟩ (by decide) (by decide) dX7_word_62
set_option maxHeartbeats 4000000 in
set_option maxRecDepth 100000 in
theorem c_X7_word2 (l : Launch) (D : va_G) (K : Nat → ClassId) (b0 : Nat) (sa : Nat × Nat × Nat) (sz : Nat) (L : List Nat) (f0 : Nat → va_E) (Ψ : Nat → Nat) (G : tG) (hT : TW K G Ψ L f0)  : Met l yX7_word (.code yX7_word cX7_word 6 (some .int) :: gt) { frames := 0, cells := 0, slots := 0, locals := 0 } (va_Pc [.int 3, .int 15, .int 9, .int 14, .int 19] (hPre D K b0 sa sz L f0)) (hQ D K b0 (fun v9 u9 => ∃ r : Int32, v9 = some (.int r) ∧ u9 = (G, Ψ, L, f0) ∧ (r = 1896526))) 0 0 (fun q => b0 ≤ q) := by
  refine t_of (own := RX7) (by decide) rfl ?_ (Nat.le_of_ble_eq_true rfl)
  intro p e s m below meth c ls C w hsz hr hlk hnm hl
  have hx := C.1
  have hb := C.2.1
  have hl : lv_has ls 6 [(0, .int 3), (1, .int 15), (2, .int 9), (3, .int 14), (4, .int 19)] := hl
  have hR : rawk Ψ L f0 f0 := rawk.rf
  refine lv_bipush (v := 27) hx hb dX7_word_0 (by decide) ?_
  refine lv_iload_n hx hb dX7_word_2 rfl (lv_at hl 0 rfl) ?_
  refine lv_imul hx hb dX7_word_3 ?_
  refine lv_topi (fun y1 ey1 => ?_)
  obtain rfl : y1 = 81 := ey1.trans (by decide)
  refine lv_iload_n hx hb dX7_word_4 rfl (lv_at hl 1 rfl) ?_
  refine lv_iadd hx hb dX7_word_5 ?_
  refine lv_topi (fun y2 ey2 => ?_)
  obtain rfl : y2 = 96 := ey2.trans (by decide)
  refine lv_istore (lv' := [(5, .int 96), (0, .int 3), (1, .int 15), (2, .int 9), (3, .int 14), (4, .int 19)]) hx hb dX7_word_6 hl (by decide) rfl (fun ls hl => ?_)
  refine lv_iload_n hx hb dX7_word_8 rfl (lv_at hl 3 rfl) ?_
  refine lv_if_ne (tgt := 17) hx hb dX7_word_9 (by decide) (fun _ => ?_) (fun c0 => absurd c0 (by decide))
  refine lv_bipush (v := 27) hx hb dX7_word_17 (by decide) ?_
  refine lv_iload hx hb dX7_word_19 (lv_at hl 0 rfl) ?_
  refine lv_imul hx hb dX7_word_21 ?_
  refine lv_topi (fun y3 ey3 => ?_)
  obtain rfl : y3 = 2592 := ey3.trans (by decide)
  refine lv_iload_n hx hb dX7_word_22 rfl (lv_at hl 3 rfl) ?_
  refine lv_iadd hx hb dX7_word_23 ?_
  refine lv_topi (fun y4 ey4 => ?_)
  obtain rfl : y4 = 2601 := ey4.trans (by decide)
  refine lv_istore (lv' := [(5, .int 2601), (0, .int 3), (1, .int 15), (2, .int 9), (3, .int 14), (4, .int 19)]) hx hb dX7_word_24 hl (by decide) rfl (fun ls hl => ?_)
  refine lv_iload_n hx hb dX7_word_26 rfl (lv_at hl 4 rfl) ?_
  refine lv_if_ne (tgt := 35) hx hb dX7_word_27 (by decide) (fun _ => ?_) (fun c0 => absurd c0 (by decide))
  refine lv_bipush (v := 27) hx hb dX7_word_35 (by decide) ?_
  refine lv_iload hx hb dX7_word_37 (lv_at hl 0 rfl) ?_
  refine lv_imul hx hb dX7_word_39 ?_
  refine lv_topi (fun y5 ey5 => ?_)
  obtain rfl : y5 = 70227 := ey5.trans (by decide)
  refine lv_iload_n hx hb dX7_word_40 rfl (lv_at hl 4 rfl) ?_
  refine lv_iadd hx hb dX7_word_41 ?_
  refine lv_topi (fun y6 ey6 => ?_)
  obtain rfl : y6 = 70241 := ey6.trans (by decide)
  refine lv_istore (lv' := [(5, .int 70241), (0, .int 3), (1, .int 15), (2, .int 9), (3, .int 14), (4, .int 19)]) hx hb dX7_word_42 hl (by decide) rfl (fun ls hl => ?_)
  refine lv_iload hx hb dX7_word_44 (lv_at hl 5 rfl) ?_
  refine lv_if_ne (tgt := 54) hx hb dX7_word_46 (by decide) (fun _ => ?_) (fun c0 => absurd c0 (by decide))
  refine lv_bipush (v := 27) hx hb dX7_word_54 (by decide) ?_
  refine lv_iload hx hb dX7_word_56 (lv_at hl 0 rfl) ?_
  refine lv_imul hx hb dX7_word_58 ?_
  refine lv_topi (fun y7 ey7 => ?_)
  obtain rfl : y7 = 1896507 := ey7.trans (by decide)
  refine lv_iload hx hb dX7_word_59 (lv_at hl 5 rfl) ?_
  refine lv_iadd hx hb dX7_word_61 ?_
  refine lv_topi (fun y8 ey8 => ?_)
  obtain rfl : y8 = 1896526 := ey8.trans (by decide)
  have n1896526 : (1896526 : Int32).toInt = 1896526 := by decide
  exact t_iret C hr hlk w ⟨_, rfl, rfl, rfl⟩ (by decide) (by decide) dX7_word_62
set_option maxHeartbeats 4000000 in
set_option maxRecDepth 100000 in
theorem c_X7_word3 (l : Launch) (D : va_G) (K : Nat → ClassId) (b0 : Nat) (sa : Nat × Nat × Nat) (sz : Nat) (L : List Nat) (f0 : Nat → va_E) (Ψ : Nat → Nat) (G : tG) (hT : TW K G Ψ L f0)  : Met l yX7_word (.code yX7_word cX7_word 6 (some .int) :: gt) { frames := 0, cells := 0, slots := 0, locals := 0 } (va_Pc [.int 16, .int 1, .int 9, .int 4, .int 0] (hPre D K b0 sa sz L f0)) (hQ D K b0 (fun v9 u9 => ∃ r : Int32, v9 = some (.int r) ∧ u9 = (G, Ψ, L, f0) ∧ (r = 315904))) 0 0 (fun q => b0 ≤ q) := by
  refine t_of (own := RX7) (by decide) rfl ?_ (Nat.le_of_ble_eq_true rfl)
  intro p e s m below meth c ls C w hsz hr hlk hnm hl
  have hx := C.1
  have hb := C.2.1
  have hl : lv_has ls 6 [(0, .int 16), (1, .int 1), (2, .int 9), (3, .int 4), (4, .int 0)] := hl
  have hR : rawk Ψ L f0 f0 := rawk.rf
  refine lv_bipush (v := 27) hx hb dX7_word_0 (by decide) ?_
  refine lv_iload_n hx hb dX7_word_2 rfl (lv_at hl 0 rfl) ?_
  refine lv_imul hx hb dX7_word_3 ?_
  refine lv_topi (fun y1 ey1 => ?_)
  obtain rfl : y1 = 432 := ey1.trans (by decide)
  refine lv_iload_n hx hb dX7_word_4 rfl (lv_at hl 1 rfl) ?_
  refine lv_iadd hx hb dX7_word_5 ?_
  refine lv_topi (fun y2 ey2 => ?_)
  obtain rfl : y2 = 433 := ey2.trans (by decide)
  refine lv_istore (lv' := [(5, .int 433), (0, .int 16), (1, .int 1), (2, .int 9), (3, .int 4), (4, .int 0)]) hx hb dX7_word_6 hl (by decide) rfl (fun ls hl => ?_)
  refine lv_iload_n hx hb dX7_word_8 rfl (lv_at hl 3 rfl) ?_
  refine lv_if_ne (tgt := 17) hx hb dX7_word_9 (by decide) (fun _ => ?_) (fun c0 => absurd c0 (by decide))
  refine lv_bipush (v := 27) hx hb dX7_word_17 (by decide) ?_
  refine lv_iload hx hb dX7_word_19 (lv_at hl 0 rfl) ?_
  refine lv_imul hx hb dX7_word_21 ?_
  refine lv_topi (fun y3 ey3 => ?_)
  obtain rfl : y3 = 11691 := ey3.trans (by decide)
  refine lv_iload_n hx hb dX7_word_22 rfl (lv_at hl 3 rfl) ?_
  refine lv_iadd hx hb dX7_word_23 ?_
  refine lv_topi (fun y4 ey4 => ?_)
  obtain rfl : y4 = 11700 := ey4.trans (by decide)
  refine lv_istore (lv' := [(5, .int 11700), (0, .int 16), (1, .int 1), (2, .int 9), (3, .int 4), (4, .int 0)]) hx hb dX7_word_24 hl (by decide) rfl (fun ls hl => ?_)
  refine lv_iload_n hx hb dX7_word_26 rfl (lv_at hl 4 rfl) ?_
  refine lv_if_ne (tgt := 35) hx hb dX7_word_27 (by decide) (fun _ => ?_) (fun c0 => absurd c0 (by decide))
  refine lv_bipush (v := 27) hx hb dX7_word_35 (by decide) ?_
  refine lv_iload hx hb dX7_word_37 (lv_at hl 0 rfl) ?_
  refine lv_imul hx hb dX7_word_39 ?_
  refine lv_topi (fun y5 ey5 => ?_)
  obtain rfl : y5 = 315900 := ey5.trans (by decide)
  refine lv_iload_n hx hb dX7_word_40 rfl (lv_at hl 4 rfl) ?_
  refine lv_iadd hx hb dX7_word_41 ?_
  refine lv_topi (fun y6 ey6 => ?_)
  obtain rfl : y6 = 315904 := ey6.trans (by decide)
  refine lv_istore (lv' := [(5, .int 315904), (0, .int 16), (1, .int 1), (2, .int 9), (3, .int 4), (4, .int 0)]) hx hb dX7_word_42 hl (by decide) rfl (fun ls hl => ?_)
  refine lv_iload hx hb dX7_word_44 (lv_at hl 5 rfl) ?_
  refine lv_if_ne (tgt := 54) hx hb dX7_word_46 (by decide) (fun c0 => absurd c0 (by decide)) (fun _ => ?_)
  refine lv_iload hx hb dX7_word_49 (lv_at hl 0 rfl) ?_
  refine lv_goto (tgt := 62) hx hb dX7_word_51 (by decide) ?_
  have n315904 : (315904 : Int32).toInt = 315904 := by decide
  exact t_iret C hr hlk w ⟨_, rfl, rfl, rfl⟩ (by decide) (by decide) dX7_word_62
set_option maxHeartbeats 4000000 in
set_option maxRecDepth 100000 in
theorem c_X7_word4 (l : Launch) (D : va_G) (K : Nat → ClassId) (b0 : Nat) (sa : Nat × Nat × Nat) (sz : Nat) (L : List Nat) (f0 : Nat → va_E) (Ψ : Nat → Nat) (G : tG) (hT : TW K G Ψ L f0)  : Met l yX7_word (.code yX7_word cX7_word 6 (some .int) :: gt) { frames := 0, cells := 0, slots := 0, locals := 0 } (va_Pc [.int 8, .int 15, .int 21, .int 18, .int 0] (hPre D K b0 sa sz L f0)) (hQ D K b0 (fun v9 u9 => ∃ r : Int32, v9 = some (.int r) ∧ u9 = (G, Ψ, L, f0) ∧ (r = 168984))) 0 0 (fun q => b0 ≤ q) := by
  refine t_of (own := RX7) (by decide) rfl ?_ (Nat.le_of_ble_eq_true rfl)
  intro p e s m below meth c ls C w hsz hr hlk hnm hl
  have hx := C.1
  have hb := C.2.1
  have hl : lv_has ls 6 [(0, .int 8), (1, .int 15), (2, .int 21), (3, .int 18), (4, .int 0)] := hl
  have hR : rawk Ψ L f0 f0 := rawk.rf
  refine lv_bipush (v := 27) hx hb dX7_word_0 (by decide) ?_
  refine lv_iload_n hx hb dX7_word_2 rfl (lv_at hl 0 rfl) ?_
  refine lv_imul hx hb dX7_word_3 ?_
  refine lv_topi (fun y1 ey1 => ?_)
  obtain rfl : y1 = 216 := ey1.trans (by decide)
  refine lv_iload_n hx hb dX7_word_4 rfl (lv_at hl 1 rfl) ?_
  refine lv_iadd hx hb dX7_word_5 ?_
  refine lv_topi (fun y2 ey2 => ?_)
  obtain rfl : y2 = 231 := ey2.trans (by decide)
  refine lv_istore (lv' := [(5, .int 231), (0, .int 8), (1, .int 15), (2, .int 21), (3, .int 18), (4, .int 0)]) hx hb dX7_word_6 hl (by decide) rfl (fun ls hl => ?_)
  refine lv_iload_n hx hb dX7_word_8 rfl (lv_at hl 3 rfl) ?_
  refine lv_if_ne (tgt := 17) hx hb dX7_word_9 (by decide) (fun _ => ?_) (fun c0 => absurd c0 (by decide))
  refine lv_bipush (v := 27) hx hb dX7_word_17 (by decide) ?_
  refine lv_iload hx hb dX7_word_19 (lv_at hl 0 rfl) ?_
  refine lv_imul hx hb dX7_word_21 ?_
  refine lv_topi (fun y3 ey3 => ?_)
  obtain rfl : y3 = 6237 := ey3.trans (by decide)
  refine lv_iload_n hx hb dX7_word_22 rfl (lv_at hl 3 rfl) ?_
  refine lv_iadd hx hb dX7_word_23 ?_
  refine lv_topi (fun y4 ey4 => ?_)
  obtain rfl : y4 = 6258 := ey4.trans (by decide)
  refine lv_istore (lv' := [(5, .int 6258), (0, .int 8), (1, .int 15), (2, .int 21), (3, .int 18), (4, .int 0)]) hx hb dX7_word_24 hl (by decide) rfl (fun ls hl => ?_)
  refine lv_iload_n hx hb dX7_word_26 rfl (lv_at hl 4 rfl) ?_
  refine lv_if_ne (tgt := 35) hx hb dX7_word_27 (by decide) (fun _ => ?_) (fun c0 => absurd c0 (by decide))
  refine lv_bipush (v := 27) hx hb dX7_word_35 (by decide) ?_
  refine lv_iload hx hb dX7_word_37 (lv_at hl 0 rfl) ?_
  refine lv_imul hx hb dX7_word_39 ?_
  refine lv_topi (fun y5 ey5 => ?_)
  obtain rfl : y5 = 168966 := ey5.trans (by decide)
  refine lv_iload_n hx hb dX7_word_40 rfl (lv_at hl 4 rfl) ?_
  refine lv_iadd hx hb dX7_word_41 ?_
  refine lv_topi (fun y6 ey6 => ?_)
  obtain rfl : y6 = 168984 := ey6.trans (by decide)
  refine lv_istore (lv' := [(5, .int 168984), (0, .int 8), (1, .int 15), (2, .int 21), (3, .int 18), (4, .int 0)]) hx hb dX7_word_42 hl (by decide) rfl (fun ls hl => ?_)
  refine lv_iload hx hb dX7_word_44 (lv_at hl 5 rfl) ?_
  refine lv_if_ne (tgt := 54) hx hb dX7_word_46 (by decide) (fun c0 => absurd c0 (by decide)) (fun _ => ?_)
  refine lv_iload hx hb dX7_word_49 (lv_at hl 0 rfl) ?_
  refine lv_goto (tgt := 62) hx hb dX7_word_51 (by decide) ?_
  have n168984 : (168984 : Int32).toInt = 168984 := by decide
  exact t_iret C hr hlk w ⟨_, rfl, rfl, rfl⟩ (by decide) (by decide) dX7_word_62
set_option maxHeartbeats 4000000 in
set_option maxRecDepth 100000 in
theorem c_X7_word5 (l : Launch) (D : va_G) (K : Nat → ClassId) (b0 : Nat) (sa : Nat × Nat × Nat) (sz : Nat) (L : List Nat) (f0 : Nat → va_E) (Ψ : Nat → Nat) (G : tG) (hT : TW K G Ψ L f0)  : Met l yX7_word (.code yX7_word cX7_word 6 (some .int) :: gt) { frames := 0, cells := 0, slots := 0, locals := 0 } (va_Pc [.int 12, .int 15, .int 20, .int 0, .int 0] (hPre D K b0 sa sz L f0)) (hQ D K b0 (fun v9 u9 => ∃ r : Int32, v9 = some (.int r) ∧ u9 = (G, Ψ, L, f0) ∧ (r = 9173))) 0 0 (fun q => b0 ≤ q) := by
  refine t_of (own := RX7) (by decide) rfl ?_ (Nat.le_of_ble_eq_true rfl)
  intro p e s m below meth c ls C w hsz hr hlk hnm hl
  have hx := C.1
  have hb := C.2.1
  have hl : lv_has ls 6 [(0, .int 12), (1, .int 15), (2, .int 20), (3, .int 0), (4, .int 0)] := hl
  have hR : rawk Ψ L f0 f0 := rawk.rf
  refine lv_bipush (v := 27) hx hb dX7_word_0 (by decide) ?_
  refine lv_iload_n hx hb dX7_word_2 rfl (lv_at hl 0 rfl) ?_
  refine lv_imul hx hb dX7_word_3 ?_
  refine lv_topi (fun y1 ey1 => ?_)
  obtain rfl : y1 = 324 := ey1.trans (by decide)
  refine lv_iload_n hx hb dX7_word_4 rfl (lv_at hl 1 rfl) ?_
  refine lv_iadd hx hb dX7_word_5 ?_
  refine lv_topi (fun y2 ey2 => ?_)
  obtain rfl : y2 = 339 := ey2.trans (by decide)
  refine lv_istore (lv' := [(5, .int 339), (0, .int 12), (1, .int 15), (2, .int 20), (3, .int 0), (4, .int 0)]) hx hb dX7_word_6 hl (by decide) rfl (fun ls hl => ?_)
  refine lv_iload_n hx hb dX7_word_8 rfl (lv_at hl 3 rfl) ?_
  refine lv_if_ne (tgt := 17) hx hb dX7_word_9 (by decide) (fun _ => ?_) (fun c0 => absurd c0 (by decide))
  refine lv_bipush (v := 27) hx hb dX7_word_17 (by decide) ?_
  refine lv_iload hx hb dX7_word_19 (lv_at hl 0 rfl) ?_
  refine lv_imul hx hb dX7_word_21 ?_
  refine lv_topi (fun y3 ey3 => ?_)
  obtain rfl : y3 = 9153 := ey3.trans (by decide)
  refine lv_iload_n hx hb dX7_word_22 rfl (lv_at hl 3 rfl) ?_
  refine lv_iadd hx hb dX7_word_23 ?_
  refine lv_topi (fun y4 ey4 => ?_)
  obtain rfl : y4 = 9173 := ey4.trans (by decide)
  refine lv_istore (lv' := [(5, .int 9173), (0, .int 12), (1, .int 15), (2, .int 20), (3, .int 0), (4, .int 0)]) hx hb dX7_word_24 hl (by decide) rfl (fun ls hl => ?_)
  refine lv_iload_n hx hb dX7_word_26 rfl (lv_at hl 4 rfl) ?_
  refine lv_if_ne (tgt := 35) hx hb dX7_word_27 (by decide) (fun c0 => absurd c0 (by decide)) (fun _ => ?_)
  refine lv_iload hx hb dX7_word_30 (lv_at hl 0 rfl) ?_
  refine lv_goto (tgt := 42) hx hb dX7_word_32 (by decide) ?_
  refine lv_istore (lv' := [(5, .int 9173), (0, .int 12), (1, .int 15), (2, .int 20), (3, .int 0), (4, .int 0)]) hx hb dX7_word_42 hl (by decide) rfl (fun ls hl => ?_)
  refine lv_iload hx hb dX7_word_44 (lv_at hl 5 rfl) ?_
  refine lv_if_ne (tgt := 54) hx hb dX7_word_46 (by decide) (fun c0 => absurd c0 (by decide)) (fun _ => ?_)
  refine lv_iload hx hb dX7_word_49 (lv_at hl 0 rfl) ?_
  refine lv_goto (tgt := 62) hx hb dX7_word_51 (by decide) ?_
  have n9173 : (9173 : Int32).toInt = 9173 := by decide
  exact t_iret C hr hlk w ⟨_, rfl, rfl, rfl⟩ (by decide) (by decide) dX7_word_62
set_option maxHeartbeats 4000000 in
set_option maxRecDepth 100000 in
theorem c_X7_word6 (l : Launch) (D : va_G) (K : Nat → ClassId) (b0 : Nat) (sa : Nat × Nat × Nat) (sz : Nat) (L : List Nat) (f0 : Nat → va_E) (Ψ : Nat → Nat) (G : tG) (hT : TW K G Ψ L f0)  : Met l yX7_word (.code yX7_word cX7_word 6 (some .int) :: gt) { frames := 0, cells := 0, slots := 0, locals := 0 } (va_Pc [.int 3, .int 1, .int 14, .int 0, .int 0] (hPre D K b0 sa sz L f0)) (hQ D K b0 (fun v9 u9 => ∃ r : Int32, v9 = some (.int r) ∧ u9 = (G, Ψ, L, f0) ∧ (r = 2228))) 0 0 (fun q => b0 ≤ q) := by
  refine t_of (own := RX7) (by decide) rfl ?_ (Nat.le_of_ble_eq_true rfl)
  intro p e s m below meth c ls C w hsz hr hlk hnm hl
  have hx := C.1
  have hb := C.2.1
  have hl : lv_has ls 6 [(0, .int 3), (1, .int 1), (2, .int 14), (3, .int 0), (4, .int 0)] := hl
  have hR : rawk Ψ L f0 f0 := rawk.rf
  refine lv_bipush (v := 27) hx hb dX7_word_0 (by decide) ?_
  refine lv_iload_n hx hb dX7_word_2 rfl (lv_at hl 0 rfl) ?_
  refine lv_imul hx hb dX7_word_3 ?_
  refine lv_topi (fun y1 ey1 => ?_)
  obtain rfl : y1 = 81 := ey1.trans (by decide)
  refine lv_iload_n hx hb dX7_word_4 rfl (lv_at hl 1 rfl) ?_
  refine lv_iadd hx hb dX7_word_5 ?_
  refine lv_topi (fun y2 ey2 => ?_)
  obtain rfl : y2 = 82 := ey2.trans (by decide)
  refine lv_istore (lv' := [(5, .int 82), (0, .int 3), (1, .int 1), (2, .int 14), (3, .int 0), (4, .int 0)]) hx hb dX7_word_6 hl (by decide) rfl (fun ls hl => ?_)
  refine lv_iload_n hx hb dX7_word_8 rfl (lv_at hl 3 rfl) ?_
  refine lv_if_ne (tgt := 17) hx hb dX7_word_9 (by decide) (fun _ => ?_) (fun c0 => absurd c0 (by decide))
  refine lv_bipush (v := 27) hx hb dX7_word_17 (by decide) ?_
  refine lv_iload hx hb dX7_word_19 (lv_at hl 0 rfl) ?_
  refine lv_imul hx hb dX7_word_21 ?_
  refine lv_topi (fun y3 ey3 => ?_)
  obtain rfl : y3 = 2214 := ey3.trans (by decide)
  refine lv_iload_n hx hb dX7_word_22 rfl (lv_at hl 3 rfl) ?_
  refine lv_iadd hx hb dX7_word_23 ?_
  refine lv_topi (fun y4 ey4 => ?_)
  obtain rfl : y4 = 2228 := ey4.trans (by decide)
  refine lv_istore (lv' := [(5, .int 2228), (0, .int 3), (1, .int 1), (2, .int 14), (3, .int 0), (4, .int 0)]) hx hb dX7_word_24 hl (by decide) rfl (fun ls hl => ?_)
  refine lv_iload_n hx hb dX7_word_26 rfl (lv_at hl 4 rfl) ?_
  refine lv_if_ne (tgt := 35) hx hb dX7_word_27 (by decide) (fun c0 => absurd c0 (by decide)) (fun _ => ?_)
  refine lv_iload hx hb dX7_word_30 (lv_at hl 0 rfl) ?_
  refine lv_goto (tgt := 42) hx hb dX7_word_32 (by decide) ?_
  refine lv_istore (lv' := [(5, .int 2228), (0, .int 3), (1, .int 1), (2, .int 14), (3, .int 0), (4, .int 0)]) hx hb dX7_word_42 hl (by decide) rfl (fun ls hl => ?_)
  refine lv_iload hx hb dX7_word_44 (lv_at hl 5 rfl) ?_
  refine lv_if_ne (tgt := 54) hx hb dX7_word_46 (by decide) (fun c0 => absurd c0 (by decide)) (fun _ => ?_)
  refine lv_iload hx hb dX7_word_49 (lv_at hl 0 rfl) ?_
  refine lv_goto (tgt := 62) hx hb dX7_word_51 (by decide) ?_
  have n2228 : (2228 : Int32).toInt = 2228 := by decide
  exact t_iret C hr hlk w ⟨_, rfl, rfl, rfl⟩ (by decide) (by decide) dX7_word_62
set_option maxHeartbeats 4000000 in
set_option maxRecDepth 100000 in
theorem c_X7_word7 (l : Launch) (D : va_G) (K : Nat → ClassId) (b0 : Nat) (sa : Nat × Nat × Nat) (sz : Nat) (L : List Nat) (f0 : Nat → va_E) (Ψ : Nat → Nat) (G : tG) (hT : TW K G Ψ L f0)  : Met l yX7_word (.code yX7_word cX7_word 6 (some .int) :: gt) { frames := 0, cells := 0, slots := 0, locals := 0 } (va_Pc [.int 12, .int 5, .int 1, .int 19, .int 20] (hPre D K b0 sa sz L f0)) (hQ D K b0 (fun v9 u9 => ∃ r : Int32, v9 = some (.int r) ∧ u9 = (G, Ψ, L, f0) ∧ (r = 6476969))) 0 0 (fun q => b0 ≤ q) := by
  refine t_of (own := RX7) (by decide) rfl ?_ (Nat.le_of_ble_eq_true rfl)
  intro p e s m below meth c ls C w hsz hr hlk hnm hl
  have hx := C.1
  have hb := C.2.1
  have hl : lv_has ls 6 [(0, .int 12), (1, .int 5), (2, .int 1), (3, .int 19), (4, .int 20)] := hl
  have hR : rawk Ψ L f0 f0 := rawk.rf
  refine lv_bipush (v := 27) hx hb dX7_word_0 (by decide) ?_
  refine lv_iload_n hx hb dX7_word_2 rfl (lv_at hl 0 rfl) ?_
  refine lv_imul hx hb dX7_word_3 ?_
  refine lv_topi (fun y1 ey1 => ?_)
  obtain rfl : y1 = 324 := ey1.trans (by decide)
  refine lv_iload_n hx hb dX7_word_4 rfl (lv_at hl 1 rfl) ?_
  refine lv_iadd hx hb dX7_word_5 ?_
  refine lv_topi (fun y2 ey2 => ?_)
  obtain rfl : y2 = 329 := ey2.trans (by decide)
  refine lv_istore (lv' := [(5, .int 329), (0, .int 12), (1, .int 5), (2, .int 1), (3, .int 19), (4, .int 20)]) hx hb dX7_word_6 hl (by decide) rfl (fun ls hl => ?_)
  refine lv_iload_n hx hb dX7_word_8 rfl (lv_at hl 3 rfl) ?_
  refine lv_if_ne (tgt := 17) hx hb dX7_word_9 (by decide) (fun _ => ?_) (fun c0 => absurd c0 (by decide))
  refine lv_bipush (v := 27) hx hb dX7_word_17 (by decide) ?_
  refine lv_iload hx hb dX7_word_19 (lv_at hl 0 rfl) ?_
  refine lv_imul hx hb dX7_word_21 ?_
  refine lv_topi (fun y3 ey3 => ?_)
  obtain rfl : y3 = 8883 := ey3.trans (by decide)
  refine lv_iload_n hx hb dX7_word_22 rfl (lv_at hl 3 rfl) ?_
  refine lv_iadd hx hb dX7_word_23 ?_
  refine lv_topi (fun y4 ey4 => ?_)
  obtain rfl : y4 = 8884 := ey4.trans (by decide)
  refine lv_istore (lv' := [(5, .int 8884), (0, .int 12), (1, .int 5), (2, .int 1), (3, .int 19), (4, .int 20)]) hx hb dX7_word_24 hl (by decide) rfl (fun ls hl => ?_)
  refine lv_iload_n hx hb dX7_word_26 rfl (lv_at hl 4 rfl) ?_
  refine lv_if_ne (tgt := 35) hx hb dX7_word_27 (by decide) (fun _ => ?_) (fun c0 => absurd c0 (by decide))
  refine lv_bipush (v := 27) hx hb dX7_word_35 (by decide) ?_
  refine lv_iload hx hb dX7_word_37 (lv_at hl 0 rfl) ?_
  refine lv_imul hx hb dX7_word_39 ?_
  refine lv_topi (fun y5 ey5 => ?_)
  obtain rfl : y5 = 239868 := ey5.trans (by decide)
  refine lv_iload_n hx hb dX7_word_40 rfl (lv_at hl 4 rfl) ?_
  refine lv_iadd hx hb dX7_word_41 ?_
  refine lv_topi (fun y6 ey6 => ?_)
  obtain rfl : y6 = 239887 := ey6.trans (by decide)
  refine lv_istore (lv' := [(5, .int 239887), (0, .int 12), (1, .int 5), (2, .int 1), (3, .int 19), (4, .int 20)]) hx hb dX7_word_42 hl (by decide) rfl (fun ls hl => ?_)
  refine lv_iload hx hb dX7_word_44 (lv_at hl 5 rfl) ?_
  refine lv_if_ne (tgt := 54) hx hb dX7_word_46 (by decide) (fun _ => ?_) (fun c0 => absurd c0 (by decide))
  refine lv_bipush (v := 27) hx hb dX7_word_54 (by decide) ?_
  refine lv_iload hx hb dX7_word_56 (lv_at hl 0 rfl) ?_
  refine lv_imul hx hb dX7_word_58 ?_
  refine lv_topi (fun y7 ey7 => ?_)
  obtain rfl : y7 = 6476949 := ey7.trans (by decide)
  refine lv_iload hx hb dX7_word_59 (lv_at hl 5 rfl) ?_
  refine lv_iadd hx hb dX7_word_61 ?_
  refine lv_topi (fun y8 ey8 => ?_)
  obtain rfl : y8 = 6476969 := ey8.trans (by decide)
  have n6476969 : (6476969 : Int32).toInt = 6476969 := by decide
  exact t_iret C hr hlk w ⟨_, rfl, rfl, rfl⟩ (by decide) (by decide) dX7_word_62
set_option maxHeartbeats 4000000 in
set_option maxRecDepth 100000 in
theorem c_X7_word8 (l : Launch) (D : va_G) (K : Nat → ClassId) (b0 : Nat) (sa : Nat × Nat × Nat) (sz : Nat) (L : List Nat) (f0 : Nat → va_E) (Ψ : Nat → Nat) (G : tG) (hT : TW K G Ψ L f0)  : Met l yX7_word (.code yX7_word cX7_word 6 (some .int) :: gt) { frames := 0, cells := 0, slots := 0, locals := 0 } (va_Pc [.int 13, .int 15, .int 19, .int 20, .int 0] (hPre D K b0 sa sz L f0)) (hQ D K b0 (fun v9 u9 => ∃ r : Int32, v9 = some (.int r) ∧ u9 = (G, Ψ, L, f0) ∧ (r = 267347))) 0 0 (fun q => b0 ≤ q) := by
  refine t_of (own := RX7) (by decide) rfl ?_ (Nat.le_of_ble_eq_true rfl)
  intro p e s m below meth c ls C w hsz hr hlk hnm hl
  have hx := C.1
  have hb := C.2.1
  have hl : lv_has ls 6 [(0, .int 13), (1, .int 15), (2, .int 19), (3, .int 20), (4, .int 0)] := hl
  have hR : rawk Ψ L f0 f0 := rawk.rf
  refine lv_bipush (v := 27) hx hb dX7_word_0 (by decide) ?_
  refine lv_iload_n hx hb dX7_word_2 rfl (lv_at hl 0 rfl) ?_
  refine lv_imul hx hb dX7_word_3 ?_
  refine lv_topi (fun y1 ey1 => ?_)
  obtain rfl : y1 = 351 := ey1.trans (by decide)
  refine lv_iload_n hx hb dX7_word_4 rfl (lv_at hl 1 rfl) ?_
  refine lv_iadd hx hb dX7_word_5 ?_
  refine lv_topi (fun y2 ey2 => ?_)
  obtain rfl : y2 = 366 := ey2.trans (by decide)
  refine lv_istore (lv' := [(5, .int 366), (0, .int 13), (1, .int 15), (2, .int 19), (3, .int 20), (4, .int 0)]) hx hb dX7_word_6 hl (by decide) rfl (fun ls hl => ?_)
  refine lv_iload_n hx hb dX7_word_8 rfl (lv_at hl 3 rfl) ?_
  refine lv_if_ne (tgt := 17) hx hb dX7_word_9 (by decide) (fun _ => ?_) (fun c0 => absurd c0 (by decide))
  refine lv_bipush (v := 27) hx hb dX7_word_17 (by decide) ?_
  refine lv_iload hx hb dX7_word_19 (lv_at hl 0 rfl) ?_
  refine lv_imul hx hb dX7_word_21 ?_
  refine lv_topi (fun y3 ey3 => ?_)
  obtain rfl : y3 = 9882 := ey3.trans (by decide)
  refine lv_iload_n hx hb dX7_word_22 rfl (lv_at hl 3 rfl) ?_
  refine lv_iadd hx hb dX7_word_23 ?_
  refine lv_topi (fun y4 ey4 => ?_)
  obtain rfl : y4 = 9901 := ey4.trans (by decide)
  refine lv_istore (lv' := [(5, .int 9901), (0, .int 13), (1, .int 15), (2, .int 19), (3, .int 20), (4, .int 0)]) hx hb dX7_word_24 hl (by decide) rfl (fun ls hl => ?_)
  refine lv_iload_n hx hb dX7_word_26 rfl (lv_at hl 4 rfl) ?_
  refine lv_if_ne (tgt := 35) hx hb dX7_word_27 (by decide) (fun _ => ?_) (fun c0 => absurd c0 (by decide))
  refine lv_bipush (v := 27) hx hb dX7_word_35 (by decide) ?_
  refine lv_iload hx hb dX7_word_37 (lv_at hl 0 rfl) ?_
  refine lv_imul hx hb dX7_word_39 ?_
  refine lv_topi (fun y5 ey5 => ?_)
  obtain rfl : y5 = 267327 := ey5.trans (by decide)
  refine lv_iload_n hx hb dX7_word_40 rfl (lv_at hl 4 rfl) ?_
  refine lv_iadd hx hb dX7_word_41 ?_
  refine lv_topi (fun y6 ey6 => ?_)
  obtain rfl : y6 = 267347 := ey6.trans (by decide)
  refine lv_istore (lv' := [(5, .int 267347), (0, .int 13), (1, .int 15), (2, .int 19), (3, .int 20), (4, .int 0)]) hx hb dX7_word_42 hl (by decide) rfl (fun ls hl => ?_)
  refine lv_iload hx hb dX7_word_44 (lv_at hl 5 rfl) ?_
  refine lv_if_ne (tgt := 54) hx hb dX7_word_46 (by decide) (fun c0 => absurd c0 (by decide)) (fun _ => ?_)
  refine lv_iload hx hb dX7_word_49 (lv_at hl 0 rfl) ?_
  refine lv_goto (tgt := 62) hx hb dX7_word_51 (by decide) ?_
  have n267347 : (267347 : Int32).toInt = 267347 := by decide
  exact t_iret C hr hlk w ⟨_, rfl, rfl, rfl⟩ (by decide) (by decide) dX7_word_62
set_option maxHeartbeats 4000000 in
set_option maxRecDepth 100000 in
theorem c_X7_word9 (l : Launch) (D : va_G) (K : Nat → ClassId) (b0 : Nat) (sa : Nat × Nat × Nat) (sz : Nat) (L : List Nat) (f0 : Nat → va_E) (Ψ : Nat → Nat) (G : tG) (hT : TW K G Ψ L f0)  : Met l yX7_word (.code yX7_word cX7_word 6 (some .int) :: gt) { frames := 0, cells := 0, slots := 0, locals := 0 } (va_Pc [.int 14, .int 15, .int 20, .int 0, .int 0] (hPre D K b0 sa sz L f0)) (hQ D K b0 (fun v9 u9 => ∃ r : Int32, v9 = some (.int r) ∧ u9 = (G, Ψ, L, f0) ∧ (r = 10631))) 0 0 (fun q => b0 ≤ q) := by
  refine t_of (own := RX7) (by decide) rfl ?_ (Nat.le_of_ble_eq_true rfl)
  intro p e s m below meth c ls C w hsz hr hlk hnm hl
  have hx := C.1
  have hb := C.2.1
  have hl : lv_has ls 6 [(0, .int 14), (1, .int 15), (2, .int 20), (3, .int 0), (4, .int 0)] := hl
  have hR : rawk Ψ L f0 f0 := rawk.rf
  refine lv_bipush (v := 27) hx hb dX7_word_0 (by decide) ?_
  refine lv_iload_n hx hb dX7_word_2 rfl (lv_at hl 0 rfl) ?_
  refine lv_imul hx hb dX7_word_3 ?_
  refine lv_topi (fun y1 ey1 => ?_)
  obtain rfl : y1 = 378 := ey1.trans (by decide)
  refine lv_iload_n hx hb dX7_word_4 rfl (lv_at hl 1 rfl) ?_
  refine lv_iadd hx hb dX7_word_5 ?_
  refine lv_topi (fun y2 ey2 => ?_)
  obtain rfl : y2 = 393 := ey2.trans (by decide)
  refine lv_istore (lv' := [(5, .int 393), (0, .int 14), (1, .int 15), (2, .int 20), (3, .int 0), (4, .int 0)]) hx hb dX7_word_6 hl (by decide) rfl (fun ls hl => ?_)
  refine lv_iload_n hx hb dX7_word_8 rfl (lv_at hl 3 rfl) ?_
  refine lv_if_ne (tgt := 17) hx hb dX7_word_9 (by decide) (fun _ => ?_) (fun c0 => absurd c0 (by decide))
  refine lv_bipush (v := 27) hx hb dX7_word_17 (by decide) ?_
  refine lv_iload hx hb dX7_word_19 (lv_at hl 0 rfl) ?_
  refine lv_imul hx hb dX7_word_21 ?_
  refine lv_topi (fun y3 ey3 => ?_)
  obtain rfl : y3 = 10611 := ey3.trans (by decide)
  refine lv_iload_n hx hb dX7_word_22 rfl (lv_at hl 3 rfl) ?_
  refine lv_iadd hx hb dX7_word_23 ?_
  refine lv_topi (fun y4 ey4 => ?_)
  obtain rfl : y4 = 10631 := ey4.trans (by decide)
  refine lv_istore (lv' := [(5, .int 10631), (0, .int 14), (1, .int 15), (2, .int 20), (3, .int 0), (4, .int 0)]) hx hb dX7_word_24 hl (by decide) rfl (fun ls hl => ?_)
  refine lv_iload_n hx hb dX7_word_26 rfl (lv_at hl 4 rfl) ?_
  refine lv_if_ne (tgt := 35) hx hb dX7_word_27 (by decide) (fun c0 => absurd c0 (by decide)) (fun _ => ?_)
  refine lv_iload hx hb dX7_word_30 (lv_at hl 0 rfl) ?_
  refine lv_goto (tgt := 42) hx hb dX7_word_32 (by decide) ?_
  refine lv_istore (lv' := [(5, .int 10631), (0, .int 14), (1, .int 15), (2, .int 20), (3, .int 0), (4, .int 0)]) hx hb dX7_word_42 hl (by decide) rfl (fun ls hl => ?_)
  refine lv_iload hx hb dX7_word_44 (lv_at hl 5 rfl) ?_
  refine lv_if_ne (tgt := 54) hx hb dX7_word_46 (by decide) (fun c0 => absurd c0 (by decide)) (fun _ => ?_)
  refine lv_iload hx hb dX7_word_49 (lv_at hl 0 rfl) ?_
  refine lv_goto (tgt := 62) hx hb dX7_word_51 (by decide) ?_
  have n10631 : (10631 : Int32).toInt = 10631 := by decide
  exact t_iret C hr hlk w ⟨_, rfl, rfl, rfl⟩ (by decide) (by decide) dX7_word_62
set_option maxHeartbeats 4000000 in
set_option maxRecDepth 100000 in
theorem c_X7_isWord0 (l : Launch) (D : va_G) (K : Nat → ClassId) (b0 : Nat) (sa : Nat × Nat × Nat) (sz : Nat) (L : List Nat) (f0 : Nat → va_E) (Ψ : Nat → Nat) (hT : TW K (gof ((702, 0) :: ((704, 0) :: []))) Ψ L f0) (m_ : Nat) (hm_m_ : m_ ∈ L) (ht_m_ : Ψ m_ = 7) : Met l yX7_isWord (.code yX7_isWord cX7_isWord 6 (some .boolean) :: gt) { frames := 3, cells := 0, slots := 0, locals := 63 } (va_Pc [.ref m_, .int 20, .int 18, .int 9, .int 5, .int 19] (hPre D K b0 sa sz L f0)) (hQ D K b0 (fun v9 u9 => ∃ r : Int32, v9 = some (.int r) ∧ u9 = ((gof ((702, 0) :: ((704, 0) :: []))), Ψ, L, f0) ∧ (r = 0))) 0 0 (fun q => b0 ≤ q) := by
  refine t_of (own := RX7) (by decide) rfl ?_ (Nat.le_of_ble_eq_true rfl)
  intro p e s m below meth c ls C w hsz hr hlk hnm hl
  have hx := C.1
  have hb := C.2.1
  have hl : lv_has ls 6 [(0, .ref m_), (1, .int 20), (2, .int 18), (3, .int 9), (4, .int 5), (5, .int 19)] := hl
  have hR : rawk Ψ L f0 f0 := rawk.rf
  refine lv_aload_n hx hb dX7_isWord_0 rfl (lv_at hl 0 rfl) ?_
  refine t_callV (n := 0) C w hT hm_m_ ht_m_ (by decide) rfl rfl (c_X7_wordHere0 l D K b0 sa _ L _ Ψ hT m_ hm_m_ ht_m_) gw_1371 gw_1368 gw_1370 gs_28 gw_8 ⟨by decide, by decide, by decide +kernel⟩ rfl rfl ⟨by decide, by decide⟩ rfl hl.1 rfl (Nat.le_of_ble_eq_true rfl) dX7_isWord_1 ⟨by decide, by decide⟩ (fun v u H locs hp w => ?_)
  obtain ⟨r1, rfl, rfl, hrr1⟩ := hp
  obtain rfl := hrr1
  refine lv_iload_n hx hb dX7_isWord_4 rfl (lv_at hl 1 rfl) ?_
  refine lv_iload_n hx hb dX7_isWord_5 rfl (lv_at hl 2 rfl) ?_
  refine lv_iload_n hx hb dX7_isWord_6 rfl (lv_at hl 3 rfl) ?_
  refine lv_iload hx hb dX7_isWord_7 (lv_at hl 4 rfl) ?_
  refine lv_iload hx hb dX7_isWord_9 (lv_at hl 5 rfl) ?_
  refine t_callS (n := 5) C w (c_X7_word0 l D K b0 sa _ L _ Ψ (gof ((702, 0) :: ((704, 0) :: []))) hT) gw_1382 gw_1380 gw_1381 gw_8 ⟨by decide, by decide, by decide +kernel⟩ rfl rfl ⟨by decide, by decide⟩ rfl hl.1 rfl (Nat.le_of_ble_eq_true rfl) dX7_isWord_11 ⟨by decide, by decide⟩ (fun v u H locs hp w => ?_)
  obtain ⟨r2, rfl, rfl, hrr2⟩ := hp
  obtain rfl := hrr2
  refine lv_icmp_ne (tgt := 21) hx hb dX7_isWord_14 (by decide) (fun _ => ?_) (fun c0 => absurd c0 (by decide))
  refine lv_iconst (v := 0) hx hb dX7_isWord_21 (by decide) ?_
  have n0 : (0 : Int32).toInt = 0 := by decide
  exact t_zret C hr hlk w (by decide) ⟨_, rfl, rfl, rfl⟩ (by decide) (by decide) dX7_isWord_22
set_option maxHeartbeats 4000000 in
set_option maxRecDepth 100000 in
theorem c_X7_isWord1 (l : Launch) (D : va_G) (K : Nat → ClassId) (b0 : Nat) (sa : Nat × Nat × Nat) (sz : Nat) (L : List Nat) (f0 : Nat → va_E) (Ψ : Nat → Nat) (hT : TW K (gof ((702, 0) :: ((704, 0) :: []))) Ψ L f0) (m_ : Nat) (hm_m_ : m_ ∈ L) (ht_m_ : Ψ m_ = 7) : Met l yX7_isWord (.code yX7_isWord cX7_isWord 6 (some .boolean) :: gt) { frames := 3, cells := 0, slots := 0, locals := 63 } (va_Pc [.ref m_, .int 19, .int 9, .int 14, .int 3, .int 5] (hPre D K b0 sa sz L f0)) (hQ D K b0 (fun v9 u9 => ∃ r : Int32, v9 = some (.int r) ∧ u9 = ((gof ((702, 0) :: ((704, 0) :: []))), Ψ, L, f0) ∧ (r = 0))) 0 0 (fun q => b0 ≤ q) := by
  refine t_of (own := RX7) (by decide) rfl ?_ (Nat.le_of_ble_eq_true rfl)
  intro p e s m below meth c ls C w hsz hr hlk hnm hl
  have hx := C.1
  have hb := C.2.1
  have hl : lv_has ls 6 [(0, .ref m_), (1, .int 19), (2, .int 9), (3, .int 14), (4, .int 3), (5, .int 5)] := hl
  have hR : rawk Ψ L f0 f0 := rawk.rf
  refine lv_aload_n hx hb dX7_isWord_0 rfl (lv_at hl 0 rfl) ?_
  refine t_callV (n := 0) C w hT hm_m_ ht_m_ (by decide) rfl rfl (c_X7_wordHere0 l D K b0 sa _ L _ Ψ hT m_ hm_m_ ht_m_) gw_1371 gw_1368 gw_1370 gs_28 gw_8 ⟨by decide, by decide, by decide +kernel⟩ rfl rfl ⟨by decide, by decide⟩ rfl hl.1 rfl (Nat.le_of_ble_eq_true rfl) dX7_isWord_1 ⟨by decide, by decide⟩ (fun v u H locs hp w => ?_)
  obtain ⟨r1, rfl, rfl, hrr1⟩ := hp
  obtain rfl := hrr1
  refine lv_iload_n hx hb dX7_isWord_4 rfl (lv_at hl 1 rfl) ?_
  refine lv_iload_n hx hb dX7_isWord_5 rfl (lv_at hl 2 rfl) ?_
  refine lv_iload_n hx hb dX7_isWord_6 rfl (lv_at hl 3 rfl) ?_
  refine lv_iload hx hb dX7_isWord_7 (lv_at hl 4 rfl) ?_
  refine lv_iload hx hb dX7_isWord_9 (lv_at hl 5 rfl) ?_
  refine t_callS (n := 5) C w (c_X7_word1 l D K b0 sa _ L _ Ψ (gof ((702, 0) :: ((704, 0) :: []))) hT) gw_1382 gw_1380 gw_1381 gw_8 ⟨by decide, by decide, by decide +kernel⟩ rfl rfl ⟨by decide, by decide⟩ rfl hl.1 rfl (Nat.le_of_ble_eq_true rfl) dX7_isWord_11 ⟨by decide, by decide⟩ (fun v u H locs hp w => ?_)
  obtain ⟨r2, rfl, rfl, hrr2⟩ := hp
  obtain rfl := hrr2
  refine lv_icmp_ne (tgt := 21) hx hb dX7_isWord_14 (by decide) (fun _ => ?_) (fun c0 => absurd c0 (by decide))
  refine lv_iconst (v := 0) hx hb dX7_isWord_21 (by decide) ?_
  have n0 : (0 : Int32).toInt = 0 := by decide
  exact t_zret C hr hlk w (by decide) ⟨_, rfl, rfl, rfl⟩ (by decide) (by decide) dX7_isWord_22
set_option maxHeartbeats 4000000 in
set_option maxRecDepth 100000 in
theorem c_X7_isWord2 (l : Launch) (D : va_G) (K : Nat → ClassId) (b0 : Nat) (sa : Nat × Nat × Nat) (sz : Nat) (L : List Nat) (f0 : Nat → va_E) (Ψ : Nat → Nat) (hT : TW K (gof ((702, 0) :: ((704, 0) :: []))) Ψ L f0) (m_ : Nat) (hm_m_ : m_ ∈ L) (ht_m_ : Ψ m_ = 7) : Met l yX7_isWord (.code yX7_isWord cX7_isWord 6 (some .boolean) :: gt) { frames := 3, cells := 0, slots := 0, locals := 63 } (va_Pc [.ref m_, .int 3, .int 15, .int 9, .int 14, .int 19] (hPre D K b0 sa sz L f0)) (hQ D K b0 (fun v9 u9 => ∃ r : Int32, v9 = some (.int r) ∧ u9 = ((gof ((702, 0) :: ((704, 0) :: []))), Ψ, L, f0) ∧ (r = 0))) 0 0 (fun q => b0 ≤ q) := by
  refine t_of (own := RX7) (by decide) rfl ?_ (Nat.le_of_ble_eq_true rfl)
  intro p e s m below meth c ls C w hsz hr hlk hnm hl
  have hx := C.1
  have hb := C.2.1
  have hl : lv_has ls 6 [(0, .ref m_), (1, .int 3), (2, .int 15), (3, .int 9), (4, .int 14), (5, .int 19)] := hl
  have hR : rawk Ψ L f0 f0 := rawk.rf
  refine lv_aload_n hx hb dX7_isWord_0 rfl (lv_at hl 0 rfl) ?_
  refine t_callV (n := 0) C w hT hm_m_ ht_m_ (by decide) rfl rfl (c_X7_wordHere0 l D K b0 sa _ L _ Ψ hT m_ hm_m_ ht_m_) gw_1371 gw_1368 gw_1370 gs_28 gw_8 ⟨by decide, by decide, by decide +kernel⟩ rfl rfl ⟨by decide, by decide⟩ rfl hl.1 rfl (Nat.le_of_ble_eq_true rfl) dX7_isWord_1 ⟨by decide, by decide⟩ (fun v u H locs hp w => ?_)
  obtain ⟨r1, rfl, rfl, hrr1⟩ := hp
  obtain rfl := hrr1
  refine lv_iload_n hx hb dX7_isWord_4 rfl (lv_at hl 1 rfl) ?_
  refine lv_iload_n hx hb dX7_isWord_5 rfl (lv_at hl 2 rfl) ?_
  refine lv_iload_n hx hb dX7_isWord_6 rfl (lv_at hl 3 rfl) ?_
  refine lv_iload hx hb dX7_isWord_7 (lv_at hl 4 rfl) ?_
  refine lv_iload hx hb dX7_isWord_9 (lv_at hl 5 rfl) ?_
  refine t_callS (n := 5) C w (c_X7_word2 l D K b0 sa _ L _ Ψ (gof ((702, 0) :: ((704, 0) :: []))) hT) gw_1382 gw_1380 gw_1381 gw_8 ⟨by decide, by decide, by decide +kernel⟩ rfl rfl ⟨by decide, by decide⟩ rfl hl.1 rfl (Nat.le_of_ble_eq_true rfl) dX7_isWord_11 ⟨by decide, by decide⟩ (fun v u H locs hp w => ?_)
  obtain ⟨r2, rfl, rfl, hrr2⟩ := hp
  obtain rfl := hrr2
  refine lv_icmp_ne (tgt := 21) hx hb dX7_isWord_14 (by decide) (fun _ => ?_) (fun c0 => absurd c0 (by decide))
  refine lv_iconst (v := 0) hx hb dX7_isWord_21 (by decide) ?_
  have n0 : (0 : Int32).toInt = 0 := by decide
  exact t_zret C hr hlk w (by decide) ⟨_, rfl, rfl, rfl⟩ (by decide) (by decide) dX7_isWord_22
set_option maxHeartbeats 4000000 in
set_option maxRecDepth 100000 in
theorem c_X7_isWord3 (l : Launch) (D : va_G) (K : Nat → ClassId) (b0 : Nat) (sa : Nat × Nat × Nat) (sz : Nat) (L : List Nat) (f0 : Nat → va_E) (Ψ : Nat → Nat) (hT : TW K (gof ((702, 0) :: ((704, 0) :: []))) Ψ L f0) (m_ : Nat) (hm_m_ : m_ ∈ L) (ht_m_ : Ψ m_ = 7) : Met l yX7_isWord (.code yX7_isWord cX7_isWord 6 (some .boolean) :: gt) { frames := 3, cells := 0, slots := 0, locals := 63 } (va_Pc [.ref m_, .int 16, .int 1, .int 9, .int 4, .int 0] (hPre D K b0 sa sz L f0)) (hQ D K b0 (fun v9 u9 => ∃ r : Int32, v9 = some (.int r) ∧ u9 = ((gof ((702, 0) :: ((704, 0) :: []))), Ψ, L, f0) ∧ (r = 0))) 0 0 (fun q => b0 ≤ q) := by
  refine t_of (own := RX7) (by decide) rfl ?_ (Nat.le_of_ble_eq_true rfl)
  intro p e s m below meth c ls C w hsz hr hlk hnm hl
  have hx := C.1
  have hb := C.2.1
  have hl : lv_has ls 6 [(0, .ref m_), (1, .int 16), (2, .int 1), (3, .int 9), (4, .int 4), (5, .int 0)] := hl
  have hR : rawk Ψ L f0 f0 := rawk.rf
  refine lv_aload_n hx hb dX7_isWord_0 rfl (lv_at hl 0 rfl) ?_
  refine t_callV (n := 0) C w hT hm_m_ ht_m_ (by decide) rfl rfl (c_X7_wordHere0 l D K b0 sa _ L _ Ψ hT m_ hm_m_ ht_m_) gw_1371 gw_1368 gw_1370 gs_28 gw_8 ⟨by decide, by decide, by decide +kernel⟩ rfl rfl ⟨by decide, by decide⟩ rfl hl.1 rfl (Nat.le_of_ble_eq_true rfl) dX7_isWord_1 ⟨by decide, by decide⟩ (fun v u H locs hp w => ?_)
  obtain ⟨r1, rfl, rfl, hrr1⟩ := hp
  obtain rfl := hrr1
  refine lv_iload_n hx hb dX7_isWord_4 rfl (lv_at hl 1 rfl) ?_
  refine lv_iload_n hx hb dX7_isWord_5 rfl (lv_at hl 2 rfl) ?_
  refine lv_iload_n hx hb dX7_isWord_6 rfl (lv_at hl 3 rfl) ?_
  refine lv_iload hx hb dX7_isWord_7 (lv_at hl 4 rfl) ?_
  refine lv_iload hx hb dX7_isWord_9 (lv_at hl 5 rfl) ?_
  refine t_callS (n := 5) C w (c_X7_word3 l D K b0 sa _ L _ Ψ (gof ((702, 0) :: ((704, 0) :: []))) hT) gw_1382 gw_1380 gw_1381 gw_8 ⟨by decide, by decide, by decide +kernel⟩ rfl rfl ⟨by decide, by decide⟩ rfl hl.1 rfl (Nat.le_of_ble_eq_true rfl) dX7_isWord_11 ⟨by decide, by decide⟩ (fun v u H locs hp w => ?_)
  obtain ⟨r2, rfl, rfl, hrr2⟩ := hp
  obtain rfl := hrr2
  refine lv_icmp_ne (tgt := 21) hx hb dX7_isWord_14 (by decide) (fun _ => ?_) (fun c0 => absurd c0 (by decide))
  refine lv_iconst (v := 0) hx hb dX7_isWord_21 (by decide) ?_
  have n0 : (0 : Int32).toInt = 0 := by decide
  exact t_zret C hr hlk w (by decide) ⟨_, rfl, rfl, rfl⟩ (by decide) (by decide) dX7_isWord_22
set_option maxHeartbeats 4000000 in
set_option maxRecDepth 100000 in
theorem c_X7_isWord4 (l : Launch) (D : va_G) (K : Nat → ClassId) (b0 : Nat) (sa : Nat × Nat × Nat) (sz : Nat) (L : List Nat) (f0 : Nat → va_E) (Ψ : Nat → Nat) (hT : TW K (gof ((702, 0) :: ((704, 0) :: []))) Ψ L f0) (m_ : Nat) (hm_m_ : m_ ∈ L) (ht_m_ : Ψ m_ = 7) : Met l yX7_isWord (.code yX7_isWord cX7_isWord 6 (some .boolean) :: gt) { frames := 3, cells := 0, slots := 0, locals := 63 } (va_Pc [.ref m_, .int 8, .int 15, .int 21, .int 18, .int 0] (hPre D K b0 sa sz L f0)) (hQ D K b0 (fun v9 u9 => ∃ r : Int32, v9 = some (.int r) ∧ u9 = ((gof ((702, 0) :: ((704, 0) :: []))), Ψ, L, f0) ∧ (r = 0))) 0 0 (fun q => b0 ≤ q) := by
  refine t_of (own := RX7) (by decide) rfl ?_ (Nat.le_of_ble_eq_true rfl)
  intro p e s m below meth c ls C w hsz hr hlk hnm hl
  have hx := C.1
  have hb := C.2.1
  have hl : lv_has ls 6 [(0, .ref m_), (1, .int 8), (2, .int 15), (3, .int 21), (4, .int 18), (5, .int 0)] := hl
  have hR : rawk Ψ L f0 f0 := rawk.rf
  refine lv_aload_n hx hb dX7_isWord_0 rfl (lv_at hl 0 rfl) ?_
  refine t_callV (n := 0) C w hT hm_m_ ht_m_ (by decide) rfl rfl (c_X7_wordHere0 l D K b0 sa _ L _ Ψ hT m_ hm_m_ ht_m_) gw_1371 gw_1368 gw_1370 gs_28 gw_8 ⟨by decide, by decide, by decide +kernel⟩ rfl rfl ⟨by decide, by decide⟩ rfl hl.1 rfl (Nat.le_of_ble_eq_true rfl) dX7_isWord_1 ⟨by decide, by decide⟩ (fun v u H locs hp w => ?_)
  obtain ⟨r1, rfl, rfl, hrr1⟩ := hp
  obtain rfl := hrr1
  refine lv_iload_n hx hb dX7_isWord_4 rfl (lv_at hl 1 rfl) ?_
  refine lv_iload_n hx hb dX7_isWord_5 rfl (lv_at hl 2 rfl) ?_
  refine lv_iload_n hx hb dX7_isWord_6 rfl (lv_at hl 3 rfl) ?_
  refine lv_iload hx hb dX7_isWord_7 (lv_at hl 4 rfl) ?_
  refine lv_iload hx hb dX7_isWord_9 (lv_at hl 5 rfl) ?_
  refine t_callS (n := 5) C w (c_X7_word4 l D K b0 sa _ L _ Ψ (gof ((702, 0) :: ((704, 0) :: []))) hT) gw_1382 gw_1380 gw_1381 gw_8 ⟨by decide, by decide, by decide +kernel⟩ rfl rfl ⟨by decide, by decide⟩ rfl hl.1 rfl (Nat.le_of_ble_eq_true rfl) dX7_isWord_11 ⟨by decide, by decide⟩ (fun v u H locs hp w => ?_)
  obtain ⟨r2, rfl, rfl, hrr2⟩ := hp
  obtain rfl := hrr2
  refine lv_icmp_ne (tgt := 21) hx hb dX7_isWord_14 (by decide) (fun _ => ?_) (fun c0 => absurd c0 (by decide))
  refine lv_iconst (v := 0) hx hb dX7_isWord_21 (by decide) ?_
  have n0 : (0 : Int32).toInt = 0 := by decide
  exact t_zret C hr hlk w (by decide) ⟨_, rfl, rfl, rfl⟩ (by decide) (by decide) dX7_isWord_22
set_option maxHeartbeats 4000000 in
set_option maxRecDepth 100000 in
theorem c_X7_isWord5 (l : Launch) (D : va_G) (K : Nat → ClassId) (b0 : Nat) (sa : Nat × Nat × Nat) (sz : Nat) (L : List Nat) (f0 : Nat → va_E) (Ψ : Nat → Nat) (hT : TW K (gof ((702, 0) :: ((704, 0) :: []))) Ψ L f0) (m_ : Nat) (hm_m_ : m_ ∈ L) (ht_m_ : Ψ m_ = 7) : Met l yX7_isWord (.code yX7_isWord cX7_isWord 6 (some .boolean) :: gt) { frames := 3, cells := 0, slots := 0, locals := 63 } (va_Pc [.ref m_, .int 12, .int 15, .int 20, .int 0, .int 0] (hPre D K b0 sa sz L f0)) (hQ D K b0 (fun v9 u9 => ∃ r : Int32, v9 = some (.int r) ∧ u9 = ((gof ((702, 0) :: ((704, 0) :: []))), Ψ, L, f0) ∧ (r = 0))) 0 0 (fun q => b0 ≤ q) := by
  refine t_of (own := RX7) (by decide) rfl ?_ (Nat.le_of_ble_eq_true rfl)
  intro p e s m below meth c ls C w hsz hr hlk hnm hl
  have hx := C.1
  have hb := C.2.1
  have hl : lv_has ls 6 [(0, .ref m_), (1, .int 12), (2, .int 15), (3, .int 20), (4, .int 0), (5, .int 0)] := hl
  have hR : rawk Ψ L f0 f0 := rawk.rf
  refine lv_aload_n hx hb dX7_isWord_0 rfl (lv_at hl 0 rfl) ?_
  refine t_callV (n := 0) C w hT hm_m_ ht_m_ (by decide) rfl rfl (c_X7_wordHere0 l D K b0 sa _ L _ Ψ hT m_ hm_m_ ht_m_) gw_1371 gw_1368 gw_1370 gs_28 gw_8 ⟨by decide, by decide, by decide +kernel⟩ rfl rfl ⟨by decide, by decide⟩ rfl hl.1 rfl (Nat.le_of_ble_eq_true rfl) dX7_isWord_1 ⟨by decide, by decide⟩ (fun v u H locs hp w => ?_)
  obtain ⟨r1, rfl, rfl, hrr1⟩ := hp
  obtain rfl := hrr1
  refine lv_iload_n hx hb dX7_isWord_4 rfl (lv_at hl 1 rfl) ?_
  refine lv_iload_n hx hb dX7_isWord_5 rfl (lv_at hl 2 rfl) ?_
  refine lv_iload_n hx hb dX7_isWord_6 rfl (lv_at hl 3 rfl) ?_
  refine lv_iload hx hb dX7_isWord_7 (lv_at hl 4 rfl) ?_
  refine lv_iload hx hb dX7_isWord_9 (lv_at hl 5 rfl) ?_
  refine t_callS (n := 5) C w (c_X7_word5 l D K b0 sa _ L _ Ψ (gof ((702, 0) :: ((704, 0) :: []))) hT) gw_1382 gw_1380 gw_1381 gw_8 ⟨by decide, by decide, by decide +kernel⟩ rfl rfl ⟨by decide, by decide⟩ rfl hl.1 rfl (Nat.le_of_ble_eq_true rfl) dX7_isWord_11 ⟨by decide, by decide⟩ (fun v u H locs hp w => ?_)
  obtain ⟨r2, rfl, rfl, hrr2⟩ := hp
  obtain rfl := hrr2
  refine lv_icmp_ne (tgt := 21) hx hb dX7_isWord_14 (by decide) (fun _ => ?_) (fun c0 => absurd c0 (by decide))
  refine lv_iconst (v := 0) hx hb dX7_isWord_21 (by decide) ?_
  have n0 : (0 : Int32).toInt = 0 := by decide
  exact t_zret C hr hlk w (by decide) ⟨_, rfl, rfl, rfl⟩ (by decide) (by decide) dX7_isWord_22
set_option maxHeartbeats 4000000 in
set_option maxRecDepth 100000 in
theorem c_X7_isWord6 (l : Launch) (D : va_G) (K : Nat → ClassId) (b0 : Nat) (sa : Nat × Nat × Nat) (sz : Nat) (L : List Nat) (f0 : Nat → va_E) (Ψ : Nat → Nat) (hT : TW K (gof ((702, 0) :: ((704, 0) :: []))) Ψ L f0) (m_ : Nat) (hm_m_ : m_ ∈ L) (ht_m_ : Ψ m_ = 7) : Met l yX7_isWord (.code yX7_isWord cX7_isWord 6 (some .boolean) :: gt) { frames := 3, cells := 0, slots := 0, locals := 63 } (va_Pc [.ref m_, .int 3, .int 1, .int 14, .int 0, .int 0] (hPre D K b0 sa sz L f0)) (hQ D K b0 (fun v9 u9 => ∃ r : Int32, v9 = some (.int r) ∧ u9 = ((gof ((702, 0) :: ((704, 0) :: []))), Ψ, L, f0) ∧ (r = 0))) 0 0 (fun q => b0 ≤ q) := by
  refine t_of (own := RX7) (by decide) rfl ?_ (Nat.le_of_ble_eq_true rfl)
  intro p e s m below meth c ls C w hsz hr hlk hnm hl
  have hx := C.1
  have hb := C.2.1
  have hl : lv_has ls 6 [(0, .ref m_), (1, .int 3), (2, .int 1), (3, .int 14), (4, .int 0), (5, .int 0)] := hl
  have hR : rawk Ψ L f0 f0 := rawk.rf
  refine lv_aload_n hx hb dX7_isWord_0 rfl (lv_at hl 0 rfl) ?_
  refine t_callV (n := 0) C w hT hm_m_ ht_m_ (by decide) rfl rfl (c_X7_wordHere0 l D K b0 sa _ L _ Ψ hT m_ hm_m_ ht_m_) gw_1371 gw_1368 gw_1370 gs_28 gw_8 ⟨by decide, by decide, by decide +kernel⟩ rfl rfl ⟨by decide, by decide⟩ rfl hl.1 rfl (Nat.le_of_ble_eq_true rfl) dX7_isWord_1 ⟨by decide, by decide⟩ (fun v u H locs hp w => ?_)
  obtain ⟨r1, rfl, rfl, hrr1⟩ := hp
  obtain rfl := hrr1
  refine lv_iload_n hx hb dX7_isWord_4 rfl (lv_at hl 1 rfl) ?_
  refine lv_iload_n hx hb dX7_isWord_5 rfl (lv_at hl 2 rfl) ?_
  refine lv_iload_n hx hb dX7_isWord_6 rfl (lv_at hl 3 rfl) ?_
  refine lv_iload hx hb dX7_isWord_7 (lv_at hl 4 rfl) ?_
  refine lv_iload hx hb dX7_isWord_9 (lv_at hl 5 rfl) ?_
  refine t_callS (n := 5) C w (c_X7_word6 l D K b0 sa _ L _ Ψ (gof ((702, 0) :: ((704, 0) :: []))) hT) gw_1382 gw_1380 gw_1381 gw_8 ⟨by decide, by decide, by decide +kernel⟩ rfl rfl ⟨by decide, by decide⟩ rfl hl.1 rfl (Nat.le_of_ble_eq_true rfl) dX7_isWord_11 ⟨by decide, by decide⟩ (fun v u H locs hp w => ?_)
  obtain ⟨r2, rfl, rfl, hrr2⟩ := hp
  obtain rfl := hrr2
  refine lv_icmp_ne (tgt := 21) hx hb dX7_isWord_14 (by decide) (fun _ => ?_) (fun c0 => absurd c0 (by decide))
  refine lv_iconst (v := 0) hx hb dX7_isWord_21 (by decide) ?_
  have n0 : (0 : Int32).toInt = 0 := by decide
  exact t_zret C hr hlk w (by decide) ⟨_, rfl, rfl, rfl⟩ (by decide) (by decide) dX7_isWord_22
set_option maxHeartbeats 4000000 in
set_option maxRecDepth 100000 in
theorem c_X7_isWord7 (l : Launch) (D : va_G) (K : Nat → ClassId) (b0 : Nat) (sa : Nat × Nat × Nat) (sz : Nat) (L : List Nat) (f0 : Nat → va_E) (Ψ : Nat → Nat) (hT : TW K (gof ((702, 0) :: ((704, 0) :: []))) Ψ L f0) (m_ : Nat) (hm_m_ : m_ ∈ L) (ht_m_ : Ψ m_ = 7) : Met l yX7_isWord (.code yX7_isWord cX7_isWord 6 (some .boolean) :: gt) { frames := 3, cells := 0, slots := 0, locals := 63 } (va_Pc [.ref m_, .int 12, .int 5, .int 1, .int 19, .int 20] (hPre D K b0 sa sz L f0)) (hQ D K b0 (fun v9 u9 => ∃ r : Int32, v9 = some (.int r) ∧ u9 = ((gof ((702, 0) :: ((704, 0) :: []))), Ψ, L, f0) ∧ (r = 0))) 0 0 (fun q => b0 ≤ q) := by
  refine t_of (own := RX7) (by decide) rfl ?_ (Nat.le_of_ble_eq_true rfl)
  intro p e s m below meth c ls C w hsz hr hlk hnm hl
  have hx := C.1
  have hb := C.2.1
  have hl : lv_has ls 6 [(0, .ref m_), (1, .int 12), (2, .int 5), (3, .int 1), (4, .int 19), (5, .int 20)] := hl
  have hR : rawk Ψ L f0 f0 := rawk.rf
  refine lv_aload_n hx hb dX7_isWord_0 rfl (lv_at hl 0 rfl) ?_
  refine t_callV (n := 0) C w hT hm_m_ ht_m_ (by decide) rfl rfl (c_X7_wordHere0 l D K b0 sa _ L _ Ψ hT m_ hm_m_ ht_m_) gw_1371 gw_1368 gw_1370 gs_28 gw_8 ⟨by decide, by decide, by decide +kernel⟩ rfl rfl ⟨by decide, by decide⟩ rfl hl.1 rfl (Nat.le_of_ble_eq_true rfl) dX7_isWord_1 ⟨by decide, by decide⟩ (fun v u H locs hp w => ?_)
  obtain ⟨r1, rfl, rfl, hrr1⟩ := hp
  obtain rfl := hrr1
  refine lv_iload_n hx hb dX7_isWord_4 rfl (lv_at hl 1 rfl) ?_
  refine lv_iload_n hx hb dX7_isWord_5 rfl (lv_at hl 2 rfl) ?_
  refine lv_iload_n hx hb dX7_isWord_6 rfl (lv_at hl 3 rfl) ?_
  refine lv_iload hx hb dX7_isWord_7 (lv_at hl 4 rfl) ?_
  refine lv_iload hx hb dX7_isWord_9 (lv_at hl 5 rfl) ?_
  refine t_callS (n := 5) C w (c_X7_word7 l D K b0 sa _ L _ Ψ (gof ((702, 0) :: ((704, 0) :: []))) hT) gw_1382 gw_1380 gw_1381 gw_8 ⟨by decide, by decide, by decide +kernel⟩ rfl rfl ⟨by decide, by decide⟩ rfl hl.1 rfl (Nat.le_of_ble_eq_true rfl) dX7_isWord_11 ⟨by decide, by decide⟩ (fun v u H locs hp w => ?_)
  obtain ⟨r2, rfl, rfl, hrr2⟩ := hp
  obtain rfl := hrr2
  refine lv_icmp_ne (tgt := 21) hx hb dX7_isWord_14 (by decide) (fun _ => ?_) (fun c0 => absurd c0 (by decide))
  refine lv_iconst (v := 0) hx hb dX7_isWord_21 (by decide) ?_
  have n0 : (0 : Int32).toInt = 0 := by decide
  exact t_zret C hr hlk w (by decide) ⟨_, rfl, rfl, rfl⟩ (by decide) (by decide) dX7_isWord_22
set_option maxHeartbeats 4000000 in
set_option maxRecDepth 100000 in
theorem c_X7_isWord8 (l : Launch) (D : va_G) (K : Nat → ClassId) (b0 : Nat) (sa : Nat × Nat × Nat) (sz : Nat) (L : List Nat) (f0 : Nat → va_E) (Ψ : Nat → Nat) (hT : TW K (gof ((702, 0) :: ((704, 0) :: []))) Ψ L f0) (m_ : Nat) (hm_m_ : m_ ∈ L) (ht_m_ : Ψ m_ = 7) : Met l yX7_isWord (.code yX7_isWord cX7_isWord 6 (some .boolean) :: gt) { frames := 3, cells := 0, slots := 0, locals := 63 } (va_Pc [.ref m_, .int 13, .int 15, .int 19, .int 20, .int 0] (hPre D K b0 sa sz L f0)) (hQ D K b0 (fun v9 u9 => ∃ r : Int32, v9 = some (.int r) ∧ u9 = ((gof ((702, 0) :: ((704, 0) :: []))), Ψ, L, f0) ∧ (r = 0))) 0 0 (fun q => b0 ≤ q) := by
  refine t_of (own := RX7) (by decide) rfl ?_ (Nat.le_of_ble_eq_true rfl)
  intro p e s m below meth c ls C w hsz hr hlk hnm hl
  have hx := C.1
  have hb := C.2.1
  have hl : lv_has ls 6 [(0, .ref m_), (1, .int 13), (2, .int 15), (3, .int 19), (4, .int 20), (5, .int 0)] := hl
  have hR : rawk Ψ L f0 f0 := rawk.rf
  refine lv_aload_n hx hb dX7_isWord_0 rfl (lv_at hl 0 rfl) ?_
  refine t_callV (n := 0) C w hT hm_m_ ht_m_ (by decide) rfl rfl (c_X7_wordHere0 l D K b0 sa _ L _ Ψ hT m_ hm_m_ ht_m_) gw_1371 gw_1368 gw_1370 gs_28 gw_8 ⟨by decide, by decide, by decide +kernel⟩ rfl rfl ⟨by decide, by decide⟩ rfl hl.1 rfl (Nat.le_of_ble_eq_true rfl) dX7_isWord_1 ⟨by decide, by decide⟩ (fun v u H locs hp w => ?_)
  obtain ⟨r1, rfl, rfl, hrr1⟩ := hp
  obtain rfl := hrr1
  refine lv_iload_n hx hb dX7_isWord_4 rfl (lv_at hl 1 rfl) ?_
  refine lv_iload_n hx hb dX7_isWord_5 rfl (lv_at hl 2 rfl) ?_
  refine lv_iload_n hx hb dX7_isWord_6 rfl (lv_at hl 3 rfl) ?_
  refine lv_iload hx hb dX7_isWord_7 (lv_at hl 4 rfl) ?_
  refine lv_iload hx hb dX7_isWord_9 (lv_at hl 5 rfl) ?_
  refine t_callS (n := 5) C w (c_X7_word8 l D K b0 sa _ L _ Ψ (gof ((702, 0) :: ((704, 0) :: []))) hT) gw_1382 gw_1380 gw_1381 gw_8 ⟨by decide, by decide, by decide +kernel⟩ rfl rfl ⟨by decide, by decide⟩ rfl hl.1 rfl (Nat.le_of_ble_eq_true rfl) dX7_isWord_11 ⟨by decide, by decide⟩ (fun v u H locs hp w => ?_)
  obtain ⟨r2, rfl, rfl, hrr2⟩ := hp
  obtain rfl := hrr2
  refine lv_icmp_ne (tgt := 21) hx hb dX7_isWord_14 (by decide) (fun _ => ?_) (fun c0 => absurd c0 (by decide))
  refine lv_iconst (v := 0) hx hb dX7_isWord_21 (by decide) ?_
  have n0 : (0 : Int32).toInt = 0 := by decide
  exact t_zret C hr hlk w (by decide) ⟨_, rfl, rfl, rfl⟩ (by decide) (by decide) dX7_isWord_22
set_option maxHeartbeats 4000000 in
set_option maxRecDepth 100000 in
theorem c_X7_isWord9 (l : Launch) (D : va_G) (K : Nat → ClassId) (b0 : Nat) (sa : Nat × Nat × Nat) (sz : Nat) (L : List Nat) (f0 : Nat → va_E) (Ψ : Nat → Nat) (hT : TW K (gof ((702, 0) :: ((704, 0) :: []))) Ψ L f0) (m_ : Nat) (hm_m_ : m_ ∈ L) (ht_m_ : Ψ m_ = 7) : Met l yX7_isWord (.code yX7_isWord cX7_isWord 6 (some .boolean) :: gt) { frames := 3, cells := 0, slots := 0, locals := 63 } (va_Pc [.ref m_, .int 14, .int 15, .int 20, .int 0, .int 0] (hPre D K b0 sa sz L f0)) (hQ D K b0 (fun v9 u9 => ∃ r : Int32, v9 = some (.int r) ∧ u9 = ((gof ((702, 0) :: ((704, 0) :: []))), Ψ, L, f0) ∧ (r = 0))) 0 0 (fun q => b0 ≤ q) := by
  refine t_of (own := RX7) (by decide) rfl ?_ (Nat.le_of_ble_eq_true rfl)
  intro p e s m below meth c ls C w hsz hr hlk hnm hl
  have hx := C.1
  have hb := C.2.1
  have hl : lv_has ls 6 [(0, .ref m_), (1, .int 14), (2, .int 15), (3, .int 20), (4, .int 0), (5, .int 0)] := hl
  have hR : rawk Ψ L f0 f0 := rawk.rf
  refine lv_aload_n hx hb dX7_isWord_0 rfl (lv_at hl 0 rfl) ?_
  refine t_callV (n := 0) C w hT hm_m_ ht_m_ (by decide) rfl rfl (c_X7_wordHere0 l D K b0 sa _ L _ Ψ hT m_ hm_m_ ht_m_) gw_1371 gw_1368 gw_1370 gs_28 gw_8 ⟨by decide, by decide, by decide +kernel⟩ rfl rfl ⟨by decide, by decide⟩ rfl hl.1 rfl (Nat.le_of_ble_eq_true rfl) dX7_isWord_1 ⟨by decide, by decide⟩ (fun v u H locs hp w => ?_)
  obtain ⟨r1, rfl, rfl, hrr1⟩ := hp
  obtain rfl := hrr1
  refine lv_iload_n hx hb dX7_isWord_4 rfl (lv_at hl 1 rfl) ?_
  refine lv_iload_n hx hb dX7_isWord_5 rfl (lv_at hl 2 rfl) ?_
  refine lv_iload_n hx hb dX7_isWord_6 rfl (lv_at hl 3 rfl) ?_
  refine lv_iload hx hb dX7_isWord_7 (lv_at hl 4 rfl) ?_
  refine lv_iload hx hb dX7_isWord_9 (lv_at hl 5 rfl) ?_
  refine t_callS (n := 5) C w (c_X7_word9 l D K b0 sa _ L _ Ψ (gof ((702, 0) :: ((704, 0) :: []))) hT) gw_1382 gw_1380 gw_1381 gw_8 ⟨by decide, by decide, by decide +kernel⟩ rfl rfl ⟨by decide, by decide⟩ rfl hl.1 rfl (Nat.le_of_ble_eq_true rfl) dX7_isWord_11 ⟨by decide, by decide⟩ (fun v u H locs hp w => ?_)
  obtain ⟨r2, rfl, rfl, hrr2⟩ := hp
  obtain rfl := hrr2
  refine lv_icmp_ne (tgt := 21) hx hb dX7_isWord_14 (by decide) (fun _ => ?_) (fun c0 => absurd c0 (by decide))
  refine lv_iconst (v := 0) hx hb dX7_isWord_21 (by decide) ?_
  have n0 : (0 : Int32).toInt = 0 := by decide
  exact t_zret C hr hlk w (by decide) ⟨_, rfl, rfl, rfl⟩ (by decide) (by decide) dX7_isWord_22
set_option maxHeartbeats 4000000 in
set_option maxRecDepth 100000 in
theorem c_X7_nameHere0 (l : Launch) (D : va_G) (K : Nat → ClassId) (b0 : Nat) (sa : Nat × Nat × Nat) (sz : Nat) (L : List Nat) (f0 : Nat → va_E) (Ψ : Nat → Nat) (hT : TW K (gof ((702, 0) :: ((704, 0) :: []))) Ψ L f0) (m_ : Nat) (hm_m_ : m_ ∈ L) (ht_m_ : Ψ m_ = 7) : Met l yX7_nameHere (.code yX7_nameHere cX7_nameHere 1 (some .int) :: gt) { frames := 4, cells := 0, slots := 0, locals := 88 } (va_Pc [.ref m_] (hPre D K b0 sa sz L f0)) (hQ D K b0 (fun v9 u9 => ∃ r : Int32, v9 = some (.int r) ∧ u9 = ((gof ((702, 0) :: ((704, 0) :: []))), Ψ, L, f0) ∧ (r = (-1)))) 0 0 (fun q => b0 ≤ q) := by
  refine t_of (own := RX7) (by decide) rfl ?_ (Nat.le_of_ble_eq_true rfl)
  intro p e s m below meth c ls C w hsz hr hlk hnm hl
  have hx := C.1
  have hb := C.2.1
  have hl : lv_has ls 1 [(0, .ref m_)] := hl
  have hR : rawk Ψ L f0 f0 := rawk.rf
  refine lv_aload_n hx hb dX7_nameHere_0 rfl (lv_at hl 0 rfl) ?_
  refine lv_bipush (v := 20) hx hb dX7_nameHere_1 (by decide) ?_
  refine lv_bipush (v := 18) hx hb dX7_nameHere_3 (by decide) ?_
  refine lv_bipush (v := 9) hx hb dX7_nameHere_5 (by decide) ?_
  refine lv_iconst (v := 5) hx hb dX7_nameHere_7 (by decide) ?_
  refine lv_bipush (v := 19) hx hb dX7_nameHere_8 (by decide) ?_
  refine t_callV (n := 5) C w hT hm_m_ ht_m_ (by decide) rfl rfl (c_X7_isWord0 l D K b0 sa _ L _ Ψ hT m_ hm_m_ ht_m_) gw_1367 gw_1364 gw_1366 gs_27 gw_8 ⟨by decide, by decide, by decide +kernel⟩ rfl rfl ⟨by decide, by decide⟩ rfl hl.1 rfl (Nat.le_of_ble_eq_true rfl) dX7_nameHere_10 ⟨by decide, by decide⟩ (fun v u H locs hp w => ?_)
  obtain ⟨r1, rfl, rfl, hrr1⟩ := hp
  obtain rfl := hrr1
  refine lv_if_eq (tgt := 18) hx hb dX7_nameHere_13 (by decide) (fun _ => ?_) (fun c0 => absurd c0 (by decide))
  refine lv_aload_n hx hb dX7_nameHere_18 rfl (lv_at hl 0 rfl) ?_
  refine lv_bipush (v := 19) hx hb dX7_nameHere_19 (by decide) ?_
  refine lv_bipush (v := 9) hx hb dX7_nameHere_21 (by decide) ?_
  refine lv_bipush (v := 14) hx hb dX7_nameHere_23 (by decide) ?_
  refine lv_iconst (v := 3) hx hb dX7_nameHere_25 (by decide) ?_
  refine lv_iconst (v := 5) hx hb dX7_nameHere_26 (by decide) ?_
  refine t_callV (n := 5) C w hT hm_m_ ht_m_ (by decide) rfl rfl (c_X7_isWord1 l D K b0 sa _ L _ Ψ hT m_ hm_m_ ht_m_) gw_1367 gw_1364 gw_1366 gs_27 gw_8 ⟨by decide, by decide, by decide +kernel⟩ rfl rfl ⟨by decide, by decide⟩ rfl hl.1 rfl (Nat.le_of_ble_eq_true rfl) dX7_nameHere_27 ⟨by decide, by decide⟩ (fun v u H locs hp w => ?_)
  obtain ⟨r2, rfl, rfl, hrr2⟩ := hp
  obtain rfl := hrr2
  refine lv_if_eq (tgt := 35) hx hb dX7_nameHere_30 (by decide) (fun _ => ?_) (fun c0 => absurd c0 (by decide))
  refine lv_aload_n hx hb dX7_nameHere_35 rfl (lv_at hl 0 rfl) ?_
  refine lv_iconst (v := 3) hx hb dX7_nameHere_36 (by decide) ?_
  refine lv_bipush (v := 15) hx hb dX7_nameHere_37 (by decide) ?_
  refine lv_bipush (v := 9) hx hb dX7_nameHere_39 (by decide) ?_
  refine lv_bipush (v := 14) hx hb dX7_nameHere_41 (by decide) ?_
  refine lv_bipush (v := 19) hx hb dX7_nameHere_43 (by decide) ?_
  refine t_callV (n := 5) C w hT hm_m_ ht_m_ (by decide) rfl rfl (c_X7_isWord2 l D K b0 sa _ L _ Ψ hT m_ hm_m_ ht_m_) gw_1367 gw_1364 gw_1366 gs_27 gw_8 ⟨by decide, by decide, by decide +kernel⟩ rfl rfl ⟨by decide, by decide⟩ rfl hl.1 rfl (Nat.le_of_ble_eq_true rfl) dX7_nameHere_45 ⟨by decide, by decide⟩ (fun v u H locs hp w => ?_)
  obtain ⟨r3, rfl, rfl, hrr3⟩ := hp
  obtain rfl := hrr3
  refine lv_if_eq (tgt := 53) hx hb dX7_nameHere_48 (by decide) (fun _ => ?_) (fun c0 => absurd c0 (by decide))
  refine lv_aload_n hx hb dX7_nameHere_53 rfl (lv_at hl 0 rfl) ?_
  refine lv_bipush (v := 16) hx hb dX7_nameHere_54 (by decide) ?_
  refine lv_iconst (v := 1) hx hb dX7_nameHere_56 (by decide) ?_
  refine lv_bipush (v := 9) hx hb dX7_nameHere_57 (by decide) ?_
  refine lv_iconst (v := 4) hx hb dX7_nameHere_59 (by decide) ?_
  refine lv_iconst (v := 0) hx hb dX7_nameHere_60 (by decide) ?_
  refine t_callV (n := 5) C w hT hm_m_ ht_m_ (by decide) rfl rfl (c_X7_isWord3 l D K b0 sa _ L _ Ψ hT m_ hm_m_ ht_m_) gw_1367 gw_1364 gw_1366 gs_27 gw_8 ⟨by decide, by decide, by decide +kernel⟩ rfl rfl ⟨by decide, by decide⟩ rfl hl.1 rfl (Nat.le_of_ble_eq_true rfl) dX7_nameHere_61 ⟨by decide, by decide⟩ (fun v u H locs hp w => ?_)
  obtain ⟨r4, rfl, rfl, hrr4⟩ := hp
  obtain rfl := hrr4
  refine lv_if_eq (tgt := 69) hx hb dX7_nameHere_64 (by decide) (fun _ => ?_) (fun c0 => absurd c0 (by decide))
  refine lv_aload_n hx hb dX7_nameHere_69 rfl (lv_at hl 0 rfl) ?_
  refine lv_bipush (v := 8) hx hb dX7_nameHere_70 (by decide) ?_
  refine lv_bipush (v := 15) hx hb dX7_nameHere_72 (by decide) ?_
  refine lv_bipush (v := 21) hx hb dX7_nameHere_74 (by decide) ?_
  refine lv_bipush (v := 18) hx hb dX7_nameHere_76 (by decide) ?_
  refine lv_iconst (v := 0) hx hb dX7_nameHere_78 (by decide) ?_
  refine t_callV (n := 5) C w hT hm_m_ ht_m_ (by decide) rfl rfl (c_X7_isWord4 l D K b0 sa _ L _ Ψ hT m_ hm_m_ ht_m_) gw_1367 gw_1364 gw_1366 gs_27 gw_8 ⟨by decide, by decide, by decide +kernel⟩ rfl rfl ⟨by decide, by decide⟩ rfl hl.1 rfl (Nat.le_of_ble_eq_true rfl) dX7_nameHere_79 ⟨by decide, by decide⟩ (fun v u H locs hp w => ?_)
  obtain ⟨r5, rfl, rfl, hrr5⟩ := hp
  obtain rfl := hrr5
  refine lv_if_eq (tgt := 87) hx hb dX7_nameHere_82 (by decide) (fun _ => ?_) (fun c0 => absurd c0 (by decide))
  refine lv_aload_n hx hb dX7_nameHere_87 rfl (lv_at hl 0 rfl) ?_
  refine lv_bipush (v := 12) hx hb dX7_nameHere_88 (by decide) ?_
  refine lv_bipush (v := 15) hx hb dX7_nameHere_90 (by decide) ?_
  refine lv_bipush (v := 20) hx hb dX7_nameHere_92 (by decide) ?_
  refine lv_iconst (v := 0) hx hb dX7_nameHere_94 (by decide) ?_
  refine lv_iconst (v := 0) hx hb dX7_nameHere_95 (by decide) ?_
  refine t_callV (n := 5) C w hT hm_m_ ht_m_ (by decide) rfl rfl (c_X7_isWord5 l D K b0 sa _ L _ Ψ hT m_ hm_m_ ht_m_) gw_1367 gw_1364 gw_1366 gs_27 gw_8 ⟨by decide, by decide, by decide +kernel⟩ rfl rfl ⟨by decide, by decide⟩ rfl hl.1 rfl (Nat.le_of_ble_eq_true rfl) dX7_nameHere_96 ⟨by decide, by decide⟩ (fun v u H locs hp w => ?_)
  obtain ⟨r6, rfl, rfl, hrr6⟩ := hp
  obtain rfl := hrr6
  refine lv_if_eq (tgt := 104) hx hb dX7_nameHere_99 (by decide) (fun _ => ?_) (fun c0 => absurd c0 (by decide))
  refine lv_aload_n hx hb dX7_nameHere_104 rfl (lv_at hl 0 rfl) ?_
  refine t_geti C w hT hm_m_ ht_m_ (by decide) rfl cin_7 16 (by decide) rfl rfl gw_1172 dX7_nameHere_105 (fun x7 hg => ?_)
  have n0 : (0 : Int32).toInt = 0 := by decide
  refine lv_if_eq (tgt := 129) hx hb dX7_nameHere_108 (by decide) (fun c8 => ?_) (fun c8 => ?_)
  · have c8 := eq_toInt c8
    refine lv_iconst (v := (-1)) hx hb dX7_nameHere_129 (by decide) ?_
    have nm1 : ((-1) : Int32).toInt = -1 := by decide
    exact t_iret C hr hlk w ⟨_, rfl, rfl, rfl⟩ (by decide) (by decide) dX7_nameHere_130
  · have c8 := ne_toInt c8
    refine lv_aload_n hx hb dX7_nameHere_111 rfl (lv_at hl 0 rfl) ?_
    refine lv_iconst (v := 3) hx hb dX7_nameHere_112 (by decide) ?_
    refine lv_iconst (v := 1) hx hb dX7_nameHere_113 (by decide) ?_
    refine lv_bipush (v := 14) hx hb dX7_nameHere_114 (by decide) ?_
    refine lv_iconst (v := 0) hx hb dX7_nameHere_116 (by decide) ?_
    refine lv_iconst (v := 0) hx hb dX7_nameHere_117 (by decide) ?_
    refine t_callV (n := 5) C w hT hm_m_ ht_m_ (by decide) rfl rfl (c_X7_isWord6 l D K b0 sa _ L _ Ψ hT m_ hm_m_ ht_m_) gw_1367 gw_1364 gw_1366 gs_27 gw_8 ⟨by decide, by decide, by decide +kernel⟩ rfl rfl ⟨by decide, by decide⟩ rfl hl.1 rfl (Nat.le_of_ble_eq_true rfl) dX7_nameHere_118 ⟨by decide, by decide⟩ (fun v u H locs hp w => ?_)
    obtain ⟨r9, rfl, rfl, hrr9⟩ := hp
    obtain rfl := hrr9
    refine lv_if_eq (tgt := 129) hx hb dX7_nameHere_121 (by decide) (fun _ => ?_) (fun c0 => absurd c0 (by decide))
    refine lv_iconst (v := (-1)) hx hb dX7_nameHere_129 (by decide) ?_
    have nm1 : ((-1) : Int32).toInt = -1 := by decide
    exact t_iret C hr hlk w ⟨_, rfl, rfl, rfl⟩ (by decide) (by decide) dX7_nameHere_130
set_option maxHeartbeats 4000000 in
set_option maxRecDepth 100000 in
theorem c_X7_wrong0 (l : Launch) (D : va_G) (K : Nat → ClassId) (b0 : Nat) (sa : Nat × Nat × Nat) (sz : Nat) (L : List Nat) (f0 : Nat → va_E) (Ψ : Nat → Nat) (hT : TW K (gof gM1) Ψ L f0) (m_ : Nat) (hm_m_ : m_ ∈ L) (ht_m_ : Ψ m_ = 7) (hu_7 : ∀ b c : Nat, b ∈ L → c ∈ L → Ψ b = 7 → Ψ c = 7 → b = c) : Met l yX7_wrong (.code yX7_wrong cX7_wrong 3 none :: gt) { frames := 0, cells := 0, slots := 0, locals := 0 } (va_Pc [.ref m_, .int 1, .int 0] (hPre D K b0 sa sz L f0)) (hQ D K b0 (fun v9 u9 => ∃ f2 : Nat → va_E, v9 = none ∧ u9 = ((gof ((706, 1) :: ((707, 0) :: gM1))), Ψ, L, f2) ∧ TW K (gof ((706, 1) :: ((707, 0) :: gM1))) Ψ L f2 ∧ rawk Ψ L f0 f2)) 0 0 (fun q => b0 ≤ q) := by
  refine t_of (own := RX7) (by decide) rfl ?_ (Nat.le_of_ble_eq_true rfl)
  intro p e s m below meth c ls C w hsz hr hlk hnm hl
  have hx := C.1
  have hb := C.2.1
  have hl : lv_has ls 3 [(0, .ref m_), (1, .int 1), (2, .int 0)] := hl
  have hR : rawk Ψ L f0 f0 := rawk.rf
  refine lv_aload_n hx hb dX7_wrong_0 rfl (lv_at hl 0 rfl) ?_
  refine t_geti C w hT hm_m_ ht_m_ (by decide) rfl cin_7 6 (by decide) rfl rfl gw_1162 dX7_wrong_1 (fun x1 hg => ?_)
  obtain rfl : x1 = 0 := gof_at rfl hg
  refine lv_if_ne (tgt := 17) hx hb dX7_wrong_4 (by decide) (fun c0 => absurd c0 (by decide)) (fun _ => ?_)
  refine lv_aload_n hx hb dX7_wrong_7 rfl (lv_at hl 0 rfl) ?_
  refine lv_iload_n hx hb dX7_wrong_8 rfl (lv_at hl 1 rfl) ?_
  refine t_putS C w hT hm_m_ ht_m_ (fun b h1 h2 => hu_7 b m_ h1 hm_m_ h2 ht_m_) (by decide) rfl cin_7 tyX7 tyX7_ok nmX7 6 (by decide) rfl rfl rfl rfl rfl gw_1162 dX7_wrong_9 (fun f H locs w hT hR1 => ?_)
  have hT := hT.mono gof_set
  have hR := hR.tr hR1
  refine lv_aload_n hx hb dX7_wrong_12 rfl (lv_at hl 0 rfl) ?_
  refine lv_iload_n hx hb dX7_wrong_13 rfl (lv_at hl 2 rfl) ?_
  refine t_putS C w hT hm_m_ ht_m_ (fun b h1 h2 => hu_7 b m_ h1 hm_m_ h2 ht_m_) (by decide) rfl cin_7 tyX7 tyX7_ok nmX7 7 (by decide) rfl rfl rfl rfl rfl gw_1163 dX7_wrong_14 (fun f H locs w hT hR1 => ?_)
  have hT := hT.mono gof_set
  have hR := hR.tr hR1
  exact t_vret C hr hlk w ⟨_, rfl, rfl, (hT.mono (gof_sub rfl)), hR⟩ (by decide) (by decide) dX7_wrong_17
set_option maxHeartbeats 4000000 in
set_option maxRecDepth 100000 in
theorem c_X7_wrong1 (l : Launch) (D : va_G) (K : Nat → ClassId) (b0 : Nat) (sa : Nat × Nat × Nat) (sz : Nat) (L : List Nat) (f0 : Nat → va_E) (Ψ : Nat → Nat) (hT : TW K (gof ((706, 1) :: [])) Ψ L f0) (m_ : Nat) (hm_m_ : m_ ∈ L) (ht_m_ : Ψ m_ = 7) (he : Int32) : Met l yX7_wrong (.code yX7_wrong cX7_wrong 3 none :: gt) { frames := 0, cells := 0, slots := 0, locals := 0 } (va_Pc [.ref m_, .int 1, .int he] (hPre D K b0 sa sz L f0)) (hQ D K b0 (fun v9 u9 => v9 = none ∧ u9 = ((gof ((706, 1) :: [])), Ψ, L, f0))) 0 0 (fun q => b0 ≤ q) := by
  refine t_of (own := RX7) (by decide) rfl ?_ (Nat.le_of_ble_eq_true rfl)
  intro p e s m below meth c ls C w hsz hr hlk hnm hl
  have hx := C.1
  have hb := C.2.1
  have hl : lv_has ls 3 [(0, .ref m_), (1, .int 1), (2, .int he)] := hl
  have hb_he := ti_bd he
  have hR : rawk Ψ L f0 f0 := rawk.rf
  refine lv_aload_n hx hb dX7_wrong_0 rfl (lv_at hl 0 rfl) ?_
  refine t_geti C w hT hm_m_ ht_m_ (by decide) rfl cin_7 6 (by decide) rfl rfl gw_1162 dX7_wrong_1 (fun x1 hg => ?_)
  obtain rfl : x1 = 1 := gof_at rfl hg
  refine lv_if_ne (tgt := 17) hx hb dX7_wrong_4 (by decide) (fun _ => ?_) (fun c0 => absurd c0 (by decide))
  exact t_vret C hr hlk w ⟨rfl, rfl⟩ (by decide) (by decide) dX7_wrong_17
set_option maxHeartbeats 4000000 in
set_option maxRecDepth 100000 in
theorem c_X7_unit0 (l : Launch) (D : va_G) (K : Nat → ClassId) (b0 : Nat) (sa : Nat × Nat × Nat) (sz : Nat) (L : List Nat) (f0 : Nat → va_E) (Ψ : Nat → Nat) (hT : TW K (gof gM1) Ψ L f0) (m_ : Nat) (hm_m_ : m_ ∈ L) (ht_m_ : Ψ m_ = 7) (hu_7 : ∀ b c : Nat, b ∈ L → c ∈ L → Ψ b = 7 → Ψ c = 7 → b = c) : Met l yX7_unit (.code yX7_unit cX7_unit 6 (some .int) :: gt) { frames := 5, cells := 0, slots := 0, locals := 108 } (va_Pc [.ref m_] (hPre D K b0 sa sz L f0)) (hQ D K b0 (fun v9 u9 => ∃ (r : Int32) (f2 : Nat → va_E), v9 = some (.int r) ∧ u9 = ((gof ((706, 1) :: ((707, 0) :: gM1))), Ψ, L, f2) ∧ TW K (gof ((706, 1) :: ((707, 0) :: gM1))) Ψ L f2 ∧ rawk Ψ L f0 f2 ∧ (r = 0))) 0 0 (fun q => b0 ≤ q) := by
  refine t_of (own := RX7) (by decide) rfl ?_ (Nat.le_of_ble_eq_true rfl)
  intro p e s m below meth c ls C w hsz hr hlk hnm hl
  have hx := C.1
  have hb := C.2.1
  have hl : lv_has ls 6 [(0, .ref m_)] := hl
  have hR : rawk Ψ L f0 f0 := rawk.rf
  refine lv_aload_n hx hb dX7_unit_0 rfl (lv_at hl 0 rfl) ?_
  refine t_geti C w hT hm_m_ ht_m_ (by decide) rfl cin_7 6 (by decide) rfl rfl gw_1162 dX7_unit_1 (fun x1 hg => ?_)
  obtain rfl : x1 = 0 := gof_at rfl hg
  refine lv_if_eq (tgt := 9) hx hb dX7_unit_4 (by decide) (fun _ => ?_) (fun c0 => absurd c0 (by decide))
  refine lv_aload_n hx hb dX7_unit_9 rfl (lv_at hl 0 rfl) ?_
  refine t_callV (n := 0) C w hT hm_m_ ht_m_ (by decide) rfl rfl (c_X7_blanks0 l D K b0 sa _ L _ Ψ (hT.mono (gof_sub rfl)) m_ hm_m_ ht_m_) gw_1375 gw_1372 gw_1374 gs_29 gw_8 ⟨by decide, by decide, by decide +kernel⟩ rfl rfl ⟨by decide, by decide⟩ rfl hl.1 rfl (Nat.le_of_ble_eq_true rfl) dX7_unit_10 ⟨by decide, by decide⟩ (fun v u H locs hp w => ?_)
  obtain ⟨rfl, rfl⟩ := hp
  refine lv_aload_n hx hb dX7_unit_13 rfl (lv_at hl 0 rfl) ?_
  refine lv_aload_n hx hb dX7_unit_14 rfl (lv_at hl 0 rfl) ?_
  refine t_geti C w hT hm_m_ ht_m_ (by decide) rfl cin_7 4 (by decide) rfl rfl gw_1160 dX7_unit_15 (fun x2 hg => ?_)
  obtain rfl : x2 = 0 := gof_at rfl hg
  refine t_callV (n := 1) C w hT hm_m_ ht_m_ (by decide) rfl rfl (c_X7_byteAt0 l D K b0 sa _ L _ Ψ (hT.mono (gof_sub rfl)) m_ hm_m_ ht_m_) gw_1379 gw_1376 gw_1378 gs_30 gw_8 ⟨by decide, by decide, by decide +kernel⟩ rfl rfl ⟨by decide, by decide⟩ rfl hl.1 rfl (Nat.le_of_ble_eq_true rfl) dX7_unit_18 ⟨by decide, by decide⟩ (fun v u H locs hp w => ?_)
  obtain ⟨r3, rfl, rfl, hrr3⟩ := hp
  obtain rfl := hrr3
  refine t_callS (n := 1) C w (c_X7_isDigitN l D K b0 sa _ L _ Ψ (gof gM1) hT) gw_1409 gw_1407 gw_1408 gw_8 ⟨by decide, by decide, by decide +kernel⟩ rfl rfl ⟨by decide, by decide⟩ rfl hl.1 rfl (Nat.le_of_ble_eq_true rfl) dX7_unit_21 ⟨by decide, by decide⟩ (fun v u H locs hp w => ?_)
  obtain ⟨r4, rfl, rfl, hrr4⟩ := hp
  obtain rfl := hrr4
  refine lv_if_eq (tgt := 32) hx hb dX7_unit_24 (by decide) (fun _ => ?_) (fun c0 => absurd c0 (by decide))
  refine lv_aload_n hx hb dX7_unit_32 rfl (lv_at hl 0 rfl) ?_
  refine t_callV (n := 0) C w hT hm_m_ ht_m_ (by decide) rfl rfl (c_X7_nameHere0 l D K b0 sa _ L _ Ψ (hT.mono (gof_sub rfl)) m_ hm_m_ ht_m_) gw_1417 gw_1414 gw_1416 gs_38 gw_8 ⟨by decide, by decide, by decide +kernel⟩ rfl rfl ⟨by decide, by decide⟩ rfl hl.1 rfl (Nat.le_of_ble_eq_true rfl) dX7_unit_33 ⟨by decide, by decide⟩ (fun v u H locs hp w => ?_)
  obtain ⟨r5, rfl, rfl, hrr5⟩ := hp
  obtain rfl := hrr5
  refine lv_istore_n (lv' := [(1, .int (-1)), (0, .ref m_)]) hx hb dX7_unit_36 rfl hl (by decide) rfl (fun ls hl => ?_)
  refine lv_iload_n hx hb dX7_unit_37 rfl (lv_at hl 0 rfl) ?_
  refine lv_iconst (v := (-1)) hx hb dX7_unit_38 (by decide) ?_
  refine lv_icmp_eq (tgt := 53) hx hb dX7_unit_39 (by decide) (fun _ => ?_) (fun c0 => absurd c0 (by decide))
  refine lv_aload_n hx hb dX7_unit_53 rfl (lv_at hl 1 rfl) ?_
  refine lv_bipush (v := 12) hx hb dX7_unit_54 (by decide) ?_
  refine lv_iconst (v := 5) hx hb dX7_unit_56 (by decide) ?_
  refine lv_iconst (v := 1) hx hb dX7_unit_57 (by decide) ?_
  refine lv_bipush (v := 19) hx hb dX7_unit_58 (by decide) ?_
  refine lv_bipush (v := 20) hx hb dX7_unit_60 (by decide) ?_
  refine t_callV (n := 5) C w hT hm_m_ ht_m_ (by decide) rfl rfl (c_X7_isWord7 l D K b0 sa _ L _ Ψ (hT.mono (gof_sub rfl)) m_ hm_m_ ht_m_) gw_1367 gw_1364 gw_1366 gs_27 gw_8 ⟨by decide, by decide, by decide +kernel⟩ rfl rfl ⟨by decide, by decide⟩ rfl hl.1 rfl (Nat.le_of_ble_eq_true rfl) dX7_unit_62 ⟨by decide, by decide⟩ (fun v u H locs hp w => ?_)
  obtain ⟨r6, rfl, rfl, hrr6⟩ := hp
  obtain rfl := hrr6
  refine lv_istore_n (lv' := [(2, .int 0), (1, .int (-1)), (0, .ref m_)]) hx hb dX7_unit_65 rfl hl (by decide) rfl (fun ls hl => ?_)
  refine lv_aload_n hx hb dX7_unit_66 rfl (lv_at hl 2 rfl) ?_
  refine lv_bipush (v := 13) hx hb dX7_unit_67 (by decide) ?_
  refine lv_bipush (v := 15) hx hb dX7_unit_69 (by decide) ?_
  refine lv_bipush (v := 19) hx hb dX7_unit_71 (by decide) ?_
  refine lv_bipush (v := 20) hx hb dX7_unit_73 (by decide) ?_
  refine lv_iconst (v := 0) hx hb dX7_unit_75 (by decide) ?_
  refine t_callV (n := 5) C w hT hm_m_ ht_m_ (by decide) rfl rfl (c_X7_isWord8 l D K b0 sa _ L _ Ψ (hT.mono (gof_sub rfl)) m_ hm_m_ ht_m_) gw_1367 gw_1364 gw_1366 gs_27 gw_8 ⟨by decide, by decide, by decide +kernel⟩ rfl rfl ⟨by decide, by decide⟩ rfl hl.1 rfl (Nat.le_of_ble_eq_true rfl) dX7_unit_76 ⟨by decide, by decide⟩ (fun v u H locs hp w => ?_)
  obtain ⟨r7, rfl, rfl, hrr7⟩ := hp
  obtain rfl := hrr7
  refine lv_istore_n (lv' := [(3, .int 0), (2, .int 0), (1, .int (-1)), (0, .ref m_)]) hx hb dX7_unit_79 rfl hl (by decide) rfl (fun ls hl => ?_)
  refine lv_iload_n hx hb dX7_unit_80 rfl (lv_at hl 1 rfl) ?_
  refine lv_if_ne (tgt := 88) hx hb dX7_unit_81 (by decide) (fun c0 => absurd c0 (by decide)) (fun _ => ?_)
  refine lv_iload_n hx hb dX7_unit_84 rfl (lv_at hl 0 rfl) ?_
  refine lv_if_eq (tgt := 92) hx hb dX7_unit_85 (by decide) (fun _ => ?_) (fun c0 => absurd c0 (by decide))
  refine lv_aload_n hx hb dX7_unit_92 rfl (lv_at hl 3 rfl) ?_
  refine t_callV (n := 0) C w hT hm_m_ ht_m_ (by decide) rfl rfl (c_X7_blanks0 l D K b0 sa _ L _ Ψ (hT.mono (gof_sub rfl)) m_ hm_m_ ht_m_) gw_1375 gw_1372 gw_1374 gs_29 gw_8 ⟨by decide, by decide, by decide +kernel⟩ rfl rfl ⟨by decide, by decide⟩ rfl hl.1 rfl (Nat.le_of_ble_eq_true rfl) dX7_unit_93 ⟨by decide, by decide⟩ (fun v u H locs hp w => ?_)
  obtain ⟨rfl, rfl⟩ := hp
  refine lv_aload_n hx hb dX7_unit_96 rfl (lv_at hl 3 rfl) ?_
  refine lv_aload_n hx hb dX7_unit_97 rfl (lv_at hl 3 rfl) ?_
  refine t_geti C w hT hm_m_ ht_m_ (by decide) rfl cin_7 4 (by decide) rfl rfl gw_1160 dX7_unit_98 (fun x8 hg => ?_)
  obtain rfl : x8 = 0 := gof_at rfl hg
  refine t_callV (n := 1) C w hT hm_m_ ht_m_ (by decide) rfl rfl (c_X7_byteAt0 l D K b0 sa _ L _ Ψ (hT.mono (gof_sub rfl)) m_ hm_m_ ht_m_) gw_1379 gw_1376 gw_1378 gs_30 gw_8 ⟨by decide, by decide, by decide +kernel⟩ rfl rfl ⟨by decide, by decide⟩ rfl hl.1 rfl (Nat.le_of_ble_eq_true rfl) dX7_unit_101 ⟨by decide, by decide⟩ (fun v u H locs hp w => ?_)
  obtain ⟨r9, rfl, rfl, hrr9⟩ := hp
  obtain rfl := hrr9
  refine lv_bipush (v := 40) hx hb dX7_unit_104 (by decide) ?_
  refine lv_icmp_eq (tgt := 120) hx hb dX7_unit_106 (by decide) (fun c0 => absurd c0 (by decide)) (fun _ => ?_)
  refine lv_aload_n hx hb dX7_unit_109 rfl (lv_at hl 3 rfl) ?_
  refine lv_iconst (v := 1) hx hb dX7_unit_110 (by decide) ?_
  refine lv_aload_n hx hb dX7_unit_111 rfl (lv_at hl 3 rfl) ?_
  refine t_geti C w hT hm_m_ ht_m_ (by decide) rfl cin_7 4 (by decide) rfl rfl gw_1160 dX7_unit_112 (fun x10 hg => ?_)
  obtain rfl : x10 = 0 := gof_at rfl hg
  refine t_callV (n := 2) C w hT hm_m_ ht_m_ (by decide) rfl rfl (c_X7_wrong0 l D K b0 sa _ L _ Ψ hT m_ hm_m_ ht_m_ hu_7) gw_1390 gw_1387 gw_1389 gs_32 gw_8 ⟨by decide, by decide, by decide +kernel⟩ rfl rfl ⟨by decide, by decide⟩ rfl hl.1 rfl (Nat.le_of_ble_eq_true rfl) dX7_unit_115 ⟨by decide, by decide⟩ (fun v u H locs hp w => ?_)
  obtain ⟨f2, rfl, rfl, hT2, hR1⟩ := hp
  have hR := hR.tr hR1
  clear hT
  have hT := hT2
  clear hT2
  generalize f2 = f at w hT hR
  refine lv_iconst (v := 0) hx hb dX7_unit_118 (by decide) ?_
  have n0 : (0 : Int32).toInt = 0 := by decide
  exact t_iret C hr hlk w ⟨_, _, rfl, rfl, hT, hR, rfl⟩ (by decide) (by decide) dX7_unit_119
set_option maxHeartbeats 4000000 in
set_option maxRecDepth 100000 in
theorem c_X7_unit1 (l : Launch) (D : va_G) (K : Nat → ClassId) (b0 : Nat) (sa : Nat × Nat × Nat) (sz : Nat) (L : List Nat) (f0 : Nat → va_E) (Ψ : Nat → Nat) (hT : TW K (gof ((706, 1) :: [])) Ψ L f0) (m_ : Nat) (hm_m_ : m_ ∈ L) (ht_m_ : Ψ m_ = 7) : Met l yX7_unit (.code yX7_unit cX7_unit 6 (some .int) :: gt) { frames := 0, cells := 0, slots := 0, locals := 0 } (va_Pc [.ref m_] (hPre D K b0 sa sz L f0)) (hQ D K b0 (fun v9 u9 => ∃ r : Int32, v9 = some (.int r) ∧ u9 = ((gof ((706, 1) :: [])), Ψ, L, f0) ∧ (r = 0))) 0 0 (fun q => b0 ≤ q) := by
  refine t_of (own := RX7) (by decide) rfl ?_ (Nat.le_of_ble_eq_true rfl)
  intro p e s m below meth c ls C w hsz hr hlk hnm hl
  have hx := C.1
  have hb := C.2.1
  have hl : lv_has ls 6 [(0, .ref m_)] := hl
  have hR : rawk Ψ L f0 f0 := rawk.rf
  refine lv_aload_n hx hb dX7_unit_0 rfl (lv_at hl 0 rfl) ?_
  refine t_geti C w hT hm_m_ ht_m_ (by decide) rfl cin_7 6 (by decide) rfl rfl gw_1162 dX7_unit_1 (fun x1 hg => ?_)
  obtain rfl : x1 = 1 := gof_at rfl hg
  refine lv_if_eq (tgt := 9) hx hb dX7_unit_4 (by decide) (fun c0 => absurd c0 (by decide)) (fun _ => ?_)
  refine lv_iconst (v := 0) hx hb dX7_unit_7 (by decide) ?_
  have n0 : (0 : Int32).toInt = 0 := by decide
  exact t_iret C hr hlk w ⟨_, rfl, rfl, rfl⟩ (by decide) (by decide) dX7_unit_8
set_option maxHeartbeats 4000000 in
set_option maxRecDepth 100000 in
theorem c_X7_product0 (l : Launch) (D : va_G) (K : Nat → ClassId) (b0 : Nat) (sa : Nat × Nat × Nat) (sz : Nat) (L : List Nat) (f0 : Nat → va_E) (Ψ : Nat → Nat) (hT : TW K (gof gM1) Ψ L f0) (m_ : Nat) (hm_m_ : m_ ∈ L) (ht_m_ : Ψ m_ = 7) (hu_7 : ∀ b c : Nat, b ∈ L → c ∈ L → Ψ b = 7 → Ψ c = 7 → b = c) : Met l yX7_product (.code yX7_product cX7_product 4 (some .int) :: gt) { frames := 6, cells := 0, slots := 0, locals := 133 } (va_Pc [.ref m_] (hPre D K b0 sa sz L f0)) (hQ D K b0 (fun v9 u9 => ∃ (r : Int32) (f2 : Nat → va_E), v9 = some (.int r) ∧ u9 = ((gof ((706, 1) :: ((707, 0) :: gM1))), Ψ, L, f2) ∧ TW K (gof ((706, 1) :: ((707, 0) :: gM1))) Ψ L f2 ∧ rawk Ψ L f0 f2 ∧ (r = 0))) 0 0 (fun q => b0 ≤ q) := by
  refine t_of (own := RX7) (by decide) rfl ?_ (Nat.le_of_ble_eq_true rfl)
  intro p e s m below meth c ls C w hsz hr hlk hnm hl
  have hx := C.1
  have hb := C.2.1
  have hl : lv_has ls 4 [(0, .ref m_)] := hl
  have hR : rawk Ψ L f0 f0 := rawk.rf
  refine lv_aload_n hx hb dX7_product_0 rfl (lv_at hl 0 rfl) ?_
  refine t_callV (n := 0) C w hT hm_m_ ht_m_ (by decide) rfl rfl (c_X7_unit0 l D K b0 sa _ L _ Ψ hT m_ hm_m_ ht_m_ hu_7) gw_1406 gw_1403 gw_1405 gs_36 gw_8 ⟨by decide, by decide, by decide +kernel⟩ rfl rfl ⟨by decide, by decide⟩ rfl hl.1 rfl (Nat.le_of_ble_eq_true rfl) dX7_product_1 ⟨by decide, by decide⟩ (fun v u H locs hp w => ?_)
  obtain ⟨r1, f2, rfl, rfl, hT2, hR1, hrr1⟩ := hp
  have hR := hR.tr hR1
  clear hT
  have hT := hT2
  clear hT2
  generalize f2 = f at w hT hR
  obtain rfl := hrr1
  refine lv_istore_n (lv' := [(1, .int 0), (0, .ref m_)]) hx hb dX7_product_4 rfl hl (by decide) rfl (fun ls hl => ?_)
  refine lv_aload_n hx hb dX7_product_5 rfl (lv_at hl 1 rfl) ?_
  refine t_callV (n := 0) C w hT hm_m_ ht_m_ (by decide) rfl rfl (c_X7_blanks0 l D K b0 sa _ L _ Ψ (hT.mono (gof_sub rfl)) m_ hm_m_ ht_m_) gw_1375 gw_1372 gw_1374 gs_29 gw_8 ⟨by decide, by decide, by decide +kernel⟩ rfl rfl ⟨by decide, by decide⟩ rfl hl.1 rfl (Nat.le_of_ble_eq_true rfl) dX7_product_6 ⟨by decide, by decide⟩ (fun v u H locs hp w => ?_)
  obtain ⟨rfl, rfl⟩ := hp
  refine lv_aload_n hx hb dX7_product_9 rfl (lv_at hl 1 rfl) ?_
  refine t_geti C w hT hm_m_ ht_m_ (by decide) rfl cin_7 6 (by decide) rfl rfl gw_1162 dX7_product_10 (fun x2 hg => ?_)
  obtain rfl : x2 = 1 := gof_at rfl hg
  refine lv_if_ne (tgt := 97) hx hb dX7_product_13 (by decide) (fun _ => ?_) (fun c0 => absurd c0 (by decide))
  refine lv_iload_n hx hb dX7_product_97 rfl (lv_at hl 0 rfl) ?_
  have n0 : (0 : Int32).toInt = 0 := by decide
  exact t_iret C hr hlk w ⟨_, _, rfl, rfl, hT, hR, rfl⟩ (by decide) (by decide) dX7_product_98
set_option maxHeartbeats 4000000 in
set_option maxRecDepth 100000 in
theorem c_X7_product1 (l : Launch) (D : va_G) (K : Nat → ClassId) (b0 : Nat) (sa : Nat × Nat × Nat) (sz : Nat) (L : List Nat) (f0 : Nat → va_E) (Ψ : Nat → Nat) (hT : TW K (gof ((702, 0) :: ((704, 1) :: ((706, 1) :: [])))) Ψ L f0) (m_ : Nat) (hm_m_ : m_ ∈ L) (ht_m_ : Ψ m_ = 7) : Met l yX7_product (.code yX7_product cX7_product 4 (some .int) :: gt) { frames := 2, cells := 0, slots := 0, locals := 41 } (va_Pc [.ref m_] (hPre D K b0 sa sz L f0)) (hQ D K b0 (fun v9 u9 => ∃ r : Int32, v9 = some (.int r) ∧ u9 = ((gof ((702, 0) :: ((704, 1) :: ((706, 1) :: [])))), Ψ, L, f0) ∧ (r = 0))) 0 0 (fun q => b0 ≤ q) := by
  refine t_of (own := RX7) (by decide) rfl ?_ (Nat.le_of_ble_eq_true rfl)
  intro p e s m below meth c ls C w hsz hr hlk hnm hl
  have hx := C.1
  have hb := C.2.1
  have hl : lv_has ls 4 [(0, .ref m_)] := hl
  have hR : rawk Ψ L f0 f0 := rawk.rf
  refine lv_aload_n hx hb dX7_product_0 rfl (lv_at hl 0 rfl) ?_
  refine t_callV (n := 0) C w hT hm_m_ ht_m_ (by decide) rfl rfl (c_X7_unit1 l D K b0 sa _ L _ Ψ (hT.mono (gof_sub rfl)) m_ hm_m_ ht_m_) gw_1406 gw_1403 gw_1405 gs_36 gw_8 ⟨by decide, by decide, by decide +kernel⟩ rfl rfl ⟨by decide, by decide⟩ rfl hl.1 rfl (Nat.le_of_ble_eq_true rfl) dX7_product_1 ⟨by decide, by decide⟩ (fun v u H locs hp w => ?_)
  obtain ⟨r1, rfl, rfl, hrr1⟩ := hp
  obtain rfl := hrr1
  refine lv_istore_n (lv' := [(1, .int 0), (0, .ref m_)]) hx hb dX7_product_4 rfl hl (by decide) rfl (fun ls hl => ?_)
  refine lv_aload_n hx hb dX7_product_5 rfl (lv_at hl 1 rfl) ?_
  refine t_callV (n := 0) C w hT hm_m_ ht_m_ (by decide) rfl rfl (c_X7_blanks1 l D K b0 sa _ L _ Ψ (hT.mono (gof_sub rfl)) m_ hm_m_ ht_m_) gw_1375 gw_1372 gw_1374 gs_29 gw_8 ⟨by decide, by decide, by decide +kernel⟩ rfl rfl ⟨by decide, by decide⟩ rfl hl.1 rfl (Nat.le_of_ble_eq_true rfl) dX7_product_6 ⟨by decide, by decide⟩ (fun v u H locs hp w => ?_)
  obtain ⟨rfl, rfl⟩ := hp
  refine lv_aload_n hx hb dX7_product_9 rfl (lv_at hl 1 rfl) ?_
  refine t_geti C w hT hm_m_ ht_m_ (by decide) rfl cin_7 6 (by decide) rfl rfl gw_1162 dX7_product_10 (fun x2 hg => ?_)
  obtain rfl : x2 = 1 := gof_at rfl hg
  refine lv_if_ne (tgt := 97) hx hb dX7_product_13 (by decide) (fun _ => ?_) (fun c0 => absurd c0 (by decide))
  refine lv_iload_n hx hb dX7_product_97 rfl (lv_at hl 0 rfl) ?_
  have n0 : (0 : Int32).toInt = 0 := by decide
  exact t_iret C hr hlk w ⟨_, rfl, rfl, rfl⟩ (by decide) (by decide) dX7_product_98
set_option maxHeartbeats 4000000 in
set_option maxRecDepth 100000 in
theorem c_X7_sum0 (l : Launch) (D : va_G) (K : Nat → ClassId) (b0 : Nat) (sa : Nat × Nat × Nat) (sz : Nat) (L : List Nat) (f0 : Nat → va_E) (Ψ : Nat → Nat) (hT : TW K (gof gM1) Ψ L f0) (m_ : Nat) (hm_m_ : m_ ∈ L) (ht_m_ : Ψ m_ = 7) (hu_7 : ∀ b c : Nat, b ∈ L → c ∈ L → Ψ b = 7 → Ψ c = 7 → b = c) : Met l yX7_sum (.code yX7_sum cX7_sum 4 (some .int) :: gt) { frames := 7, cells := 0, slots := 0, locals := 156 } (va_Pc [.ref m_] (hPre D K b0 sa sz L f0)) (hQ D K b0 (fun v9 u9 => ∃ (r : Int32) (f2 : Nat → va_E), v9 = some (.int r) ∧ u9 = ((gof ((706, 1) :: ((707, 0) :: gM1))), Ψ, L, f2) ∧ TW K (gof ((706, 1) :: ((707, 0) :: gM1))) Ψ L f2 ∧ rawk Ψ L f0 f2 ∧ (r = 0))) 0 0 (fun q => b0 ≤ q) := by
  refine t_of (own := RX7) (by decide) rfl ?_ (Nat.le_of_ble_eq_true rfl)
  intro p e s m below meth c ls C w hsz hr hlk hnm hl
  have hx := C.1
  have hb := C.2.1
  have hl : lv_has ls 4 [(0, .ref m_)] := hl
  have hR : rawk Ψ L f0 f0 := rawk.rf
  refine lv_aload_n hx hb dX7_sum_0 rfl (lv_at hl 0 rfl) ?_
  refine t_callV (n := 0) C w hT hm_m_ ht_m_ (by decide) rfl rfl (c_X7_product0 l D K b0 sa _ L _ Ψ hT m_ hm_m_ ht_m_ hu_7) gw_1402 gw_1399 gw_1401 gs_35 gw_8 ⟨by decide, by decide, by decide +kernel⟩ rfl rfl ⟨by decide, by decide⟩ rfl hl.1 rfl (Nat.le_of_ble_eq_true rfl) dX7_sum_1 ⟨by decide, by decide⟩ (fun v u H locs hp w => ?_)
  obtain ⟨r1, f2, rfl, rfl, hT2, hR1, hrr1⟩ := hp
  have hR := hR.tr hR1
  clear hT
  have hT := hT2
  clear hT2
  generalize f2 = f at w hT hR
  obtain rfl := hrr1
  refine lv_istore_n (lv' := [(1, .int 0), (0, .ref m_)]) hx hb dX7_sum_4 rfl hl (by decide) rfl (fun ls hl => ?_)
  refine lv_aload_n hx hb dX7_sum_5 rfl (lv_at hl 1 rfl) ?_
  refine t_callV (n := 0) C w hT hm_m_ ht_m_ (by decide) rfl rfl (c_X7_blanks0 l D K b0 sa _ L _ Ψ (hT.mono (gof_sub rfl)) m_ hm_m_ ht_m_) gw_1375 gw_1372 gw_1374 gs_29 gw_8 ⟨by decide, by decide, by decide +kernel⟩ rfl rfl ⟨by decide, by decide⟩ rfl hl.1 rfl (Nat.le_of_ble_eq_true rfl) dX7_sum_6 ⟨by decide, by decide⟩ (fun v u H locs hp w => ?_)
  obtain ⟨rfl, rfl⟩ := hp
  refine lv_aload_n hx hb dX7_sum_9 rfl (lv_at hl 1 rfl) ?_
  refine t_geti C w hT hm_m_ ht_m_ (by decide) rfl cin_7 6 (by decide) rfl rfl gw_1162 dX7_sum_10 (fun x2 hg => ?_)
  obtain rfl : x2 = 1 := gof_at rfl hg
  refine lv_if_ne (tgt := 89) hx hb dX7_sum_13 (by decide) (fun _ => ?_) (fun c0 => absurd c0 (by decide))
  refine lv_iload_n hx hb dX7_sum_89 rfl (lv_at hl 0 rfl) ?_
  have n0 : (0 : Int32).toInt = 0 := by decide
  exact t_iret C hr hlk w ⟨_, _, rfl, rfl, hT, hR, rfl⟩ (by decide) (by decide) dX7_sum_90
set_option maxHeartbeats 4000000 in
set_option maxRecDepth 100000 in
theorem c_X7_sum1 (l : Launch) (D : va_G) (K : Nat → ClassId) (b0 : Nat) (sa : Nat × Nat × Nat) (sz : Nat) (L : List Nat) (f0 : Nat → va_E) (Ψ : Nat → Nat) (hT : TW K (gof ((702, 0) :: ((704, 1) :: ((706, 1) :: [])))) Ψ L f0) (m_ : Nat) (hm_m_ : m_ ∈ L) (ht_m_ : Ψ m_ = 7) : Met l yX7_sum (.code yX7_sum cX7_sum 4 (some .int) :: gt) { frames := 3, cells := 0, slots := 0, locals := 64 } (va_Pc [.ref m_] (hPre D K b0 sa sz L f0)) (hQ D K b0 (fun v9 u9 => ∃ r : Int32, v9 = some (.int r) ∧ u9 = ((gof ((702, 0) :: ((704, 1) :: ((706, 1) :: [])))), Ψ, L, f0) ∧ (r = 0))) 0 0 (fun q => b0 ≤ q) := by
  refine t_of (own := RX7) (by decide) rfl ?_ (Nat.le_of_ble_eq_true rfl)
  intro p e s m below meth c ls C w hsz hr hlk hnm hl
  have hx := C.1
  have hb := C.2.1
  have hl : lv_has ls 4 [(0, .ref m_)] := hl
  have hR : rawk Ψ L f0 f0 := rawk.rf
  refine lv_aload_n hx hb dX7_sum_0 rfl (lv_at hl 0 rfl) ?_
  refine t_callV (n := 0) C w hT hm_m_ ht_m_ (by decide) rfl rfl (c_X7_product1 l D K b0 sa _ L _ Ψ hT m_ hm_m_ ht_m_) gw_1402 gw_1399 gw_1401 gs_35 gw_8 ⟨by decide, by decide, by decide +kernel⟩ rfl rfl ⟨by decide, by decide⟩ rfl hl.1 rfl (Nat.le_of_ble_eq_true rfl) dX7_sum_1 ⟨by decide, by decide⟩ (fun v u H locs hp w => ?_)
  obtain ⟨r1, rfl, rfl, hrr1⟩ := hp
  obtain rfl := hrr1
  refine lv_istore_n (lv' := [(1, .int 0), (0, .ref m_)]) hx hb dX7_sum_4 rfl hl (by decide) rfl (fun ls hl => ?_)
  refine lv_aload_n hx hb dX7_sum_5 rfl (lv_at hl 1 rfl) ?_
  refine t_callV (n := 0) C w hT hm_m_ ht_m_ (by decide) rfl rfl (c_X7_blanks1 l D K b0 sa _ L _ Ψ (hT.mono (gof_sub rfl)) m_ hm_m_ ht_m_) gw_1375 gw_1372 gw_1374 gs_29 gw_8 ⟨by decide, by decide, by decide +kernel⟩ rfl rfl ⟨by decide, by decide⟩ rfl hl.1 rfl (Nat.le_of_ble_eq_true rfl) dX7_sum_6 ⟨by decide, by decide⟩ (fun v u H locs hp w => ?_)
  obtain ⟨rfl, rfl⟩ := hp
  refine lv_aload_n hx hb dX7_sum_9 rfl (lv_at hl 1 rfl) ?_
  refine t_geti C w hT hm_m_ ht_m_ (by decide) rfl cin_7 6 (by decide) rfl rfl gw_1162 dX7_sum_10 (fun x2 hg => ?_)
  obtain rfl : x2 = 1 := gof_at rfl hg
  refine lv_if_ne (tgt := 89) hx hb dX7_sum_13 (by decide) (fun _ => ?_) (fun c0 => absurd c0 (by decide))
  refine lv_iload_n hx hb dX7_sum_89 rfl (lv_at hl 0 rfl) ?_
  have n0 : (0 : Int32).toInt = 0 := by decide
  exact t_iret C hr hlk w ⟨_, rfl, rfl, rfl⟩ (by decide) (by decide) dX7_sum_90
set_option maxHeartbeats 4000000 in
set_option maxRecDepth 100000 in
theorem c_X7_test0 (l : Launch) (D : va_G) (K : Nat → ClassId) (b0 : Nat) (sa : Nat × Nat × Nat) (sz : Nat) (L : List Nat) (f0 : Nat → va_E) (Ψ : Nat → Nat) (hT : TW K (gof gM1) Ψ L f0) (m_ : Nat) (hm_m_ : m_ ∈ L) (ht_m_ : Ψ m_ = 7) (hu_7 : ∀ b c : Nat, b ∈ L → c ∈ L → Ψ b = 7 → Ψ c = 7 → b = c) : Met l yX7_test (.code yX7_test cX7_test 4 (some .boolean) :: gt) { frames := 8, cells := 0, slots := 0, locals := 179 } (va_Pc [.ref m_] (hPre D K b0 sa sz L f0)) (hQ D K b0 (fun v9 u9 => ∃ (r : Int32) (f2 : Nat → va_E), v9 = some (.int r) ∧ u9 = ((gof ((704, 1) :: ((706, 1) :: ((707, 0) :: gM1)))), Ψ, L, f2) ∧ TW K (gof ((704, 1) :: ((706, 1) :: ((707, 0) :: gM1)))) Ψ L f2 ∧ rawk Ψ L f0 f2 ∧ (r = 1))) 0 0 (fun q => b0 ≤ q) := by
  refine t_of (own := RX7) (by decide) rfl ?_ (Nat.le_of_ble_eq_true rfl)
  intro p e s m below meth c ls C w hsz hr hlk hnm hl
  have hx := C.1
  have hb := C.2.1
  have hl : lv_has ls 4 [(0, .ref m_)] := hl
  have hR : rawk Ψ L f0 f0 := rawk.rf
  refine lv_aload_n hx hb dX7_test_0 rfl (lv_at hl 0 rfl) ?_
  refine t_geti C w hT hm_m_ ht_m_ (by decide) rfl cin_7 6 (by decide) rfl rfl gw_1162 dX7_test_1 (fun x1 hg => ?_)
  obtain rfl : x1 = 0 := gof_at rfl hg
  refine lv_if_eq (tgt := 9) hx hb dX7_test_4 (by decide) (fun _ => ?_) (fun c0 => absurd c0 (by decide))
  refine lv_aload_n hx hb dX7_test_9 rfl (lv_at hl 0 rfl) ?_
  refine lv_bipush (v := 14) hx hb dX7_test_10 (by decide) ?_
  refine lv_bipush (v := 15) hx hb dX7_test_12 (by decide) ?_
  refine lv_bipush (v := 20) hx hb dX7_test_14 (by decide) ?_
  refine lv_iconst (v := 0) hx hb dX7_test_16 (by decide) ?_
  refine lv_iconst (v := 0) hx hb dX7_test_17 (by decide) ?_
  refine t_callV (n := 5) C w hT hm_m_ ht_m_ (by decide) rfl rfl (c_X7_isWord9 l D K b0 sa _ L _ Ψ (hT.mono (gof_sub rfl)) m_ hm_m_ ht_m_) gw_1367 gw_1364 gw_1366 gs_27 gw_8 ⟨by decide, by decide, by decide +kernel⟩ rfl rfl ⟨by decide, by decide⟩ rfl hl.1 rfl (Nat.le_of_ble_eq_true rfl) dX7_test_18 ⟨by decide, by decide⟩ (fun v u H locs hp w => ?_)
  obtain ⟨r2, rfl, rfl, hrr2⟩ := hp
  obtain rfl := hrr2
  refine lv_if_eq (tgt := 54) hx hb dX7_test_21 (by decide) (fun _ => ?_) (fun c0 => absurd c0 (by decide))
  refine lv_aload_n hx hb dX7_test_54 rfl (lv_at hl 0 rfl) ?_
  refine lv_aload_n hx hb dX7_test_55 rfl (lv_at hl 0 rfl) ?_
  refine t_geti C w hT hm_m_ ht_m_ (by decide) rfl cin_7 4 (by decide) rfl rfl gw_1160 dX7_test_56 (fun x3 hg => ?_)
  obtain rfl : x3 = 0 := gof_at rfl hg
  refine t_callV (n := 1) C w hT hm_m_ ht_m_ (by decide) rfl rfl (c_X7_byteAt0 l D K b0 sa _ L _ Ψ (hT.mono (gof_sub rfl)) m_ hm_m_ ht_m_) gw_1379 gw_1376 gw_1378 gs_30 gw_8 ⟨by decide, by decide, by decide +kernel⟩ rfl rfl ⟨by decide, by decide⟩ rfl hl.1 rfl (Nat.le_of_ble_eq_true rfl) dX7_test_59 ⟨by decide, by decide⟩ (fun v u H locs hp w => ?_)
  obtain ⟨r4, rfl, rfl, hrr4⟩ := hp
  obtain rfl := hrr4
  refine lv_bipush (v := 91) hx hb dX7_test_62 (by decide) ?_
  refine lv_icmp_ne (tgt := 95) hx hb dX7_test_64 (by decide) (fun _ => ?_) (fun c0 => absurd c0 (by decide))
  refine lv_aload_n hx hb dX7_test_95 rfl (lv_at hl 0 rfl) ?_
  refine t_callV (n := 0) C w hT hm_m_ ht_m_ (by decide) rfl rfl (c_X7_sum0 l D K b0 sa _ L _ Ψ hT m_ hm_m_ ht_m_ hu_7) gw_1398 gw_1395 gw_1397 gs_34 gw_8 ⟨by decide, by decide, by decide +kernel⟩ rfl rfl ⟨by decide, by decide⟩ rfl hl.1 rfl (Nat.le_of_ble_eq_true rfl) dX7_test_96 ⟨by decide, by decide⟩ (fun v u H locs hp w => ?_)
  obtain ⟨r5, f2, rfl, rfl, hT2, hR1, hrr5⟩ := hp
  have hR := hR.tr hR1
  clear hT
  have hT := hT2
  clear hT2
  generalize f2 = f at w hT hR
  obtain rfl := hrr5
  refine lv_istore_n (lv' := [(1, .int 0), (0, .ref m_)]) hx hb dX7_test_99 rfl hl (by decide) rfl (fun ls hl => ?_)
  refine lv_aload_n hx hb dX7_test_100 rfl (lv_at hl 1 rfl) ?_
  refine t_callV (n := 0) C w hT hm_m_ ht_m_ (by decide) rfl rfl (c_X7_blanks0 l D K b0 sa _ L _ Ψ (hT.mono (gof_sub rfl)) m_ hm_m_ ht_m_) gw_1375 gw_1372 gw_1374 gs_29 gw_8 ⟨by decide, by decide, by decide +kernel⟩ rfl rfl ⟨by decide, by decide⟩ rfl hl.1 rfl (Nat.le_of_ble_eq_true rfl) dX7_test_101 ⟨by decide, by decide⟩ (fun v u H locs hp w => ?_)
  obtain ⟨rfl, rfl⟩ := hp
  refine lv_aload_n hx hb dX7_test_104 rfl (lv_at hl 1 rfl) ?_
  refine lv_aload_n hx hb dX7_test_105 rfl (lv_at hl 1 rfl) ?_
  refine t_geti C w hT hm_m_ ht_m_ (by decide) rfl cin_7 4 (by decide) rfl rfl gw_1160 dX7_test_106 (fun x6 hg => ?_)
  obtain rfl : x6 = 0 := gof_at rfl hg
  refine t_callV (n := 1) C w hT hm_m_ ht_m_ (by decide) rfl rfl (c_X7_byteAt0 l D K b0 sa _ L _ Ψ (hT.mono (gof_sub rfl)) m_ hm_m_ ht_m_) gw_1379 gw_1376 gw_1378 gs_30 gw_8 ⟨by decide, by decide, by decide +kernel⟩ rfl rfl ⟨by decide, by decide⟩ rfl hl.1 rfl (Nat.le_of_ble_eq_true rfl) dX7_test_109 ⟨by decide, by decide⟩ (fun v u H locs hp w => ?_)
  obtain ⟨r7, rfl, rfl, hrr7⟩ := hp
  obtain rfl := hrr7
  refine lv_istore_n (lv' := [(2, .int (-1)), (1, .int 0), (0, .ref m_)]) hx hb dX7_test_112 rfl hl (by decide) rfl (fun ls hl => ?_)
  refine lv_iload_n hx hb dX7_test_113 rfl (lv_at hl 0 rfl) ?_
  refine lv_bipush (v := 60) hx hb dX7_test_114 (by decide) ?_
  refine lv_icmp_eq (tgt := 140) hx hb dX7_test_116 (by decide) (fun c0 => absurd c0 (by decide)) (fun _ => ?_)
  refine lv_iload_n hx hb dX7_test_119 rfl (lv_at hl 0 rfl) ?_
  refine lv_bipush (v := 62) hx hb dX7_test_120 (by decide) ?_
  refine lv_icmp_eq (tgt := 140) hx hb dX7_test_122 (by decide) (fun c0 => absurd c0 (by decide)) (fun _ => ?_)
  refine lv_iload_n hx hb dX7_test_125 rfl (lv_at hl 0 rfl) ?_
  refine lv_bipush (v := 61) hx hb dX7_test_126 (by decide) ?_
  refine lv_icmp_eq (tgt := 140) hx hb dX7_test_128 (by decide) (fun c0 => absurd c0 (by decide)) (fun _ => ?_)
  refine lv_aload_n hx hb dX7_test_131 rfl (lv_at hl 2 rfl) ?_
  refine lv_iconst (v := 1) hx hb dX7_test_132 (by decide) ?_
  refine lv_aload_n hx hb dX7_test_133 rfl (lv_at hl 2 rfl) ?_
  refine t_geti C w hT hm_m_ ht_m_ (by decide) rfl cin_7 4 (by decide) rfl rfl gw_1160 dX7_test_134 (fun x8 hg => ?_)
  obtain rfl : x8 = 0 := gof_at rfl hg
  have n0 : (0 : Int32).toInt = 0 := by decide
  refine t_callV (n := 2) C w hT hm_m_ ht_m_ (by decide) rfl rfl (c_X7_wrong1 l D K b0 sa _ L _ Ψ (hT.mono (gof_sub rfl)) m_ hm_m_ ht_m_ 0) gw_1390 gw_1387 gw_1389 gs_32 gw_8 ⟨by decide, by decide, by decide +kernel⟩ rfl rfl ⟨by decide, by decide⟩ rfl hl.1 rfl (Nat.le_of_ble_eq_true rfl) dX7_test_137 ⟨by decide, by decide⟩ (fun v u H locs hp w => ?_)
  obtain ⟨rfl, rfl⟩ := hp
  refine lv_aload_n hx hb dX7_test_140 rfl (lv_at hl 2 rfl) ?_
  refine lv_dup hx hb dX7_test_141 rfl ?_
  refine t_geti C w hT hm_m_ ht_m_ (by decide) rfl cin_7 4 (by decide) rfl rfl gw_1160 dX7_test_142 (fun x9 hg => ?_)
  obtain rfl : x9 = 0 := gof_at rfl hg
  refine lv_iconst (v := 1) hx hb dX7_test_145 (by decide) ?_
  refine lv_iadd hx hb dX7_test_146 ?_
  refine lv_topi (fun y10 ey10 => ?_)
  obtain rfl : y10 = 1 := ey10.trans (by decide)
  refine t_putS C w hT hm_m_ ht_m_ (fun b h1 h2 => hu_7 b m_ h1 hm_m_ h2 ht_m_) (by decide) rfl cin_7 tyX7 tyX7_ok nmX7 4 (by decide) rfl rfl rfl rfl rfl gw_1160 dX7_test_147 (fun f H locs w hT hR1 => ?_)
  have hT := hT.mono gof_set
  have hR := hR.tr hR1
  refine lv_aload_n hx hb dX7_test_150 rfl (lv_at hl 2 rfl) ?_
  refine t_callV (n := 0) C w hT hm_m_ ht_m_ (by decide) rfl rfl (c_X7_sum1 l D K b0 sa _ L _ Ψ (hT.mono (gof_sub rfl)) m_ hm_m_ ht_m_) gw_1398 gw_1395 gw_1397 gs_34 gw_8 ⟨by decide, by decide, by decide +kernel⟩ rfl rfl ⟨by decide, by decide⟩ rfl hl.1 rfl (Nat.le_of_ble_eq_true rfl) dX7_test_151 ⟨by decide, by decide⟩ (fun v u H locs hp w => ?_)
  obtain ⟨r11, rfl, rfl, hrr11⟩ := hp
  obtain rfl := hrr11
  refine lv_istore_n (lv' := [(3, .int 0), (2, .int (-1)), (1, .int 0), (0, .ref m_)]) hx hb dX7_test_154 rfl hl (by decide) rfl (fun ls hl => ?_)
  refine lv_iload_n hx hb dX7_test_155 rfl (lv_at hl 1 rfl) ?_
  refine lv_bipush (v := 60) hx hb dX7_test_156 (by decide) ?_
  refine lv_icmp_ne (tgt := 174) hx hb dX7_test_158 (by decide) (fun _ => ?_) (fun c0 => absurd c0 (by decide))
  refine lv_iload_n hx hb dX7_test_174 rfl (lv_at hl 1 rfl) ?_
  refine lv_bipush (v := 62) hx hb dX7_test_175 (by decide) ?_
  refine lv_icmp_ne (tgt := 193) hx hb dX7_test_177 (by decide) (fun _ => ?_) (fun c0 => absurd c0 (by decide))
  refine lv_iload_n hx hb dX7_test_193 rfl (lv_at hl 2 rfl) ?_
  refine lv_iload_n hx hb dX7_test_194 rfl (lv_at hl 0 rfl) ?_
  refine lv_icmp_ne (tgt := 202) hx hb dX7_test_195 (by decide) (fun c0 => absurd c0 (by decide)) (fun _ => ?_)
  refine lv_iconst (v := 1) hx hb dX7_test_198 (by decide) ?_
  refine lv_goto (tgt := 203) hx hb dX7_test_199 (by decide) ?_
  have n1 : (1 : Int32).toInt = 1 := by decide
  exact t_zret C hr hlk w (by decide) ⟨_, _, rfl, rfl, hT, hR, rfl⟩ (by decide) (by decide) dX7_test_203
set_option maxHeartbeats 4000000 in
set_option maxRecDepth 100000 in
theorem c_X7_ands0 (l : Launch) (D : va_G) (K : Nat → ClassId) (b0 : Nat) (sa : Nat × Nat × Nat) (sz : Nat) (L : List Nat) (f0 : Nat → va_E) (Ψ : Nat → Nat) (hT : TW K (gof gM1) Ψ L f0) (m_ : Nat) (hm_m_ : m_ ∈ L) (ht_m_ : Ψ m_ = 7) (hu_7 : ∀ b c : Nat, b ∈ L → c ∈ L → Ψ b = 7 → Ψ c = 7 → b = c) : Met l yX7_ands (.code yX7_ands cX7_ands 3 (some .boolean) :: gt) { frames := 9, cells := 0, slots := 0, locals := 202 } (va_Pc [.ref m_] (hPre D K b0 sa sz L f0)) (hQ D K b0 (fun v9 u9 => ∃ (r : Int32) (f2 : Nat → va_E), v9 = some (.int r) ∧ u9 = ((gof ((704, 1) :: ((706, 1) :: ((707, 0) :: gM1)))), Ψ, L, f2) ∧ TW K (gof ((704, 1) :: ((706, 1) :: ((707, 0) :: gM1)))) Ψ L f2 ∧ rawk Ψ L f0 f2 ∧ (r = 1))) 0 0 (fun q => b0 ≤ q) := by
  refine t_of (own := RX7) (by decide) rfl ?_ (Nat.le_of_ble_eq_true rfl)
  intro p e s m below meth c ls C w hsz hr hlk hnm hl
  have hx := C.1
  have hb := C.2.1
  have hl : lv_has ls 3 [(0, .ref m_)] := hl
  have hR : rawk Ψ L f0 f0 := rawk.rf
  refine lv_aload_n hx hb dX7_ands_0 rfl (lv_at hl 0 rfl) ?_
  refine t_callV (n := 0) C w hT hm_m_ ht_m_ (by decide) rfl rfl (c_X7_test0 l D K b0 sa _ L _ Ψ hT m_ hm_m_ ht_m_ hu_7) gw_1363 gw_1360 gw_1362 gs_26 gw_8 ⟨by decide, by decide, by decide +kernel⟩ rfl rfl ⟨by decide, by decide⟩ rfl hl.1 rfl (Nat.le_of_ble_eq_true rfl) dX7_ands_1 ⟨by decide, by decide⟩ (fun v u H locs hp w => ?_)
  obtain ⟨r1, f2, rfl, rfl, hT2, hR1, hrr1⟩ := hp
  have hR := hR.tr hR1
  clear hT
  have hT := hT2
  clear hT2
  generalize f2 = f at w hT hR
  obtain rfl := hrr1
  refine lv_istore_n (lv' := [(1, .int 1), (0, .ref m_)]) hx hb dX7_ands_4 rfl hl (by decide) rfl (fun ls hl => ?_)
  refine lv_aload_n hx hb dX7_ands_5 rfl (lv_at hl 1 rfl) ?_
  refine t_geti C w hT hm_m_ ht_m_ (by decide) rfl cin_7 6 (by decide) rfl rfl gw_1162 dX7_ands_6 (fun x2 hg => ?_)
  obtain rfl : x2 = 1 := gof_at rfl hg
  refine lv_if_ne (tgt := 51) hx hb dX7_ands_9 (by decide) (fun _ => ?_) (fun c0 => absurd c0 (by decide))
  refine lv_iload_n hx hb dX7_ands_51 rfl (lv_at hl 0 rfl) ?_
  have n1 : (1 : Int32).toInt = 1 := by decide
  exact t_zret C hr hlk w (by decide) ⟨_, _, rfl, rfl, hT, hR, rfl⟩ (by decide) (by decide) dX7_ands_52
set_option maxHeartbeats 4000000 in
set_option maxRecDepth 100000 in
theorem c_X7_ors0 (l : Launch) (D : va_G) (K : Nat → ClassId) (b0 : Nat) (sa : Nat × Nat × Nat) (sz : Nat) (L : List Nat) (f0 : Nat → va_E) (Ψ : Nat → Nat) (hT : TW K (gof gM1) Ψ L f0) (m_ : Nat) (hm_m_ : m_ ∈ L) (ht_m_ : Ψ m_ = 7) (hu_7 : ∀ b c : Nat, b ∈ L → c ∈ L → Ψ b = 7 → Ψ c = 7 → b = c) : Met l yX7_ors (.code yX7_ors cX7_ors 3 (some .boolean) :: gt) { frames := 10, cells := 0, slots := 0, locals := 224 } (va_Pc [.ref m_] (hPre D K b0 sa sz L f0)) (hQ D K b0 (fun v9 u9 => ∃ (r : Int32) (f2 : Nat → va_E), v9 = some (.int r) ∧ u9 = ((gof ((704, 1) :: ((706, 1) :: ((707, 0) :: gM1)))), Ψ, L, f2) ∧ TW K (gof ((704, 1) :: ((706, 1) :: ((707, 0) :: gM1)))) Ψ L f2 ∧ rawk Ψ L f0 f2 ∧ (r = 1))) 0 0 (fun q => b0 ≤ q) := by
  refine t_of (own := RX7) (by decide) rfl ?_ (Nat.le_of_ble_eq_true rfl)
  intro p e s m below meth c ls C w hsz hr hlk hnm hl
  have hx := C.1
  have hb := C.2.1
  have hl : lv_has ls 3 [(0, .ref m_)] := hl
  have hR : rawk Ψ L f0 f0 := rawk.rf
  refine lv_aload_n hx hb dX7_ors_0 rfl (lv_at hl 0 rfl) ?_
  refine t_callV (n := 0) C w hT hm_m_ ht_m_ (by decide) rfl rfl (c_X7_ands0 l D K b0 sa _ L _ Ψ hT m_ hm_m_ ht_m_ hu_7) gw_1359 gw_1356 gw_1358 gs_25 gw_8 ⟨by decide, by decide, by decide +kernel⟩ rfl rfl ⟨by decide, by decide⟩ rfl hl.1 rfl (Nat.le_of_ble_eq_true rfl) dX7_ors_1 ⟨by decide, by decide⟩ (fun v u H locs hp w => ?_)
  obtain ⟨r1, f2, rfl, rfl, hT2, hR1, hrr1⟩ := hp
  have hR := hR.tr hR1
  clear hT
  have hT := hT2
  clear hT2
  generalize f2 = f at w hT hR
  obtain rfl := hrr1
  refine lv_istore_n (lv' := [(1, .int 1), (0, .ref m_)]) hx hb dX7_ors_4 rfl hl (by decide) rfl (fun ls hl => ?_)
  refine lv_aload_n hx hb dX7_ors_5 rfl (lv_at hl 1 rfl) ?_
  refine t_geti C w hT hm_m_ ht_m_ (by decide) rfl cin_7 6 (by decide) rfl rfl gw_1162 dX7_ors_6 (fun x2 hg => ?_)
  obtain rfl : x2 = 1 := gof_at rfl hg
  refine lv_if_ne (tgt := 52) hx hb dX7_ors_9 (by decide) (fun _ => ?_) (fun c0 => absurd c0 (by decide))
  refine lv_iload_n hx hb dX7_ors_52 rfl (lv_at hl 0 rfl) ?_
  have n1 : (1 : Int32).toInt = 1 := by decide
  exact t_zret C hr hlk w (by decide) ⟨_, _, rfl, rfl, hT, hR, rfl⟩ (by decide) (by decide) dX7_ors_53
set_option maxHeartbeats 4000000 in
set_option maxRecDepth 100000 in
theorem c_X7_walksLaw0 (l : Launch) (D : va_G) (K : Nat → ClassId) (b0 : Nat) (sa : Nat × Nat × Nat) (sz : Nat) (L : List Nat) (f0 : Nat → va_E) (Ψ : Nat → Nat) (hT : TW K (gof gM1) Ψ L f0) (m_ : Nat) (hm_m_ : m_ ∈ L) (ht_m_ : Ψ m_ = 7) (hu_7 : ∀ b c : Nat, b ∈ L → c ∈ L → Ψ b = 7 → Ψ c = 7 → b = c) : Met l yX7_walksLaw (.code yX7_walksLaw cX7_walksLaw 2 (some .boolean) :: gt) { frames := 11, cells := 0, slots := 0, locals := 246 } (va_Pc [.ref m_] (hPre D K b0 sa sz L f0)) (hQ D K b0 (fun v9 u9 => ∃ (r : Int32) (f2 : Nat → va_E), v9 = some (.int r) ∧ u9 = ((gof ((704, 1) :: ((706, 1) :: ((707, 0) :: gM1)))), Ψ, L, f2) ∧ TW K (gof ((704, 1) :: ((706, 1) :: ((707, 0) :: gM1)))) Ψ L f2 ∧ rawk Ψ L f0 f2 ∧ (r = 1))) 0 0 (fun q => b0 ≤ q) := by
  refine t_of (own := RX7) (by decide) rfl ?_ (Nat.le_of_ble_eq_true rfl)
  intro p e s m below meth c ls C w hsz hr hlk hnm hl
  have hx := C.1
  have hb := C.2.1
  have hl : lv_has ls 2 [(0, .ref m_)] := hl
  have hR : rawk Ψ L f0 f0 := rawk.rf
  refine lv_aload_n hx hb dX7_walksLaw_0 rfl (lv_at hl 0 rfl) ?_
  refine lv_iconst (v := 0) hx hb dX7_walksLaw_1 (by decide) ?_
  refine t_puti C w hT hm_m_ ht_m_ (by decide) rfl cin_7 tyX7 tyX7_ok nmX7 4 (by decide) rfl rfl rfl rfl rfl (gof_is rfl) gw_1160 dX7_walksLaw_2 (fun f H locs w hT hR1 => ?_)
  have hR := hR.tr hR1
  refine lv_aload_n hx hb dX7_walksLaw_5 rfl (lv_at hl 0 rfl) ?_
  refine lv_iconst (v := 0) hx hb dX7_walksLaw_6 (by decide) ?_
  refine t_puti C w hT hm_m_ ht_m_ (by decide) rfl cin_7 tyX7 tyX7_ok nmX7 5 (by decide) rfl rfl rfl rfl rfl (gof_is rfl) gw_1161 dX7_walksLaw_7 (fun f H locs w hT hR1 => ?_)
  have hR := hR.tr hR1
  refine lv_aload_n hx hb dX7_walksLaw_10 rfl (lv_at hl 0 rfl) ?_
  refine lv_iconst (v := 0) hx hb dX7_walksLaw_11 (by decide) ?_
  refine t_puti C w hT hm_m_ ht_m_ (by decide) rfl cin_7 tyX7 tyX7_ok nmX7 6 (by decide) rfl rfl rfl rfl rfl (gof_is rfl) gw_1162 dX7_walksLaw_12 (fun f H locs w hT hR1 => ?_)
  have hR := hR.tr hR1
  refine lv_aload_n hx hb dX7_walksLaw_15 rfl (lv_at hl 0 rfl) ?_
  refine lv_iconst (v := (-1)) hx hb dX7_walksLaw_16 (by decide) ?_
  refine t_puti C w hT hm_m_ ht_m_ (by decide) rfl cin_7 tyX7 tyX7_ok nmX7 7 (by decide) rfl rfl rfl rfl rfl (gof_no rfl) gw_1163 dX7_walksLaw_17 (fun f H locs w hT hR1 => ?_)
  have hR := hR.tr hR1
  refine lv_aload_n hx hb dX7_walksLaw_20 rfl (lv_at hl 0 rfl) ?_
  refine t_callV (n := 0) C w hT hm_m_ ht_m_ (by decide) rfl rfl (c_X7_ors0 l D K b0 sa _ L _ Ψ hT m_ hm_m_ ht_m_ hu_7) gw_1355 gw_1352 gw_1354 gs_24 gw_8 ⟨by decide, by decide, by decide +kernel⟩ rfl rfl ⟨by decide, by decide⟩ rfl hl.1 rfl (Nat.le_of_ble_eq_true rfl) dX7_walksLaw_21 ⟨by decide, by decide⟩ (fun v u H locs hp w => ?_)
  obtain ⟨r1, f2, rfl, rfl, hT2, hR1, hrr1⟩ := hp
  have hR := hR.tr hR1
  clear hT
  have hT := hT2
  clear hT2
  generalize f2 = f at w hT hR
  obtain rfl := hrr1
  refine lv_istore_n (lv' := [(1, .int 1), (0, .ref m_)]) hx hb dX7_walksLaw_24 rfl hl (by decide) rfl (fun ls hl => ?_)
  refine lv_aload_n hx hb dX7_walksLaw_25 rfl (lv_at hl 1 rfl) ?_
  refine t_geti C w hT hm_m_ ht_m_ (by decide) rfl cin_7 6 (by decide) rfl rfl gw_1162 dX7_walksLaw_26 (fun x2 hg => ?_)
  obtain rfl : x2 = 1 := gof_at rfl hg
  refine lv_if_ne (tgt := 38) hx hb dX7_walksLaw_29 (by decide) (fun _ => ?_) (fun c0 => absurd c0 (by decide))
  refine lv_aload_n hx hb dX7_walksLaw_38 rfl (lv_at hl 1 rfl) ?_
  refine t_callV (n := 0) C w hT hm_m_ ht_m_ (by decide) rfl rfl (c_X7_blanks1 l D K b0 sa _ L _ Ψ (hT.mono (gof_sub rfl)) m_ hm_m_ ht_m_) gw_1375 gw_1372 gw_1374 gs_29 gw_8 ⟨by decide, by decide, by decide +kernel⟩ rfl rfl ⟨by decide, by decide⟩ rfl hl.1 rfl (Nat.le_of_ble_eq_true rfl) dX7_walksLaw_39 ⟨by decide, by decide⟩ (fun v u H locs hp w => ?_)
  obtain ⟨rfl, rfl⟩ := hp
  refine lv_aload_n hx hb dX7_walksLaw_42 rfl (lv_at hl 1 rfl) ?_
  refine t_geti C w hT hm_m_ ht_m_ (by decide) rfl cin_7 6 (by decide) rfl rfl gw_1162 dX7_walksLaw_43 (fun x3 hg => ?_)
  obtain rfl : x3 = 1 := gof_at rfl hg
  refine lv_if_ne (tgt := 69) hx hb dX7_walksLaw_46 (by decide) (fun _ => ?_) (fun c0 => absurd c0 (by decide))
  refine lv_iload_n hx hb dX7_walksLaw_69 rfl (lv_at hl 0 rfl) ?_
  have n1 : (1 : Int32).toInt = 1 := by decide
  exact t_zret C hr hlk w (by decide) ⟨_, _, rfl, rfl, hT, hR, rfl⟩ (by decide) (by decide) dX7_walksLaw_70
set_option maxHeartbeats 4000000 in
set_option maxRecDepth 100000 in
theorem c_X7_walks0 (l : Launch) (D : va_G) (K : Nat → ClassId) (b0 : Nat) (sa : Nat × Nat × Nat) (sz : Nat) (L : List Nat) (f0 : Nat → va_E) (Ψ : Nat → Nat) (hT : TW K (gof gM1) Ψ L f0) (m_ : Nat) (hm_m_ : m_ ∈ L) (ht_m_ : Ψ m_ = 7) (hu_7 : ∀ b c : Nat, b ∈ L → c ∈ L → Ψ b = 7 → Ψ c = 7 → b = c) : Met l yX7_walks (.code yX7_walks cX7_walks 1 none :: gt) { frames := 2, cells := 0, slots := 0, locals := 41 } (va_Pc [.ref m_] (hPre D K b0 sa sz L f0)) (hQ D K b0 (fun v9 u9 => ∃ f2 : Nat → va_E, v9 = none ∧ u9 = ((gof ((707, (-1)) :: gM1)), Ψ, L, f2) ∧ TW K (gof ((707, (-1)) :: gM1)) Ψ L f2 ∧ rawk Ψ L f0 f2)) 0 0 (fun q => b0 ≤ q) := by
  refine t_of (own := RX7) (by decide) rfl ?_ (Nat.le_of_ble_eq_true rfl)
  intro p e s m below meth c ls C w hsz hr hlk hnm hl
  have hx := C.1
  have hb := C.2.1
  have hl : lv_has ls 1 [(0, .ref m_)] := hl
  have hR : rawk Ψ L f0 f0 := rawk.rf
  refine lv_aload_n hx hb dX7_walks_0 rfl (lv_at hl 0 rfl) ?_
  refine lv_iconst (v := 0) hx hb dX7_walks_1 (by decide) ?_
  refine t_puti C w hT hm_m_ ht_m_ (by decide) rfl cin_7 tyX7 tyX7_ok nmX7 4 (by decide) rfl rfl rfl rfl rfl (gof_is rfl) gw_1160 dX7_walks_2 (fun f H locs w hT hR1 => ?_)
  have hR := hR.tr hR1
  refine lv_aload_n hx hb dX7_walks_5 rfl (lv_at hl 0 rfl) ?_
  refine lv_iconst (v := 0) hx hb dX7_walks_6 (by decide) ?_
  refine t_puti C w hT hm_m_ ht_m_ (by decide) rfl cin_7 tyX7 tyX7_ok nmX7 5 (by decide) rfl rfl rfl rfl rfl (gof_is rfl) gw_1161 dX7_walks_7 (fun f H locs w hT hR1 => ?_)
  have hR := hR.tr hR1
  refine lv_aload_n hx hb dX7_walks_10 rfl (lv_at hl 0 rfl) ?_
  refine lv_iconst (v := 0) hx hb dX7_walks_11 (by decide) ?_
  refine t_puti C w hT hm_m_ ht_m_ (by decide) rfl cin_7 tyX7 tyX7_ok nmX7 6 (by decide) rfl rfl rfl rfl rfl (gof_is rfl) gw_1162 dX7_walks_12 (fun f H locs w hT hR1 => ?_)
  have hR := hR.tr hR1
  refine lv_aload_n hx hb dX7_walks_15 rfl (lv_at hl 0 rfl) ?_
  refine lv_iconst (v := (-1)) hx hb dX7_walks_16 (by decide) ?_
  refine t_putS C w hT hm_m_ ht_m_ (fun b h1 h2 => hu_7 b m_ h1 hm_m_ h2 ht_m_) (by decide) rfl cin_7 tyX7 tyX7_ok nmX7 7 (by decide) rfl rfl rfl rfl rfl gw_1163 dX7_walks_17 (fun f H locs w hT hR1 => ?_)
  have hT := hT.mono gof_set
  have hR := hR.tr hR1
  refine lv_aload_n hx hb dX7_walks_20 rfl (lv_at hl 0 rfl) ?_
  refine lv_iconst (v := 0) hx hb dX7_walks_21 (by decide) ?_
  refine t_puti C w hT hm_m_ ht_m_ (by decide) rfl cin_7 tyX7 tyX7_ok nmX7 9 (by decide) rfl rfl rfl rfl rfl (gof_no rfl) gw_1165 dX7_walks_22 (fun f H locs w hT hR1 => ?_)
  have hR := hR.tr hR1
  refine lv_aload_n hx hb dX7_walks_25 rfl (lv_at hl 0 rfl) ?_
  refine lv_iconst (v := 0) hx hb dX7_walks_26 (by decide) ?_
  refine t_puti C w hT hm_m_ ht_m_ (by decide) rfl cin_7 tyX7 tyX7_ok nmX7 18 (by decide) rfl rfl rfl rfl rfl (gof_no rfl) gw_1174 dX7_walks_27 (fun f H locs w hT hR1 => ?_)
  have hR := hR.tr hR1
  refine lv_aload_n hx hb dX7_walks_30 rfl (lv_at hl 0 rfl) ?_
  refine lv_iconst (v := 0) hx hb dX7_walks_31 (by decide) ?_
  refine t_puti C w hT hm_m_ ht_m_ (by decide) rfl cin_7 tyX7 tyX7_ok nmX7 19 (by decide) rfl rfl rfl rfl rfl (gof_no rfl) gw_1175 dX7_walks_32 (fun f H locs w hT hR1 => ?_)
  have hR := hR.tr hR1
  refine lv_aload_n hx hb dX7_walks_35 rfl (lv_at hl 0 rfl) ?_
  refine lv_iconst (v := 0) hx hb dX7_walks_36 (by decide) ?_
  refine t_puti C w hT hm_m_ ht_m_ (by decide) rfl cin_7 tyX7 tyX7_ok nmX7 20 (by decide) rfl rfl rfl rfl rfl (gof_no rfl) gw_1176 dX7_walks_37 (fun f H locs w hT hR1 => ?_)
  have hR := hR.tr hR1
  refine lv_aload_n hx hb dX7_walks_40 rfl (lv_at hl 0 rfl) ?_
  refine t_callV (n := 0) C w hT hm_m_ ht_m_ (by decide) rfl rfl (c_X7_blanks0 l D K b0 sa _ L _ Ψ (hT.mono (gof_sub rfl)) m_ hm_m_ ht_m_) gw_1375 gw_1372 gw_1374 gs_29 gw_8 ⟨by decide, by decide, by decide +kernel⟩ rfl rfl ⟨by decide, by decide⟩ rfl hl.1 rfl (Nat.le_of_ble_eq_true rfl) dX7_walks_41 ⟨by decide, by decide⟩ (fun v u H locs hp w => ?_)
  obtain ⟨rfl, rfl⟩ := hp
  refine lv_aload_n hx hb dX7_walks_44 rfl (lv_at hl 0 rfl) ?_
  refine t_geti C w hT hm_m_ ht_m_ (by decide) rfl cin_7 6 (by decide) rfl rfl gw_1162 dX7_walks_45 (fun x1 hg => ?_)
  obtain rfl : x1 = 0 := gof_at rfl hg
  refine lv_if_ne (tgt := 73) hx hb dX7_walks_48 (by decide) (fun c0 => absurd c0 (by decide)) (fun _ => ?_)
  refine lv_aload_n hx hb dX7_walks_51 rfl (lv_at hl 0 rfl) ?_
  refine t_geti C w hT hm_m_ ht_m_ (by decide) rfl cin_7 4 (by decide) rfl rfl gw_1160 dX7_walks_52 (fun x2 hg => ?_)
  obtain rfl : x2 = 0 := gof_at rfl hg
  refine lv_aload_n hx hb dX7_walks_55 rfl (lv_at hl 0 rfl) ?_
  refine t_geti C w hT hm_m_ ht_m_ (by decide) rfl cin_7 2 (by decide) rfl rfl gw_1158 dX7_walks_56 (fun x3 hg => ?_)
  obtain rfl : x3 = 0 := gof_at rfl hg
  refine lv_icmp_ge (tgt := 73) hx hb dX7_walks_59 (by decide) (fun _ => ?_) (fun c0 => absurd c0 (by decide))
  exact t_vret C hr hlk w ⟨_, rfl, rfl, hT, hR⟩ (by decide) (by decide) dX7_walks_73
set_option maxHeartbeats 4000000 in
set_option maxRecDepth 100000 in
theorem c_X7_program (l : Launch) (D : va_G) (K : Nat → ClassId) (b0 : Nat) (sa : Nat × Nat × Nat) (sz : Nat) (L : List Nat) (f0 : Nat → va_E) (Ψ : Nat → Nat) (hT : TW K (gof gM0) Ψ L f0) (m_ : Nat) (hm_m_ : m_ ∈ L) (ht_m_ : Ψ m_ = 7) (n : Int32) (la : Int32) (hl_la : 0 ≤ la.toInt) (hh_la : la.toInt ≤ 1) (hu_7 : ∀ b c : Nat, b ∈ L → c ∈ L → Ψ b = 7 → Ψ c = 7 → b = c) : Met l yX7_program (.code yX7_program cX7_program 5 (some .int) :: gt) { frames := 12, cells := 0, slots := 0, locals := 267 } (va_Pc [.ref m_, .int n, .int la] (hPre D K b0 sa sz L f0)) (hQ D K b0 (fun v9 u9 => ∃ (r : Int32) (th : Int32) (f2 : Nat → va_E), v9 = some (.int r) ∧ u9 = (gof [(700, th)], Ψ, L, f2) ∧ TW K (gof [(700, th)]) Ψ L f2 ∧ rawk Ψ L f0 f2 ∧ ((r = 0 ∧ th = 1 ∧ (¬ n.toInt = 0)) ∨ (r = 0 ∧ th = 0 ∧ (n.toInt = 0) ∧ (la.toInt = 0)) ∨ (r = (-9) ∧ th = 0 ∧ (n.toInt = 0) ∧ (la.toInt = 1))))) 0 0 (fun q => b0 ≤ q) := by
  refine t_of (own := RX7) (by decide) rfl ?_ (Nat.le_of_ble_eq_true rfl)
  intro p e s m below meth c ls C w hsz hr hlk hnm hl
  have hx := C.1
  have hb := C.2.1
  have hl : lv_has ls 5 [(0, .ref m_), (1, .int n), (2, .int la)] := hl
  have hb_n := ti_bd n
  have hb_la := ti_bd la
  have hR : rawk Ψ L f0 f0 := rawk.rf
  refine lv_aload_n hx hb dX7_program_0 rfl (lv_at hl 0 rfl) ?_
  refine lv_iconst (v := 0) hx hb dX7_program_1 (by decide) ?_
  refine t_puti C w hT hm_m_ ht_m_ (by decide) rfl cin_7 tyX7 tyX7_ok nmX7 0 (by decide) rfl rfl rfl rfl rfl (gof_is rfl) gw_1156 dX7_program_2 (fun f H locs w hT hR1 => ?_)
  have hR := hR.tr hR1
  refine lv_aload_n hx hb dX7_program_5 rfl (lv_at hl 0 rfl) ?_
  refine lv_iload_n hx hb dX7_program_6 rfl (lv_at hl 1 rfl) ?_
  refine lv_iconst (v := 0) hx hb dX7_program_7 (by decide) ?_
  refine lv_aload_n hx hb dX7_program_8 rfl (lv_at hl 0 rfl) ?_
  refine t_geti C w hT hm_m_ ht_m_ (by decide) rfl cin_7 1 (by decide) rfl rfl gw_1157 dX7_program_9 (fun x1 hg => ?_)
  obtain rfl : x1 = 0 := gof_at rfl hg
  have n0 : (0 : Int32).toInt = 0 := by decide
  refine t_callS (n := 3) C w (c_X7_in l D K b0 sa _ L _ Ψ (gof gM0) hT n 0 0) gw_1343 gw_1341 gw_1342 gw_8 ⟨by decide, by decide, by decide +kernel⟩ rfl rfl ⟨by decide, by decide⟩ rfl hl.1 rfl (Nat.le_of_ble_eq_true rfl) dX7_program_12 ⟨by decide, by decide⟩ (fun v u H locs hp w => ?_)
  obtain ⟨r2, rfl, rfl, hrr2⟩ := hp
  rcases hrr2 with ⟨rfl, hf0_r2, hf1_r2⟩ | ⟨rfl, hf0_r2⟩
  ·
    refine lv_if_ne (tgt := 22) hx hb dX7_program_15 (by decide) (fun _ => ?_) (fun c0 => absurd c0 (by decide))
    refine lv_iconst (v := 0) hx hb dX7_program_22 (by decide) ?_
    refine lv_iconst (v := 1) hx hb dX7_program_23 (by decide) ?_
    have n1 : (1 : Int32).toInt = 1 := by decide
    refine t_callV (n := 2) C w hT hm_m_ ht_m_ (by decide) rfl rfl (c_X7_bad0 l D K b0 sa _ L _ Ψ (hT.mono (gof_sub rfl)) m_ hm_m_ ht_m_ 1) gw_1347 gw_1344 gw_1346 gs_22 gw_8 ⟨by decide, by decide, by decide +kernel⟩ rfl rfl ⟨by decide, by decide⟩ rfl hl.1 rfl (Nat.le_of_ble_eq_true rfl) dX7_program_24 ⟨by decide, by decide⟩ (fun v u H locs hp w => ?_)
    obtain ⟨r3, rfl, rfl, hrr3⟩ := hp
    obtain rfl := hrr3
    refine lv_if_eq (tgt := 32) hx hb dX7_program_27 (by decide) (fun _ => ?_) (fun c0 => absurd c0 (by decide))
    obtain rfl : n = 0 := of_toInt (by have n0 : (0 : Int32).toInt = 0 := (by decide); omega)
    rcases (show la.toInt = 0 ∨ la.toInt = 1 by omega) with hz | hz
    · obtain rfl : la = 0 := of_toInt (by have n0 : (0 : Int32).toInt = 0 := (by decide); omega)
      refine lv_aload_n hx hb dX7_program_32 rfl (lv_at hl 0 rfl) ?_
      refine lv_iconst (v := 0) hx hb dX7_program_33 (by decide) ?_
      refine t_puti C w hT hm_m_ ht_m_ (by decide) rfl cin_7 tyX7 tyX7_ok nmX7 1 (by decide) rfl rfl rfl rfl rfl (gof_is rfl) gw_1157 dX7_program_34 (fun f H locs w hT hR1 => ?_)
      have hR := hR.tr hR1
      refine lv_aload_n hx hb dX7_program_37 rfl (lv_at hl 0 rfl) ?_
      refine lv_iconst (v := (-1)) hx hb dX7_program_38 (by decide) ?_
      refine t_puti C w hT hm_m_ ht_m_ (by decide) rfl cin_7 tyX7 tyX7_ok nmX7 3 (by decide) rfl rfl rfl rfl rfl (gof_is rfl) gw_1159 dX7_program_39 (fun f H locs w hT hR1 => ?_)
      have hR := hR.tr hR1
      refine lv_iload_n hx hb dX7_program_42 rfl (lv_at hl 2 rfl) ?_
      refine lv_if_eq (tgt := 57) hx hb dX7_program_43 (by decide) (fun _ => ?_) (fun c0 => absurd c0 (by decide))
      refine lv_aload_n hx hb dX7_program_57 rfl (lv_at hl 0 rfl) ?_
      refine t_geti C w hT hm_m_ ht_m_ (by decide) rfl cin_7 13 (by decide) rfl rfl gw_1169 dX7_program_58 (fun x4 hg => ?_)
      obtain rfl : x4 = 0 := gof_at rfl hg
      refine lv_bipush (v := 6) hx hb dX7_program_61 (by decide) ?_
      refine lv_icmp_ne (tgt := 68) hx hb dX7_program_63 (by decide) (fun _ => ?_) (fun c0 => absurd c0 (by decide))
      refine lv_aload_n hx hb dX7_program_68 rfl (lv_at hl 0 rfl) ?_
      refine lv_iconst (v := (-1)) hx hb dX7_program_69 (by decide) ?_
      refine t_puti C w hT hm_m_ ht_m_ (by decide) rfl cin_7 tyX7 tyX7_ok nmX7 8 (by decide) rfl rfl rfl rfl rfl (gof_no rfl) gw_1164 dX7_program_70 (fun f H locs w hT hR1 => ?_)
      have hR := hR.tr hR1
      refine lv_aload_n hx hb dX7_program_73 rfl (lv_at hl 0 rfl) ?_
      refine lv_iload_n hx hb dX7_program_74 rfl (lv_at hl 1 rfl) ?_
      refine t_puti C w hT hm_m_ ht_m_ (by decide) rfl cin_7 tyX7 tyX7_ok nmX7 2 (by decide) rfl rfl rfl rfl rfl (gof_is rfl) gw_1158 dX7_program_75 (fun f H locs w hT hR1 => ?_)
      have hR := hR.tr hR1
      refine lv_aload_n hx hb dX7_program_78 rfl (lv_at hl 0 rfl) ?_
      refine lv_iload_n hx hb dX7_program_79 rfl (lv_at hl 2 rfl) ?_
      refine t_puti C w hT hm_m_ ht_m_ (by decide) rfl cin_7 tyX7 tyX7_ok nmX7 16 (by decide) rfl rfl rfl (by decide) rfl (gof_no rfl) gw_1172 dX7_program_80 (fun f H locs w hT hR1 => ?_)
      have hR := hR.tr hR1
      refine lv_iload_n hx hb dX7_program_83 rfl (lv_at hl 2 rfl) ?_
      refine lv_if_eq (tgt := 95) hx hb dX7_program_84 (by decide) (fun _ => ?_) (fun c0 => absurd c0 (by decide))
      refine lv_aload_n hx hb dX7_program_95 rfl (lv_at hl 0 rfl) ?_
      refine t_callV (n := 0) C w hT hm_m_ ht_m_ (by decide) rfl rfl (c_X7_walks0 l D K b0 sa _ L _ Ψ (hT.mono (gof_sub rfl)) m_ hm_m_ ht_m_ hu_7) gw_1425 gw_1422 gw_1424 gs_40 gw_8 ⟨by decide, by decide, by decide +kernel⟩ rfl rfl ⟨by decide, by decide⟩ rfl hl.1 rfl (Nat.le_of_ble_eq_true rfl) dX7_program_96 ⟨by decide, by decide⟩ (fun v u H locs hp w => ?_)
      obtain ⟨f2, rfl, rfl, hT2, hR1⟩ := hp
      have hR := hR.tr hR1
      clear hT
      have hT := hT2
      clear hT2
      generalize f2 = f at w hT hR
      refine lv_aload_n hx hb dX7_program_99 rfl (lv_at hl 0 rfl) ?_
      refine lv_aload_n hx hb dX7_program_100 rfl (lv_at hl 0 rfl) ?_
      refine t_geti C w hT hm_m_ ht_m_ (by decide) rfl cin_7 7 (by decide) rfl rfl gw_1163 dX7_program_101 (fun x5 hg => ?_)
      obtain rfl : x5 = (-1) := gof_at rfl hg
      refine t_puti C w hT hm_m_ ht_m_ (by decide) rfl cin_7 tyX7 tyX7_ok nmX7 3 (by decide) rfl rfl rfl rfl rfl (gof_is rfl) gw_1159 dX7_program_104 (fun f H locs w hT hR1 => ?_)
      have hR := hR.tr hR1
      refine lv_aload_n hx hb dX7_program_107 rfl (lv_at hl 0 rfl) ?_
      refine t_geti C w hT hm_m_ ht_m_ (by decide) rfl cin_7 6 (by decide) rfl rfl gw_1162 dX7_program_108 (fun x6 hg => ?_)
      obtain rfl : x6 = 0 := gof_at rfl hg
      refine lv_if_eq (tgt := 122) hx hb dX7_program_111 (by decide) (fun _ => ?_) (fun c0 => absurd c0 (by decide))
      refine lv_iload_n hx hb dX7_program_122 rfl (lv_at hl 2 rfl) ?_
      refine lv_if_eq (tgt := 136) hx hb dX7_program_123 (by decide) (fun _ => ?_) (fun c0 => absurd c0 (by decide))
      refine lv_aload_n hx hb dX7_program_136 rfl (lv_at hl 0 rfl) ?_
      refine t_geti C w hT hm_m_ ht_m_ (by decide) rfl cin_7 13 (by decide) rfl rfl gw_1169 dX7_program_137 (fun x7 hg => ?_)
      obtain rfl : x7 = 0 := gof_at rfl hg
      refine lv_istore_n (lv' := [(3, .int 0), (0, .ref m_), (1, .int 0), (2, .int 0)]) hx hb dX7_program_140 rfl hl (by decide) rfl (fun ls hl => ?_)
      refine lv_iconst (v := 0) hx hb dX7_program_141 (by decide) ?_
      refine lv_istore (lv' := [(4, .int 0), (3, .int 0), (0, .ref m_), (1, .int 0), (2, .int 0)]) hx hb dX7_program_142 hl (by decide) rfl (fun ls hl => ?_)
      refine lv_iload hx hb dX7_program_144 (lv_at hl 0 rfl) ?_
      refine lv_iload_n hx hb dX7_program_146 rfl (lv_at hl 3 rfl) ?_
      refine lv_icmp_ge (tgt := 172) hx hb dX7_program_147 (by decide) (fun _ => ?_) (fun c0 => absurd c0 (by decide))
      refine lv_aload_n hx hb dX7_program_172 rfl (lv_at hl 2 rfl) ?_
      refine t_getr C w hT hm_m_ ht_m_ (by decide) rfl cin_7 12 (by decide) rfl gw_1168 dX7_program_173 (fun q8 hm_q8 ht_q8 => ?_)
      refine lv_iload_n hx hb dX7_program_176 rfl (lv_at hl 1 rfl) ?_
      refine lv_iload_n hx hb dX7_program_177 rfl (lv_at hl 3 rfl) ?_
      refine t_iast C w hT hm_q8 ht_q8 (by decide) (by decide) rfl (vp_in_iff.mpr ⟨by decide, by decide⟩) (gof_no rfl) dX7_program_178 (fun f H locs w hT hR1 => ?_)
      have hR := hR.tr hR1
      refine lv_iload_n hx hb dX7_program_179 rfl (lv_at hl 4 rfl) ?_
      refine lv_if_eq (tgt := 196) hx hb dX7_program_180 (by decide) (fun _ => ?_) (fun c0 => absurd c0 (by decide))
      refine lv_aload_n hx hb dX7_program_196 rfl (lv_at hl 2 rfl) ?_
      refine lv_dup hx hb dX7_program_197 rfl ?_
      refine t_geti C w hT hm_m_ ht_m_ (by decide) rfl cin_7 13 (by decide) rfl rfl gw_1169 dX7_program_198 (fun x9 hg => ?_)
      obtain rfl : x9 = 0 := gof_at rfl hg
      refine lv_iconst (v := 1) hx hb dX7_program_201 (by decide) ?_
      refine lv_iadd hx hb dX7_program_202 ?_
      refine lv_topi (fun y10 ey10 => ?_)
      obtain rfl : y10 = 1 := ey10.trans (by decide)
      refine t_putS C w hT hm_m_ ht_m_ (fun b h1 h2 => hu_7 b m_ h1 hm_m_ h2 ht_m_) (by decide) rfl cin_7 tyX7 tyX7_ok nmX7 13 (by decide) rfl rfl rfl rfl rfl gw_1169 dX7_program_203 (fun f H locs w hT hR1 => ?_)
      have hT := hT.mono gof_set
      have hR := hR.tr hR1
      refine lv_iload_n hx hb dX7_program_206 rfl (lv_at hl 4 rfl) ?_
      refine lv_if_eq (tgt := 219) hx hb dX7_program_207 (by decide) (fun _ => ?_) (fun c0 => absurd c0 (by decide))
      refine lv_aload_n hx hb dX7_program_219 rfl (lv_at hl 2 rfl) ?_
      refine t_geti C w hT hm_m_ ht_m_ (by decide) rfl cin_7 13 (by decide) rfl rfl gw_1169 dX7_program_220 (fun x11 hg => ?_)
      obtain rfl : x11 = 1 := gof_at rfl hg
      refine lv_iconst (v := 1) hx hb dX7_program_223 (by decide) ?_
      refine lv_isub hx hb dX7_program_224 ?_
      refine lv_topi (fun y12 ey12 => ?_)
      obtain rfl : y12 = 0 := ey12.trans (by decide)
      exact t_iret C hr hlk w ⟨_, 0, _, rfl, rfl, hT.mono (gof_sub rfl), hR, Or.inr (Or.inl ⟨rfl, rfl, (by decide), (by decide)⟩)⟩ (by decide) (by decide) dX7_program_225
    · obtain rfl : la = 1 := of_toInt (by have n1 : (1 : Int32).toInt = 1 := (by decide); omega)
      refine lv_aload_n hx hb dX7_program_32 rfl (lv_at hl 0 rfl) ?_
      refine lv_iconst (v := 0) hx hb dX7_program_33 (by decide) ?_
      refine t_puti C w hT hm_m_ ht_m_ (by decide) rfl cin_7 tyX7 tyX7_ok nmX7 1 (by decide) rfl rfl rfl rfl rfl (gof_is rfl) gw_1157 dX7_program_34 (fun f H locs w hT hR1 => ?_)
      have hR := hR.tr hR1
      refine lv_aload_n hx hb dX7_program_37 rfl (lv_at hl 0 rfl) ?_
      refine lv_iconst (v := (-1)) hx hb dX7_program_38 (by decide) ?_
      refine t_puti C w hT hm_m_ ht_m_ (by decide) rfl cin_7 tyX7 tyX7_ok nmX7 3 (by decide) rfl rfl rfl rfl rfl (gof_is rfl) gw_1159 dX7_program_39 (fun f H locs w hT hR1 => ?_)
      have hR := hR.tr hR1
      refine lv_iload_n hx hb dX7_program_42 rfl (lv_at hl 2 rfl) ?_
      refine lv_if_eq (tgt := 57) hx hb dX7_program_43 (by decide) (fun c0 => absurd c0 (by decide)) (fun _ => ?_)
      refine lv_aload_n hx hb dX7_program_46 rfl (lv_at hl 0 rfl) ?_
      refine t_geti C w hT hm_m_ ht_m_ (by decide) rfl cin_7 14 (by decide) rfl rfl gw_1170 dX7_program_47 (fun x13 hg => ?_)
      obtain rfl : x13 = 0 := gof_at rfl hg
      refine lv_iconst (v := 3) hx hb dX7_program_50 (by decide) ?_
      refine lv_icmp_ne (tgt := 68) hx hb dX7_program_51 (by decide) (fun _ => ?_) (fun c0 => absurd c0 (by decide))
      refine lv_aload_n hx hb dX7_program_68 rfl (lv_at hl 0 rfl) ?_
      refine lv_iconst (v := (-1)) hx hb dX7_program_69 (by decide) ?_
      refine t_puti C w hT hm_m_ ht_m_ (by decide) rfl cin_7 tyX7 tyX7_ok nmX7 8 (by decide) rfl rfl rfl rfl rfl (gof_no rfl) gw_1164 dX7_program_70 (fun f H locs w hT hR1 => ?_)
      have hR := hR.tr hR1
      refine lv_aload_n hx hb dX7_program_73 rfl (lv_at hl 0 rfl) ?_
      refine lv_iload_n hx hb dX7_program_74 rfl (lv_at hl 1 rfl) ?_
      refine t_puti C w hT hm_m_ ht_m_ (by decide) rfl cin_7 tyX7 tyX7_ok nmX7 2 (by decide) rfl rfl rfl rfl rfl (gof_is rfl) gw_1158 dX7_program_75 (fun f H locs w hT hR1 => ?_)
      have hR := hR.tr hR1
      refine lv_aload_n hx hb dX7_program_78 rfl (lv_at hl 0 rfl) ?_
      refine lv_iload_n hx hb dX7_program_79 rfl (lv_at hl 2 rfl) ?_
      refine t_puti C w hT hm_m_ ht_m_ (by decide) rfl cin_7 tyX7 tyX7_ok nmX7 16 (by decide) rfl rfl rfl (by decide) rfl (gof_no rfl) gw_1172 dX7_program_80 (fun f H locs w hT hR1 => ?_)
      have hR := hR.tr hR1
      refine lv_iload_n hx hb dX7_program_83 rfl (lv_at hl 2 rfl) ?_
      refine lv_if_eq (tgt := 95) hx hb dX7_program_84 (by decide) (fun c0 => absurd c0 (by decide)) (fun _ => ?_)
      refine lv_aload_n hx hb dX7_program_87 rfl (lv_at hl 0 rfl) ?_
      refine t_callV (n := 0) C w hT hm_m_ ht_m_ (by decide) rfl rfl (c_X7_walksLaw0 l D K b0 sa _ L _ Ψ (hT.mono (gof_sub rfl)) m_ hm_m_ ht_m_ hu_7) gw_1351 gw_1348 gw_1350 gs_23 gw_8 ⟨by decide, by decide, by decide +kernel⟩ rfl rfl ⟨by decide, by decide⟩ rfl hl.1 rfl (Nat.le_of_ble_eq_true rfl) dX7_program_88 ⟨by decide, by decide⟩ (fun v u H locs hp w => ?_)
      obtain ⟨r14, f2, rfl, rfl, hT2, hR1, hrr14⟩ := hp
      have hR := hR.tr hR1
      clear hT
      have hT := hT2
      clear hT2
      generalize f2 = f at w hT hR
      obtain rfl := hrr14
      refine lv_pop hx hb dX7_program_91 rfl ?_
      refine lv_goto (tgt := 99) hx hb dX7_program_92 (by decide) ?_
      refine lv_aload_n hx hb dX7_program_99 rfl (lv_at hl 0 rfl) ?_
      refine lv_aload_n hx hb dX7_program_100 rfl (lv_at hl 0 rfl) ?_
      refine t_geti C w hT hm_m_ ht_m_ (by decide) rfl cin_7 7 (by decide) rfl rfl gw_1163 dX7_program_101 (fun x15 hg => ?_)
      obtain rfl : x15 = 0 := gof_at rfl hg
      refine t_putS C w hT hm_m_ ht_m_ (fun b h1 h2 => hu_7 b m_ h1 hm_m_ h2 ht_m_) (by decide) rfl cin_7 tyX7 tyX7_ok nmX7 3 (by decide) rfl rfl rfl rfl rfl gw_1159 dX7_program_104 (fun f H locs w hT hR1 => ?_)
      have hT := hT.mono gof_set
      have hR := hR.tr hR1
      refine lv_aload_n hx hb dX7_program_107 rfl (lv_at hl 0 rfl) ?_
      refine t_geti C w hT hm_m_ ht_m_ (by decide) rfl cin_7 6 (by decide) rfl rfl gw_1162 dX7_program_108 (fun x16 hg => ?_)
      obtain rfl : x16 = 1 := gof_at rfl hg
      refine lv_if_eq (tgt := 122) hx hb dX7_program_111 (by decide) (fun c0 => absurd c0 (by decide)) (fun _ => ?_)
      refine lv_aload_n hx hb dX7_program_114 rfl (lv_at hl 0 rfl) ?_
      refine t_geti C w hT hm_m_ ht_m_ (by decide) rfl cin_7 6 (by decide) rfl rfl gw_1162 dX7_program_115 (fun x17 hg => ?_)
      obtain rfl : x17 = 1 := gof_at rfl hg
      refine lv_bipush (v := 10) hx hb dX7_program_118 (by decide) ?_
      refine lv_isub hx hb dX7_program_120 ?_
      refine lv_topi (fun y18 ey18 => ?_)
      obtain rfl : y18 = (-9) := ey18.trans (by decide)
      have nm9 : ((-9) : Int32).toInt = -9 := by decide
      exact t_iret C hr hlk w ⟨_, 0, _, rfl, rfl, hT.mono (gof_sub rfl), hR, Or.inr (Or.inr (⟨rfl, rfl, (by decide), (by decide)⟩))⟩ (by decide) (by decide) dX7_program_121
  ·
    refine lv_if_ne (tgt := 22) hx hb dX7_program_15 (by decide) (fun c0 => absurd c0 (by decide)) (fun _ => ?_)
    refine lv_iconst (v := 1) hx hb dX7_program_18 (by decide) ?_
    refine lv_goto (tgt := 23) hx hb dX7_program_19 (by decide) ?_
    refine lv_iconst (v := 1) hx hb dX7_program_23 (by decide) ?_
    refine t_callV (n := 2) C w hT hm_m_ ht_m_ (by decide) rfl rfl (c_X7_bad1 l D K b0 sa _ L _ Ψ hT m_ hm_m_ ht_m_ hu_7) gw_1347 gw_1344 gw_1346 gs_22 gw_8 ⟨by decide, by decide, by decide +kernel⟩ rfl rfl ⟨by decide, by decide⟩ rfl hl.1 rfl (Nat.le_of_ble_eq_true rfl) dX7_program_24 ⟨by decide, by decide⟩ (fun v u H locs hp w => ?_)
    obtain ⟨r19, f2, rfl, rfl, hT2, hR1, hrr19⟩ := hp
    have hR := hR.tr hR1
    clear hT
    have hT := hT2
    clear hT2
    generalize f2 = f at w hT hR
    obtain rfl := hrr19
    refine lv_if_eq (tgt := 32) hx hb dX7_program_27 (by decide) (fun c0 => absurd c0 (by decide)) (fun _ => ?_)
    refine lv_iconst (v := 0) hx hb dX7_program_30 (by decide) ?_
    exact t_iret C hr hlk w ⟨_, 1, _, rfl, rfl, hT.mono (gof_sub rfl), hR, Or.inl ⟨rfl, rfl, (by omega)⟩⟩ (by decide) (by decide) dX7_program_31
