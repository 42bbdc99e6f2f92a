theorem dX4_here_0 : decode cX4_here 0 = .ok (.aload_n 0, 1) := by decide +kernel
theorem dX4_here_1 : decode cX4_here 1 = .ok (.getfield 25, 3) := by decide +kernel
theorem dX4_here_4 : decode cX4_here 4 = .ok (.ifCond .lt 26, 3) := by decide +kernel
theorem dX4_here_7 : decode cX4_here 7 = .ok (.aload_n 0, 1) := by decide +kernel
theorem dX4_here_8 : decode cX4_here 8 = .ok (.getfield 25, 3) := by decide +kernel
theorem dX4_here_11 : decode cX4_here 11 = .ok (.aload_n 0, 1) := by decide +kernel
theorem dX4_here_12 : decode cX4_here 12 = .ok (.getfield 21, 3) := by decide +kernel
theorem dX4_here_15 : decode cX4_here 15 = .ok (.if_icmp .ge 15, 3) := by decide +kernel
theorem dX4_here_18 : decode cX4_here 18 = .ok (.aload_n 0, 1) := by decide +kernel
theorem dX4_here_19 : decode cX4_here 19 = .ok (.getfield 9, 3) := by decide +kernel
theorem dX4_here_22 : decode cX4_here 22 = .ok (.aload_n 0, 1) := by decide +kernel
theorem dX4_here_23 : decode cX4_here 23 = .ok (.getfield 25, 3) := by decide +kernel
theorem dX4_here_26 : decode cX4_here 26 = .ok (.iaload, 1) := by decide +kernel
theorem dX4_here_27 : decode cX4_here 27 = .ok (.goto 6, 3) := by decide +kernel
theorem dX4_here_30 : decode cX4_here 30 = .ok (.sipush 256, 3) := by decide +kernel
theorem dX4_here_33 : decode cX4_here 33 = .ok (.ireturn, 1) := by decide +kernel
theorem dX4_fail_0 : decode cX4_fail 0 = .ok (.aload_n 0, 1) := by decide +kernel
theorem dX4_fail_1 : decode cX4_fail 1 = .ok (.iload_n 1, 1) := by decide +kernel
theorem dX4_fail_2 : decode cX4_fail 2 = .ok (.putfield 44, 3) := by decide +kernel
theorem dX4_fail_5 : decode cX4_fail 5 = .ok (.aload_n 0, 1) := by decide +kernel
theorem dX4_fail_6 : decode cX4_fail 6 = .ok (.aload_n 0, 1) := by decide +kernel
theorem dX4_fail_7 : decode cX4_fail 7 = .ok (.getfield 25, 3) := by decide +kernel
theorem dX4_fail_10 : decode cX4_fail 10 = .ok (.ifCond .lt 26, 3) := by decide +kernel
theorem dX4_fail_13 : decode cX4_fail 13 = .ok (.aload_n 0, 1) := by decide +kernel
theorem dX4_fail_14 : decode cX4_fail 14 = .ok (.getfield 25, 3) := by decide +kernel
theorem dX4_fail_17 : decode cX4_fail 17 = .ok (.aload_n 0, 1) := by decide +kernel
theorem dX4_fail_18 : decode cX4_fail 18 = .ok (.getfield 21, 3) := by decide +kernel
theorem dX4_fail_21 : decode cX4_fail 21 = .ok (.if_icmp .ge 15, 3) := by decide +kernel
theorem dX4_fail_24 : decode cX4_fail 24 = .ok (.aload_n 0, 1) := by decide +kernel
theorem dX4_fail_25 : decode cX4_fail 25 = .ok (.getfield 15, 3) := by decide +kernel
theorem dX4_fail_28 : decode cX4_fail 28 = .ok (.aload_n 0, 1) := by decide +kernel
theorem dX4_fail_29 : decode cX4_fail 29 = .ok (.getfield 25, 3) := by decide +kernel
theorem dX4_fail_32 : decode cX4_fail 32 = .ok (.iaload, 1) := by decide +kernel
theorem dX4_fail_33 : decode cX4_fail 33 = .ok (.goto 7, 3) := by decide +kernel
theorem dX4_fail_36 : decode cX4_fail 36 = .ok (.aload_n 0, 1) := by decide +kernel
theorem dX4_fail_37 : decode cX4_fail 37 = .ok (.getfield 28, 3) := by decide +kernel
theorem dX4_fail_40 : decode cX4_fail 40 = .ok (.putfield 47, 3) := by decide +kernel
theorem dX4_fail_43 : decode cX4_fail 43 = .ok (.iconst 0, 1) := by decide +kernel
theorem dX4_fail_44 : decode cX4_fail 44 = .ok (.ireturn, 1) := by decide +kernel
theorem dX4_begin_0 : decode cX4_begin 0 = .ok (.aload_n 0, 1) := by decide +kernel
theorem dX4_begin_1 : decode cX4_begin 1 = .ok (.iconst 0, 1) := by decide +kernel
theorem dX4_begin_2 : decode cX4_begin 2 = .ok (.iload_n 2, 1) := by decide +kernel
theorem dX4_begin_3 : decode cX4_begin 3 = .ok (.aload_n 1, 1) := by decide +kernel
theorem dX4_begin_4 : decode cX4_begin 4 = .ok (.arraylength, 1) := by decide +kernel
theorem dX4_begin_5 : decode cX4_begin 5 = .ok (.invokestatic 77, 3) := by decide +kernel
theorem dX4_begin_8 : decode cX4_begin 8 = .ok (.invokestatic 83, 3) := by decide +kernel
theorem dX4_begin_11 : decode cX4_begin 11 = .ok (.putfield 28, 3) := by decide +kernel
theorem dX4_begin_14 : decode cX4_begin 14 = .ok (.aload_n 0, 1) := by decide +kernel
theorem dX4_begin_15 : decode cX4_begin 15 = .ok (.iload_n 3, 1) := by decide +kernel
theorem dX4_begin_16 : decode cX4_begin 16 = .ok (.putfield 40, 3) := by decide +kernel
theorem dX4_begin_19 : decode cX4_begin 19 = .ok (.aload_n 0, 1) := by decide +kernel
theorem dX4_begin_20 : decode cX4_begin 20 = .ok (.iconst 0, 1) := by decide +kernel
theorem dX4_begin_21 : decode cX4_begin 21 = .ok (.putfield 21, 3) := by decide +kernel
theorem dX4_begin_24 : decode cX4_begin 24 = .ok (.aload_n 0, 1) := by decide +kernel
theorem dX4_begin_25 : decode cX4_begin 25 = .ok (.iconst 0, 1) := by decide +kernel
theorem dX4_begin_26 : decode cX4_begin 26 = .ok (.putfield 25, 3) := by decide +kernel
theorem dX4_begin_29 : decode cX4_begin 29 = .ok (.aload_n 0, 1) := by decide +kernel
theorem dX4_begin_30 : decode cX4_begin 30 = .ok (.iconst 0, 1) := by decide +kernel
theorem dX4_begin_31 : decode cX4_begin 31 = .ok (.putfield 34, 3) := by decide +kernel
theorem dX4_begin_34 : decode cX4_begin 34 = .ok (.aload_n 0, 1) := by decide +kernel
theorem dX4_begin_35 : decode cX4_begin 35 = .ok (.iconst 0, 1) := by decide +kernel
theorem dX4_begin_36 : decode cX4_begin 36 = .ok (.putfield 37, 3) := by decide +kernel
theorem dX4_begin_39 : decode cX4_begin 39 = .ok (.aload_n 0, 1) := by decide +kernel
theorem dX4_begin_40 : decode cX4_begin 40 = .ok (.iconst 0, 1) := by decide +kernel
theorem dX4_begin_41 : decode cX4_begin 41 = .ok (.putfield 44, 3) := by decide +kernel
theorem dX4_begin_44 : decode cX4_begin 44 = .ok (.aload_n 0, 1) := by decide +kernel
theorem dX4_begin_45 : decode cX4_begin 45 = .ok (.iconst (-1), 1) := by decide +kernel
theorem dX4_begin_46 : decode cX4_begin 46 = .ok (.putfield 47, 3) := by decide +kernel
theorem dX4_begin_49 : decode cX4_begin 49 = .ok (.iconst 0, 1) := by decide +kernel
theorem dX4_begin_50 : decode cX4_begin 50 = .ok (.istore 4, 2) := by decide +kernel
theorem dX4_begin_52 : decode cX4_begin 52 = .ok (.iconst 0, 1) := by decide +kernel
theorem dX4_begin_53 : decode cX4_begin 53 = .ok (.istore 5, 2) := by decide +kernel
theorem dX4_begin_55 : decode cX4_begin 55 = .ok (.iload 5, 2) := by decide +kernel
theorem dX4_begin_57 : decode cX4_begin 57 = .ok (.aload_n 0, 1) := by decide +kernel
theorem dX4_begin_58 : decode cX4_begin 58 = .ok (.getfield 28, 3) := by decide +kernel
theorem dX4_begin_61 : decode cX4_begin 61 = .ok (.if_icmp .ge 27, 3) := by decide +kernel
theorem dX4_begin_64 : decode cX4_begin 64 = .ok (.iload 4, 2) := by decide +kernel
theorem dX4_begin_66 : decode cX4_begin 66 = .ok (.aload_n 0, 1) := by decide +kernel
theorem dX4_begin_67 : decode cX4_begin 67 = .ok (.getfield 28, 3) := by decide +kernel
theorem dX4_begin_70 : decode cX4_begin 70 = .ok (.if_icmp .ge 18, 3) := by decide +kernel
theorem dX4_begin_73 : decode cX4_begin 73 = .ok (.aload_n 0, 1) := by decide +kernel
theorem dX4_begin_74 : decode cX4_begin 74 = .ok (.aload_n 1, 1) := by decide +kernel
theorem dX4_begin_75 : decode cX4_begin 75 = .ok (.iload 4, 2) := by decide +kernel
theorem dX4_begin_77 : decode cX4_begin 77 = .ok (.invokevirtual 86, 3) := by decide +kernel
theorem dX4_begin_80 : decode cX4_begin 80 = .ok (.istore 4, 2) := by decide +kernel
theorem dX4_begin_82 : decode cX4_begin 82 = .ok (.iinc 5 1, 3) := by decide +kernel
theorem dX4_begin_85 : decode cX4_begin 85 = .ok (.goto (-30), 3) := by decide +kernel
theorem dX4_begin_88 : decode cX4_begin 88 = .ok (.return_, 1) := by decide +kernel
theorem dX4_unit_0 : decode cX4_unit 0 = .ok (.aload_n 0, 1) := by decide +kernel
theorem dX4_unit_1 : decode cX4_unit 1 = .ok (.invokevirtual 54, 3) := by decide +kernel
theorem dX4_unit_4 : decode cX4_unit 4 = .ok (.istore_n 1, 1) := by decide +kernel
theorem dX4_unit_5 : decode cX4_unit 5 = .ok (.iload_n 1, 1) := by decide +kernel
theorem dX4_unit_6 : decode cX4_unit 6 = .ok (.sipush 257, 3) := by decide +kernel
theorem dX4_unit_9 : decode cX4_unit 9 = .ok (.if_icmp .ne 8, 3) := by decide +kernel
theorem dX4_unit_12 : decode cX4_unit 12 = .ok (.aload_n 0, 1) := by decide +kernel
theorem dX4_unit_13 : decode cX4_unit 13 = .ok (.invokevirtual 181, 3) := by decide +kernel
theorem dX4_unit_16 : decode cX4_unit 16 = .ok (.ireturn, 1) := by decide +kernel
theorem dX4_unit_17 : decode cX4_unit 17 = .ok (.iload_n 1, 1) := by decide +kernel
theorem dX4_unit_18 : decode cX4_unit 18 = .ok (.sipush 270, 3) := by decide +kernel
theorem dX4_unit_21 : decode cX4_unit 21 = .ok (.aload_n 0, 1) := by decide +kernel
theorem dX4_unit_22 : decode cX4_unit 22 = .ok (.getfield 40, 3) := by decide +kernel
theorem dX4_unit_25 : decode cX4_unit 25 = .ok (.ifCond .eq 9, 3) := by decide +kernel
theorem dX4_unit_28 : decode cX4_unit 28 = .ok (.sipush 276, 3) := by decide +kernel
theorem dX4_unit_31 : decode cX4_unit 31 = .ok (.goto 6, 3) := by decide +kernel
theorem dX4_unit_34 : decode cX4_unit 34 = .ok (.sipush 275, 3) := by decide +kernel
theorem dX4_unit_37 : decode cX4_unit 37 = .ok (.invokestatic 90, 3) := by decide +kernel
theorem dX4_unit_40 : decode cX4_unit 40 = .ok (.ifCond .eq 24, 3) := by decide +kernel
theorem dX4_unit_43 : decode cX4_unit 43 = .ok (.aload_n 0, 1) := by decide +kernel
theorem dX4_unit_44 : decode cX4_unit 44 = .ok (.sipush 1000, 3) := by decide +kernel
theorem dX4_unit_47 : decode cX4_unit 47 = .ok (.iload_n 1, 1) := by decide +kernel
theorem dX4_unit_48 : decode cX4_unit 48 = .ok (.iadd, 1) := by decide +kernel
theorem dX4_unit_49 : decode cX4_unit 49 = .ok (.invokevirtual 159, 3) := by decide +kernel
theorem dX4_unit_52 : decode cX4_unit 52 = .ok (.aload_n 0, 1) := by decide +kernel
theorem dX4_unit_53 : decode cX4_unit 53 = .ok (.dup, 1) := by decide +kernel
theorem dX4_unit_54 : decode cX4_unit 54 = .ok (.getfield 25, 3) := by decide +kernel
theorem dX4_unit_57 : decode cX4_unit 57 = .ok (.iconst 1, 1) := by decide +kernel
theorem dX4_unit_58 : decode cX4_unit 58 = .ok (.iadd, 1) := by decide +kernel
theorem dX4_unit_59 : decode cX4_unit 59 = .ok (.putfield 25, 3) := by decide +kernel
theorem dX4_unit_62 : decode cX4_unit 62 = .ok (.iconst 1, 1) := by decide +kernel
theorem dX4_unit_63 : decode cX4_unit 63 = .ok (.ireturn, 1) := by decide +kernel
theorem dX4_unit_64 : decode cX4_unit 64 = .ok (.iload_n 1, 1) := by decide +kernel
theorem dX4_unit_65 : decode cX4_unit 65 = .ok (.bipush 40, 2) := by decide +kernel
theorem dX4_unit_67 : decode cX4_unit 67 = .ok (.if_icmp .ne 34, 3) := by decide +kernel
theorem dX4_unit_70 : decode cX4_unit 70 = .ok (.aload_n 0, 1) := by decide +kernel
theorem dX4_unit_71 : decode cX4_unit 71 = .ok (.bipush 40, 2) := by decide +kernel
theorem dX4_unit_73 : decode cX4_unit 73 = .ok (.invokevirtual 169, 3) := by decide +kernel
theorem dX4_unit_76 : decode cX4_unit 76 = .ok (.ifCond .eq 23, 3) := by decide +kernel
theorem dX4_unit_79 : decode cX4_unit 79 = .ok (.aload_n 0, 1) := by decide +kernel
theorem dX4_unit_80 : decode cX4_unit 80 = .ok (.invokevirtual 156, 3) := by decide +kernel
theorem dX4_unit_83 : decode cX4_unit 83 = .ok (.ifCond .eq 16, 3) := by decide +kernel
theorem dX4_unit_86 : decode cX4_unit 86 = .ok (.aload_n 0, 1) := by decide +kernel
theorem dX4_unit_87 : decode cX4_unit 87 = .ok (.bipush 41, 2) := by decide +kernel
theorem dX4_unit_89 : decode cX4_unit 89 = .ok (.invokevirtual 172, 3) := by decide +kernel
theorem dX4_unit_92 : decode cX4_unit 92 = .ok (.ifCond .eq 7, 3) := by decide +kernel
theorem dX4_unit_95 : decode cX4_unit 95 = .ok (.iconst 1, 1) := by decide +kernel
theorem dX4_unit_96 : decode cX4_unit 96 = .ok (.goto 4, 3) := by decide +kernel
theorem dX4_unit_99 : decode cX4_unit 99 = .ok (.iconst 0, 1) := by decide +kernel
theorem dX4_unit_100 : decode cX4_unit 100 = .ok (.ireturn, 1) := by decide +kernel
theorem dX4_unit_101 : decode cX4_unit 101 = .ok (.iload_n 1, 1) := by decide +kernel
theorem dX4_unit_102 : decode cX4_unit 102 = .ok (.sipush 267, 3) := by decide +kernel
theorem dX4_unit_105 : decode cX4_unit 105 = .ok (.if_icmp .eq 10, 3) := by decide +kernel
theorem dX4_unit_108 : decode cX4_unit 108 = .ok (.iload_n 1, 1) := by decide +kernel
theorem dX4_unit_109 : decode cX4_unit 109 = .ok (.sipush 268, 3) := by decide +kernel
theorem dX4_unit_112 : decode cX4_unit 112 = .ok (.if_icmp .ne 24, 3) := by decide +kernel
theorem dX4_unit_115 : decode cX4_unit 115 = .ok (.aload_n 0, 1) := by decide +kernel
theorem dX4_unit_116 : decode cX4_unit 116 = .ok (.iload_n 1, 1) := by decide +kernel
theorem dX4_unit_117 : decode cX4_unit 117 = .ok (.sipush 267, 3) := by decide +kernel
theorem dX4_unit_120 : decode cX4_unit 120 = .ok (.if_icmp .ne 9, 3) := by decide +kernel
theorem dX4_unit_123 : decode cX4_unit 123 = .ok (.sipush 2004, 3) := by decide +kernel
theorem dX4_unit_126 : decode cX4_unit 126 = .ok (.goto 6, 3) := by decide +kernel
theorem dX4_unit_129 : decode cX4_unit 129 = .ok (.sipush 2005, 3) := by decide +kernel
theorem dX4_unit_132 : decode cX4_unit 132 = .ok (.invokevirtual 184, 3) := by decide +kernel
theorem dX4_unit_135 : decode cX4_unit 135 = .ok (.ireturn, 1) := by decide +kernel
theorem dX4_unit_136 : decode cX4_unit 136 = .ok (.aload_n 0, 1) := by decide +kernel
theorem dX4_unit_137 : decode cX4_unit 137 = .ok (.iconst 1, 1) := by decide +kernel
theorem dX4_unit_138 : decode cX4_unit 138 = .ok (.invokevirtual 69, 3) := by decide +kernel
theorem dX4_unit_141 : decode cX4_unit 141 = .ok (.ireturn, 1) := by decide +kernel
theorem dX4_sum_0 : decode cX4_sum 0 = .ok (.iconst (-1), 1) := by decide +kernel
theorem dX4_sum_1 : decode cX4_sum 1 = .ok (.istore_n 1, 1) := by decide +kernel
theorem dX4_sum_2 : decode cX4_sum 2 = .ok (.iconst (-1), 1) := by decide +kernel
theorem dX4_sum_3 : decode cX4_sum 3 = .ok (.istore_n 2, 1) := by decide +kernel
theorem dX4_sum_4 : decode cX4_sum 4 = .ok (.iconst 0, 1) := by decide +kernel
theorem dX4_sum_5 : decode cX4_sum 5 = .ok (.istore_n 3, 1) := by decide +kernel
theorem dX4_sum_6 : decode cX4_sum 6 = .ok (.iload_n 3, 1) := by decide +kernel
theorem dX4_sum_7 : decode cX4_sum 7 = .ok (.sipush 300, 3) := by decide +kernel
theorem dX4_sum_10 : decode cX4_sum 10 = .ok (.if_icmp .gt 114, 3) := by decide +kernel
theorem dX4_sum_13 : decode cX4_sum 13 = .ok (.aload_n 0, 1) := by decide +kernel
theorem dX4_sum_14 : decode cX4_sum 14 = .ok (.invokevirtual 178, 3) := by decide +kernel
theorem dX4_sum_17 : decode cX4_sum 17 = .ok (.ifCond .ne 5, 3) := by decide +kernel
theorem dX4_sum_20 : decode cX4_sum 20 = .ok (.iconst 0, 1) := by decide +kernel
theorem dX4_sum_21 : decode cX4_sum 21 = .ok (.ireturn, 1) := by decide +kernel
theorem dX4_sum_22 : decode cX4_sum 22 = .ok (.iload_n 2, 1) := by decide +kernel
theorem dX4_sum_23 : decode cX4_sum 23 = .ok (.iconst (-1), 1) := by decide +kernel
theorem dX4_sum_24 : decode cX4_sum 24 = .ok (.if_icmp .eq 8, 3) := by decide +kernel
theorem dX4_sum_27 : decode cX4_sum 27 = .ok (.aload_n 0, 1) := by decide +kernel
theorem dX4_sum_28 : decode cX4_sum 28 = .ok (.iload_n 2, 1) := by decide +kernel
theorem dX4_sum_29 : decode cX4_sum 29 = .ok (.invokevirtual 159, 3) := by decide +kernel
theorem dX4_sum_32 : decode cX4_sum 32 = .ok (.aload_n 0, 1) := by decide +kernel
theorem dX4_sum_33 : decode cX4_sum 33 = .ok (.bipush 42, 2) := by decide +kernel
theorem dX4_sum_35 : decode cX4_sum 35 = .ok (.invokevirtual 66, 3) := by decide +kernel
theorem dX4_sum_38 : decode cX4_sum 38 = .ok (.ifCond .eq 9, 3) := by decide +kernel
theorem dX4_sum_41 : decode cX4_sum 41 = .ok (.sipush 2002, 3) := by decide +kernel
theorem dX4_sum_44 : decode cX4_sum 44 = .ok (.goto 19, 3) := by decide +kernel
theorem dX4_sum_47 : decode cX4_sum 47 = .ok (.aload_n 0, 1) := by decide +kernel
theorem dX4_sum_48 : decode cX4_sum 48 = .ok (.bipush 47, 2) := by decide +kernel
theorem dX4_sum_50 : decode cX4_sum 50 = .ok (.invokevirtual 66, 3) := by decide +kernel
theorem dX4_sum_53 : decode cX4_sum 53 = .ok (.ifCond .eq 9, 3) := by decide +kernel
theorem dX4_sum_56 : decode cX4_sum 56 = .ok (.sipush 2003, 3) := by decide +kernel
theorem dX4_sum_59 : decode cX4_sum 59 = .ok (.goto 4, 3) := by decide +kernel
theorem dX4_sum_62 : decode cX4_sum 62 = .ok (.iconst (-1), 1) := by decide +kernel
theorem dX4_sum_63 : decode cX4_sum 63 = .ok (.istore_n 2, 1) := by decide +kernel
theorem dX4_sum_64 : decode cX4_sum 64 = .ok (.iload_n 2, 1) := by decide +kernel
theorem dX4_sum_65 : decode cX4_sum 65 = .ok (.iconst (-1), 1) := by decide +kernel
theorem dX4_sum_66 : decode cX4_sum 66 = .ok (.if_icmp .ne 52, 3) := by decide +kernel
theorem dX4_sum_69 : decode cX4_sum 69 = .ok (.iload_n 1, 1) := by decide +kernel
theorem dX4_sum_70 : decode cX4_sum 70 = .ok (.iconst (-1), 1) := by decide +kernel
theorem dX4_sum_71 : decode cX4_sum 71 = .ok (.if_icmp .eq 8, 3) := by decide +kernel
theorem dX4_sum_74 : decode cX4_sum 74 = .ok (.aload_n 0, 1) := by decide +kernel
theorem dX4_sum_75 : decode cX4_sum 75 = .ok (.iload_n 1, 1) := by decide +kernel
theorem dX4_sum_76 : decode cX4_sum 76 = .ok (.invokevirtual 159, 3) := by decide +kernel
theorem dX4_sum_79 : decode cX4_sum 79 = .ok (.aload_n 0, 1) := by decide +kernel
theorem dX4_sum_80 : decode cX4_sum 80 = .ok (.bipush 43, 2) := by decide +kernel
theorem dX4_sum_82 : decode cX4_sum 82 = .ok (.invokevirtual 66, 3) := by decide +kernel
theorem dX4_sum_85 : decode cX4_sum 85 = .ok (.ifCond .eq 9, 3) := by decide +kernel
theorem dX4_sum_88 : decode cX4_sum 88 = .ok (.sipush 2000, 3) := by decide +kernel
theorem dX4_sum_91 : decode cX4_sum 91 = .ok (.goto 19, 3) := by decide +kernel
theorem dX4_sum_94 : decode cX4_sum 94 = .ok (.aload_n 0, 1) := by decide +kernel
theorem dX4_sum_95 : decode cX4_sum 95 = .ok (.bipush 45, 2) := by decide +kernel
theorem dX4_sum_97 : decode cX4_sum 97 = .ok (.invokevirtual 66, 3) := by decide +kernel
theorem dX4_sum_100 : decode cX4_sum 100 = .ok (.ifCond .eq 9, 3) := by decide +kernel
theorem dX4_sum_103 : decode cX4_sum 103 = .ok (.sipush 2001, 3) := by decide +kernel
theorem dX4_sum_106 : decode cX4_sum 106 = .ok (.goto 4, 3) := by decide +kernel
theorem dX4_sum_109 : decode cX4_sum 109 = .ok (.iconst (-1), 1) := by decide +kernel
theorem dX4_sum_110 : decode cX4_sum 110 = .ok (.istore_n 1, 1) := by decide +kernel
theorem dX4_sum_111 : decode cX4_sum 111 = .ok (.iload_n 1, 1) := by decide +kernel
theorem dX4_sum_112 : decode cX4_sum 112 = .ok (.iconst (-1), 1) := by decide +kernel
theorem dX4_sum_113 : decode cX4_sum 113 = .ok (.if_icmp .ne 5, 3) := by decide +kernel
theorem dX4_sum_116 : decode cX4_sum 116 = .ok (.iconst 1, 1) := by decide +kernel
theorem dX4_sum_117 : decode cX4_sum 117 = .ok (.ireturn, 1) := by decide +kernel
theorem dX4_sum_118 : decode cX4_sum 118 = .ok (.iinc 3 1, 3) := by decide +kernel
theorem dX4_sum_121 : decode cX4_sum 121 = .ok (.goto (-115), 3) := by decide +kernel
theorem dX4_sum_124 : decode cX4_sum 124 = .ok (.aload_n 0, 1) := by decide +kernel
theorem dX4_sum_125 : decode cX4_sum 125 = .ok (.iconst 1, 1) := by decide +kernel
theorem dX4_sum_126 : decode cX4_sum 126 = .ok (.invokevirtual 69, 3) := by decide +kernel
theorem dX4_sum_129 : decode cX4_sum 129 = .ok (.ireturn, 1) := by decide +kernel
theorem dX4_claim_0 : decode cX4_claim 0 = .ok (.aload_n 0, 1) := by decide +kernel
theorem dX4_claim_1 : decode cX4_claim 1 = .ok (.invokevirtual 54, 3) := by decide +kernel
theorem dX4_claim_4 : decode cX4_claim 4 = .ok (.sipush 266, 3) := by decide +kernel
theorem dX4_claim_7 : decode cX4_claim 7 = .ok (.if_icmp .ne 8, 3) := by decide +kernel
theorem dX4_claim_10 : decode cX4_claim 10 = .ok (.aload_n 0, 1) := by decide +kernel
theorem dX4_claim_11 : decode cX4_claim 11 = .ok (.invokevirtual 166, 3) := by decide +kernel
theorem dX4_claim_14 : decode cX4_claim 14 = .ok (.ireturn, 1) := by decide +kernel
theorem dX4_claim_15 : decode cX4_claim 15 = .ok (.aload_n 0, 1) := by decide +kernel
theorem dX4_claim_16 : decode cX4_claim 16 = .ok (.invokevirtual 54, 3) := by decide +kernel
theorem dX4_claim_19 : decode cX4_claim 19 = .ok (.bipush 91, 2) := by decide +kernel
theorem dX4_claim_21 : decode cX4_claim 21 = .ok (.if_icmp .ne 34, 3) := by decide +kernel
theorem dX4_claim_24 : decode cX4_claim 24 = .ok (.aload_n 0, 1) := by decide +kernel
theorem dX4_claim_25 : decode cX4_claim 25 = .ok (.bipush 91, 2) := by decide +kernel
theorem dX4_claim_27 : decode cX4_claim 27 = .ok (.invokevirtual 169, 3) := by decide +kernel
theorem dX4_claim_30 : decode cX4_claim 30 = .ok (.ifCond .eq 23, 3) := by decide +kernel
theorem dX4_claim_33 : decode cX4_claim 33 = .ok (.aload_n 0, 1) := by decide +kernel
theorem dX4_claim_34 : decode cX4_claim 34 = .ok (.invokevirtual 62, 3) := by decide +kernel
theorem dX4_claim_37 : decode cX4_claim 37 = .ok (.ifCond .eq 16, 3) := by decide +kernel
theorem dX4_claim_40 : decode cX4_claim 40 = .ok (.aload_n 0, 1) := by decide +kernel
theorem dX4_claim_41 : decode cX4_claim 41 = .ok (.bipush 93, 2) := by decide +kernel
theorem dX4_claim_43 : decode cX4_claim 43 = .ok (.invokevirtual 172, 3) := by decide +kernel
theorem dX4_claim_46 : decode cX4_claim 46 = .ok (.ifCond .eq 7, 3) := by decide +kernel
theorem dX4_claim_49 : decode cX4_claim 49 = .ok (.iconst 1, 1) := by decide +kernel
theorem dX4_claim_50 : decode cX4_claim 50 = .ok (.goto 4, 3) := by decide +kernel
theorem dX4_claim_53 : decode cX4_claim 53 = .ok (.iconst 0, 1) := by decide +kernel
theorem dX4_claim_54 : decode cX4_claim 54 = .ok (.ireturn, 1) := by decide +kernel
theorem dX4_claim_55 : decode cX4_claim 55 = .ok (.aload_n 0, 1) := by decide +kernel
theorem dX4_claim_56 : decode cX4_claim 56 = .ok (.invokevirtual 156, 3) := by decide +kernel
theorem dX4_claim_59 : decode cX4_claim 59 = .ok (.ifCond .ne 5, 3) := by decide +kernel
theorem dX4_claim_62 : decode cX4_claim 62 = .ok (.iconst 0, 1) := by decide +kernel
theorem dX4_claim_63 : decode cX4_claim 63 = .ok (.ireturn, 1) := by decide +kernel
theorem dX4_claim_64 : decode cX4_claim 64 = .ok (.aload_n 0, 1) := by decide +kernel
theorem dX4_claim_65 : decode cX4_claim 65 = .ok (.invokevirtual 175, 3) := by decide +kernel
theorem dX4_claim_68 : decode cX4_claim 68 = .ok (.istore_n 1, 1) := by decide +kernel
theorem dX4_claim_69 : decode cX4_claim 69 = .ok (.iload_n 1, 1) := by decide +kernel
theorem dX4_claim_70 : decode cX4_claim 70 = .ok (.iconst (-1), 1) := by decide +kernel
theorem dX4_claim_71 : decode cX4_claim 71 = .ok (.if_icmp .ne 9, 3) := by decide +kernel
theorem dX4_claim_74 : decode cX4_claim 74 = .ok (.aload_n 0, 1) := by decide +kernel
theorem dX4_claim_75 : decode cX4_claim 75 = .ok (.iconst 1, 1) := by decide +kernel
theorem dX4_claim_76 : decode cX4_claim 76 = .ok (.invokevirtual 69, 3) := by decide +kernel
theorem dX4_claim_79 : decode cX4_claim 79 = .ok (.ireturn, 1) := by decide +kernel
theorem dX4_claim_80 : decode cX4_claim 80 = .ok (.aload_n 0, 1) := by decide +kernel
theorem dX4_claim_81 : decode cX4_claim 81 = .ok (.dup, 1) := by decide +kernel
theorem dX4_claim_82 : decode cX4_claim 82 = .ok (.getfield 25, 3) := by decide +kernel
theorem dX4_claim_85 : decode cX4_claim 85 = .ok (.iconst 1, 1) := by decide +kernel
theorem dX4_claim_86 : decode cX4_claim 86 = .ok (.iadd, 1) := by decide +kernel
theorem dX4_claim_87 : decode cX4_claim 87 = .ok (.putfield 25, 3) := by decide +kernel
theorem dX4_claim_90 : decode cX4_claim 90 = .ok (.aload_n 0, 1) := by decide +kernel
theorem dX4_claim_91 : decode cX4_claim 91 = .ok (.invokevirtual 156, 3) := by decide +kernel
theorem dX4_claim_94 : decode cX4_claim 94 = .ok (.ifCond .ne 5, 3) := by decide +kernel
theorem dX4_claim_97 : decode cX4_claim 97 = .ok (.iconst 0, 1) := by decide +kernel
theorem dX4_claim_98 : decode cX4_claim 98 = .ok (.ireturn, 1) := by decide +kernel
theorem dX4_claim_99 : decode cX4_claim 99 = .ok (.aload_n 0, 1) := by decide +kernel
theorem dX4_claim_100 : decode cX4_claim 100 = .ok (.iload_n 1, 1) := by decide +kernel
theorem dX4_claim_101 : decode cX4_claim 101 = .ok (.invokevirtual 159, 3) := by decide +kernel
theorem dX4_claim_104 : decode cX4_claim 104 = .ok (.iconst 1, 1) := by decide +kernel
theorem dX4_claim_105 : decode cX4_claim 105 = .ok (.ireturn, 1) := by decide +kernel
theorem dX4_condition_0 : decode cX4_condition 0 = .ok (.iconst 0, 1) := by decide +kernel
theorem dX4_condition_1 : decode cX4_condition 1 = .ok (.istore_n 1, 1) := by decide +kernel
theorem dX4_condition_2 : decode cX4_condition 2 = .ok (.iconst 0, 1) := by decide +kernel
theorem dX4_condition_3 : decode cX4_condition 3 = .ok (.istore_n 2, 1) := by decide +kernel
theorem dX4_condition_4 : decode cX4_condition 4 = .ok (.iconst 0, 1) := by decide +kernel
theorem dX4_condition_5 : decode cX4_condition 5 = .ok (.istore_n 3, 1) := by decide +kernel
theorem dX4_condition_6 : decode cX4_condition 6 = .ok (.iload_n 3, 1) := by decide +kernel
theorem dX4_condition_7 : decode cX4_condition 7 = .ok (.sipush 300, 3) := by decide +kernel
theorem dX4_condition_10 : decode cX4_condition 10 = .ok (.if_icmp .gt 66, 3) := by decide +kernel
theorem dX4_condition_13 : decode cX4_condition 13 = .ok (.aload_n 0, 1) := by decide +kernel
theorem dX4_condition_14 : decode cX4_condition 14 = .ok (.invokevirtual 163, 3) := by decide +kernel
theorem dX4_condition_17 : decode cX4_condition 17 = .ok (.ifCond .ne 5, 3) := by decide +kernel
theorem dX4_condition_20 : decode cX4_condition 20 = .ok (.iconst 0, 1) := by decide +kernel
theorem dX4_condition_21 : decode cX4_condition 21 = .ok (.ireturn, 1) := by decide +kernel
theorem dX4_condition_22 : decode cX4_condition 22 = .ok (.iload_n 2, 1) := by decide +kernel
theorem dX4_condition_23 : decode cX4_condition 23 = .ok (.ifCond .eq 10, 3) := by decide +kernel
theorem dX4_condition_26 : decode cX4_condition 26 = .ok (.aload_n 0, 1) := by decide +kernel
theorem dX4_condition_27 : decode cX4_condition 27 = .ok (.sipush 2009, 3) := by decide +kernel
theorem dX4_condition_30 : decode cX4_condition 30 = .ok (.invokevirtual 159, 3) := by decide +kernel
theorem dX4_condition_33 : decode cX4_condition 33 = .ok (.aload_n 0, 1) := by decide +kernel
theorem dX4_condition_34 : decode cX4_condition 34 = .ok (.sipush 265, 3) := by decide +kernel
theorem dX4_condition_37 : decode cX4_condition 37 = .ok (.invokevirtual 66, 3) := by decide +kernel
theorem dX4_condition_40 : decode cX4_condition 40 = .ok (.istore_n 2, 1) := by decide +kernel
theorem dX4_condition_41 : decode cX4_condition 41 = .ok (.iload_n 2, 1) := by decide +kernel
theorem dX4_condition_42 : decode cX4_condition 42 = .ok (.ifCond .ne 28, 3) := by decide +kernel
theorem dX4_condition_45 : decode cX4_condition 45 = .ok (.iload_n 1, 1) := by decide +kernel
theorem dX4_condition_46 : decode cX4_condition 46 = .ok (.ifCond .eq 10, 3) := by decide +kernel
theorem dX4_condition_49 : decode cX4_condition 49 = .ok (.aload_n 0, 1) := by decide +kernel
theorem dX4_condition_50 : decode cX4_condition 50 = .ok (.sipush 2010, 3) := by decide +kernel
theorem dX4_condition_53 : decode cX4_condition 53 = .ok (.invokevirtual 159, 3) := by decide +kernel
theorem dX4_condition_56 : decode cX4_condition 56 = .ok (.aload_n 0, 1) := by decide +kernel
theorem dX4_condition_57 : decode cX4_condition 57 = .ok (.sipush 264, 3) := by decide +kernel
theorem dX4_condition_60 : decode cX4_condition 60 = .ok (.invokevirtual 66, 3) := by decide +kernel
theorem dX4_condition_63 : decode cX4_condition 63 = .ok (.istore_n 1, 1) := by decide +kernel
theorem dX4_condition_64 : decode cX4_condition 64 = .ok (.iload_n 1, 1) := by decide +kernel
theorem dX4_condition_65 : decode cX4_condition 65 = .ok (.ifCond .ne 5, 3) := by decide +kernel
theorem dX4_condition_68 : decode cX4_condition 68 = .ok (.iconst 1, 1) := by decide +kernel
theorem dX4_condition_69 : decode cX4_condition 69 = .ok (.ireturn, 1) := by decide +kernel
theorem dX4_condition_70 : decode cX4_condition 70 = .ok (.iinc 3 1, 3) := by decide +kernel
theorem dX4_condition_73 : decode cX4_condition 73 = .ok (.goto (-67), 3) := by decide +kernel
theorem dX4_condition_76 : decode cX4_condition 76 = .ok (.aload_n 0, 1) := by decide +kernel
theorem dX4_condition_77 : decode cX4_condition 77 = .ok (.iconst 1, 1) := by decide +kernel
theorem dX4_condition_78 : decode cX4_condition 78 = .ok (.invokevirtual 69, 3) := by decide +kernel
theorem dX4_condition_81 : decode cX4_condition 81 = .ok (.ireturn, 1) := by decide +kernel
theorem dX4_readLaw_0 : decode cX4_readLaw 0 = .ok (.aload_n 0, 1) := by decide +kernel
theorem dX4_readLaw_1 : decode cX4_readLaw 1 = .ok (.aload_n 1, 1) := by decide +kernel
theorem dX4_readLaw_2 : decode cX4_readLaw 2 = .ok (.iload_n 2, 1) := by decide +kernel
theorem dX4_readLaw_3 : decode cX4_readLaw 3 = .ok (.iconst 1, 1) := by decide +kernel
theorem dX4_readLaw_4 : decode cX4_readLaw 4 = .ok (.invokevirtual 50, 3) := by decide +kernel
theorem dX4_readLaw_7 : decode cX4_readLaw 7 = .ok (.aload_n 0, 1) := by decide +kernel
theorem dX4_readLaw_8 : decode cX4_readLaw 8 = .ok (.invokevirtual 62, 3) := by decide +kernel
theorem dX4_readLaw_11 : decode cX4_readLaw 11 = .ok (.ifCond .ne 5, 3) := by decide +kernel
theorem dX4_readLaw_14 : decode cX4_readLaw 14 = .ok (.iconst 0, 1) := by decide +kernel
theorem dX4_readLaw_15 : decode cX4_readLaw 15 = .ok (.ireturn, 1) := by decide +kernel
theorem dX4_readLaw_16 : decode cX4_readLaw 16 = .ok (.aload_n 0, 1) := by decide +kernel
theorem dX4_readLaw_17 : decode cX4_readLaw 17 = .ok (.bipush 59, 2) := by decide +kernel
theorem dX4_readLaw_19 : decode cX4_readLaw 19 = .ok (.invokevirtual 66, 3) := by decide +kernel
theorem dX4_readLaw_22 : decode cX4_readLaw 22 = .ok (.ifCond .ne 9, 3) := by decide +kernel
theorem dX4_readLaw_25 : decode cX4_readLaw 25 = .ok (.aload_n 0, 1) := by decide +kernel
theorem dX4_readLaw_26 : decode cX4_readLaw 26 = .ok (.iconst 1, 1) := by decide +kernel
theorem dX4_readLaw_27 : decode cX4_readLaw 27 = .ok (.invokevirtual 69, 3) := by decide +kernel
theorem dX4_readLaw_30 : decode cX4_readLaw 30 = .ok (.ireturn, 1) := by decide +kernel
theorem dX4_readLaw_31 : decode cX4_readLaw 31 = .ok (.aload_n 0, 1) := by decide +kernel
theorem dX4_readLaw_32 : decode cX4_readLaw 32 = .ok (.invokevirtual 54, 3) := by decide +kernel
theorem dX4_readLaw_35 : decode cX4_readLaw 35 = .ok (.sipush 256, 3) := by decide +kernel
theorem dX4_readLaw_38 : decode cX4_readLaw 38 = .ok (.if_icmp .eq 11, 3) := by decide +kernel
theorem dX4_readLaw_41 : decode cX4_readLaw 41 = .ok (.aload_n 0, 1) := by decide +kernel
theorem dX4_readLaw_42 : decode cX4_readLaw 42 = .ok (.iconst 1, 1) := by decide +kernel
theorem dX4_readLaw_43 : decode cX4_readLaw 43 = .ok (.invokevirtual 69, 3) := by decide +kernel
theorem dX4_readLaw_46 : decode cX4_readLaw 46 = .ok (.ifCond .eq 7, 3) := by decide +kernel
theorem dX4_readLaw_49 : decode cX4_readLaw 49 = .ok (.iconst 1, 1) := by decide +kernel
theorem dX4_readLaw_50 : decode cX4_readLaw 50 = .ok (.goto 4, 3) := by decide +kernel
theorem dX4_readLaw_53 : decode cX4_readLaw 53 = .ok (.iconst 0, 1) := by decide +kernel
theorem dX4_readLaw_54 : decode cX4_readLaw 54 = .ok (.ireturn, 1) := by decide +kernel
theorem dX4_readProgram_0 : decode cX4_readProgram 0 = .ok (.aload_n 0, 1) := by decide +kernel
theorem dX4_readProgram_1 : decode cX4_readProgram 1 = .ok (.aload_n 1, 1) := by decide +kernel
theorem dX4_readProgram_2 : decode cX4_readProgram 2 = .ok (.iload_n 2, 1) := by decide +kernel
theorem dX4_readProgram_3 : decode cX4_readProgram 3 = .ok (.iconst 0, 1) := by decide +kernel
theorem dX4_readProgram_4 : decode cX4_readProgram 4 = .ok (.invokevirtual 50, 3) := by decide +kernel
theorem dX4_readProgram_7 : decode cX4_readProgram 7 = .ok (.iconst 0, 1) := by decide +kernel
theorem dX4_readProgram_8 : decode cX4_readProgram 8 = .ok (.istore_n 3, 1) := by decide +kernel
theorem dX4_readProgram_9 : decode cX4_readProgram 9 = .ok (.iload_n 3, 1) := by decide +kernel
theorem dX4_readProgram_10 : decode cX4_readProgram 10 = .ok (.sipush 300, 3) := by decide +kernel
theorem dX4_readProgram_13 : decode cX4_readProgram 13 = .ok (.if_icmp .gt 29, 3) := by decide +kernel
theorem dX4_readProgram_16 : decode cX4_readProgram 16 = .ok (.aload_n 0, 1) := by decide +kernel
theorem dX4_readProgram_17 : decode cX4_readProgram 17 = .ok (.invokevirtual 54, 3) := by decide +kernel
theorem dX4_readProgram_20 : decode cX4_readProgram 20 = .ok (.sipush 256, 3) := by decide +kernel
theorem dX4_readProgram_23 : decode cX4_readProgram 23 = .ok (.if_icmp .eq 19, 3) := by decide +kernel
theorem dX4_readProgram_26 : decode cX4_readProgram 26 = .ok (.aload_n 0, 1) := by decide +kernel
theorem dX4_readProgram_27 : decode cX4_readProgram 27 = .ok (.iload_n 3, 1) := by decide +kernel
theorem dX4_readProgram_28 : decode cX4_readProgram 28 = .ok (.invokevirtual 58, 3) := by decide +kernel
theorem dX4_readProgram_31 : decode cX4_readProgram 31 = .ok (.ifCond .ne 5, 3) := by decide +kernel
theorem dX4_readProgram_34 : decode cX4_readProgram 34 = .ok (.iconst 0, 1) := by decide +kernel
theorem dX4_readProgram_35 : decode cX4_readProgram 35 = .ok (.ireturn, 1) := by decide +kernel
theorem dX4_readProgram_36 : decode cX4_readProgram 36 = .ok (.iinc 3 1, 3) := by decide +kernel
theorem dX4_readProgram_39 : decode cX4_readProgram 39 = .ok (.goto (-30), 3) := by decide +kernel
theorem dX4_readProgram_42 : decode cX4_readProgram 42 = .ok (.iconst 1, 1) := by decide +kernel
theorem dX4_readProgram_43 : decode cX4_readProgram 43 = .ok (.ireturn, 1) := by decide +kernel
set_option maxHeartbeats 4000000 in
set_option maxRecDepth 100000 in
theorem c_X4_here (l : Launch) (D : va_G) (K : Nat → ClassId) (b0 : Nat) (sa : Nat × Nat × Nat) (sz : Nat) (L : List Nat) (f0 : Nat → va_E) (Ψ : Nat → Nat) (hT : TW K (gof gX1) Ψ L f0) (rd : Nat) (hm_rd : rd ∈ L) (ht_rd : Ψ rd = 4) : Met l yX4_here (.code yX4_here cX4_here 1 (some .int) :: gt) { frames := 0, cells := 0, slots := 0, locals := 0 } (va_Pc [.ref rd] (hPre D K b0 sa sz L f0)) (hQ D K b0 (fun v9 u9 => ∃ r : Int32, v9 = some (.int r) ∧ u9 = ((gof gX1), Ψ, L, f0) ∧ (r = 256))) 0 0 (fun q => b0 ≤ q) := by
  refine t_of (own := RX4) (by decide) rfl ?_ (Nat.le_of_ble_eq_true rfl)
  intro p e s m below meth c ls C w hsz hr hlk hnm hl
  have hx := C.1
  have hb := C.2.1
  have hl : lv_has ls 1 [(0, .ref rd)] := hl
  have hR : rawk Ψ L f0 f0 := rawk.rf
  refine lv_aload_n hx hb dX4_here_0 rfl (lv_at hl 0 rfl) ?_
  refine t_geti C w hT hm_rd ht_rd (by decide) rfl cin_4 4 (by decide) rfl rfl gw_162 dX4_here_1 (fun x1 hg => ?_)
  obtain rfl : x1 = 0 := gof_at rfl hg
  refine lv_if_lt (tgt := 30) hx hb dX4_here_4 (by decide) (fun c0 => absurd c0 (by decide)) (fun _ => ?_)
  refine lv_aload_n hx hb dX4_here_7 rfl (lv_at hl 0 rfl) ?_
  refine t_geti C w hT hm_rd ht_rd (by decide) rfl cin_4 4 (by decide) rfl rfl gw_162 dX4_here_8 (fun x2 hg => ?_)
  obtain rfl : x2 = 0 := gof_at rfl hg
  refine lv_aload_n hx hb dX4_here_11 rfl (lv_at hl 0 rfl) ?_
  refine t_geti C w hT hm_rd ht_rd (by decide) rfl cin_4 3 (by decide) rfl rfl gw_161 dX4_here_12 (fun x3 hg => ?_)
  obtain rfl : x3 = 0 := gof_at rfl hg
  refine lv_icmp_ge (tgt := 30) hx hb dX4_here_15 (by decide) (fun _ => ?_) (fun c0 => absurd c0 (by decide))
  refine lv_sipush (v := 256) hx hb dX4_here_30 (by decide) ?_
  have n256 : (256 : Int32).toInt = 256 := by decide
  exact t_iret C hr hlk w ⟨_, rfl, rfl, rfl⟩ (by decide) (by decide) dX4_here_33
set_option maxHeartbeats 4000000 in
set_option maxRecDepth 100000 in
theorem c_X4_fail (l : Launch) (D : va_G) (K : Nat → ClassId) (b0 : Nat) (sa : Nat × Nat × Nat) (sz : Nat) (L : List Nat) (f0 : Nat → va_E) (Ψ : Nat → Nat) (hT : TW K (gof gX1) Ψ L f0) (rd : Nat) (hm_rd : rd ∈ L) (ht_rd : Ψ rd = 4) (hu_4 : ∀ b c : Nat, b ∈ L → c ∈ L → Ψ b = 4 → Ψ c = 4 → b = c) : Met l yX4_fail (.code yX4_fail cX4_fail 2 (some .boolean) :: gt) { frames := 0, cells := 0, slots := 0, locals := 0 } (va_Pc [.ref rd, .int 1] (hPre D K b0 sa sz L f0)) (hQ D K b0 (fun v9 u9 => ∃ (r : Int32) (f2 : Nat → va_E), v9 = some (.int r) ∧ u9 = ((gof ((410, 1) :: gX1)), Ψ, L, f2) ∧ TW K (gof ((410, 1) :: gX1)) Ψ L f2 ∧ rawk Ψ L f0 f2 ∧ (r = 0))) 0 0 (fun q => b0 ≤ q) := by
  refine t_of (own := RX4) (by decide) rfl ?_ (Nat.le_of_ble_eq_true rfl)
  intro p e s m below meth c ls C w hsz hr hlk hnm hl
  have hx := C.1
  have hb := C.2.1
  have hl : lv_has ls 2 [(0, .ref rd), (1, .int 1)] := hl
  have hR : rawk Ψ L f0 f0 := rawk.rf
  refine lv_aload_n hx hb dX4_fail_0 rfl (lv_at hl 0 rfl) ?_
  refine lv_iload_n hx hb dX4_fail_1 rfl (lv_at hl 1 rfl) ?_
  refine t_putS C w hT hm_rd ht_rd (fun b h1 h2 => hu_4 b rd h1 hm_rd h2 ht_rd) (by decide) rfl cin_4 tyX4 tyX4_ok nmX4 10 (by decide) rfl rfl rfl rfl rfl gw_168 dX4_fail_2 (fun f H locs w hT hR1 => ?_)
  have hT := hT.mono gof_set
  have hR := hR.tr hR1
  refine lv_aload_n hx hb dX4_fail_5 rfl (lv_at hl 0 rfl) ?_
  refine lv_aload_n hx hb dX4_fail_6 rfl (lv_at hl 0 rfl) ?_
  refine t_geti C w hT hm_rd ht_rd (by decide) rfl cin_4 4 (by decide) rfl rfl gw_162 dX4_fail_7 (fun x1 hg => ?_)
  obtain rfl : x1 = 0 := gof_at rfl hg
  refine lv_if_lt (tgt := 36) hx hb dX4_fail_10 (by decide) (fun c0 => absurd c0 (by decide)) (fun _ => ?_)
  refine lv_aload_n hx hb dX4_fail_13 rfl (lv_at hl 0 rfl) ?_
  refine t_geti C w hT hm_rd ht_rd (by decide) rfl cin_4 4 (by decide) rfl rfl gw_162 dX4_fail_14 (fun x2 hg => ?_)
  obtain rfl : x2 = 0 := gof_at rfl hg
  refine lv_aload_n hx hb dX4_fail_17 rfl (lv_at hl 0 rfl) ?_
  refine t_geti C w hT hm_rd ht_rd (by decide) rfl cin_4 3 (by decide) rfl rfl gw_161 dX4_fail_18 (fun x3 hg => ?_)
  obtain rfl : x3 = 0 := gof_at rfl hg
  refine lv_icmp_ge (tgt := 36) hx hb dX4_fail_21 (by decide) (fun _ => ?_) (fun c0 => absurd c0 (by decide))
  refine lv_aload_n hx hb dX4_fail_36 rfl (lv_at hl 0 rfl) ?_
  refine t_geti C w hT hm_rd ht_rd (by decide) rfl cin_4 5 (by decide) rfl rfl gw_163 dX4_fail_37 (fun x4 hg => ?_)
  obtain rfl : x4 = 0 := gof_at rfl hg
  refine t_puti C w hT hm_rd ht_rd (by decide) rfl cin_4 tyX4 tyX4_ok nmX4 11 (by decide) rfl rfl rfl rfl rfl (gof_no rfl) gw_170 dX4_fail_40 (fun f H locs w hT hR1 => ?_)
  have hR := hR.tr hR1
  refine lv_iconst (v := 0) hx hb dX4_fail_43 (by decide) ?_
  have n0 : (0 : Int32).toInt = 0 := by decide
  exact t_zret C hr hlk w (by decide) ⟨_, _, rfl, rfl, hT, hR, rfl⟩ (by decide) (by decide) dX4_fail_44
set_option maxHeartbeats 4000000 in
set_option maxRecDepth 100000 in
theorem c_X4_begin0 (l : Launch) (D : va_G) (K : Nat → ClassId) (b0 : Nat) (sa : Nat × Nat × Nat) (sz : Nat) (L : List Nat) (f0 : Nat → va_E) (Ψ : Nat → Nat) (hT : TW K (gof gX1) Ψ L f0) (rd : Nat) (hm_rd : rd ∈ L) (ht_rd : Ψ rd = 4) (ar : Nat) (hm_ar : ar ∈ L) (ht_ar : Ψ ar = 13) : Met l yX4_begin (.code yX4_begin cX4_begin 6 none :: gt) { frames := 1, cells := 0, slots := 0, locals := 21 } (va_Pc [.ref rd, .ref ar, .int 0, .int 0] (hPre D K b0 sa sz L f0)) (hQ D K b0 (fun v9 u9 => ∃ f2 : Nat → va_E, v9 = none ∧ u9 = ((gof gX1), Ψ, L, f2) ∧ TW K (gof gX1) Ψ L f2 ∧ rawk Ψ L f0 f2)) 0 0 (fun q => b0 ≤ q) := by
  refine t_of (own := RX4) (by decide) rfl ?_ (Nat.le_of_ble_eq_true rfl)
  intro p e s m below meth c ls C w hsz hr hlk hnm hl
  have hx := C.1
  have hb := C.2.1
  have hl : lv_has ls 6 [(0, .ref rd), (1, .ref ar), (2, .int 0), (3, .int 0)] := hl
  have hR : rawk Ψ L f0 f0 := rawk.rf
  refine lv_aload_n hx hb dX4_begin_0 rfl (lv_at hl 0 rfl) ?_
  refine lv_iconst (v := 0) hx hb dX4_begin_1 (by decide) ?_
  refine lv_iload_n hx hb dX4_begin_2 rfl (lv_at hl 2 rfl) ?_
  refine lv_aload_n hx hb dX4_begin_3 rfl (lv_at hl 1 rfl) ?_
  refine t_alen C w hT hm_ar ht_ar (by decide) rfl (v := 300) (by decide) dX4_begin_4 ?_
  refine va_mmin hx hb (C.2.2.1.trans hl.1.symm) C.2.2.2.1 (C.2.2.2.2 _ gw_732) (C.2.2.2.2 _ gw_409) (C.2.2.2.2 _ gw_15) (C.2.2.2.2 _ gw_410) (by decide) (Nat.le_of_ble_eq_true rfl) (by decide) (by decide) dX4_begin_5 ?_
  refine lv_topi (fun y1 ey1 => ?_)
  obtain rfl : y1 = 0 := ey1.trans (by decide)
  refine va_mmax hx hb (C.2.2.1.trans hl.1.symm) C.2.2.2.1 (C.2.2.2.2 _ gw_733) (C.2.2.2.2 _ gw_412) (C.2.2.2.2 _ gw_15) (C.2.2.2.2 _ gw_413) (by decide) (Nat.le_of_ble_eq_true rfl) (by decide) (by decide) dX4_begin_8 ?_
  refine lv_topi (fun y2 ey2 => ?_)
  obtain rfl : y2 = 0 := ey2.trans (by decide)
  refine t_puti C w hT hm_rd ht_rd (by decide) rfl cin_4 tyX4 tyX4_ok nmX4 5 (by decide) rfl rfl rfl rfl rfl (gof_is rfl) gw_163 dX4_begin_11 (fun f H locs w hT hR1 => ?_)
  have hR := hR.tr hR1
  refine lv_aload_n hx hb dX4_begin_14 rfl (lv_at hl 0 rfl) ?_
  refine lv_iload_n hx hb dX4_begin_15 rfl (lv_at hl 3 rfl) ?_
  refine t_puti C w hT hm_rd ht_rd (by decide) rfl cin_4 tyX4 tyX4_ok nmX4 9 (by decide) rfl rfl rfl (by decide) rfl (gof_no rfl) gw_167 dX4_begin_16 (fun f H locs w hT hR1 => ?_)
  have hR := hR.tr hR1
  refine lv_aload_n hx hb dX4_begin_19 rfl (lv_at hl 0 rfl) ?_
  refine lv_iconst (v := 0) hx hb dX4_begin_20 (by decide) ?_
  refine t_puti C w hT hm_rd ht_rd (by decide) rfl cin_4 tyX4 tyX4_ok nmX4 3 (by decide) rfl rfl rfl rfl rfl (gof_is rfl) gw_161 dX4_begin_21 (fun f H locs w hT hR1 => ?_)
  have hR := hR.tr hR1
  refine lv_aload_n hx hb dX4_begin_24 rfl (lv_at hl 0 rfl) ?_
  refine lv_iconst (v := 0) hx hb dX4_begin_25 (by decide) ?_
  refine t_puti C w hT hm_rd ht_rd (by decide) rfl cin_4 tyX4 tyX4_ok nmX4 4 (by decide) rfl rfl rfl rfl rfl (gof_is rfl) gw_162 dX4_begin_26 (fun f H locs w hT hR1 => ?_)
  have hR := hR.tr hR1
  refine lv_aload_n hx hb dX4_begin_29 rfl (lv_at hl 0 rfl) ?_
  refine lv_iconst (v := 0) hx hb dX4_begin_30 (by decide) ?_
  refine t_puti C w hT hm_rd ht_rd (by decide) rfl cin_4 tyX4 tyX4_ok nmX4 7 (by decide) rfl rfl rfl rfl rfl (gof_is rfl) gw_165 dX4_begin_31 (fun f H locs w hT hR1 => ?_)
  have hR := hR.tr hR1
  refine lv_aload_n hx hb dX4_begin_34 rfl (lv_at hl 0 rfl) ?_
  refine lv_iconst (v := 0) hx hb dX4_begin_35 (by decide) ?_
  refine t_puti C w hT hm_rd ht_rd (by decide) rfl cin_4 tyX4 tyX4_ok nmX4 8 (by decide) rfl rfl rfl rfl rfl (gof_is rfl) gw_166 dX4_begin_36 (fun f H locs w hT hR1 => ?_)
  have hR := hR.tr hR1
  refine lv_aload_n hx hb dX4_begin_39 rfl (lv_at hl 0 rfl) ?_
  refine lv_iconst (v := 0) hx hb dX4_begin_40 (by decide) ?_
  refine t_puti C w hT hm_rd ht_rd (by decide) rfl cin_4 tyX4 tyX4_ok nmX4 10 (by decide) rfl rfl rfl rfl rfl (gof_no rfl) gw_168 dX4_begin_41 (fun f H locs w hT hR1 => ?_)
  have hR := hR.tr hR1
  refine lv_aload_n hx hb dX4_begin_44 rfl (lv_at hl 0 rfl) ?_
  refine lv_iconst (v := (-1)) hx hb dX4_begin_45 (by decide) ?_
  refine t_puti C w hT hm_rd ht_rd (by decide) rfl cin_4 tyX4 tyX4_ok nmX4 11 (by decide) rfl rfl rfl rfl rfl (gof_no rfl) gw_170 dX4_begin_46 (fun f H locs w hT hR1 => ?_)
  have hR := hR.tr hR1
  refine lv_iconst (v := 0) hx hb dX4_begin_49 (by decide) ?_
  refine lv_istore (lv' := [(4, .int 0), (0, .ref rd), (1, .ref ar), (2, .int 0), (3, .int 0)]) hx hb dX4_begin_50 hl (by decide) rfl (fun ls hl => ?_)
  refine lv_iconst (v := 0) hx hb dX4_begin_52 (by decide) ?_
  refine lv_istore (lv' := [(5, .int 0), (4, .int 0), (0, .ref rd), (1, .ref ar), (2, .int 0), (3, .int 0)]) hx hb dX4_begin_53 hl (by decide) rfl (fun ls hl => ?_)
  refine lv_iload hx hb dX4_begin_55 (lv_at hl 0 rfl) ?_
  refine lv_aload_n hx hb dX4_begin_57 rfl (lv_at hl 2 rfl) ?_
  refine t_geti C w hT hm_rd ht_rd (by decide) rfl cin_4 5 (by decide) rfl rfl gw_163 dX4_begin_58 (fun x3 hg => ?_)
  obtain rfl : x3 = 0 := gof_at rfl hg
  refine lv_icmp_ge (tgt := 88) hx hb dX4_begin_61 (by decide) (fun _ => ?_) (fun c0 => absurd c0 (by decide))
  exact t_vret C hr hlk w ⟨_, rfl, rfl, hT, hR⟩ (by decide) (by decide) dX4_begin_88
set_option maxHeartbeats 4000000 in
set_option maxRecDepth 100000 in
theorem c_X4_begin1 (l : Launch) (D : va_G) (K : Nat → ClassId) (b0 : Nat) (sa : Nat × Nat × Nat) (sz : Nat) (L : List Nat) (f0 : Nat → va_E) (Ψ : Nat → Nat) (hT : TW K (gof gX1) Ψ L f0) (rd : Nat) (hm_rd : rd ∈ L) (ht_rd : Ψ rd = 4) (ar : Nat) (hm_ar : ar ∈ L) (ht_ar : Ψ ar = 13) : Met l yX4_begin (.code yX4_begin cX4_begin 6 none :: gt) { frames := 1, cells := 0, slots := 0, locals := 21 } (va_Pc [.ref rd, .ref ar, .int 0, .int 1] (hPre D K b0 sa sz L f0)) (hQ D K b0 (fun v9 u9 => ∃ f2 : Nat → va_E, v9 = none ∧ u9 = ((gof gX1), Ψ, L, f2) ∧ TW K (gof gX1) Ψ L f2 ∧ rawk Ψ L f0 f2)) 0 0 (fun q => b0 ≤ q) := by
  refine t_of (own := RX4) (by decide) rfl ?_ (Nat.le_of_ble_eq_true rfl)
  intro p e s m below meth c ls C w hsz hr hlk hnm hl
  have hx := C.1
  have hb := C.2.1
  have hl : lv_has ls 6 [(0, .ref rd), (1, .ref ar), (2, .int 0), (3, .int 1)] := hl
  have hR : rawk Ψ L f0 f0 := rawk.rf
  refine lv_aload_n hx hb dX4_begin_0 rfl (lv_at hl 0 rfl) ?_
  refine lv_iconst (v := 0) hx hb dX4_begin_1 (by decide) ?_
  refine lv_iload_n hx hb dX4_begin_2 rfl (lv_at hl 2 rfl) ?_
  refine lv_aload_n hx hb dX4_begin_3 rfl (lv_at hl 1 rfl) ?_
  refine t_alen C w hT hm_ar ht_ar (by decide) rfl (v := 300) (by decide) dX4_begin_4 ?_
  refine va_mmin hx hb (C.2.2.1.trans hl.1.symm) C.2.2.2.1 (C.2.2.2.2 _ gw_732) (C.2.2.2.2 _ gw_409) (C.2.2.2.2 _ gw_15) (C.2.2.2.2 _ gw_410) (by decide) (Nat.le_of_ble_eq_true rfl) (by decide) (by decide) dX4_begin_5 ?_
  refine lv_topi (fun y1 ey1 => ?_)
  obtain rfl : y1 = 0 := ey1.trans (by decide)
  refine va_mmax hx hb (C.2.2.1.trans hl.1.symm) C.2.2.2.1 (C.2.2.2.2 _ gw_733) (C.2.2.2.2 _ gw_412) (C.2.2.2.2 _ gw_15) (C.2.2.2.2 _ gw_413) (by decide) (Nat.le_of_ble_eq_true rfl) (by decide) (by decide) dX4_begin_8 ?_
  refine lv_topi (fun y2 ey2 => ?_)
  obtain rfl : y2 = 0 := ey2.trans (by decide)
  refine t_puti C w hT hm_rd ht_rd (by decide) rfl cin_4 tyX4 tyX4_ok nmX4 5 (by decide) rfl rfl rfl rfl rfl (gof_is rfl) gw_163 dX4_begin_11 (fun f H locs w hT hR1 => ?_)
  have hR := hR.tr hR1
  refine lv_aload_n hx hb dX4_begin_14 rfl (lv_at hl 0 rfl) ?_
  refine lv_iload_n hx hb dX4_begin_15 rfl (lv_at hl 3 rfl) ?_
  refine t_puti C w hT hm_rd ht_rd (by decide) rfl cin_4 tyX4 tyX4_ok nmX4 9 (by decide) rfl rfl rfl (by decide) rfl (gof_no rfl) gw_167 dX4_begin_16 (fun f H locs w hT hR1 => ?_)
  have hR := hR.tr hR1
  refine lv_aload_n hx hb dX4_begin_19 rfl (lv_at hl 0 rfl) ?_
  refine lv_iconst (v := 0) hx hb dX4_begin_20 (by decide) ?_
  refine t_puti C w hT hm_rd ht_rd (by decide) rfl cin_4 tyX4 tyX4_ok nmX4 3 (by decide) rfl rfl rfl rfl rfl (gof_is rfl) gw_161 dX4_begin_21 (fun f H locs w hT hR1 => ?_)
  have hR := hR.tr hR1
  refine lv_aload_n hx hb dX4_begin_24 rfl (lv_at hl 0 rfl) ?_
  refine lv_iconst (v := 0) hx hb dX4_begin_25 (by decide) ?_
  refine t_puti C w hT hm_rd ht_rd (by decide) rfl cin_4 tyX4 tyX4_ok nmX4 4 (by decide) rfl rfl rfl rfl rfl (gof_is rfl) gw_162 dX4_begin_26 (fun f H locs w hT hR1 => ?_)
  have hR := hR.tr hR1
  refine lv_aload_n hx hb dX4_begin_29 rfl (lv_at hl 0 rfl) ?_
  refine lv_iconst (v := 0) hx hb dX4_begin_30 (by decide) ?_
  refine t_puti C w hT hm_rd ht_rd (by decide) rfl cin_4 tyX4 tyX4_ok nmX4 7 (by decide) rfl rfl rfl rfl rfl (gof_is rfl) gw_165 dX4_begin_31 (fun f H locs w hT hR1 => ?_)
  have hR := hR.tr hR1
  refine lv_aload_n hx hb dX4_begin_34 rfl (lv_at hl 0 rfl) ?_
  refine lv_iconst (v := 0) hx hb dX4_begin_35 (by decide) ?_
  refine t_puti C w hT hm_rd ht_rd (by decide) rfl cin_4 tyX4 tyX4_ok nmX4 8 (by decide) rfl rfl rfl rfl rfl (gof_is rfl) gw_166 dX4_begin_36 (fun f H locs w hT hR1 => ?_)
  have hR := hR.tr hR1
  refine lv_aload_n hx hb dX4_begin_39 rfl (lv_at hl 0 rfl) ?_
  refine lv_iconst (v := 0) hx hb dX4_begin_40 (by decide) ?_
  refine t_puti C w hT hm_rd ht_rd (by decide) rfl cin_4 tyX4 tyX4_ok nmX4 10 (by decide) rfl rfl rfl rfl rfl (gof_no rfl) gw_168 dX4_begin_41 (fun f H locs w hT hR1 => ?_)
  have hR := hR.tr hR1
  refine lv_aload_n hx hb dX4_begin_44 rfl (lv_at hl 0 rfl) ?_
  refine lv_iconst (v := (-1)) hx hb dX4_begin_45 (by decide) ?_
  refine t_puti C w hT hm_rd ht_rd (by decide) rfl cin_4 tyX4 tyX4_ok nmX4 11 (by decide) rfl rfl rfl rfl rfl (gof_no rfl) gw_170 dX4_begin_46 (fun f H locs w hT hR1 => ?_)
  have hR := hR.tr hR1
  refine lv_iconst (v := 0) hx hb dX4_begin_49 (by decide) ?_
  refine lv_istore (lv' := [(4, .int 0), (0, .ref rd), (1, .ref ar), (2, .int 0), (3, .int 1)]) hx hb dX4_begin_50 hl (by decide) rfl (fun ls hl => ?_)
  refine lv_iconst (v := 0) hx hb dX4_begin_52 (by decide) ?_
  refine lv_istore (lv' := [(5, .int 0), (4, .int 0), (0, .ref rd), (1, .ref ar), (2, .int 0), (3, .int 1)]) hx hb dX4_begin_53 hl (by decide) rfl (fun ls hl => ?_)
  refine lv_iload hx hb dX4_begin_55 (lv_at hl 0 rfl) ?_
  refine lv_aload_n hx hb dX4_begin_57 rfl (lv_at hl 2 rfl) ?_
  refine t_geti C w hT hm_rd ht_rd (by decide) rfl cin_4 5 (by decide) rfl rfl gw_163 dX4_begin_58 (fun x3 hg => ?_)
  obtain rfl : x3 = 0 := gof_at rfl hg
  refine lv_icmp_ge (tgt := 88) hx hb dX4_begin_61 (by decide) (fun _ => ?_) (fun c0 => absurd c0 (by decide))
  exact t_vret C hr hlk w ⟨_, rfl, rfl, hT, hR⟩ (by decide) (by decide) dX4_begin_88
set_option maxHeartbeats 4000000 in
set_option maxRecDepth 100000 in
theorem c_X4_unit (l : Launch) (D : va_G) (K : Nat → ClassId) (b0 : Nat) (sa : Nat × Nat × Nat) (sz : Nat) (L : List Nat) (f0 : Nat → va_E) (Ψ : Nat → Nat) (hT : TW K (gof gX1) Ψ L f0) (rd : Nat) (hm_rd : rd ∈ L) (ht_rd : Ψ rd = 4) (hu_4 : ∀ b c : Nat, b ∈ L → c ∈ L → Ψ b = 4 → Ψ c = 4 → b = c) : Met l yX4_unit (.code yX4_unit cX4_unit 2 (some .boolean) :: gt) { frames := 1, cells := 0, slots := 0, locals := 22 } (va_Pc [.ref rd] (hPre D K b0 sa sz L f0)) (hQ D K b0 (fun v9 u9 => ∃ (r : Int32) (f2 : Nat → va_E), v9 = some (.int r) ∧ u9 = ((gof ((410, 1) :: gX1)), Ψ, L, f2) ∧ TW K (gof ((410, 1) :: gX1)) Ψ L f2 ∧ rawk Ψ L f0 f2 ∧ (r = 0))) 0 0 (fun q => b0 ≤ q) := by
  refine t_of (own := RX4) (by decide) rfl ?_ (Nat.le_of_ble_eq_true rfl)
  intro p e s m below meth c ls C w hsz hr hlk hnm hl
  have hx := C.1
  have hb := C.2.1
  have hl : lv_has ls 2 [(0, .ref rd)] := hl
  have hR : rawk Ψ L f0 f0 := rawk.rf
  refine lv_aload_n hx hb dX4_unit_0 rfl (lv_at hl 0 rfl) ?_
  refine t_callV (n := 0) C w hT hm_rd ht_rd (by decide) rfl rfl (c_X4_here l D K b0 sa _ L _ Ψ hT rd hm_rd ht_rd) gw_834 gw_831 gw_832 gw_833 gw_5 ⟨by decide, by decide, by decide +kernel⟩ rfl rfl ⟨by decide, by decide⟩ rfl hl.1 rfl (Nat.le_of_ble_eq_true rfl) dX4_unit_1 ⟨by decide, by decide⟩ (fun v u H locs hp w => ?_)
  obtain ⟨r1, rfl, rfl, hrr1⟩ := hp
  obtain rfl := hrr1
  refine lv_istore_n (lv' := [(1, .int 256), (0, .ref rd)]) hx hb dX4_unit_4 rfl hl (by decide) rfl (fun ls hl => ?_)
  refine lv_iload_n hx hb dX4_unit_5 rfl (lv_at hl 0 rfl) ?_
  refine lv_sipush (v := 257) hx hb dX4_unit_6 (by decide) ?_
  refine lv_icmp_ne (tgt := 17) hx hb dX4_unit_9 (by decide) (fun _ => ?_) (fun c0 => absurd c0 (by decide))
  refine lv_iload_n hx hb dX4_unit_17 rfl (lv_at hl 0 rfl) ?_
  refine lv_sipush (v := 270) hx hb dX4_unit_18 (by decide) ?_
  refine lv_aload_n hx hb dX4_unit_21 rfl (lv_at hl 1 rfl) ?_
  refine t_geti C w hT hm_rd ht_rd (by decide) rfl cin_4 9 (by decide) rfl rfl gw_167 dX4_unit_22 (fun x2 hg => ?_)
  have n0 : (0 : Int32).toInt = 0 := by decide
  refine lv_if_eq (tgt := 34) hx hb dX4_unit_25 (by decide) (fun c3 => ?_) (fun c3 => ?_)
  · have c3 := eq_toInt c3
    refine lv_sipush (v := 275) hx hb dX4_unit_34 (by decide) ?_
    have n256 : (256 : Int32).toInt = 256 := by decide
    have n270 : (270 : Int32).toInt = 270 := by decide
    have n275 : (275 : Int32).toInt = 275 := by decide
    refine t_callSN (host := RX6) (n := 3) C w (c_X6_within l D K b0 sa _ L _ Ψ (gof gX1) hT 256 270 275) gw_376 (List.mem_of_getElem? (i := 7) rfl) gw_375 gw_1 ⟨by decide, by decide, by decide +kernel⟩ rfl rfl ⟨by decide, by decide⟩ rfl hl.1 rfl (Nat.le_of_ble_eq_true rfl) dX4_unit_37 ⟨by decide, by decide⟩ (fun v u H locs hp w => ?_)
    obtain ⟨r4, rfl, rfl, hrr4⟩ := hp
    rcases hrr4 with ⟨rfl, hf0_r4, hf1_r4⟩ | ⟨rfl, hf0_r4⟩
    · exfalso; omega
    ·
      refine lv_if_eq (tgt := 64) hx hb dX4_unit_40 (by decide) (fun _ => ?_) (fun c0 => absurd c0 (by decide))
      refine lv_iload_n hx hb dX4_unit_64 rfl (lv_at hl 0 rfl) ?_
      refine lv_bipush (v := 40) hx hb dX4_unit_65 (by decide) ?_
      refine lv_icmp_ne (tgt := 101) hx hb dX4_unit_67 (by decide) (fun _ => ?_) (fun c0 => absurd c0 (by decide))
      refine lv_iload_n hx hb dX4_unit_101 rfl (lv_at hl 0 rfl) ?_
      refine lv_sipush (v := 267) hx hb dX4_unit_102 (by decide) ?_
      refine lv_icmp_eq (tgt := 115) hx hb dX4_unit_105 (by decide) (fun c0 => absurd c0 (by decide)) (fun _ => ?_)
      refine lv_iload_n hx hb dX4_unit_108 rfl (lv_at hl 0 rfl) ?_
      refine lv_sipush (v := 268) hx hb dX4_unit_109 (by decide) ?_
      refine lv_icmp_ne (tgt := 136) hx hb dX4_unit_112 (by decide) (fun _ => ?_) (fun c0 => absurd c0 (by decide))
      refine lv_aload_n hx hb dX4_unit_136 rfl (lv_at hl 1 rfl) ?_
      refine lv_iconst (v := 1) hx hb dX4_unit_137 (by decide) ?_
      refine t_callV (n := 1) C w hT hm_rd ht_rd (by decide) rfl rfl (c_X4_fail l D K b0 sa _ L _ Ψ hT rd hm_rd ht_rd hu_4) gw_846 gw_843 gw_844 gw_845 gw_5 ⟨by decide, by decide, by decide +kernel⟩ rfl rfl ⟨by decide, by decide⟩ rfl hl.1 rfl (Nat.le_of_ble_eq_true rfl) dX4_unit_138 ⟨by decide, by decide⟩ (fun v u H locs hp w => ?_)
      obtain ⟨r5, f2, rfl, rfl, hT2, hR1, hrr5⟩ := hp
      have hR := hR.tr hR1
      clear hT
      have hT := hT2
      clear hT2
      generalize f2 = f at w hT hR
      obtain rfl := hrr5
      exact t_zret C hr hlk w (by decide) ⟨_, _, rfl, rfl, hT, hR, rfl⟩ (by decide) (by decide) dX4_unit_141
  · have c3 := ne_toInt c3
    refine lv_sipush (v := 276) hx hb dX4_unit_28 (by decide) ?_
    refine lv_goto (tgt := 37) hx hb dX4_unit_31 (by decide) ?_
    have n256 : (256 : Int32).toInt = 256 := by decide
    have n270 : (270 : Int32).toInt = 270 := by decide
    have n276 : (276 : Int32).toInt = 276 := by decide
    refine t_callSN (host := RX6) (n := 3) C w (c_X6_within l D K b0 sa _ L _ Ψ (gof gX1) hT 256 270 276) gw_376 (List.mem_of_getElem? (i := 7) rfl) gw_375 gw_1 ⟨by decide, by decide, by decide +kernel⟩ rfl rfl ⟨by decide, by decide⟩ rfl hl.1 rfl (Nat.le_of_ble_eq_true rfl) dX4_unit_37 ⟨by decide, by decide⟩ (fun v u H locs hp w => ?_)
    obtain ⟨r6, rfl, rfl, hrr6⟩ := hp
    rcases hrr6 with ⟨rfl, hf0_r6, hf1_r6⟩ | ⟨rfl, hf0_r6⟩
    · exfalso; omega
    ·
      refine lv_if_eq (tgt := 64) hx hb dX4_unit_40 (by decide) (fun _ => ?_) (fun c0 => absurd c0 (by decide))
      refine lv_iload_n hx hb dX4_unit_64 rfl (lv_at hl 0 rfl) ?_
      refine lv_bipush (v := 40) hx hb dX4_unit_65 (by decide) ?_
      refine lv_icmp_ne (tgt := 101) hx hb dX4_unit_67 (by decide) (fun _ => ?_) (fun c0 => absurd c0 (by decide))
      refine lv_iload_n hx hb dX4_unit_101 rfl (lv_at hl 0 rfl) ?_
      refine lv_sipush (v := 267) hx hb dX4_unit_102 (by decide) ?_
      refine lv_icmp_eq (tgt := 115) hx hb dX4_unit_105 (by decide) (fun c0 => absurd c0 (by decide)) (fun _ => ?_)
      refine lv_iload_n hx hb dX4_unit_108 rfl (lv_at hl 0 rfl) ?_
      refine lv_sipush (v := 268) hx hb dX4_unit_109 (by decide) ?_
      refine lv_icmp_ne (tgt := 136) hx hb dX4_unit_112 (by decide) (fun _ => ?_) (fun c0 => absurd c0 (by decide))
      refine lv_aload_n hx hb dX4_unit_136 rfl (lv_at hl 1 rfl) ?_
      refine lv_iconst (v := 1) hx hb dX4_unit_137 (by decide) ?_
      refine t_callV (n := 1) C w hT hm_rd ht_rd (by decide) rfl rfl (c_X4_fail l D K b0 sa _ L _ Ψ hT rd hm_rd ht_rd hu_4) gw_846 gw_843 gw_844 gw_845 gw_5 ⟨by decide, by decide, by decide +kernel⟩ rfl rfl ⟨by decide, by decide⟩ rfl hl.1 rfl (Nat.le_of_ble_eq_true rfl) dX4_unit_138 ⟨by decide, by decide⟩ (fun v u H locs hp w => ?_)
      obtain ⟨r7, f2, rfl, rfl, hT2, hR1, hrr7⟩ := hp
      have hR := hR.tr hR1
      clear hT
      have hT := hT2
      clear hT2
      generalize f2 = f at w hT hR
      obtain rfl := hrr7
      exact t_zret C hr hlk w (by decide) ⟨_, _, rfl, rfl, hT, hR, rfl⟩ (by decide) (by decide) dX4_unit_141
set_option maxHeartbeats 4000000 in
set_option maxRecDepth 100000 in
theorem c_X4_sum (l : Launch) (D : va_G) (K : Nat → ClassId) (b0 : Nat) (sa : Nat × Nat × Nat) (sz : Nat) (L : List Nat) (f0 : Nat → va_E) (Ψ : Nat → Nat) (hT : TW K (gof gX1) Ψ L f0) (rd : Nat) (hm_rd : rd ∈ L) (ht_rd : Ψ rd = 4) (hu_4 : ∀ b c : Nat, b ∈ L → c ∈ L → Ψ b = 4 → Ψ c = 4 → b = c) : Met l yX4_sum (.code yX4_sum cX4_sum 4 (some .boolean) :: gt) { frames := 2, cells := 0, slots := 0, locals := 43 } (va_Pc [.ref rd] (hPre D K b0 sa sz L f0)) (hQ D K b0 (fun v9 u9 => ∃ (r : Int32) (f2 : Nat → va_E), v9 = some (.int r) ∧ u9 = ((gof ((410, 1) :: gX1)), Ψ, L, f2) ∧ TW K (gof ((410, 1) :: gX1)) Ψ L f2 ∧ rawk Ψ L f0 f2 ∧ (r = 0))) 0 0 (fun q => b0 ≤ q) := by
  refine t_of (own := RX4) (by decide) rfl ?_ (Nat.le_of_ble_eq_true rfl)
  intro p e s m below meth c ls C w hsz hr hlk hnm hl
  have hx := C.1
  have hb := C.2.1
  have hl : lv_has ls 4 [(0, .ref rd)] := hl
  have hR : rawk Ψ L f0 f0 := rawk.rf
  refine lv_iconst (v := (-1)) hx hb dX4_sum_0 (by decide) ?_
  refine lv_istore_n (lv' := [(1, .int (-1)), (0, .ref rd)]) hx hb dX4_sum_1 rfl hl (by decide) rfl (fun ls hl => ?_)
  refine lv_iconst (v := (-1)) hx hb dX4_sum_2 (by decide) ?_
  refine lv_istore_n (lv' := [(2, .int (-1)), (1, .int (-1)), (0, .ref rd)]) hx hb dX4_sum_3 rfl hl (by decide) rfl (fun ls hl => ?_)
  refine lv_iconst (v := 0) hx hb dX4_sum_4 (by decide) ?_
  refine lv_istore_n (lv' := [(3, .int 0), (2, .int (-1)), (1, .int (-1)), (0, .ref rd)]) hx hb dX4_sum_5 rfl hl (by decide) rfl (fun ls hl => ?_)
  refine lv_iload_n hx hb dX4_sum_6 rfl (lv_at hl 0 rfl) ?_
  refine lv_sipush (v := 300) hx hb dX4_sum_7 (by decide) ?_
  refine lv_icmp_gt (tgt := 124) hx hb dX4_sum_10 (by decide) (fun c0 => absurd c0 (by decide)) (fun _ => ?_)
  refine lv_aload_n hx hb dX4_sum_13 rfl (lv_at hl 3 rfl) ?_
  refine t_callV (n := 0) C w hT hm_rd ht_rd (by decide) rfl rfl (c_X4_unit l D K b0 sa _ L _ Ψ hT rd hm_rd ht_rd hu_4) gw_866 gw_863 gw_865 gs_12 gw_5 ⟨by decide, by decide, by decide +kernel⟩ rfl rfl ⟨by decide, by decide⟩ rfl hl.1 rfl (Nat.le_of_ble_eq_true rfl) dX4_sum_14 ⟨by decide, by decide⟩ (fun v u H locs hp w => ?_)
  obtain ⟨r1, f2, rfl, rfl, hT2, hR1, hrr1⟩ := hp
  have hR := hR.tr hR1
  clear hT
  have hT := hT2
  clear hT2
  generalize f2 = f at w hT hR
  obtain rfl := hrr1
  refine lv_if_ne (tgt := 22) hx hb dX4_sum_17 (by decide) (fun c0 => absurd c0 (by decide)) (fun _ => ?_)
  refine lv_iconst (v := 0) hx hb dX4_sum_20 (by decide) ?_
  have n0 : (0 : Int32).toInt = 0 := by decide
  exact t_zret C hr hlk w (by decide) ⟨_, _, rfl, rfl, hT, hR, rfl⟩ (by decide) (by decide) dX4_sum_21
set_option maxHeartbeats 4000000 in
set_option maxRecDepth 100000 in
theorem c_X4_claim (l : Launch) (D : va_G) (K : Nat → ClassId) (b0 : Nat) (sa : Nat × Nat × Nat) (sz : Nat) (L : List Nat) (f0 : Nat → va_E) (Ψ : Nat → Nat) (hT : TW K (gof gX1) Ψ L f0) (rd : Nat) (hm_rd : rd ∈ L) (ht_rd : Ψ rd = 4) (hu_4 : ∀ b c : Nat, b ∈ L → c ∈ L → Ψ b = 4 → Ψ c = 4 → b = c) : Met l yX4_claim (.code yX4_claim cX4_claim 2 (some .boolean) :: gt) { frames := 3, cells := 0, slots := 0, locals := 66 } (va_Pc [.ref rd] (hPre D K b0 sa sz L f0)) (hQ D K b0 (fun v9 u9 => ∃ (r : Int32) (f2 : Nat → va_E), v9 = some (.int r) ∧ u9 = ((gof ((410, 1) :: gX1)), Ψ, L, f2) ∧ TW K (gof ((410, 1) :: gX1)) Ψ L f2 ∧ rawk Ψ L f0 f2 ∧ (r = 0))) 0 0 (fun q => b0 ≤ q) := by
  refine t_of (own := RX4) (by decide) rfl ?_ (Nat.le_of_ble_eq_true rfl)
  intro p e s m below meth c ls C w hsz hr hlk hnm hl
  have hx := C.1
  have hb := C.2.1
  have hl : lv_has ls 2 [(0, .ref rd)] := hl
  have hR : rawk Ψ L f0 f0 := rawk.rf
  refine lv_aload_n hx hb dX4_claim_0 rfl (lv_at hl 0 rfl) ?_
  refine t_callV (n := 0) C w hT hm_rd ht_rd (by decide) rfl rfl (c_X4_here l D K b0 sa _ L _ Ψ hT rd hm_rd ht_rd) gw_834 gw_831 gw_832 gw_833 gw_5 ⟨by decide, by decide, by decide +kernel⟩ rfl rfl ⟨by decide, by decide⟩ rfl hl.1 rfl (Nat.le_of_ble_eq_true rfl) dX4_claim_1 ⟨by decide, by decide⟩ (fun v u H locs hp w => ?_)
  obtain ⟨r1, rfl, rfl, hrr1⟩ := hp
  obtain rfl := hrr1
  refine lv_sipush (v := 266) hx hb dX4_claim_4 (by decide) ?_
  refine lv_icmp_ne (tgt := 15) hx hb dX4_claim_7 (by decide) (fun _ => ?_) (fun c0 => absurd c0 (by decide))
  refine lv_aload_n hx hb dX4_claim_15 rfl (lv_at hl 0 rfl) ?_
  refine t_callV (n := 0) C w hT hm_rd ht_rd (by decide) rfl rfl (c_X4_here l D K b0 sa _ L _ Ψ hT rd hm_rd ht_rd) gw_834 gw_831 gw_832 gw_833 gw_5 ⟨by decide, by decide, by decide +kernel⟩ rfl rfl ⟨by decide, by decide⟩ rfl hl.1 rfl (Nat.le_of_ble_eq_true rfl) dX4_claim_16 ⟨by decide, by decide⟩ (fun v u H locs hp w => ?_)
  obtain ⟨r2, rfl, rfl, hrr2⟩ := hp
  obtain rfl := hrr2
  refine lv_bipush (v := 91) hx hb dX4_claim_19 (by decide) ?_
  refine lv_icmp_ne (tgt := 55) hx hb dX4_claim_21 (by decide) (fun _ => ?_) (fun c0 => absurd c0 (by decide))
  refine lv_aload_n hx hb dX4_claim_55 rfl (lv_at hl 0 rfl) ?_
  refine t_callV (n := 0) C w hT hm_rd ht_rd (by decide) rfl rfl (c_X4_sum l D K b0 sa _ L _ Ψ hT rd hm_rd ht_rd hu_4) gw_862 gw_859 gw_861 gs_11 gw_5 ⟨by decide, by decide, by decide +kernel⟩ rfl rfl ⟨by decide, by decide⟩ rfl hl.1 rfl (Nat.le_of_ble_eq_true rfl) dX4_claim_56 ⟨by decide, by decide⟩ (fun v u H locs hp w => ?_)
  obtain ⟨r3, f2, rfl, rfl, hT2, hR1, hrr3⟩ := hp
  have hR := hR.tr hR1
  clear hT
  have hT := hT2
  clear hT2
  generalize f2 = f at w hT hR
  obtain rfl := hrr3
  refine lv_if_ne (tgt := 64) hx hb dX4_claim_59 (by decide) (fun c0 => absurd c0 (by decide)) (fun _ => ?_)
  refine lv_iconst (v := 0) hx hb dX4_claim_62 (by decide) ?_
  have n0 : (0 : Int32).toInt = 0 := by decide
  exact t_zret C hr hlk w (by decide) ⟨_, _, rfl, rfl, hT, hR, rfl⟩ (by decide) (by decide) dX4_claim_63
set_option maxHeartbeats 4000000 in
set_option maxRecDepth 100000 in
theorem c_X4_condition (l : Launch) (D : va_G) (K : Nat → ClassId) (b0 : Nat) (sa : Nat × Nat × Nat) (sz : Nat) (L : List Nat) (f0 : Nat → va_E) (Ψ : Nat → Nat) (hT : TW K (gof gX1) Ψ L f0) (rd : Nat) (hm_rd : rd ∈ L) (ht_rd : Ψ rd = 4) (hu_4 : ∀ b c : Nat, b ∈ L → c ∈ L → Ψ b = 4 → Ψ c = 4 → b = c) : Met l yX4_condition (.code yX4_condition cX4_condition 4 (some .boolean) :: gt) { frames := 4, cells := 0, slots := 0, locals := 87 } (va_Pc [.ref rd] (hPre D K b0 sa sz L f0)) (hQ D K b0 (fun v9 u9 => ∃ (r : Int32) (f2 : Nat → va_E), v9 = some (.int r) ∧ u9 = ((gof ((410, 1) :: gX1)), Ψ, L, f2) ∧ TW K (gof ((410, 1) :: gX1)) Ψ L f2 ∧ rawk Ψ L f0 f2 ∧ (r = 0))) 0 0 (fun q => b0 ≤ q) := by
  refine t_of (own := RX4) (by decide) rfl ?_ (Nat.le_of_ble_eq_true rfl)
  intro p e s m below meth c ls C w hsz hr hlk hnm hl
  have hx := C.1
  have hb := C.2.1
  have hl : lv_has ls 4 [(0, .ref rd)] := hl
  have hR : rawk Ψ L f0 f0 := rawk.rf
  refine lv_iconst (v := 0) hx hb dX4_condition_0 (by decide) ?_
  refine lv_istore_n (lv' := [(1, .int 0), (0, .ref rd)]) hx hb dX4_condition_1 rfl hl (by decide) rfl (fun ls hl => ?_)
  refine lv_iconst (v := 0) hx hb dX4_condition_2 (by decide) ?_
  refine lv_istore_n (lv' := [(2, .int 0), (1, .int 0), (0, .ref rd)]) hx hb dX4_condition_3 rfl hl (by decide) rfl (fun ls hl => ?_)
  refine lv_iconst (v := 0) hx hb dX4_condition_4 (by decide) ?_
  refine lv_istore_n (lv' := [(3, .int 0), (2, .int 0), (1, .int 0), (0, .ref rd)]) hx hb dX4_condition_5 rfl hl (by decide) rfl (fun ls hl => ?_)
  refine lv_iload_n hx hb dX4_condition_6 rfl (lv_at hl 0 rfl) ?_
  refine lv_sipush (v := 300) hx hb dX4_condition_7 (by decide) ?_
  refine lv_icmp_gt (tgt := 76) hx hb dX4_condition_10 (by decide) (fun c0 => absurd c0 (by decide)) (fun _ => ?_)
  refine lv_aload_n hx hb dX4_condition_13 rfl (lv_at hl 3 rfl) ?_
  refine t_callV (n := 0) C w hT hm_rd ht_rd (by decide) rfl rfl (c_X4_claim l D K b0 sa _ L _ Ψ hT rd hm_rd ht_rd hu_4) gw_830 gw_827 gw_829 gs_9 gw_5 ⟨by decide, by decide, by decide +kernel⟩ rfl rfl ⟨by decide, by decide⟩ rfl hl.1 rfl (Nat.le_of_ble_eq_true rfl) dX4_condition_14 ⟨by decide, by decide⟩ (fun v u H locs hp w => ?_)
  obtain ⟨r1, f2, rfl, rfl, hT2, hR1, hrr1⟩ := hp
  have hR := hR.tr hR1
  clear hT
  have hT := hT2
  clear hT2
  generalize f2 = f at w hT hR
  obtain rfl := hrr1
  refine lv_if_ne (tgt := 22) hx hb dX4_condition_17 (by decide) (fun c0 => absurd c0 (by decide)) (fun _ => ?_)
  refine lv_iconst (v := 0) hx hb dX4_condition_20 (by decide) ?_
  have n0 : (0 : Int32).toInt = 0 := by decide
  exact t_zret C hr hlk w (by decide) ⟨_, _, rfl, rfl, hT, hR, rfl⟩ (by decide) (by decide) dX4_condition_21
set_option maxHeartbeats 4000000 in
set_option maxRecDepth 100000 in
theorem c_X4_readLaw (l : Launch) (D : va_G) (K : Nat → ClassId) (b0 : Nat) (sa : Nat × Nat × Nat) (sz : Nat) (L : List Nat) (f0 : Nat → va_E) (Ψ : Nat → Nat) (hT : TW K (gof gX1) Ψ L f0) (rd : Nat) (hm_rd : rd ∈ L) (ht_rd : Ψ rd = 4) (ar : Nat) (hm_ar : ar ∈ L) (ht_ar : Ψ ar = 13) (hu_4 : ∀ b c : Nat, b ∈ L → c ∈ L → Ψ b = 4 → Ψ c = 4 → b = c) : Met l yX4_readLaw (.code yX4_readLaw cX4_readLaw 3 (some .boolean) :: gt) { frames := 5, cells := 0, slots := 0, locals := 110 } (va_Pc [.ref rd, .ref ar, .int 0] (hPre D K b0 sa sz L f0)) (hQ D K b0 (fun v9 u9 => ∃ (r : Int32) (f2 : Nat → va_E), v9 = some (.int r) ∧ u9 = ((gof ((410, 1) :: gX1)), Ψ, L, f2) ∧ TW K (gof ((410, 1) :: gX1)) Ψ L f2 ∧ rawk Ψ L f0 f2 ∧ (r = 0))) 0 0 (fun q => b0 ≤ q) := by
  refine t_of (own := RX4) (by decide) rfl ?_ (Nat.le_of_ble_eq_true rfl)
  intro p e s m below meth c ls C w hsz hr hlk hnm hl
  have hx := C.1
  have hb := C.2.1
  have hl : lv_has ls 3 [(0, .ref rd), (1, .ref ar), (2, .int 0)] := hl
  have hR : rawk Ψ L f0 f0 := rawk.rf
  refine lv_aload_n hx hb dX4_readLaw_0 rfl (lv_at hl 0 rfl) ?_
  refine lv_aload_n hx hb dX4_readLaw_1 rfl (lv_at hl 1 rfl) ?_
  refine lv_iload_n hx hb dX4_readLaw_2 rfl (lv_at hl 2 rfl) ?_
  refine lv_iconst (v := 1) hx hb dX4_readLaw_3 (by decide) ?_
  refine t_callV (n := 3) C w hT hm_rd ht_rd (by decide) rfl rfl (c_X4_begin1 l D K b0 sa _ L _ Ψ hT rd hm_rd ht_rd ar hm_ar ht_ar) gw_731 gw_728 gw_729 gw_730 gw_5 ⟨by decide, by decide, by decide +kernel⟩ rfl rfl ⟨by decide, by decide⟩ rfl hl.1 rfl (Nat.le_of_ble_eq_true rfl) dX4_readLaw_4 ⟨by decide, by decide⟩ (fun v u H locs hp w => ?_)
  obtain ⟨f2, rfl, rfl, hT2, hR1⟩ := hp
  have hR := hR.tr hR1
  clear hT
  have hT := hT2
  clear hT2
  generalize f2 = f at w hT hR
  refine lv_aload_n hx hb dX4_readLaw_7 rfl (lv_at hl 0 rfl) ?_
  refine t_callV (n := 0) C w hT hm_rd ht_rd (by decide) rfl rfl (c_X4_condition l D K b0 sa _ L _ Ψ hT rd hm_rd ht_rd hu_4) gw_826 gw_823 gw_825 gs_8 gw_5 ⟨by decide, by decide, by decide +kernel⟩ rfl rfl ⟨by decide, by decide⟩ rfl hl.1 rfl (Nat.le_of_ble_eq_true rfl) dX4_readLaw_8 ⟨by decide, by decide⟩ (fun v u H locs hp w => ?_)
  obtain ⟨r1, f2, rfl, rfl, hT2, hR1, hrr1⟩ := hp
  have hR := hR.tr hR1
  clear hT
  have hT := hT2
  clear hT2
  generalize f2 = f at w hT hR
  obtain rfl := hrr1
  refine lv_if_ne (tgt := 16) hx hb dX4_readLaw_11 (by decide) (fun c0 => absurd c0 (by decide)) (fun _ => ?_)
  refine lv_iconst (v := 0) hx hb dX4_readLaw_14 (by decide) ?_
  have n0 : (0 : Int32).toInt = 0 := by decide
  exact t_zret C hr hlk w (by decide) ⟨_, _, rfl, rfl, hT, hR, rfl⟩ (by decide) (by decide) dX4_readLaw_15
set_option maxHeartbeats 4000000 in
set_option maxRecDepth 100000 in
theorem c_X4_readProgram (l : Launch) (D : va_G) (K : Nat → ClassId) (b0 : Nat) (sa : Nat × Nat × Nat) (sz : Nat) (L : List Nat) (f0 : Nat → va_E) (Ψ : Nat → Nat) (hT : TW K (gof gX1) Ψ L f0) (rd : Nat) (hm_rd : rd ∈ L) (ht_rd : Ψ rd = 4) (ar : Nat) (hm_ar : ar ∈ L) (ht_ar : Ψ ar = 13) : Met l yX4_readProgram (.code yX4_readProgram cX4_readProgram 4 (some .boolean) :: gt) { frames := 2, cells := 0, slots := 0, locals := 46 } (va_Pc [.ref rd, .ref ar, .int 0] (hPre D K b0 sa sz L f0)) (hQ D K b0 (fun v9 u9 => ∃ (r : Int32) (f2 : Nat → va_E), v9 = some (.int r) ∧ u9 = ((gof gX1), Ψ, L, f2) ∧ TW K (gof gX1) Ψ L f2 ∧ rawk Ψ L f0 f2 ∧ (r = 1))) 0 0 (fun q => b0 ≤ q) := by
  refine t_of (own := RX4) (by decide) rfl ?_ (Nat.le_of_ble_eq_true rfl)
  intro p e s m below meth c ls C w hsz hr hlk hnm hl
  have hx := C.1
  have hb := C.2.1
  have hl : lv_has ls 4 [(0, .ref rd), (1, .ref ar), (2, .int 0)] := hl
  have hR : rawk Ψ L f0 f0 := rawk.rf
  refine lv_aload_n hx hb dX4_readProgram_0 rfl (lv_at hl 0 rfl) ?_
  refine lv_aload_n hx hb dX4_readProgram_1 rfl (lv_at hl 1 rfl) ?_
  refine lv_iload_n hx hb dX4_readProgram_2 rfl (lv_at hl 2 rfl) ?_
  refine lv_iconst (v := 0) hx hb dX4_readProgram_3 (by decide) ?_
  refine t_callV (n := 3) C w hT hm_rd ht_rd (by decide) rfl rfl (c_X4_begin0 l D K b0 sa _ L _ Ψ hT rd hm_rd ht_rd ar hm_ar ht_ar) gw_731 gw_728 gw_729 gw_730 gw_5 ⟨by decide, by decide, by decide +kernel⟩ rfl rfl ⟨by decide, by decide⟩ rfl hl.1 rfl (Nat.le_of_ble_eq_true rfl) dX4_readProgram_4 ⟨by decide, by decide⟩ (fun v u H locs hp w => ?_)
  obtain ⟨f2, rfl, rfl, hT2, hR1⟩ := hp
  have hR := hR.tr hR1
  clear hT
  have hT := hT2
  clear hT2
  generalize f2 = f at w hT hR
  refine lv_iconst (v := 0) hx hb dX4_readProgram_7 (by decide) ?_
  refine lv_istore_n (lv' := [(3, .int 0), (0, .ref rd), (1, .ref ar), (2, .int 0)]) hx hb dX4_readProgram_8 rfl hl (by decide) rfl (fun ls hl => ?_)
  refine lv_iload_n hx hb dX4_readProgram_9 rfl (lv_at hl 0 rfl) ?_
  refine lv_sipush (v := 300) hx hb dX4_readProgram_10 (by decide) ?_
  refine lv_icmp_gt (tgt := 42) hx hb dX4_readProgram_13 (by decide) (fun c0 => absurd c0 (by decide)) (fun _ => ?_)
  refine lv_aload_n hx hb dX4_readProgram_16 rfl (lv_at hl 1 rfl) ?_
  refine t_callV (n := 0) C w hT hm_rd ht_rd (by decide) rfl rfl (c_X4_here l D K b0 sa _ L _ Ψ hT rd hm_rd ht_rd) gw_834 gw_831 gw_832 gw_833 gw_5 ⟨by decide, by decide, by decide +kernel⟩ rfl rfl ⟨by decide, by decide⟩ rfl hl.1 rfl (Nat.le_of_ble_eq_true rfl) dX4_readProgram_17 ⟨by decide, by decide⟩ (fun v u H locs hp w => ?_)
  obtain ⟨r1, rfl, rfl, hrr1⟩ := hp
  obtain rfl := hrr1
  refine lv_sipush (v := 256) hx hb dX4_readProgram_20 (by decide) ?_
  refine lv_icmp_eq (tgt := 42) hx hb dX4_readProgram_23 (by decide) (fun _ => ?_) (fun c0 => absurd c0 (by decide))
  refine lv_iconst (v := 1) hx hb dX4_readProgram_42 (by decide) ?_
  have n1 : (1 : Int32).toInt = 1 := by decide
  exact t_zret C hr hlk w (by decide) ⟨_, _, rfl, rfl, hT, hR, rfl⟩ (by decide) (by decide) dX4_readProgram_43
