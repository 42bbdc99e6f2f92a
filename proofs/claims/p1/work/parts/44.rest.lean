theorem dX7_when_0 : decode cX7_when 0 = .ok (.aload_n 0, 1) := by decide +kernel
theorem dX7_when_1 : decode cX7_when 1 = .ok (.iconst 0, 1) := by decide +kernel
theorem dX7_when_2 : decode cX7_when 2 = .ok (.putfield 97, 3) := by decide +kernel
theorem dX7_when_5 : decode cX7_when 5 = .ok (.aload_n 0, 1) := by decide +kernel
theorem dX7_when_6 : decode cX7_when 6 = .ok (.iload_n 1, 1) := by decide +kernel
theorem dX7_when_7 : decode cX7_when 7 = .ok (.invokestatic 253, 3) := by decide +kernel
theorem dX7_when_10 : decode cX7_when 10 = .ok (.ifCond .ne 7, 3) := by decide +kernel
theorem dX7_when_13 : decode cX7_when 13 = .ok (.iconst 1, 1) := by decide +kernel
theorem dX7_when_14 : decode cX7_when 14 = .ok (.goto 4, 3) := by decide +kernel
theorem dX7_when_17 : decode cX7_when 17 = .ok (.iconst 0, 1) := by decide +kernel
theorem dX7_when_18 : decode cX7_when 18 = .ok (.iconst 1, 1) := by decide +kernel
theorem dX7_when_19 : decode cX7_when 19 = .ok (.invokevirtual 206, 3) := by decide +kernel
theorem dX7_when_22 : decode cX7_when 22 = .ok (.ifCond .ne 30, 3) := by decide +kernel
theorem dX7_when_25 : decode cX7_when 25 = .ok (.aload_n 0, 1) := by decide +kernel
theorem dX7_when_26 : decode cX7_when 26 = .ok (.iload_n 2, 1) := by decide +kernel
theorem dX7_when_27 : decode cX7_when 27 = .ok (.iconst 0, 1) := by decide +kernel
theorem dX7_when_28 : decode cX7_when 28 = .ok (.aload_n 0, 1) := by decide +kernel
theorem dX7_when_29 : decode cX7_when 29 = .ok (.getfield 213, 3) := by decide +kernel
theorem dX7_when_32 : decode cX7_when 32 = .ok (.iconst 1, 1) := by decide +kernel
theorem dX7_when_33 : decode cX7_when 33 = .ok (.isub, 1) := by decide +kernel
theorem dX7_when_34 : decode cX7_when 34 = .ok (.invokestatic 100, 3) := by decide +kernel
theorem dX7_when_37 : decode cX7_when 37 = .ok (.ifCond .ne 7, 3) := by decide +kernel
theorem dX7_when_40 : decode cX7_when 40 = .ok (.iconst 1, 1) := by decide +kernel
theorem dX7_when_41 : decode cX7_when 41 = .ok (.goto 4, 3) := by decide +kernel
theorem dX7_when_44 : decode cX7_when 44 = .ok (.iconst 0, 1) := by decide +kernel
theorem dX7_when_45 : decode cX7_when 45 = .ok (.iconst 2, 1) := by decide +kernel
theorem dX7_when_46 : decode cX7_when 46 = .ok (.invokevirtual 206, 3) := by decide +kernel
theorem dX7_when_49 : decode cX7_when 49 = .ok (.ifCond .eq 5, 3) := by decide +kernel
theorem dX7_when_52 : decode cX7_when 52 = .ok (.iconst 0, 1) := by decide +kernel
theorem dX7_when_53 : decode cX7_when 53 = .ok (.ireturn, 1) := by decide +kernel
theorem dX7_when_54 : decode cX7_when 54 = .ok (.iconst 1, 1) := by decide +kernel
theorem dX7_when_55 : decode cX7_when 55 = .ok (.istore_n 3, 1) := by decide +kernel
theorem dX7_when_56 : decode cX7_when 56 = .ok (.iload_n 3, 1) := by decide +kernel
theorem dX7_when_57 : decode cX7_when 57 = .ok (.bipush 60, 2) := by decide +kernel
theorem dX7_when_59 : decode cX7_when 59 = .ok (.if_icmp .gt 26, 3) := by decide +kernel
theorem dX7_when_62 : decode cX7_when 62 = .ok (.aload_n 0, 1) := by decide +kernel
theorem dX7_when_63 : decode cX7_when 63 = .ok (.iload_n 3, 1) := by decide +kernel
theorem dX7_when_64 : decode cX7_when 64 = .ok (.invokevirtual 247, 3) := by decide +kernel
theorem dX7_when_67 : decode cX7_when 67 = .ok (.aload_n 0, 1) := by decide +kernel
theorem dX7_when_68 : decode cX7_when 68 = .ok (.iload_n 1, 1) := by decide +kernel
theorem dX7_when_69 : decode cX7_when 69 = .ok (.iload_n 2, 1) := by decide +kernel
theorem dX7_when_70 : decode cX7_when 70 = .ok (.iconst 0, 1) := by decide +kernel
theorem dX7_when_71 : decode cX7_when 71 = .ok (.invokevirtual 342, 3) := by decide +kernel
theorem dX7_when_74 : decode cX7_when 74 = .ok (.ifCond .eq 5, 3) := by decide +kernel
theorem dX7_when_77 : decode cX7_when 77 = .ok (.iload_n 3, 1) := by decide +kernel
theorem dX7_when_78 : decode cX7_when 78 = .ok (.ireturn, 1) := by decide +kernel
theorem dX7_when_79 : decode cX7_when 79 = .ok (.iinc 3 1, 3) := by decide +kernel
theorem dX7_when_82 : decode cX7_when 82 = .ok (.goto (-26), 3) := by decide +kernel
theorem dX7_when_85 : decode cX7_when 85 = .ok (.iconst (-1), 1) := by decide +kernel
theorem dX7_when_86 : decode cX7_when 86 = .ok (.ireturn, 1) := by decide +kernel
theorem dX7_fitting_0 : decode cX7_fitting 0 = .ok (.aload_n 0, 1) := by decide +kernel
theorem dX7_fitting_1 : decode cX7_fitting 1 = .ok (.iconst 0, 1) := by decide +kernel
theorem dX7_fitting_2 : decode cX7_fitting 2 = .ok (.putfield 97, 3) := by decide +kernel
theorem dX7_fitting_5 : decode cX7_fitting 5 = .ok (.iconst 0, 1) := by decide +kernel
theorem dX7_fitting_6 : decode cX7_fitting 6 = .ok (.istore_n 1, 1) := by decide +kernel
theorem dX7_fitting_7 : decode cX7_fitting 7 = .ok (.iconst 0, 1) := by decide +kernel
theorem dX7_fitting_8 : decode cX7_fitting 8 = .ok (.istore_n 2, 1) := by decide +kernel
theorem dX7_fitting_9 : decode cX7_fitting 9 = .ok (.iload_n 2, 1) := by decide +kernel
theorem dX7_fitting_10 : decode cX7_fitting 10 = .ok (.aload_n 0, 1) := by decide +kernel
theorem dX7_fitting_11 : decode cX7_fitting 11 = .ok (.getfield 213, 3) := by decide +kernel
theorem dX7_fitting_14 : decode cX7_fitting 14 = .ok (.if_icmp .ge 28, 3) := by decide +kernel
theorem dX7_fitting_17 : decode cX7_fitting 17 = .ok (.iload_n 1, 1) := by decide +kernel
theorem dX7_fitting_18 : decode cX7_fitting 18 = .ok (.aload_n 0, 1) := by decide +kernel
theorem dX7_fitting_19 : decode cX7_fitting 19 = .ok (.iload_n 2, 1) := by decide +kernel
theorem dX7_fitting_20 : decode cX7_fitting 20 = .ok (.invokevirtual 349, 3) := by decide +kernel
theorem dX7_fitting_23 : decode cX7_fitting 23 = .ok (.iconst (-1), 1) := by decide +kernel
theorem dX7_fitting_24 : decode cX7_fitting 24 = .ok (.if_icmp .ne 9, 3) := by decide +kernel
theorem dX7_fitting_27 : decode cX7_fitting 27 = .ok (.iconst 1, 1) := by decide +kernel
theorem dX7_fitting_28 : decode cX7_fitting 28 = .ok (.iload_n 2, 1) := by decide +kernel
theorem dX7_fitting_29 : decode cX7_fitting 29 = .ok (.ishl, 1) := by decide +kernel
theorem dX7_fitting_30 : decode cX7_fitting 30 = .ok (.goto 4, 3) := by decide +kernel
theorem dX7_fitting_33 : decode cX7_fitting 33 = .ok (.iconst 0, 1) := by decide +kernel
theorem dX7_fitting_34 : decode cX7_fitting 34 = .ok (.ior, 1) := by decide +kernel
theorem dX7_fitting_35 : decode cX7_fitting 35 = .ok (.istore_n 1, 1) := by decide +kernel
theorem dX7_fitting_36 : decode cX7_fitting 36 = .ok (.iinc 2 1, 3) := by decide +kernel
theorem dX7_fitting_39 : decode cX7_fitting 39 = .ok (.goto (-30), 3) := by decide +kernel
theorem dX7_fitting_42 : decode cX7_fitting 42 = .ok (.iload_n 1, 1) := by decide +kernel
theorem dX7_fitting_43 : decode cX7_fitting 43 = .ok (.ireturn, 1) := by decide +kernel
theorem dX7_guess_0 : decode cX7_guess 0 = .ok (.aload_n 0, 1) := by decide +kernel
theorem dX7_guess_1 : decode cX7_guess 1 = .ok (.iconst 0, 1) := by decide +kernel
theorem dX7_guess_2 : decode cX7_guess 2 = .ok (.putfield 97, 3) := by decide +kernel
theorem dX7_guess_5 : decode cX7_guess 5 = .ok (.aload_n 0, 1) := by decide +kernel
theorem dX7_guess_6 : decode cX7_guess 6 = .ok (.iload_n 1, 1) := by decide +kernel
theorem dX7_guess_7 : decode cX7_guess 7 = .ok (.invokestatic 253, 3) := by decide +kernel
theorem dX7_guess_10 : decode cX7_guess 10 = .ok (.ifCond .ne 7, 3) := by decide +kernel
theorem dX7_guess_13 : decode cX7_guess 13 = .ok (.iconst 1, 1) := by decide +kernel
theorem dX7_guess_14 : decode cX7_guess 14 = .ok (.goto 4, 3) := by decide +kernel
theorem dX7_guess_17 : decode cX7_guess 17 = .ok (.iconst 0, 1) := by decide +kernel
theorem dX7_guess_18 : decode cX7_guess 18 = .ok (.iconst 1, 1) := by decide +kernel
theorem dX7_guess_19 : decode cX7_guess 19 = .ok (.invokevirtual 206, 3) := by decide +kernel
theorem dX7_guess_22 : decode cX7_guess 22 = .ok (.ifCond .eq 5, 3) := by decide +kernel
theorem dX7_guess_25 : decode cX7_guess 25 = .ok (.iconst 0, 1) := by decide +kernel
theorem dX7_guess_26 : decode cX7_guess 26 = .ok (.ireturn, 1) := by decide +kernel
theorem dX7_guess_27 : decode cX7_guess 27 = .ok (.iconst 0, 1) := by decide +kernel
theorem dX7_guess_28 : decode cX7_guess 28 = .ok (.istore_n 2, 1) := by decide +kernel
theorem dX7_guess_29 : decode cX7_guess 29 = .ok (.iconst 0, 1) := by decide +kernel
theorem dX7_guess_30 : decode cX7_guess 30 = .ok (.istore_n 3, 1) := by decide +kernel
theorem dX7_guess_31 : decode cX7_guess 31 = .ok (.iload_n 3, 1) := by decide +kernel
theorem dX7_guess_32 : decode cX7_guess 32 = .ok (.aload_n 0, 1) := by decide +kernel
theorem dX7_guess_33 : decode cX7_guess 33 = .ok (.getfield 213, 3) := by decide +kernel
theorem dX7_guess_36 : decode cX7_guess 36 = .ok (.if_icmp .ge 44, 3) := by decide +kernel
theorem dX7_guess_39 : decode cX7_guess 39 = .ok (.aload_n 0, 1) := by decide +kernel
theorem dX7_guess_40 : decode cX7_guess 40 = .ok (.iload_n 3, 1) := by decide +kernel
theorem dX7_guess_41 : decode cX7_guess 41 = .ok (.invokevirtual 349, 3) := by decide +kernel
theorem dX7_guess_44 : decode cX7_guess 44 = .ok (.iconst (-1), 1) := by decide +kernel
theorem dX7_guess_45 : decode cX7_guess 45 = .ok (.if_icmp .eq 6, 3) := by decide +kernel
theorem dX7_guess_48 : decode cX7_guess 48 = .ok (.goto 26, 3) := by decide +kernel
theorem dX7_guess_51 : decode cX7_guess 51 = .ok (.aload_n 0, 1) := by decide +kernel
theorem dX7_guess_52 : decode cX7_guess 52 = .ok (.iconst 1, 1) := by decide +kernel
theorem dX7_guess_53 : decode cX7_guess 53 = .ok (.invokevirtual 247, 3) := by decide +kernel
theorem dX7_guess_56 : decode cX7_guess 56 = .ok (.iload_n 2, 1) := by decide +kernel
theorem dX7_guess_57 : decode cX7_guess 57 = .ok (.aload_n 0, 1) := by decide +kernel
theorem dX7_guess_58 : decode cX7_guess 58 = .ok (.iload_n 1, 1) := by decide +kernel
theorem dX7_guess_59 : decode cX7_guess 59 = .ok (.iload_n 3, 1) := by decide +kernel
theorem dX7_guess_60 : decode cX7_guess 60 = .ok (.iconst 0, 1) := by decide +kernel
theorem dX7_guess_61 : decode cX7_guess 61 = .ok (.invokevirtual 342, 3) := by decide +kernel
theorem dX7_guess_64 : decode cX7_guess 64 = .ok (.ifCond .eq 7, 3) := by decide +kernel
theorem dX7_guess_67 : decode cX7_guess 67 = .ok (.iconst 1, 1) := by decide +kernel
theorem dX7_guess_68 : decode cX7_guess 68 = .ok (.goto 4, 3) := by decide +kernel
theorem dX7_guess_71 : decode cX7_guess 71 = .ok (.iconst 0, 1) := by decide +kernel
theorem dX7_guess_72 : decode cX7_guess 72 = .ok (.iadd, 1) := by decide +kernel
theorem dX7_guess_73 : decode cX7_guess 73 = .ok (.istore_n 2, 1) := by decide +kernel
theorem dX7_guess_74 : decode cX7_guess 74 = .ok (.iinc 3 1, 3) := by decide +kernel
theorem dX7_guess_77 : decode cX7_guess 77 = .ok (.goto (-46), 3) := by decide +kernel
theorem dX7_guess_80 : decode cX7_guess 80 = .ok (.iload_n 2, 1) := by decide +kernel
theorem dX7_guess_81 : decode cX7_guess 81 = .ok (.ireturn, 1) := by decide +kernel
theorem dX7_refill_0 : decode cX7_refill 0 = .ok (.aload_n 0, 1) := by decide +kernel
theorem dX7_refill_1 : decode cX7_refill 1 = .ok (.iconst 0, 1) := by decide +kernel
theorem dX7_refill_2 : decode cX7_refill 2 = .ok (.putfield 97, 3) := by decide +kernel
theorem dX7_refill_5 : decode cX7_refill 5 = .ok (.iconst 0, 1) := by decide +kernel
theorem dX7_refill_6 : decode cX7_refill 6 = .ok (.istore_n 1, 1) := by decide +kernel
theorem dX7_refill_7 : decode cX7_refill 7 = .ok (.iconst 0, 1) := by decide +kernel
theorem dX7_refill_8 : decode cX7_refill 8 = .ok (.istore_n 2, 1) := by decide +kernel
theorem dX7_refill_9 : decode cX7_refill 9 = .ok (.iload_n 2, 1) := by decide +kernel
theorem dX7_refill_10 : decode cX7_refill 10 = .ok (.bipush 64, 2) := by decide +kernel
theorem dX7_refill_12 : decode cX7_refill 12 = .ok (.if_icmp .ge 16, 3) := by decide +kernel
theorem dX7_refill_15 : decode cX7_refill 15 = .ok (.aload_n 0, 1) := by decide +kernel
theorem dX7_refill_16 : decode cX7_refill 16 = .ok (.getfield 55, 3) := by decide +kernel
theorem dX7_refill_19 : decode cX7_refill 19 = .ok (.iload_n 2, 1) := by decide +kernel
theorem dX7_refill_20 : decode cX7_refill 20 = .ok (.iconst 0, 1) := by decide +kernel
theorem dX7_refill_21 : decode cX7_refill 21 = .ok (.iastore, 1) := by decide +kernel
theorem dX7_refill_22 : decode cX7_refill 22 = .ok (.iinc 2 1, 3) := by decide +kernel
theorem dX7_refill_25 : decode cX7_refill 25 = .ok (.goto (-16), 3) := by decide +kernel
theorem dX7_refill_28 : decode cX7_refill 28 = .ok (.iconst 0, 1) := by decide +kernel
theorem dX7_refill_29 : decode cX7_refill 29 = .ok (.istore_n 2, 1) := by decide +kernel
theorem dX7_refill_30 : decode cX7_refill 30 = .ok (.iload_n 2, 1) := by decide +kernel
theorem dX7_refill_31 : decode cX7_refill 31 = .ok (.aload_n 0, 1) := by decide +kernel
theorem dX7_refill_32 : decode cX7_refill 32 = .ok (.getfield 256, 3) := by decide +kernel
theorem dX7_refill_35 : decode cX7_refill 35 = .ok (.if_icmp .ge 68, 3) := by decide +kernel
theorem dX7_refill_38 : decode cX7_refill 38 = .ok (.aload_n 0, 1) := by decide +kernel
theorem dX7_refill_39 : decode cX7_refill 39 = .ok (.getfield 45, 3) := by decide +kernel
theorem dX7_refill_42 : decode cX7_refill 42 = .ok (.iload_n 2, 1) := by decide +kernel
theorem dX7_refill_43 : decode cX7_refill 43 = .ok (.iaload, 1) := by decide +kernel
theorem dX7_refill_44 : decode cX7_refill 44 = .ok (.istore_n 3, 1) := by decide +kernel
theorem dX7_refill_45 : decode cX7_refill 45 = .ok (.aload_n 0, 1) := by decide +kernel
theorem dX7_refill_46 : decode cX7_refill 46 = .ok (.getfield 42, 3) := by decide +kernel
theorem dX7_refill_49 : decode cX7_refill 49 = .ok (.iload_n 2, 1) := by decide +kernel
theorem dX7_refill_50 : decode cX7_refill 50 = .ok (.iaload, 1) := by decide +kernel
theorem dX7_refill_51 : decode cX7_refill 51 = .ok (.aload_n 0, 1) := by decide +kernel
theorem dX7_refill_52 : decode cX7_refill 52 = .ok (.getfield 58, 3) := by decide +kernel
theorem dX7_refill_55 : decode cX7_refill 55 = .ok (.if_icmp .ne 13, 3) := by decide +kernel
theorem dX7_refill_58 : decode cX7_refill 58 = .ok (.aload_n 0, 1) := by decide +kernel
theorem dX7_refill_59 : decode cX7_refill 59 = .ok (.getfield 45, 3) := by decide +kernel
theorem dX7_refill_62 : decode cX7_refill 62 = .ok (.iload_n 2, 1) := by decide +kernel
theorem dX7_refill_63 : decode cX7_refill 63 = .ok (.iconst (-1), 1) := by decide +kernel
theorem dX7_refill_64 : decode cX7_refill 64 = .ok (.iastore, 1) := by decide +kernel
theorem dX7_refill_65 : decode cX7_refill 65 = .ok (.goto 14, 3) := by decide +kernel
theorem dX7_refill_68 : decode cX7_refill 68 = .ok (.aload_n 0, 1) := by decide +kernel
theorem dX7_refill_69 : decode cX7_refill 69 = .ok (.iload_n 2, 1) := by decide +kernel
theorem dX7_refill_70 : decode cX7_refill 70 = .ok (.aload_n 0, 1) := by decide +kernel
theorem dX7_refill_71 : decode cX7_refill 71 = .ok (.getfield 42, 3) := by decide +kernel
theorem dX7_refill_74 : decode cX7_refill 74 = .ok (.iload_n 2, 1) := by decide +kernel
theorem dX7_refill_75 : decode cX7_refill 75 = .ok (.iaload, 1) := by decide +kernel
theorem dX7_refill_76 : decode cX7_refill 76 = .ok (.invokevirtual 259, 3) := by decide +kernel
theorem dX7_refill_79 : decode cX7_refill 79 = .ok (.iload_n 1, 1) := by decide +kernel
theorem dX7_refill_80 : decode cX7_refill 80 = .ok (.aload_n 0, 1) := by decide +kernel
theorem dX7_refill_81 : decode cX7_refill 81 = .ok (.getfield 45, 3) := by decide +kernel
theorem dX7_refill_84 : decode cX7_refill 84 = .ok (.iload_n 2, 1) := by decide +kernel
theorem dX7_refill_85 : decode cX7_refill 85 = .ok (.iaload, 1) := by decide +kernel
theorem dX7_refill_86 : decode cX7_refill 86 = .ok (.iload_n 3, 1) := by decide +kernel
theorem dX7_refill_87 : decode cX7_refill 87 = .ok (.if_icmp .ne 7, 3) := by decide +kernel
theorem dX7_refill_90 : decode cX7_refill 90 = .ok (.iconst 0, 1) := by decide +kernel
theorem dX7_refill_91 : decode cX7_refill 91 = .ok (.goto 4, 3) := by decide +kernel
theorem dX7_refill_94 : decode cX7_refill 94 = .ok (.iconst 1, 1) := by decide +kernel
theorem dX7_refill_95 : decode cX7_refill 95 = .ok (.iadd, 1) := by decide +kernel
theorem dX7_refill_96 : decode cX7_refill 96 = .ok (.istore_n 1, 1) := by decide +kernel
theorem dX7_refill_97 : decode cX7_refill 97 = .ok (.iinc 2 1, 3) := by decide +kernel
theorem dX7_refill_100 : decode cX7_refill 100 = .ok (.goto (-70), 3) := by decide +kernel
theorem dX7_refill_103 : decode cX7_refill 103 = .ok (.aload_n 0, 1) := by decide +kernel
theorem dX7_refill_104 : decode cX7_refill 104 = .ok (.iconst 0, 1) := by decide +kernel
theorem dX7_refill_105 : decode cX7_refill 105 = .ok (.putfield 222, 3) := by decide +kernel
theorem dX7_refill_108 : decode cX7_refill 108 = .ok (.aload_n 0, 1) := by decide +kernel
theorem dX7_refill_109 : decode cX7_refill 109 = .ok (.iconst 0, 1) := by decide +kernel
theorem dX7_refill_110 : decode cX7_refill 110 = .ok (.putfield 225, 3) := by decide +kernel
theorem dX7_refill_113 : decode cX7_refill 113 = .ok (.aload_n 0, 1) := by decide +kernel
theorem dX7_refill_114 : decode cX7_refill 114 = .ok (.iconst 0, 1) := by decide +kernel
theorem dX7_refill_115 : decode cX7_refill 115 = .ok (.putfield 228, 3) := by decide +kernel
theorem dX7_refill_118 : decode cX7_refill 118 = .ok (.aload_n 0, 1) := by decide +kernel
theorem dX7_refill_119 : decode cX7_refill 119 = .ok (.iconst 0, 1) := by decide +kernel
theorem dX7_refill_120 : decode cX7_refill 120 = .ok (.putfield 231, 3) := by decide +kernel
theorem dX7_refill_123 : decode cX7_refill 123 = .ok (.aload_n 0, 1) := by decide +kernel
theorem dX7_refill_124 : decode cX7_refill 124 = .ok (.iconst 0, 1) := by decide +kernel
theorem dX7_refill_125 : decode cX7_refill 125 = .ok (.putfield 313, 3) := by decide +kernel
theorem dX7_refill_128 : decode cX7_refill 128 = .ok (.iload_n 1, 1) := by decide +kernel
theorem dX7_refill_129 : decode cX7_refill 129 = .ok (.ireturn, 1) := by decide +kernel
theorem dX7_restore_0 : decode cX7_restore 0 = .ok (.aload_n 0, 1) := by decide +kernel
theorem dX7_restore_1 : decode cX7_restore 1 = .ok (.iconst 0, 1) := by decide +kernel
theorem dX7_restore_2 : decode cX7_restore 2 = .ok (.putfield 97, 3) := by decide +kernel
theorem dX7_restore_5 : decode cX7_restore 5 = .ok (.aload_n 0, 1) := by decide +kernel
theorem dX7_restore_6 : decode cX7_restore 6 = .ok (.getfield 365, 3) := by decide +kernel
theorem dX7_restore_9 : decode cX7_restore 9 = .ok (.ifCond .ne 5, 3) := by decide +kernel
theorem dX7_restore_12 : decode cX7_restore 12 = .ok (.iconst (-1), 1) := by decide +kernel
theorem dX7_restore_13 : decode cX7_restore 13 = .ok (.ireturn, 1) := by decide +kernel
theorem dX7_restore_14 : decode cX7_restore 14 = .ok (.aload_n 0, 1) := by decide +kernel
theorem dX7_restore_15 : decode cX7_restore 15 = .ok (.dup, 1) := by decide +kernel
theorem dX7_restore_16 : decode cX7_restore 16 = .ok (.getfield 365, 3) := by decide +kernel
theorem dX7_restore_19 : decode cX7_restore 19 = .ok (.iconst 1, 1) := by decide +kernel
theorem dX7_restore_20 : decode cX7_restore 20 = .ok (.isub, 1) := by decide +kernel
theorem dX7_restore_21 : decode cX7_restore 21 = .ok (.putfield 365, 3) := by decide +kernel
theorem dX7_restore_24 : decode cX7_restore 24 = .ok (.aload_n 0, 1) := by decide +kernel
theorem dX7_restore_25 : decode cX7_restore 25 = .ok (.getfield 365, 3) := by decide +kernel
theorem dX7_restore_28 : decode cX7_restore 28 = .ok (.istore_n 1, 1) := by decide +kernel
theorem dX7_restore_29 : decode cX7_restore 29 = .ok (.aload_n 0, 1) := by decide +kernel
theorem dX7_restore_30 : decode cX7_restore 30 = .ok (.iload_n 1, 1) := by decide +kernel
theorem dX7_restore_31 : decode cX7_restore 31 = .ok (.invokevirtual 355, 3) := by decide +kernel
theorem dX7_restore_34 : decode cX7_restore 34 = .ok (.aload_n 0, 1) := by decide +kernel
theorem dX7_restore_35 : decode cX7_restore 35 = .ok (.getfield 88, 3) := by decide +kernel
theorem dX7_restore_38 : decode cX7_restore 38 = .ok (.iload_n 1, 1) := by decide +kernel
theorem dX7_restore_39 : decode cX7_restore 39 = .ok (.aaload, 1) := by decide +kernel
theorem dX7_restore_40 : decode cX7_restore 40 = .ok (.astore_n 2, 1) := by decide +kernel
theorem dX7_restore_41 : decode cX7_restore 41 = .ok (.aload_n 0, 1) := by decide +kernel
theorem dX7_restore_42 : decode cX7_restore 42 = .ok (.aload_n 2, 1) := by decide +kernel
theorem dX7_restore_43 : decode cX7_restore 43 = .ok (.iconst 4, 1) := by decide +kernel
theorem dX7_restore_44 : decode cX7_restore 44 = .ok (.iaload, 1) := by decide +kernel
theorem dX7_restore_45 : decode cX7_restore 45 = .ok (.putfield 58, 3) := by decide +kernel
theorem dX7_restore_48 : decode cX7_restore 48 = .ok (.aload_n 0, 1) := by decide +kernel
theorem dX7_restore_49 : decode cX7_restore 49 = .ok (.aload_n 2, 1) := by decide +kernel
theorem dX7_restore_50 : decode cX7_restore 50 = .ok (.iconst 5, 1) := by decide +kernel
theorem dX7_restore_51 : decode cX7_restore 51 = .ok (.iaload, 1) := by decide +kernel
theorem dX7_restore_52 : decode cX7_restore 52 = .ok (.putfield 61, 3) := by decide +kernel
theorem dX7_restore_55 : decode cX7_restore 55 = .ok (.aload_n 0, 1) := by decide +kernel
theorem dX7_restore_56 : decode cX7_restore 56 = .ok (.aload_n 2, 1) := by decide +kernel
theorem dX7_restore_57 : decode cX7_restore 57 = .ok (.bipush 6, 2) := by decide +kernel
theorem dX7_restore_59 : decode cX7_restore 59 = .ok (.iaload, 1) := by decide +kernel
theorem dX7_restore_60 : decode cX7_restore 60 = .ok (.putfield 64, 3) := by decide +kernel
theorem dX7_restore_63 : decode cX7_restore 63 = .ok (.aload_n 0, 1) := by decide +kernel
theorem dX7_restore_64 : decode cX7_restore 64 = .ok (.aload_n 2, 1) := by decide +kernel
theorem dX7_restore_65 : decode cX7_restore 65 = .ok (.bipush 7, 2) := by decide +kernel
theorem dX7_restore_67 : decode cX7_restore 67 = .ok (.iaload, 1) := by decide +kernel
theorem dX7_restore_68 : decode cX7_restore 68 = .ok (.putfield 234, 3) := by decide +kernel
theorem dX7_restore_71 : decode cX7_restore 71 = .ok (.aload_n 0, 1) := by decide +kernel
theorem dX7_restore_72 : decode cX7_restore 72 = .ok (.aload_n 2, 1) := by decide +kernel
theorem dX7_restore_73 : decode cX7_restore 73 = .ok (.bipush 8, 2) := by decide +kernel
theorem dX7_restore_75 : decode cX7_restore 75 = .ok (.iaload, 1) := by decide +kernel
theorem dX7_restore_76 : decode cX7_restore 76 = .ok (.putfield 67, 3) := by decide +kernel
theorem dX7_restore_79 : decode cX7_restore 79 = .ok (.aload_n 0, 1) := by decide +kernel
theorem dX7_restore_80 : decode cX7_restore 80 = .ok (.aload_n 2, 1) := by decide +kernel
theorem dX7_restore_81 : decode cX7_restore 81 = .ok (.bipush 9, 2) := by decide +kernel
theorem dX7_restore_83 : decode cX7_restore 83 = .ok (.iaload, 1) := by decide +kernel
theorem dX7_restore_84 : decode cX7_restore 84 = .ok (.bipush 100, 2) := by decide +kernel
theorem dX7_restore_86 : decode cX7_restore 86 = .ok (.idiv, 1) := by decide +kernel
theorem dX7_restore_87 : decode cX7_restore 87 = .ok (.putfield 313, 3) := by decide +kernel
theorem dX7_restore_90 : decode cX7_restore 90 = .ok (.aload_n 0, 1) := by decide +kernel
theorem dX7_restore_91 : decode cX7_restore 91 = .ok (.aload_n 2, 1) := by decide +kernel
theorem dX7_restore_92 : decode cX7_restore 92 = .ok (.bipush 9, 2) := by decide +kernel
theorem dX7_restore_94 : decode cX7_restore 94 = .ok (.iaload, 1) := by decide +kernel
theorem dX7_restore_95 : decode cX7_restore 95 = .ok (.bipush 100, 2) := by decide +kernel
theorem dX7_restore_97 : decode cX7_restore 97 = .ok (.irem, 1) := by decide +kernel
theorem dX7_restore_98 : decode cX7_restore 98 = .ok (.putfield 256, 3) := by decide +kernel
theorem dX7_restore_101 : decode cX7_restore 101 = .ok (.aload_n 0, 1) := by decide +kernel
theorem dX7_restore_102 : decode cX7_restore 102 = .ok (.aload_n 2, 1) := by decide +kernel
theorem dX7_restore_103 : decode cX7_restore 103 = .ok (.bipush 10, 2) := by decide +kernel
theorem dX7_restore_105 : decode cX7_restore 105 = .ok (.iaload, 1) := by decide +kernel
theorem dX7_restore_106 : decode cX7_restore 106 = .ok (.putfield 27, 3) := by decide +kernel
theorem dX7_restore_109 : decode cX7_restore 109 = .ok (.iconst 0, 1) := by decide +kernel
theorem dX7_restore_110 : decode cX7_restore 110 = .ok (.istore_n 3, 1) := by decide +kernel
theorem dX7_restore_111 : decode cX7_restore 111 = .ok (.iload_n 3, 1) := by decide +kernel
theorem dX7_restore_112 : decode cX7_restore 112 = .ok (.bipush 24, 2) := by decide +kernel
theorem dX7_restore_114 : decode cX7_restore 114 = .ok (.if_icmp .ge 106, 3) := by decide +kernel
theorem dX7_restore_117 : decode cX7_restore 117 = .ok (.aload_n 0, 1) := by decide +kernel
theorem dX7_restore_118 : decode cX7_restore 118 = .ok (.getfield 33, 3) := by decide +kernel
theorem dX7_restore_121 : decode cX7_restore 121 = .ok (.iload_n 3, 1) := by decide +kernel
theorem dX7_restore_122 : decode cX7_restore 122 = .ok (.aload_n 0, 1) := by decide +kernel
theorem dX7_restore_123 : decode cX7_restore 123 = .ok (.getfield 91, 3) := by decide +kernel
theorem dX7_restore_126 : decode cX7_restore 126 = .ok (.iconst 5, 1) := by decide +kernel
theorem dX7_restore_127 : decode cX7_restore 127 = .ok (.iload_n 1, 1) := by decide +kernel
theorem dX7_restore_128 : decode cX7_restore 128 = .ok (.imul, 1) := by decide +kernel
theorem dX7_restore_129 : decode cX7_restore 129 = .ok (.aaload, 1) := by decide +kernel
theorem dX7_restore_130 : decode cX7_restore 130 = .ok (.iload_n 3, 1) := by decide +kernel
theorem dX7_restore_131 : decode cX7_restore 131 = .ok (.iaload, 1) := by decide +kernel
theorem dX7_restore_132 : decode cX7_restore 132 = .ok (.iastore, 1) := by decide +kernel
theorem dX7_restore_133 : decode cX7_restore 133 = .ok (.aload_n 0, 1) := by decide +kernel
theorem dX7_restore_134 : decode cX7_restore 134 = .ok (.getfield 36, 3) := by decide +kernel
theorem dX7_restore_137 : decode cX7_restore 137 = .ok (.iload_n 3, 1) := by decide +kernel
theorem dX7_restore_138 : decode cX7_restore 138 = .ok (.aload_n 0, 1) := by decide +kernel
theorem dX7_restore_139 : decode cX7_restore 139 = .ok (.getfield 91, 3) := by decide +kernel
theorem dX7_restore_142 : decode cX7_restore 142 = .ok (.iconst 5, 1) := by decide +kernel
theorem dX7_restore_143 : decode cX7_restore 143 = .ok (.iload_n 1, 1) := by decide +kernel
theorem dX7_restore_144 : decode cX7_restore 144 = .ok (.imul, 1) := by decide +kernel
theorem dX7_restore_145 : decode cX7_restore 145 = .ok (.iconst 1, 1) := by decide +kernel
theorem dX7_restore_146 : decode cX7_restore 146 = .ok (.iadd, 1) := by decide +kernel
theorem dX7_restore_147 : decode cX7_restore 147 = .ok (.aaload, 1) := by decide +kernel
theorem dX7_restore_148 : decode cX7_restore 148 = .ok (.iload_n 3, 1) := by decide +kernel
theorem dX7_restore_149 : decode cX7_restore 149 = .ok (.iaload, 1) := by decide +kernel
theorem dX7_restore_150 : decode cX7_restore 150 = .ok (.iastore, 1) := by decide +kernel
theorem dX7_restore_151 : decode cX7_restore 151 = .ok (.aload_n 0, 1) := by decide +kernel
theorem dX7_restore_152 : decode cX7_restore 152 = .ok (.getfield 39, 3) := by decide +kernel
theorem dX7_restore_155 : decode cX7_restore 155 = .ok (.iload_n 3, 1) := by decide +kernel
theorem dX7_restore_156 : decode cX7_restore 156 = .ok (.aload_n 0, 1) := by decide +kernel
theorem dX7_restore_157 : decode cX7_restore 157 = .ok (.getfield 91, 3) := by decide +kernel
theorem dX7_restore_160 : decode cX7_restore 160 = .ok (.iconst 5, 1) := by decide +kernel
theorem dX7_restore_161 : decode cX7_restore 161 = .ok (.iload_n 1, 1) := by decide +kernel
theorem dX7_restore_162 : decode cX7_restore 162 = .ok (.imul, 1) := by decide +kernel
theorem dX7_restore_163 : decode cX7_restore 163 = .ok (.iconst 2, 1) := by decide +kernel
theorem dX7_restore_164 : decode cX7_restore 164 = .ok (.iadd, 1) := by decide +kernel
theorem dX7_restore_165 : decode cX7_restore 165 = .ok (.aaload, 1) := by decide +kernel
theorem dX7_restore_166 : decode cX7_restore 166 = .ok (.iload_n 3, 1) := by decide +kernel
theorem dX7_restore_167 : decode cX7_restore 167 = .ok (.iaload, 1) := by decide +kernel
theorem dX7_restore_168 : decode cX7_restore 168 = .ok (.iastore, 1) := by decide +kernel
theorem dX7_restore_169 : decode cX7_restore 169 = .ok (.aload_n 0, 1) := by decide +kernel
theorem dX7_restore_170 : decode cX7_restore 170 = .ok (.getfield 42, 3) := by decide +kernel
theorem dX7_restore_173 : decode cX7_restore 173 = .ok (.iload_n 3, 1) := by decide +kernel
theorem dX7_restore_174 : decode cX7_restore 174 = .ok (.aload_n 0, 1) := by decide +kernel
theorem dX7_restore_175 : decode cX7_restore 175 = .ok (.getfield 91, 3) := by decide +kernel
theorem dX7_restore_178 : decode cX7_restore 178 = .ok (.iconst 5, 1) := by decide +kernel
theorem dX7_restore_179 : decode cX7_restore 179 = .ok (.iload_n 1, 1) := by decide +kernel
theorem dX7_restore_180 : decode cX7_restore 180 = .ok (.imul, 1) := by decide +kernel
theorem dX7_restore_181 : decode cX7_restore 181 = .ok (.iconst 3, 1) := by decide +kernel
theorem dX7_restore_182 : decode cX7_restore 182 = .ok (.iadd, 1) := by decide +kernel
theorem dX7_restore_183 : decode cX7_restore 183 = .ok (.aaload, 1) := by decide +kernel
theorem dX7_restore_184 : decode cX7_restore 184 = .ok (.iload_n 3, 1) := by decide +kernel
theorem dX7_restore_185 : decode cX7_restore 185 = .ok (.iaload, 1) := by decide +kernel
theorem dX7_restore_186 : decode cX7_restore 186 = .ok (.iastore, 1) := by decide +kernel
theorem dX7_restore_187 : decode cX7_restore 187 = .ok (.aload_n 0, 1) := by decide +kernel
theorem dX7_restore_188 : decode cX7_restore 188 = .ok (.getfield 48, 3) := by decide +kernel
theorem dX7_restore_191 : decode cX7_restore 191 = .ok (.iload_n 3, 1) := by decide +kernel
theorem dX7_restore_192 : decode cX7_restore 192 = .ok (.aload_n 0, 1) := by decide +kernel
theorem dX7_restore_193 : decode cX7_restore 193 = .ok (.getfield 91, 3) := by decide +kernel
theorem dX7_restore_196 : decode cX7_restore 196 = .ok (.iconst 5, 1) := by decide +kernel
theorem dX7_restore_197 : decode cX7_restore 197 = .ok (.iload_n 1, 1) := by decide +kernel
theorem dX7_restore_198 : decode cX7_restore 198 = .ok (.imul, 1) := by decide +kernel
theorem dX7_restore_199 : decode cX7_restore 199 = .ok (.iconst 4, 1) := by decide +kernel
theorem dX7_restore_200 : decode cX7_restore 200 = .ok (.iadd, 1) := by decide +kernel
theorem dX7_restore_201 : decode cX7_restore 201 = .ok (.aaload, 1) := by decide +kernel
theorem dX7_restore_202 : decode cX7_restore 202 = .ok (.iload_n 3, 1) := by decide +kernel
theorem dX7_restore_203 : decode cX7_restore 203 = .ok (.iaload, 1) := by decide +kernel
theorem dX7_restore_204 : decode cX7_restore 204 = .ok (.iconst 1, 1) := by decide +kernel
theorem dX7_restore_205 : decode cX7_restore 205 = .ok (.if_icmp .ne 7, 3) := by decide +kernel
theorem dX7_restore_208 : decode cX7_restore 208 = .ok (.iconst 1, 1) := by decide +kernel
theorem dX7_restore_209 : decode cX7_restore 209 = .ok (.goto 4, 3) := by decide +kernel
theorem dX7_restore_212 : decode cX7_restore 212 = .ok (.iconst 0, 1) := by decide +kernel
theorem dX7_restore_213 : decode cX7_restore 213 = .ok (.bastore, 1) := by decide +kernel
theorem dX7_restore_214 : decode cX7_restore 214 = .ok (.iinc 3 1, 3) := by decide +kernel
theorem dX7_restore_217 : decode cX7_restore 217 = .ok (.goto (-106), 3) := by decide +kernel
theorem dX7_restore_220 : decode cX7_restore 220 = .ok (.iconst 0, 1) := by decide +kernel
theorem dX7_restore_221 : decode cX7_restore 221 = .ok (.istore_n 3, 1) := by decide +kernel
theorem dX7_restore_222 : decode cX7_restore 222 = .ok (.iload_n 3, 1) := by decide +kernel
theorem dX7_restore_223 : decode cX7_restore 223 = .ok (.aload_n 0, 1) := by decide +kernel
theorem dX7_restore_224 : decode cX7_restore 224 = .ok (.getfield 313, 3) := by decide +kernel
theorem dX7_restore_227 : decode cX7_restore 227 = .ok (.if_icmp .ge 49, 3) := by decide +kernel
theorem dX7_restore_230 : decode cX7_restore 230 = .ok (.iconst 0, 1) := by decide +kernel
theorem dX7_restore_231 : decode cX7_restore 231 = .ok (.istore 4, 2) := by decide +kernel
theorem dX7_restore_233 : decode cX7_restore 233 = .ok (.iload 4, 2) := by decide +kernel
theorem dX7_restore_235 : decode cX7_restore 235 = .ok (.bipush 14, 2) := by decide +kernel
theorem dX7_restore_237 : decode cX7_restore 237 = .ok (.if_icmp .ge 33, 3) := by decide +kernel
theorem dX7_restore_240 : decode cX7_restore 240 = .ok (.aload_n 0, 1) := by decide +kernel
theorem dX7_restore_241 : decode cX7_restore 241 = .ok (.getfield 73, 3) := by decide +kernel
theorem dX7_restore_244 : decode cX7_restore 244 = .ok (.iload_n 3, 1) := by decide +kernel
theorem dX7_restore_245 : decode cX7_restore 245 = .ok (.aaload, 1) := by decide +kernel
theorem dX7_restore_246 : decode cX7_restore 246 = .ok (.iload 4, 2) := by decide +kernel
theorem dX7_restore_248 : decode cX7_restore 248 = .ok (.aload_n 0, 1) := by decide +kernel
theorem dX7_restore_249 : decode cX7_restore 249 = .ok (.getfield 94, 3) := by decide +kernel
theorem dX7_restore_252 : decode cX7_restore 252 = .ok (.sipush 200, 3) := by decide +kernel
theorem dX7_restore_255 : decode cX7_restore 255 = .ok (.iload_n 1, 1) := by decide +kernel
theorem dX7_restore_256 : decode cX7_restore 256 = .ok (.imul, 1) := by decide +kernel
theorem dX7_restore_257 : decode cX7_restore 257 = .ok (.iload_n 3, 1) := by decide +kernel
theorem dX7_restore_258 : decode cX7_restore 258 = .ok (.iadd, 1) := by decide +kernel
theorem dX7_restore_259 : decode cX7_restore 259 = .ok (.aaload, 1) := by decide +kernel
theorem dX7_restore_260 : decode cX7_restore 260 = .ok (.iload 4, 2) := by decide +kernel
theorem dX7_restore_262 : decode cX7_restore 262 = .ok (.iaload, 1) := by decide +kernel
theorem dX7_restore_263 : decode cX7_restore 263 = .ok (.iastore, 1) := by decide +kernel
theorem dX7_restore_264 : decode cX7_restore 264 = .ok (.iinc 4 1, 3) := by decide +kernel
theorem dX7_restore_267 : decode cX7_restore 267 = .ok (.goto (-34), 3) := by decide +kernel
theorem dX7_restore_270 : decode cX7_restore 270 = .ok (.iinc 3 1, 3) := by decide +kernel
theorem dX7_restore_273 : decode cX7_restore 273 = .ok (.goto (-51), 3) := by decide +kernel
theorem dX7_restore_276 : decode cX7_restore 276 = .ok (.aload_n 0, 1) := by decide +kernel
theorem dX7_restore_277 : decode cX7_restore 277 = .ok (.getfield 365, 3) := by decide +kernel
theorem dX7_restore_280 : decode cX7_restore 280 = .ok (.ireturn, 1) := by decide +kernel
theorem dX7_fault_0 : decode cX7_fault 0 = .ok (.aload_n 0, 1) := by decide +kernel
theorem dX7_fault_1 : decode cX7_fault 1 = .ok (.iconst 0, 1) := by decide +kernel
theorem dX7_fault_2 : decode cX7_fault 2 = .ok (.putfield 97, 3) := by decide +kernel
theorem dX7_fault_5 : decode cX7_fault 5 = .ok (.aload_n 0, 1) := by decide +kernel
theorem dX7_fault_6 : decode cX7_fault 6 = .ok (.getfield 11, 3) := by decide +kernel
theorem dX7_fault_9 : decode cX7_fault 9 = .ok (.ireturn, 1) := by decide +kernel
theorem dX7_lying_0 : decode cX7_lying 0 = .ok (.iconst 0, 1) := by decide +kernel
theorem dX7_lying_1 : decode cX7_lying 1 = .ok (.istore_n 2, 1) := by decide +kernel
theorem dX7_lying_2 : decode cX7_lying 2 = .ok (.iconst 0, 1) := by decide +kernel
theorem dX7_lying_3 : decode cX7_lying 3 = .ok (.istore_n 3, 1) := by decide +kernel
theorem dX7_lying_4 : decode cX7_lying 4 = .ok (.iload_n 3, 1) := by decide +kernel
theorem dX7_lying_5 : decode cX7_lying 5 = .ok (.aload_n 0, 1) := by decide +kernel
theorem dX7_lying_6 : decode cX7_lying 6 = .ok (.getfield 256, 3) := by decide +kernel
theorem dX7_lying_9 : decode cX7_lying 9 = .ok (.if_icmp .ge 49, 3) := by decide +kernel
theorem dX7_lying_12 : decode cX7_lying 12 = .ok (.iload_n 2, 1) := by decide +kernel
theorem dX7_lying_13 : decode cX7_lying 13 = .ok (.iload_n 1, 1) := by decide +kernel
theorem dX7_lying_14 : decode cX7_lying 14 = .ok (.ifCond .ne 20, 3) := by decide +kernel
theorem dX7_lying_17 : decode cX7_lying 17 = .ok (.aload_n 0, 1) := by decide +kernel
theorem dX7_lying_18 : decode cX7_lying 18 = .ok (.getfield 45, 3) := by decide +kernel
theorem dX7_lying_21 : decode cX7_lying 21 = .ok (.iload_n 3, 1) := by decide +kernel
theorem dX7_lying_22 : decode cX7_lying 22 = .ok (.iaload, 1) := by decide +kernel
theorem dX7_lying_23 : decode cX7_lying 23 = .ok (.ifCond .lt 7, 3) := by decide +kernel
theorem dX7_lying_26 : decode cX7_lying 26 = .ok (.iconst 1, 1) := by decide +kernel
theorem dX7_lying_27 : decode cX7_lying 27 = .ok (.goto 23, 3) := by decide +kernel
theorem dX7_lying_30 : decode cX7_lying 30 = .ok (.iconst 0, 1) := by decide +kernel
theorem dX7_lying_31 : decode cX7_lying 31 = .ok (.goto 19, 3) := by decide +kernel
theorem dX7_lying_34 : decode cX7_lying 34 = .ok (.aload_n 0, 1) := by decide +kernel
theorem dX7_lying_35 : decode cX7_lying 35 = .ok (.getfield 45, 3) := by decide +kernel
theorem dX7_lying_38 : decode cX7_lying 38 = .ok (.iload_n 3, 1) := by decide +kernel
theorem dX7_lying_39 : decode cX7_lying 39 = .ok (.iaload, 1) := by decide +kernel
theorem dX7_lying_40 : decode cX7_lying 40 = .ok (.iload_n 1, 1) := by decide +kernel
theorem dX7_lying_41 : decode cX7_lying 41 = .ok (.ineg, 1) := by decide +kernel
theorem dX7_lying_42 : decode cX7_lying 42 = .ok (.if_icmp .ne 7, 3) := by decide +kernel
theorem dX7_lying_45 : decode cX7_lying 45 = .ok (.iconst 1, 1) := by decide +kernel
theorem dX7_lying_46 : decode cX7_lying 46 = .ok (.goto 4, 3) := by decide +kernel
theorem dX7_lying_49 : decode cX7_lying 49 = .ok (.iconst 0, 1) := by decide +kernel
theorem dX7_lying_50 : decode cX7_lying 50 = .ok (.iadd, 1) := by decide +kernel
theorem dX7_lying_51 : decode cX7_lying 51 = .ok (.istore_n 2, 1) := by decide +kernel
theorem dX7_lying_52 : decode cX7_lying 52 = .ok (.iinc 3 1, 3) := by decide +kernel
theorem dX7_lying_55 : decode cX7_lying 55 = .ok (.goto (-51), 3) := by decide +kernel
theorem dX7_lying_58 : decode cX7_lying 58 = .ok (.iload_n 2, 1) := by decide +kernel
theorem dX7_lying_59 : decode cX7_lying 59 = .ok (.ireturn, 1) := by decide +kernel
theorem dX7_count_0 : decode cX7_count 0 = .ok (.aload_n 0, 1) := by decide +kernel
theorem dX7_count_1 : decode cX7_count 1 = .ok (.iconst 0, 1) := by decide +kernel
theorem dX7_count_2 : decode cX7_count 2 = .ok (.putfield 97, 3) := by decide +kernel
theorem dX7_count_5 : decode cX7_count 5 = .ok (.iload_n 1, 1) := by decide +kernel
theorem dX7_count_6 : decode cX7_count 6 = .ok (.tableswitch 145 0 13 #[70, 75, 81, 87, 93, 98, 105, 110, 115, 120, 125, 130, 135, 140], 70) := by decide +kernel
theorem dX7_count_76 : decode cX7_count 76 = .ok (.aload_n 0, 1) := by decide +kernel
theorem dX7_count_77 : decode cX7_count 77 = .ok (.getfield 256, 3) := by decide +kernel
theorem dX7_count_80 : decode cX7_count 80 = .ok (.ireturn, 1) := by decide +kernel
theorem dX7_count_81 : decode cX7_count 81 = .ok (.aload_n 0, 1) := by decide +kernel
theorem dX7_count_82 : decode cX7_count 82 = .ok (.iconst 0, 1) := by decide +kernel
theorem dX7_count_83 : decode cX7_count 83 = .ok (.invokevirtual 368, 3) := by decide +kernel
theorem dX7_count_86 : decode cX7_count 86 = .ok (.ireturn, 1) := by decide +kernel
theorem dX7_count_87 : decode cX7_count 87 = .ok (.aload_n 0, 1) := by decide +kernel
theorem dX7_count_88 : decode cX7_count 88 = .ok (.iconst 1, 1) := by decide +kernel
theorem dX7_count_89 : decode cX7_count 89 = .ok (.invokevirtual 368, 3) := by decide +kernel
theorem dX7_count_92 : decode cX7_count 92 = .ok (.ireturn, 1) := by decide +kernel
theorem dX7_count_93 : decode cX7_count 93 = .ok (.aload_n 0, 1) := by decide +kernel
theorem dX7_count_94 : decode cX7_count 94 = .ok (.iconst 2, 1) := by decide +kernel
theorem dX7_count_95 : decode cX7_count 95 = .ok (.invokevirtual 368, 3) := by decide +kernel
theorem dX7_count_98 : decode cX7_count 98 = .ok (.ireturn, 1) := by decide +kernel
theorem dX7_count_99 : decode cX7_count 99 = .ok (.aload_n 0, 1) := by decide +kernel
theorem dX7_count_100 : decode cX7_count 100 = .ok (.getfield 222, 3) := by decide +kernel
theorem dX7_count_103 : decode cX7_count 103 = .ok (.ireturn, 1) := by decide +kernel
theorem dX7_count_104 : decode cX7_count 104 = .ok (.aload_n 0, 1) := by decide +kernel
theorem dX7_count_105 : decode cX7_count 105 = .ok (.getfield 225, 3) := by decide +kernel
theorem dX7_count_108 : decode cX7_count 108 = .ok (.iconst 1, 1) := by decide +kernel
theorem dX7_count_109 : decode cX7_count 109 = .ok (.iadd, 1) := by decide +kernel
theorem dX7_count_110 : decode cX7_count 110 = .ok (.ireturn, 1) := by decide +kernel
theorem dX7_count_111 : decode cX7_count 111 = .ok (.aload_n 0, 1) := by decide +kernel
theorem dX7_count_112 : decode cX7_count 112 = .ok (.getfield 228, 3) := by decide +kernel
theorem dX7_count_115 : decode cX7_count 115 = .ok (.ireturn, 1) := by decide +kernel
theorem dX7_count_116 : decode cX7_count 116 = .ok (.aload_n 0, 1) := by decide +kernel
theorem dX7_count_117 : decode cX7_count 117 = .ok (.getfield 231, 3) := by decide +kernel
theorem dX7_count_120 : decode cX7_count 120 = .ok (.ireturn, 1) := by decide +kernel
theorem dX7_count_121 : decode cX7_count 121 = .ok (.aload_n 0, 1) := by decide +kernel
theorem dX7_count_122 : decode cX7_count 122 = .ok (.getfield 213, 3) := by decide +kernel
theorem dX7_count_125 : decode cX7_count 125 = .ok (.ireturn, 1) := by decide +kernel
theorem dX7_count_126 : decode cX7_count 126 = .ok (.aload_n 0, 1) := by decide +kernel
theorem dX7_count_127 : decode cX7_count 127 = .ok (.getfield 210, 3) := by decide +kernel
theorem dX7_count_130 : decode cX7_count 130 = .ok (.ireturn, 1) := by decide +kernel
theorem dX7_count_131 : decode cX7_count 131 = .ok (.aload_n 0, 1) := by decide +kernel
theorem dX7_count_132 : decode cX7_count 132 = .ok (.getfield 330, 3) := by decide +kernel
theorem dX7_count_135 : decode cX7_count 135 = .ok (.ireturn, 1) := by decide +kernel
theorem dX7_count_136 : decode cX7_count 136 = .ok (.aload_n 0, 1) := by decide +kernel
theorem dX7_count_137 : decode cX7_count 137 = .ok (.getfield 365, 3) := by decide +kernel
theorem dX7_count_140 : decode cX7_count 140 = .ok (.ireturn, 1) := by decide +kernel
theorem dX7_count_141 : decode cX7_count 141 = .ok (.aload_n 0, 1) := by decide +kernel
theorem dX7_count_142 : decode cX7_count 142 = .ok (.getfield 104, 3) := by decide +kernel
theorem dX7_count_145 : decode cX7_count 145 = .ok (.ireturn, 1) := by decide +kernel
theorem dX7_count_146 : decode cX7_count 146 = .ok (.aload_n 0, 1) := by decide +kernel
theorem dX7_count_147 : decode cX7_count 147 = .ok (.getfield 67, 3) := by decide +kernel
theorem dX7_count_150 : decode cX7_count 150 = .ok (.ireturn, 1) := by decide +kernel
theorem dX7_count_151 : decode cX7_count 151 = .ok (.iconst (-1), 1) := by decide +kernel
theorem dX7_count_152 : decode cX7_count 152 = .ok (.ireturn, 1) := by decide +kernel
theorem dX7_hand_0 : decode cX7_hand 0 = .ok (.aload_n 0, 1) := by decide +kernel
theorem dX7_hand_1 : decode cX7_hand 1 = .ok (.iconst 0, 1) := by decide +kernel
theorem dX7_hand_2 : decode cX7_hand 2 = .ok (.putfield 97, 3) := by decide +kernel
theorem dX7_hand_5 : decode cX7_hand 5 = .ok (.aload_n 0, 1) := by decide +kernel
theorem dX7_hand_6 : decode cX7_hand 6 = .ok (.iload_n 1, 1) := by decide +kernel
theorem dX7_hand_7 : decode cX7_hand 7 = .ok (.iconst 1, 1) := by decide +kernel
theorem dX7_hand_8 : decode cX7_hand 8 = .ok (.ldc_w 329, 3) := by decide +kernel
theorem dX7_hand_11 : decode cX7_hand 11 = .ok (.invokestatic 100, 3) := by decide +kernel
theorem dX7_hand_14 : decode cX7_hand 14 = .ok (.ifCond .ne 7, 3) := by decide +kernel
theorem dX7_hand_17 : decode cX7_hand 17 = .ok (.iconst 1, 1) := by decide +kernel
theorem dX7_hand_18 : decode cX7_hand 18 = .ok (.goto 4, 3) := by decide +kernel
theorem dX7_hand_21 : decode cX7_hand 21 = .ok (.iconst 0, 1) := by decide +kernel
theorem dX7_hand_22 : decode cX7_hand 22 = .ok (.iconst 1, 1) := by decide +kernel
theorem dX7_hand_23 : decode cX7_hand 23 = .ok (.invokevirtual 206, 3) := by decide +kernel
theorem dX7_hand_26 : decode cX7_hand 26 = .ok (.ifCond .eq 5, 3) := by decide +kernel
theorem dX7_hand_29 : decode cX7_hand 29 = .ok (.iconst 0, 1) := by decide +kernel
theorem dX7_hand_30 : decode cX7_hand 30 = .ok (.ireturn, 1) := by decide +kernel
theorem dX7_hand_31 : decode cX7_hand 31 = .ok (.aload_n 0, 1) := by decide +kernel
theorem dX7_hand_32 : decode cX7_hand 32 = .ok (.getfield 330, 3) := by decide +kernel
theorem dX7_hand_35 : decode cX7_hand 35 = .ok (.bipush 6, 2) := by decide +kernel
theorem dX7_hand_37 : decode cX7_hand 37 = .ok (.if_icmp .ne 5, 3) := by decide +kernel
theorem dX7_hand_40 : decode cX7_hand 40 = .ok (.iconst (-1), 1) := by decide +kernel
theorem dX7_hand_41 : decode cX7_hand 41 = .ok (.ireturn, 1) := by decide +kernel
theorem dX7_hand_42 : decode cX7_hand 42 = .ok (.iconst 0, 1) := by decide +kernel
theorem dX7_hand_43 : decode cX7_hand 43 = .ok (.istore_n 2, 1) := by decide +kernel
theorem dX7_hand_44 : decode cX7_hand 44 = .ok (.iload_n 2, 1) := by decide +kernel
theorem dX7_hand_45 : decode cX7_hand 45 = .ok (.bipush 9, 2) := by decide +kernel
theorem dX7_hand_47 : decode cX7_hand 47 = .ok (.if_icmp .ge 31, 3) := by decide +kernel
theorem dX7_hand_50 : decode cX7_hand 50 = .ok (.aload_n 0, 1) := by decide +kernel
theorem dX7_hand_51 : decode cX7_hand 51 = .ok (.getfield 76, 3) := by decide +kernel
theorem dX7_hand_54 : decode cX7_hand 54 = .ok (.aload_n 0, 1) := by decide +kernel
theorem dX7_hand_55 : decode cX7_hand 55 = .ok (.getfield 330, 3) := by decide +kernel
theorem dX7_hand_58 : decode cX7_hand 58 = .ok (.aaload, 1) := by decide +kernel
theorem dX7_hand_59 : decode cX7_hand 59 = .ok (.iload_n 2, 1) := by decide +kernel
theorem dX7_hand_60 : decode cX7_hand 60 = .ok (.iload_n 1, 1) := by decide +kernel
theorem dX7_hand_61 : decode cX7_hand 61 = .ok (.iconst 3, 1) := by decide +kernel
theorem dX7_hand_62 : decode cX7_hand 62 = .ok (.bipush 8, 2) := by decide +kernel
theorem dX7_hand_64 : decode cX7_hand 64 = .ok (.iload_n 2, 1) := by decide +kernel
theorem dX7_hand_65 : decode cX7_hand 65 = .ok (.isub, 1) := by decide +kernel
theorem dX7_hand_66 : decode cX7_hand 66 = .ok (.imul, 1) := by decide +kernel
theorem dX7_hand_67 : decode cX7_hand 67 = .ok (.ishr, 1) := by decide +kernel
theorem dX7_hand_68 : decode cX7_hand 68 = .ok (.bipush 7, 2) := by decide +kernel
theorem dX7_hand_70 : decode cX7_hand 70 = .ok (.iand, 1) := by decide +kernel
theorem dX7_hand_71 : decode cX7_hand 71 = .ok (.iastore, 1) := by decide +kernel
theorem dX7_hand_72 : decode cX7_hand 72 = .ok (.iinc 2 1, 3) := by decide +kernel
theorem dX7_hand_75 : decode cX7_hand 75 = .ok (.goto (-31), 3) := by decide +kernel
theorem dX7_hand_78 : decode cX7_hand 78 = .ok (.aload_n 0, 1) := by decide +kernel
theorem dX7_hand_79 : decode cX7_hand 79 = .ok (.dup, 1) := by decide +kernel
theorem dX7_hand_80 : decode cX7_hand 80 = .ok (.getfield 330, 3) := by decide +kernel
theorem dX7_hand_83 : decode cX7_hand 83 = .ok (.iconst 1, 1) := by decide +kernel
theorem dX7_hand_84 : decode cX7_hand 84 = .ok (.iadd, 1) := by decide +kernel
theorem dX7_hand_85 : decode cX7_hand 85 = .ok (.putfield 330, 3) := by decide +kernel
theorem dX7_hand_88 : decode cX7_hand 88 = .ok (.aload_n 0, 1) := by decide +kernel
theorem dX7_hand_89 : decode cX7_hand 89 = .ok (.getfield 330, 3) := by decide +kernel
theorem dX7_hand_92 : decode cX7_hand 92 = .ok (.iconst 1, 1) := by decide +kernel
theorem dX7_hand_93 : decode cX7_hand 93 = .ok (.isub, 1) := by decide +kernel
theorem dX7_hand_94 : decode cX7_hand 94 = .ok (.ireturn, 1) := by decide +kernel
theorem dX7_puts_0 : decode cX7_puts 0 = .ok (.aload_n 0, 1) := by decide +kernel
theorem dX7_puts_1 : decode cX7_puts 1 = .ok (.getfield 52, 3) := by decide +kernel
theorem dX7_puts_4 : decode cX7_puts 4 = .ok (.iload_n 2, 1) := by decide +kernel
theorem dX7_puts_5 : decode cX7_puts 5 = .ok (.aaload, 1) := by decide +kernel
theorem dX7_puts_6 : decode cX7_puts 6 = .ok (.aload_n 0, 1) := by decide +kernel
theorem dX7_puts_7 : decode cX7_puts 7 = .ok (.getfield 55, 3) := by decide +kernel
theorem dX7_puts_10 : decode cX7_puts 10 = .ok (.iload_n 2, 1) := by decide +kernel
theorem dX7_puts_11 : decode cX7_puts 11 = .ok (.iaload, 1) := by decide +kernel
theorem dX7_puts_12 : decode cX7_puts 12 = .ok (.iload_n 1, 1) := by decide +kernel
theorem dX7_puts_13 : decode cX7_puts 13 = .ok (.iastore, 1) := by decide +kernel
theorem dX7_puts_14 : decode cX7_puts 14 = .ok (.aload_n 0, 1) := by decide +kernel
theorem dX7_puts_15 : decode cX7_puts 15 = .ok (.getfield 55, 3) := by decide +kernel
theorem dX7_puts_18 : decode cX7_puts 18 = .ok (.iload_n 2, 1) := by decide +kernel
theorem dX7_puts_19 : decode cX7_puts 19 = .ok (.dup2, 1) := by decide +kernel
theorem dX7_puts_20 : decode cX7_puts 20 = .ok (.iaload, 1) := by decide +kernel
theorem dX7_puts_21 : decode cX7_puts 21 = .ok (.iconst 1, 1) := by decide +kernel
theorem dX7_puts_22 : decode cX7_puts 22 = .ok (.iadd, 1) := by decide +kernel
theorem dX7_puts_23 : decode cX7_puts 23 = .ok (.iastore, 1) := by decide +kernel
theorem dX7_puts_24 : decode cX7_puts 24 = .ok (.aload_n 0, 1) := by decide +kernel
theorem dX7_puts_25 : decode cX7_puts 25 = .ok (.getfield 45, 3) := by decide +kernel
theorem dX7_puts_28 : decode cX7_puts 28 = .ok (.iload_n 1, 1) := by decide +kernel
theorem dX7_puts_29 : decode cX7_puts 29 = .ok (.iload_n 2, 1) := by decide +kernel
theorem dX7_puts_30 : decode cX7_puts 30 = .ok (.iastore, 1) := by decide +kernel
theorem dX7_puts_31 : decode cX7_puts 31 = .ok (.return_, 1) := by decide +kernel
theorem dX7_lay_0 : decode cX7_lay 0 = .ok (.aload_n 0, 1) := by decide +kernel
theorem dX7_lay_1 : decode cX7_lay 1 = .ok (.iconst 0, 1) := by decide +kernel
theorem dX7_lay_2 : decode cX7_lay 2 = .ok (.putfield 97, 3) := by decide +kernel
theorem dX7_lay_5 : decode cX7_lay 5 = .ok (.aload_n 0, 1) := by decide +kernel
theorem dX7_lay_6 : decode cX7_lay 6 = .ok (.iload_n 1, 1) := by decide +kernel
theorem dX7_lay_7 : decode cX7_lay 7 = .ok (.invokestatic 253, 3) := by decide +kernel
theorem dX7_lay_10 : decode cX7_lay 10 = .ok (.ifCond .ne 7, 3) := by decide +kernel
theorem dX7_lay_13 : decode cX7_lay 13 = .ok (.iconst 1, 1) := by decide +kernel
theorem dX7_lay_14 : decode cX7_lay 14 = .ok (.goto 4, 3) := by decide +kernel
theorem dX7_lay_17 : decode cX7_lay 17 = .ok (.iconst 0, 1) := by decide +kernel
theorem dX7_lay_18 : decode cX7_lay 18 = .ok (.iconst 1, 1) := by decide +kernel
theorem dX7_lay_19 : decode cX7_lay 19 = .ok (.invokevirtual 206, 3) := by decide +kernel
theorem dX7_lay_22 : decode cX7_lay 22 = .ok (.ifCond .ne 56, 3) := by decide +kernel
theorem dX7_lay_25 : decode cX7_lay 25 = .ok (.aload_n 0, 1) := by decide +kernel
theorem dX7_lay_26 : decode cX7_lay 26 = .ok (.iload_n 1, 1) := by decide +kernel
theorem dX7_lay_27 : decode cX7_lay 27 = .ok (.aload_n 0, 1) := by decide +kernel
theorem dX7_lay_28 : decode cX7_lay 28 = .ok (.getfield 58, 3) := by decide +kernel
theorem dX7_lay_31 : decode cX7_lay 31 = .ok (.if_icmp .eq 35, 3) := by decide +kernel
theorem dX7_lay_34 : decode cX7_lay 34 = .ok (.iload_n 2, 1) := by decide +kernel
theorem dX7_lay_35 : decode cX7_lay 35 = .ok (.iconst 1, 1) := by decide +kernel
theorem dX7_lay_36 : decode cX7_lay 36 = .ok (.bipush 99, 2) := by decide +kernel
theorem dX7_lay_38 : decode cX7_lay 38 = .ok (.invokestatic 100, 3) := by decide +kernel
theorem dX7_lay_41 : decode cX7_lay 41 = .ok (.ifCond .eq 25, 3) := by decide +kernel
theorem dX7_lay_44 : decode cX7_lay 44 = .ok (.iload_n 3, 1) := by decide +kernel
theorem dX7_lay_45 : decode cX7_lay 45 = .ok (.iconst 0, 1) := by decide +kernel
theorem dX7_lay_46 : decode cX7_lay 46 = .ok (.bipush 7, 2) := by decide +kernel
theorem dX7_lay_48 : decode cX7_lay 48 = .ok (.invokestatic 100, 3) := by decide +kernel
theorem dX7_lay_51 : decode cX7_lay 51 = .ok (.ifCond .eq 15, 3) := by decide +kernel
theorem dX7_lay_54 : decode cX7_lay 54 = .ok (.iload 4, 2) := by decide +kernel
theorem dX7_lay_56 : decode cX7_lay 56 = .ok (.iconst 0, 1) := by decide +kernel
theorem dX7_lay_57 : decode cX7_lay 57 = .ok (.sipush 999, 3) := by decide +kernel
theorem dX7_lay_60 : decode cX7_lay 60 = .ok (.invokestatic 100, 3) := by decide +kernel
theorem dX7_lay_63 : decode cX7_lay 63 = .ok (.ifCond .ne 7, 3) := by decide +kernel
theorem dX7_lay_66 : decode cX7_lay 66 = .ok (.iconst 1, 1) := by decide +kernel
theorem dX7_lay_67 : decode cX7_lay 67 = .ok (.goto 4, 3) := by decide +kernel
theorem dX7_lay_70 : decode cX7_lay 70 = .ok (.iconst 0, 1) := by decide +kernel
theorem dX7_lay_71 : decode cX7_lay 71 = .ok (.iconst 2, 1) := by decide +kernel
theorem dX7_lay_72 : decode cX7_lay 72 = .ok (.invokevirtual 206, 3) := by decide +kernel
theorem dX7_lay_75 : decode cX7_lay 75 = .ok (.ifCond .eq 5, 3) := by decide +kernel
theorem dX7_lay_78 : decode cX7_lay 78 = .ok (.iconst 0, 1) := by decide +kernel
theorem dX7_lay_79 : decode cX7_lay 79 = .ok (.ireturn, 1) := by decide +kernel
theorem dX7_lay_80 : decode cX7_lay 80 = .ok (.aload_n 0, 1) := by decide +kernel
theorem dX7_lay_81 : decode cX7_lay 81 = .ok (.getfield 256, 3) := by decide +kernel
theorem dX7_lay_84 : decode cX7_lay 84 = .ok (.bipush 24, 2) := by decide +kernel
theorem dX7_lay_86 : decode cX7_lay 86 = .ok (.if_icmp .ne 5, 3) := by decide +kernel
theorem dX7_lay_89 : decode cX7_lay 89 = .ok (.iconst (-1), 1) := by decide +kernel
theorem dX7_lay_90 : decode cX7_lay 90 = .ok (.ireturn, 1) := by decide +kernel
theorem dX7_lay_91 : decode cX7_lay 91 = .ok (.aload_n 0, 1) := by decide +kernel
theorem dX7_lay_92 : decode cX7_lay 92 = .ok (.getfield 33, 3) := by decide +kernel
theorem dX7_lay_95 : decode cX7_lay 95 = .ok (.aload_n 0, 1) := by decide +kernel
theorem dX7_lay_96 : decode cX7_lay 96 = .ok (.getfield 256, 3) := by decide +kernel
theorem dX7_lay_99 : decode cX7_lay 99 = .ok (.iload_n 2, 1) := by decide +kernel
theorem dX7_lay_100 : decode cX7_lay 100 = .ok (.iastore, 1) := by decide +kernel
theorem dX7_lay_101 : decode cX7_lay 101 = .ok (.aload_n 0, 1) := by decide +kernel
theorem dX7_lay_102 : decode cX7_lay 102 = .ok (.getfield 36, 3) := by decide +kernel
theorem dX7_lay_105 : decode cX7_lay 105 = .ok (.aload_n 0, 1) := by decide +kernel
theorem dX7_lay_106 : decode cX7_lay 106 = .ok (.getfield 256, 3) := by decide +kernel
theorem dX7_lay_109 : decode cX7_lay 109 = .ok (.iload_n 3, 1) := by decide +kernel
theorem dX7_lay_110 : decode cX7_lay 110 = .ok (.iastore, 1) := by decide +kernel
theorem dX7_lay_111 : decode cX7_lay 111 = .ok (.aload_n 0, 1) := by decide +kernel
theorem dX7_lay_112 : decode cX7_lay 112 = .ok (.getfield 39, 3) := by decide +kernel
theorem dX7_lay_115 : decode cX7_lay 115 = .ok (.aload_n 0, 1) := by decide +kernel
theorem dX7_lay_116 : decode cX7_lay 116 = .ok (.getfield 256, 3) := by decide +kernel
theorem dX7_lay_119 : decode cX7_lay 119 = .ok (.iload 4, 2) := by decide +kernel
theorem dX7_lay_121 : decode cX7_lay 121 = .ok (.iastore, 1) := by decide +kernel
theorem dX7_lay_122 : decode cX7_lay 122 = .ok (.aload_n 0, 1) := by decide +kernel
theorem dX7_lay_123 : decode cX7_lay 123 = .ok (.getfield 42, 3) := by decide +kernel
theorem dX7_lay_126 : decode cX7_lay 126 = .ok (.aload_n 0, 1) := by decide +kernel
theorem dX7_lay_127 : decode cX7_lay 127 = .ok (.getfield 256, 3) := by decide +kernel
theorem dX7_lay_130 : decode cX7_lay 130 = .ok (.iload_n 1, 1) := by decide +kernel
theorem dX7_lay_131 : decode cX7_lay 131 = .ok (.iastore, 1) := by decide +kernel
theorem dX7_lay_132 : decode cX7_lay 132 = .ok (.aload_n 0, 1) := by decide +kernel
theorem dX7_lay_133 : decode cX7_lay 133 = .ok (.getfield 48, 3) := by decide +kernel
theorem dX7_lay_136 : decode cX7_lay 136 = .ok (.aload_n 0, 1) := by decide +kernel
theorem dX7_lay_137 : decode cX7_lay 137 = .ok (.getfield 256, 3) := by decide +kernel
theorem dX7_lay_140 : decode cX7_lay 140 = .ok (.iconst 0, 1) := by decide +kernel
theorem dX7_lay_141 : decode cX7_lay 141 = .ok (.bastore, 1) := by decide +kernel
theorem dX7_lay_142 : decode cX7_lay 142 = .ok (.aload_n 0, 1) := by decide +kernel
theorem dX7_lay_143 : decode cX7_lay 143 = .ok (.aload_n 0, 1) := by decide +kernel
theorem dX7_lay_144 : decode cX7_lay 144 = .ok (.getfield 256, 3) := by decide +kernel
theorem dX7_lay_147 : decode cX7_lay 147 = .ok (.iload_n 1, 1) := by decide +kernel
theorem dX7_lay_148 : decode cX7_lay 148 = .ok (.invokevirtual 259, 3) := by decide +kernel
theorem dX7_lay_151 : decode cX7_lay 151 = .ok (.aload_n 0, 1) := by decide +kernel
theorem dX7_lay_152 : decode cX7_lay 152 = .ok (.dup, 1) := by decide +kernel
theorem dX7_lay_153 : decode cX7_lay 153 = .ok (.getfield 256, 3) := by decide +kernel
theorem dX7_lay_156 : decode cX7_lay 156 = .ok (.iconst 1, 1) := by decide +kernel
theorem dX7_lay_157 : decode cX7_lay 157 = .ok (.iadd, 1) := by decide +kernel
theorem dX7_lay_158 : decode cX7_lay 158 = .ok (.putfield 256, 3) := by decide +kernel
theorem dX7_lay_161 : decode cX7_lay 161 = .ok (.aload_n 0, 1) := by decide +kernel
theorem dX7_lay_162 : decode cX7_lay 162 = .ok (.getfield 256, 3) := by decide +kernel
theorem dX7_lay_165 : decode cX7_lay 165 = .ok (.iconst 1, 1) := by decide +kernel
theorem dX7_lay_166 : decode cX7_lay 166 = .ok (.isub, 1) := by decide +kernel
theorem dX7_lay_167 : decode cX7_lay 167 = .ok (.ireturn, 1) := by decide +kernel
theorem dX7_feed_0 : decode cX7_feed 0 = .ok (.aload_n 0, 1) := by decide +kernel
theorem dX7_feed_1 : decode cX7_feed 1 = .ok (.iconst 0, 1) := by decide +kernel
theorem dX7_feed_2 : decode cX7_feed 2 = .ok (.putfield 97, 3) := by decide +kernel
theorem dX7_feed_5 : decode cX7_feed 5 = .ok (.aload_n 0, 1) := by decide +kernel
theorem dX7_feed_6 : decode cX7_feed 6 = .ok (.getfield 104, 3) := by decide +kernel
theorem dX7_feed_9 : decode cX7_feed 9 = .ok (.bipush 20, 2) := by decide +kernel
theorem dX7_feed_11 : decode cX7_feed 11 = .ok (.iadd, 1) := by decide +kernel
theorem dX7_feed_12 : decode cX7_feed 12 = .ok (.sipush 300, 3) := by decide +kernel
theorem dX7_feed_15 : decode cX7_feed 15 = .ok (.if_icmp .le 5, 3) := by decide +kernel
theorem dX7_feed_18 : decode cX7_feed 18 = .ok (.iconst (-1), 1) := by decide +kernel
theorem dX7_feed_19 : decode cX7_feed 19 = .ok (.ireturn, 1) := by decide +kernel
theorem dX7_feed_20 : decode cX7_feed 20 = .ok (.iconst 0, 1) := by decide +kernel
theorem dX7_feed_21 : decode cX7_feed 21 = .ok (.istore 6, 2) := by decide +kernel
theorem dX7_feed_23 : decode cX7_feed 23 = .ok (.iload 6, 2) := by decide +kernel
theorem dX7_feed_25 : decode cX7_feed 25 = .ok (.bipush 20, 2) := by decide +kernel
theorem dX7_feed_27 : decode cX7_feed 27 = .ok (.if_icmp .ge 93, 3) := by decide +kernel
theorem dX7_feed_30 : decode cX7_feed 30 = .ok (.iload 6, 2) := by decide +kernel
theorem dX7_feed_32 : decode cX7_feed 32 = .ok (.iconst 4, 1) := by decide +kernel
theorem dX7_feed_33 : decode cX7_feed 33 = .ok (.if_icmp .ge 7, 3) := by decide +kernel
theorem dX7_feed_36 : decode cX7_feed 36 = .ok (.iload_n 1, 1) := by decide +kernel
theorem dX7_feed_37 : decode cX7_feed 37 = .ok (.goto 39, 3) := by decide +kernel
theorem dX7_feed_40 : decode cX7_feed 40 = .ok (.iload 6, 2) := by decide +kernel
theorem dX7_feed_42 : decode cX7_feed 42 = .ok (.bipush 8, 2) := by decide +kernel
theorem dX7_feed_44 : decode cX7_feed 44 = .ok (.if_icmp .ge 7, 3) := by decide +kernel
theorem dX7_feed_47 : decode cX7_feed 47 = .ok (.iload_n 2, 1) := by decide +kernel
theorem dX7_feed_48 : decode cX7_feed 48 = .ok (.goto 28, 3) := by decide +kernel
theorem dX7_feed_51 : decode cX7_feed 51 = .ok (.iload 6, 2) := by decide +kernel
theorem dX7_feed_53 : decode cX7_feed 53 = .ok (.bipush 12, 2) := by decide +kernel
theorem dX7_feed_55 : decode cX7_feed 55 = .ok (.if_icmp .ge 7, 3) := by decide +kernel
theorem dX7_feed_58 : decode cX7_feed 58 = .ok (.iload_n 3, 1) := by decide +kernel
theorem dX7_feed_59 : decode cX7_feed 59 = .ok (.goto 17, 3) := by decide +kernel
theorem dX7_feed_62 : decode cX7_feed 62 = .ok (.iload 6, 2) := by decide +kernel
theorem dX7_feed_64 : decode cX7_feed 64 = .ok (.bipush 16, 2) := by decide +kernel
theorem dX7_feed_66 : decode cX7_feed 66 = .ok (.if_icmp .ge 8, 3) := by decide +kernel
theorem dX7_feed_69 : decode cX7_feed 69 = .ok (.iload 4, 2) := by decide +kernel
theorem dX7_feed_71 : decode cX7_feed 71 = .ok (.goto 5, 3) := by decide +kernel
theorem dX7_feed_74 : decode cX7_feed 74 = .ok (.iload 5, 2) := by decide +kernel
theorem dX7_feed_76 : decode cX7_feed 76 = .ok (.istore 7, 2) := by decide +kernel
theorem dX7_feed_78 : decode cX7_feed 78 = .ok (.aload_n 0, 1) := by decide +kernel
theorem dX7_feed_79 : decode cX7_feed 79 = .ok (.getfield 15, 3) := by decide +kernel
theorem dX7_feed_82 : decode cX7_feed 82 = .ok (.aload_n 0, 1) := by decide +kernel
theorem dX7_feed_83 : decode cX7_feed 83 = .ok (.getfield 104, 3) := by decide +kernel
theorem dX7_feed_86 : decode cX7_feed 86 = .ok (.iload 7, 2) := by decide +kernel
theorem dX7_feed_88 : decode cX7_feed 88 = .ok (.bipush 24, 2) := by decide +kernel
theorem dX7_feed_90 : decode cX7_feed 90 = .ok (.bipush 8, 2) := by decide +kernel
theorem dX7_feed_92 : decode cX7_feed 92 = .ok (.iload 6, 2) := by decide +kernel
theorem dX7_feed_94 : decode cX7_feed 94 = .ok (.iconst 4, 1) := by decide +kernel
theorem dX7_feed_95 : decode cX7_feed 95 = .ok (.irem, 1) := by decide +kernel
theorem dX7_feed_96 : decode cX7_feed 96 = .ok (.imul, 1) := by decide +kernel
theorem dX7_feed_97 : decode cX7_feed 97 = .ok (.isub, 1) := by decide +kernel
theorem dX7_feed_98 : decode cX7_feed 98 = .ok (.ishr, 1) := by decide +kernel
theorem dX7_feed_99 : decode cX7_feed 99 = .ok (.sipush 255, 3) := by decide +kernel
theorem dX7_feed_102 : decode cX7_feed 102 = .ok (.iand, 1) := by decide +kernel
theorem dX7_feed_103 : decode cX7_feed 103 = .ok (.iastore, 1) := by decide +kernel
theorem dX7_feed_104 : decode cX7_feed 104 = .ok (.aload_n 0, 1) := by decide +kernel
theorem dX7_feed_105 : decode cX7_feed 105 = .ok (.dup, 1) := by decide +kernel
theorem dX7_feed_106 : decode cX7_feed 106 = .ok (.getfield 104, 3) := by decide +kernel
theorem dX7_feed_109 : decode cX7_feed 109 = .ok (.iconst 1, 1) := by decide +kernel
theorem dX7_feed_110 : decode cX7_feed 110 = .ok (.iadd, 1) := by decide +kernel
theorem dX7_feed_111 : decode cX7_feed 111 = .ok (.putfield 104, 3) := by decide +kernel
theorem dX7_feed_114 : decode cX7_feed 114 = .ok (.iinc 6 1, 3) := by decide +kernel
theorem dX7_feed_117 : decode cX7_feed 117 = .ok (.goto (-94), 3) := by decide +kernel
theorem dX7_feed_120 : decode cX7_feed 120 = .ok (.aload_n 0, 1) := by decide +kernel
theorem dX7_feed_121 : decode cX7_feed 121 = .ok (.getfield 104, 3) := by decide +kernel
theorem dX7_feed_124 : decode cX7_feed 124 = .ok (.ireturn, 1) := by decide +kernel
set_option maxHeartbeats 4000000 in
set_option maxRecDepth 100000 in
theorem c_X7_when (l : Launch) (D : va_G) (K : Nat → ClassId) (b0 : Nat) (sa : Nat × Nat × Nat) (sz : Nat) (L : List Nat) (f0 : Nat → va_E) (Ψ : Nat → Nat) (hT : TW K (gof gM0) Ψ L f0) (m_ : Nat) (hm_m_ : m_ ∈ L) (ht_m_ : Ψ m_ = 7) (ce : Int32) (pr : Int32) (hu_7 : ∀ b c : Nat, b ∈ L → c ∈ L → Ψ b = 7 → Ψ c = 7 → b = c) : Met l yX7_when (.code yX7_when cX7_when 4 (some .int) :: gt) { frames := 2, cells := 0, slots := 0, locals := 42 } (va_Pc [.ref m_, .int ce, .int pr] (hPre D K b0 sa sz L f0)) (hQ D K b0 (fun v9 u9 => ∃ (r : Int32) (th : Int32) (f2 : Nat → va_E), v9 = some (.int r) ∧ u9 = (gof [(700, th)], Ψ, L, f2) ∧ TW K (gof [(700, th)]) Ψ L f2 ∧ rawk Ψ L f0 f2 ∧ ((r = 0 ∧ th = 1 ∧ (¬ (0 ≤ ce.toInt ∧ ce.toInt ≤ 63))) ∨ (r = 0 ∧ th = 2 ∧ (0 ≤ ce.toInt) ∧ (ce.toInt ≤ 63))))) 0 0 (fun q => b0 ≤ q) := by
  refine t_of (own := RX7) (by decide) rfl ?_ (Nat.le_of_ble_eq_true rfl)
  intro p e s m below meth c ls C w hsz hr hlk hnm hl
  have hx := C.1
  have hb := C.2.1
  have hl : lv_has ls 4 [(0, .ref m_), (1, .int ce), (2, .int pr)] := hl
  have hb_ce := ti_bd ce
  have hb_pr := ti_bd pr
  have hR : rawk Ψ L f0 f0 := rawk.rf
  refine lv_aload_n hx hb dX7_when_0 rfl (lv_at hl 0 rfl) ?_
  refine lv_iconst (v := 0) hx hb dX7_when_1 (by decide) ?_
  refine t_puti C w hT hm_m_ ht_m_ (by decide) rfl cin_7 tyX7 tyX7_ok nmX7 0 (by decide) rfl rfl rfl rfl rfl (gof_is rfl) gw_1156 dX7_when_2 (fun f H locs w hT hR1 => ?_)
  have hR := hR.tr hR1
  refine lv_aload_n hx hb dX7_when_5 rfl (lv_at hl 0 rfl) ?_
  refine lv_iload_n hx hb dX7_when_6 rfl (lv_at hl 1 rfl) ?_
  refine t_callS (n := 1) C w (c_X7_isCell l D K b0 sa _ L _ Ψ (gof gM0) hT ce) gw_1467 gw_1465 gw_1466 gw_8 ⟨by decide, by decide, by decide +kernel⟩ rfl rfl ⟨by decide, by decide⟩ rfl hl.1 rfl (Nat.le_of_ble_eq_true rfl) dX7_when_7 ⟨by decide, by decide⟩ (fun v u H locs hp w => ?_)
  obtain ⟨r1, rfl, rfl, hrr1⟩ := hp
  rcases hrr1 with ⟨rfl, hf0_r1, hf1_r1⟩ | ⟨rfl, hf0_r1⟩
  ·
    refine lv_if_ne (tgt := 17) hx hb dX7_when_10 (by decide) (fun _ => ?_) (fun c0 => absurd c0 (by decide))
    refine lv_iconst (v := 0) hx hb dX7_when_17 (by decide) ?_
    refine lv_iconst (v := 1) hx hb dX7_when_18 (by decide) ?_
    have n1 : (1 : Int32).toInt = 1 := by decide
    refine t_callV (n := 2) C w hT hm_m_ ht_m_ (by decide) rfl rfl (c_X7_bad0 l D K b0 sa _ L _ Ψ (hT.mono (gof_sub rfl)) m_ hm_m_ ht_m_ 1) gw_1347 gw_1344 gw_1346 gs_22 gw_8 ⟨by decide, by decide, by decide +kernel⟩ rfl rfl ⟨by decide, by decide⟩ rfl hl.1 rfl (Nat.le_of_ble_eq_true rfl) dX7_when_19 ⟨by decide, by decide⟩ (fun v u H locs hp w => ?_)
    obtain ⟨r2, rfl, rfl, hrr2⟩ := hp
    obtain rfl := hrr2
    refine lv_if_ne (tgt := 52) hx hb dX7_when_22 (by decide) (fun c0 => absurd c0 (by decide)) (fun _ => ?_)
    refine lv_aload_n hx hb dX7_when_25 rfl (lv_at hl 0 rfl) ?_
    refine lv_iload_n hx hb dX7_when_26 rfl (lv_at hl 2 rfl) ?_
    refine lv_iconst (v := 0) hx hb dX7_when_27 (by decide) ?_
    refine lv_aload_n hx hb dX7_when_28 rfl (lv_at hl 0 rfl) ?_
    refine t_geti C w hT hm_m_ ht_m_ (by decide) rfl cin_7 13 (by decide) rfl rfl gw_1169 dX7_when_29 (fun x3 hg => ?_)
    obtain rfl : x3 = 0 := gof_at rfl hg
    refine lv_iconst (v := 1) hx hb dX7_when_32 (by decide) ?_
    refine lv_isub hx hb dX7_when_33 ?_
    refine lv_topi (fun y4 ey4 => ?_)
    obtain rfl : y4 = (-1) := ey4.trans (by decide)
    have n0 : (0 : Int32).toInt = 0 := by decide
    have nm1 : ((-1) : Int32).toInt = -1 := by decide
    refine t_callS (n := 3) C w (c_X7_in l D K b0 sa _ L _ Ψ (gof gM0) hT pr 0 (-1)) gw_1343 gw_1341 gw_1342 gw_8 ⟨by decide, by decide, by decide +kernel⟩ rfl rfl ⟨by decide, by decide⟩ rfl hl.1 rfl (Nat.le_of_ble_eq_true rfl) dX7_when_34 ⟨by decide, by decide⟩ (fun v u H locs hp w => ?_)
    obtain ⟨r5, rfl, rfl, hrr5⟩ := hp
    rcases hrr5 with ⟨rfl, hf0_r5, hf1_r5⟩ | ⟨rfl, hf0_r5⟩
    · exfalso; omega
    ·
      refine lv_if_ne (tgt := 44) hx hb dX7_when_37 (by decide) (fun c0 => absurd c0 (by decide)) (fun _ => ?_)
      refine lv_iconst (v := 1) hx hb dX7_when_40 (by decide) ?_
      refine lv_goto (tgt := 45) hx hb dX7_when_41 (by decide) ?_
      refine lv_iconst (v := 2) hx hb dX7_when_45 (by decide) ?_
      refine t_callV (n := 2) C w hT hm_m_ ht_m_ (by decide) rfl rfl (c_X7_bad2 l D K b0 sa _ L _ Ψ hT m_ hm_m_ ht_m_ hu_7) gw_1347 gw_1344 gw_1346 gs_22 gw_8 ⟨by decide, by decide, by decide +kernel⟩ rfl rfl ⟨by decide, by decide⟩ rfl hl.1 rfl (Nat.le_of_ble_eq_true rfl) dX7_when_46 ⟨by decide, by decide⟩ (fun v u H locs hp w => ?_)
      obtain ⟨r6, f2, rfl, rfl, hT2, hR1, hrr6⟩ := hp
      have hR := hR.tr hR1
      clear hT
      have hT := hT2
      clear hT2
      generalize f2 = f at w hT hR
      obtain rfl := hrr6
      refine lv_if_eq (tgt := 54) hx hb dX7_when_49 (by decide) (fun c0 => absurd c0 (by decide)) (fun _ => ?_)
      refine lv_iconst (v := 0) hx hb dX7_when_52 (by decide) ?_
      exact t_iret C hr hlk w ⟨_, 2, _, rfl, rfl, hT.mono (gof_sub rfl), hR, Or.inr (⟨rfl, rfl, (by omega), (by omega)⟩)⟩ (by decide) (by decide) dX7_when_53
  ·
    refine lv_if_ne (tgt := 17) hx hb dX7_when_10 (by decide) (fun c0 => absurd c0 (by decide)) (fun _ => ?_)
    refine lv_iconst (v := 1) hx hb dX7_when_13 (by decide) ?_
    refine lv_goto (tgt := 18) hx hb dX7_when_14 (by decide) ?_
    refine lv_iconst (v := 1) hx hb dX7_when_18 (by decide) ?_
    refine t_callV (n := 2) C w hT hm_m_ ht_m_ (by decide) rfl rfl (c_X7_bad1 l D K b0 sa _ L _ Ψ hT m_ hm_m_ ht_m_ hu_7) gw_1347 gw_1344 gw_1346 gs_22 gw_8 ⟨by decide, by decide, by decide +kernel⟩ rfl rfl ⟨by decide, by decide⟩ rfl hl.1 rfl (Nat.le_of_ble_eq_true rfl) dX7_when_19 ⟨by decide, by decide⟩ (fun v u H locs hp w => ?_)
    obtain ⟨r7, f2, rfl, rfl, hT2, hR1, hrr7⟩ := hp
    have hR := hR.tr hR1
    clear hT
    have hT := hT2
    clear hT2
    generalize f2 = f at w hT hR
    obtain rfl := hrr7
    refine lv_if_ne (tgt := 52) hx hb dX7_when_22 (by decide) (fun _ => ?_) (fun c0 => absurd c0 (by decide))
    refine lv_iconst (v := 0) hx hb dX7_when_52 (by decide) ?_
    have n0 : (0 : Int32).toInt = 0 := by decide
    exact t_iret C hr hlk w ⟨_, 1, _, rfl, rfl, hT.mono (gof_sub rfl), hR, Or.inl ⟨rfl, rfl, (by omega)⟩⟩ (by decide) (by decide) dX7_when_53
set_option maxHeartbeats 4000000 in
set_option maxRecDepth 100000 in
theorem c_X7_fitting (l : Launch) (D : va_G) (K : Nat → ClassId) (b0 : Nat) (sa : Nat × Nat × Nat) (sz : Nat) (L : List Nat) (f0 : Nat → va_E) (Ψ : Nat → Nat) (hT : TW K (gof gM0) Ψ L f0) (m_ : Nat) (hm_m_ : m_ ∈ L) (ht_m_ : Ψ m_ = 7) (hu_7 : ∀ b c : Nat, b ∈ L → c ∈ L → Ψ b = 7 → Ψ c = 7 → b = c) : Met l yX7_fitting (.code yX7_fitting cX7_fitting 3 (some .int) :: gt) { frames := 0, cells := 0, slots := 0, locals := 0 } (va_Pc [.ref m_] (hPre D K b0 sa sz L f0)) (hQ D K b0 (fun v9 u9 => ∃ (r : Int32) (th : Int32) (f2 : Nat → va_E), v9 = some (.int r) ∧ u9 = (gof [(700, th)], Ψ, L, f2) ∧ TW K (gof [(700, th)]) Ψ L f2 ∧ rawk Ψ L f0 f2 ∧ ((r = 0 ∧ th = 0)))) 0 0 (fun q => b0 ≤ q) := by
  refine t_of (own := RX7) (by decide) rfl ?_ (Nat.le_of_ble_eq_true rfl)
  intro p e s m below meth c ls C w hsz hr hlk hnm hl
  have hx := C.1
  have hb := C.2.1
  have hl : lv_has ls 3 [(0, .ref m_)] := hl
  have hR : rawk Ψ L f0 f0 := rawk.rf
  refine lv_aload_n hx hb dX7_fitting_0 rfl (lv_at hl 0 rfl) ?_
  refine lv_iconst (v := 0) hx hb dX7_fitting_1 (by decide) ?_
  refine t_puti C w hT hm_m_ ht_m_ (by decide) rfl cin_7 tyX7 tyX7_ok nmX7 0 (by decide) rfl rfl rfl rfl rfl (gof_is rfl) gw_1156 dX7_fitting_2 (fun f H locs w hT hR1 => ?_)
  have hR := hR.tr hR1
  refine lv_iconst (v := 0) hx hb dX7_fitting_5 (by decide) ?_
  refine lv_istore_n (lv' := [(1, .int 0), (0, .ref m_)]) hx hb dX7_fitting_6 rfl hl (by decide) rfl (fun ls hl => ?_)
  refine lv_iconst (v := 0) hx hb dX7_fitting_7 (by decide) ?_
  refine lv_istore_n (lv' := [(2, .int 0), (1, .int 0), (0, .ref m_)]) hx hb dX7_fitting_8 rfl hl (by decide) rfl (fun ls hl => ?_)
  refine lv_iload_n hx hb dX7_fitting_9 rfl (lv_at hl 0 rfl) ?_
  refine lv_aload_n hx hb dX7_fitting_10 rfl (lv_at hl 2 rfl) ?_
  refine t_geti C w hT hm_m_ ht_m_ (by decide) rfl cin_7 13 (by decide) rfl rfl gw_1169 dX7_fitting_11 (fun x1 hg => ?_)
  obtain rfl : x1 = 0 := gof_at rfl hg
  refine lv_icmp_ge (tgt := 42) hx hb dX7_fitting_14 (by decide) (fun _ => ?_) (fun c0 => absurd c0 (by decide))
  refine lv_iload_n hx hb dX7_fitting_42 rfl (lv_at hl 1 rfl) ?_
  have n0 : (0 : Int32).toInt = 0 := by decide
  exact t_iret C hr hlk w ⟨_, 0, _, rfl, rfl, hT.mono (gof_sub rfl), hR, ⟨rfl, rfl⟩⟩ (by decide) (by decide) dX7_fitting_43
set_option maxHeartbeats 4000000 in
set_option maxRecDepth 100000 in
theorem c_X7_guess (l : Launch) (D : va_G) (K : Nat → ClassId) (b0 : Nat) (sa : Nat × Nat × Nat) (sz : Nat) (L : List Nat) (f0 : Nat → va_E) (Ψ : Nat → Nat) (hT : TW K (gof gM0) Ψ L f0) (m_ : Nat) (hm_m_ : m_ ∈ L) (ht_m_ : Ψ m_ = 7) (ce : Int32) (hu_7 : ∀ b c : Nat, b ∈ L → c ∈ L → Ψ b = 7 → Ψ c = 7 → b = c) : Met l yX7_guess (.code yX7_guess cX7_guess 4 (some .int) :: gt) { frames := 2, cells := 0, slots := 0, locals := 42 } (va_Pc [.ref m_, .int ce] (hPre D K b0 sa sz L f0)) (hQ D K b0 (fun v9 u9 => ∃ (r : Int32) (th : Int32) (f2 : Nat → va_E), v9 = some (.int r) ∧ u9 = (gof [(700, th)], Ψ, L, f2) ∧ TW K (gof [(700, th)]) Ψ L f2 ∧ rawk Ψ L f0 f2 ∧ ((r = 0 ∧ th = 1 ∧ (¬ (0 ≤ ce.toInt ∧ ce.toInt ≤ 63))) ∨ (r = 0 ∧ th = 0 ∧ (0 ≤ ce.toInt) ∧ (ce.toInt ≤ 63))))) 0 0 (fun q => b0 ≤ q) := by
  refine t_of (own := RX7) (by decide) rfl ?_ (Nat.le_of_ble_eq_true rfl)
  intro p e s m below meth c ls C w hsz hr hlk hnm hl
  have hx := C.1
  have hb := C.2.1
  have hl : lv_has ls 4 [(0, .ref m_), (1, .int ce)] := hl
  have hb_ce := ti_bd ce
  have hR : rawk Ψ L f0 f0 := rawk.rf
  refine lv_aload_n hx hb dX7_guess_0 rfl (lv_at hl 0 rfl) ?_
  refine lv_iconst (v := 0) hx hb dX7_guess_1 (by decide) ?_
  refine t_puti C w hT hm_m_ ht_m_ (by decide) rfl cin_7 tyX7 tyX7_ok nmX7 0 (by decide) rfl rfl rfl rfl rfl (gof_is rfl) gw_1156 dX7_guess_2 (fun f H locs w hT hR1 => ?_)
  have hR := hR.tr hR1
  refine lv_aload_n hx hb dX7_guess_5 rfl (lv_at hl 0 rfl) ?_
  refine lv_iload_n hx hb dX7_guess_6 rfl (lv_at hl 1 rfl) ?_
  refine t_callS (n := 1) C w (c_X7_isCell l D K b0 sa _ L _ Ψ (gof gM0) hT ce) gw_1467 gw_1465 gw_1466 gw_8 ⟨by decide, by decide, by decide +kernel⟩ rfl rfl ⟨by decide, by decide⟩ rfl hl.1 rfl (Nat.le_of_ble_eq_true rfl) dX7_guess_7 ⟨by decide, by decide⟩ (fun v u H locs hp w => ?_)
  obtain ⟨r1, rfl, rfl, hrr1⟩ := hp
  rcases hrr1 with ⟨rfl, hf0_r1, hf1_r1⟩ | ⟨rfl, hf0_r1⟩
  ·
    refine lv_if_ne (tgt := 17) hx hb dX7_guess_10 (by decide) (fun _ => ?_) (fun c0 => absurd c0 (by decide))
    refine lv_iconst (v := 0) hx hb dX7_guess_17 (by decide) ?_
    refine lv_iconst (v := 1) hx hb dX7_guess_18 (by decide) ?_
    have n1 : (1 : Int32).toInt = 1 := by decide
    refine t_callV (n := 2) C w hT hm_m_ ht_m_ (by decide) rfl rfl (c_X7_bad0 l D K b0 sa _ L _ Ψ (hT.mono (gof_sub rfl)) m_ hm_m_ ht_m_ 1) gw_1347 gw_1344 gw_1346 gs_22 gw_8 ⟨by decide, by decide, by decide +kernel⟩ rfl rfl ⟨by decide, by decide⟩ rfl hl.1 rfl (Nat.le_of_ble_eq_true rfl) dX7_guess_19 ⟨by decide, by decide⟩ (fun v u H locs hp w => ?_)
    obtain ⟨r2, rfl, rfl, hrr2⟩ := hp
    obtain rfl := hrr2
    refine lv_if_eq (tgt := 27) hx hb dX7_guess_22 (by decide) (fun _ => ?_) (fun c0 => absurd c0 (by decide))
    refine lv_iconst (v := 0) hx hb dX7_guess_27 (by decide) ?_
    refine lv_istore_n (lv' := [(2, .int 0), (0, .ref m_), (1, .int ce)]) hx hb dX7_guess_28 rfl hl (by decide) rfl (fun ls hl => ?_)
    refine lv_iconst (v := 0) hx hb dX7_guess_29 (by decide) ?_
    refine lv_istore_n (lv' := [(3, .int 0), (2, .int 0), (0, .ref m_), (1, .int ce)]) hx hb dX7_guess_30 rfl hl (by decide) rfl (fun ls hl => ?_)
    refine lv_iload_n hx hb dX7_guess_31 rfl (lv_at hl 0 rfl) ?_
    refine lv_aload_n hx hb dX7_guess_32 rfl (lv_at hl 2 rfl) ?_
    refine t_geti C w hT hm_m_ ht_m_ (by decide) rfl cin_7 13 (by decide) rfl rfl gw_1169 dX7_guess_33 (fun x3 hg => ?_)
    obtain rfl : x3 = 0 := gof_at rfl hg
    refine lv_icmp_ge (tgt := 80) hx hb dX7_guess_36 (by decide) (fun _ => ?_) (fun c0 => absurd c0 (by decide))
    refine lv_iload_n hx hb dX7_guess_80 rfl (lv_at hl 1 rfl) ?_
    have n0 : (0 : Int32).toInt = 0 := by decide
    exact t_iret C hr hlk w ⟨_, 0, _, rfl, rfl, hT.mono (gof_sub rfl), hR, Or.inr (⟨rfl, rfl, (by omega), (by omega)⟩)⟩ (by decide) (by decide) dX7_guess_81
  ·
    refine lv_if_ne (tgt := 17) hx hb dX7_guess_10 (by decide) (fun c0 => absurd c0 (by decide)) (fun _ => ?_)
    refine lv_iconst (v := 1) hx hb dX7_guess_13 (by decide) ?_
    refine lv_goto (tgt := 18) hx hb dX7_guess_14 (by decide) ?_
    refine lv_iconst (v := 1) hx hb dX7_guess_18 (by decide) ?_
    refine t_callV (n := 2) C w hT hm_m_ ht_m_ (by decide) rfl rfl (c_X7_bad1 l D K b0 sa _ L _ Ψ hT m_ hm_m_ ht_m_ hu_7) gw_1347 gw_1344 gw_1346 gs_22 gw_8 ⟨by decide, by decide, by decide +kernel⟩ rfl rfl ⟨by decide, by decide⟩ rfl hl.1 rfl (Nat.le_of_ble_eq_true rfl) dX7_guess_19 ⟨by decide, by decide⟩ (fun v u H locs hp w => ?_)
    obtain ⟨r4, f2, rfl, rfl, hT2, hR1, hrr4⟩ := hp
    have hR := hR.tr hR1
    clear hT
    have hT := hT2
    clear hT2
    generalize f2 = f at w hT hR
    obtain rfl := hrr4
    refine lv_if_eq (tgt := 27) hx hb dX7_guess_22 (by decide) (fun c0 => absurd c0 (by decide)) (fun _ => ?_)
    refine lv_iconst (v := 0) hx hb dX7_guess_25 (by decide) ?_
    have n0 : (0 : Int32).toInt = 0 := by decide
    exact t_iret C hr hlk w ⟨_, 1, _, rfl, rfl, hT.mono (gof_sub rfl), hR, Or.inl ⟨rfl, rfl, (by omega)⟩⟩ (by decide) (by decide) dX7_guess_26
set_option maxHeartbeats 4000000 in
set_option maxRecDepth 100000 in
theorem c_X7_refill (l : Launch) (D : va_G) (K : Nat → ClassId) (b0 : Nat) (sa : Nat × Nat × Nat) (sz : Nat) (L : List Nat) (f0 : Nat → va_E) (Ψ : Nat → Nat) (hT : TW K (gof gM0) Ψ L f0) (m_ : Nat) (hm_m_ : m_ ∈ L) (ht_m_ : Ψ m_ = 7) (hu_7 : ∀ b c : Nat, b ∈ L → c ∈ L → Ψ b = 7 → Ψ c = 7 → b = c) : Met l yX7_refill (.code yX7_refill cX7_refill 4 (some .int) :: gt) { frames := 0, cells := 0, slots := 0, locals := 0 } (va_Pc [.ref m_] (hPre D K b0 sa sz L f0)) (hQ D K b0 (fun v9 u9 => ∃ (r : Int32) (th : Int32) (f2 : Nat → va_E), v9 = some (.int r) ∧ u9 = (gof [(700, th)], Ψ, L, f2) ∧ TW K (gof [(700, th)]) Ψ L f2 ∧ rawk Ψ L f0 f2 ∧ ((r = 0 ∧ th = 0)))) 0 0 (fun q => b0 ≤ q) := by
  refine t_of (own := RX7) (by decide) rfl ?_ (Nat.le_of_ble_eq_true rfl)
  intro p e s m below meth c ls C w hsz hr hlk hnm hl
  have hx := C.1
  have hb := C.2.1
  have hl : lv_has ls 4 [(0, .ref m_)] := hl
  have hR : rawk Ψ L f0 f0 := rawk.rf
  refine lv_aload_n hx hb dX7_refill_0 rfl (lv_at hl 0 rfl) ?_
  refine lv_iconst (v := 0) hx hb dX7_refill_1 (by decide) ?_
  refine t_puti C w hT hm_m_ ht_m_ (by decide) rfl cin_7 tyX7 tyX7_ok nmX7 0 (by decide) rfl rfl rfl rfl rfl (gof_is rfl) gw_1156 dX7_refill_2 (fun f H locs w hT hR1 => ?_)
  have hR := hR.tr hR1
  refine lv_iconst (v := 0) hx hb dX7_refill_5 (by decide) ?_
  refine lv_istore_n (lv' := [(1, .int 0), (0, .ref m_)]) hx hb dX7_refill_6 rfl hl (by decide) rfl (fun ls hl => ?_)
  refine lv_iconst (v := 0) hx hb dX7_refill_7 (by decide) ?_
  refine lv_istore_n (lv' := [(2, .int 0), (1, .int 0), (0, .ref m_)]) hx hb dX7_refill_8 rfl hl (by decide) rfl (fun ls hl => ?_)
  have loop1 : ∀ (n i1 : Nat), i1 ≤ 64 → 64 - i1 < n → ∀ (f : Nat → va_E) (H : Heap) (locs : List Loc), Wh D K b0 sa s H locs L f → TW K (gof gM0) Ψ L f → rawk Ψ L f0 f → ∀ ls : Array Slot, lv_has ls 4 [(2, .int (nI i1)), (1, .int 0), (0, .ref m_)] → W p l e { frames := 0, cells := 0, slots := 0, locals := 0 } s m [.ref m_].toArray below meth c H locs 0 0 (MQ below (hQ D K b0 (fun v9 u9 => ∃ (r : Int32) (th : Int32) (f2 : Nat → va_E), v9 = some (.int r) ∧ u9 = (gof [(700, th)], Ψ, L, f2) ∧ TW K (gof [(700, th)]) Ψ L f2 ∧ rawk Ψ L f0 f2 ∧ ((r = 0 ∧ th = 0)))) [.ref m_].toArray s 0 0 (fun q => b0 ≤ q)) (F0 m 9 ls []) := by
    intro n
    induction n with
    | zero => intro i1 h1 h2; exact absurd h2 (Nat.not_lt_zero _)
    | succ n ih1 =>
      intro i1 hi1 hn1 f H locs w hT hR ls hl
      have ti1 : (nI i1).toInt = (i1 : Int) := nI_toInt (by omega)
      refine lv_iload_n hx hb dX7_refill_9 rfl (lv_at hl 0 rfl) ?_
      refine lv_bipush (v := 64) hx hb dX7_refill_10 (by decide) ?_
      have n64 : (64 : Int32).toInt = 64 := by decide
      refine lv_icmp_ge (tgt := 28) hx hb dX7_refill_12 (by decide) (fun c2 => ?_) (fun c2 => ?_)
      · have c2 := le_toInt c2
        refine lv_iconst (v := 0) hx hb dX7_refill_28 (by decide) ?_
        refine lv_istore_n (lv' := [(2, .int 0), (1, .int 0), (0, .ref m_)]) hx hb dX7_refill_29 rfl hl (by decide) rfl (fun ls hl => ?_)
        refine lv_iload_n hx hb dX7_refill_30 rfl (lv_at hl 0 rfl) ?_
        refine lv_aload_n hx hb dX7_refill_31 rfl (lv_at hl 2 rfl) ?_
        refine t_geti C w hT hm_m_ ht_m_ (by decide) rfl cin_7 21 (by decide) rfl rfl gw_1177 dX7_refill_32 (fun x3 hg => ?_)
        obtain rfl : x3 = 0 := gof_at rfl hg
        refine lv_icmp_ge (tgt := 103) hx hb dX7_refill_35 (by decide) (fun _ => ?_) (fun c0 => absurd c0 (by decide))
        refine lv_aload_n hx hb dX7_refill_103 rfl (lv_at hl 2 rfl) ?_
        refine lv_iconst (v := 0) hx hb dX7_refill_104 (by decide) ?_
        refine t_puti C w hT hm_m_ ht_m_ (by decide) rfl cin_7 tyX7 tyX7_ok nmX7 35 (by decide) rfl rfl rfl rfl rfl (gof_is rfl) gw_1191 dX7_refill_105 (fun f H locs w hT hR1 => ?_)
        have hR := hR.tr hR1
        refine lv_aload_n hx hb dX7_refill_108 rfl (lv_at hl 2 rfl) ?_
        refine lv_iconst (v := 0) hx hb dX7_refill_109 (by decide) ?_
        refine t_puti C w hT hm_m_ ht_m_ (by decide) rfl cin_7 tyX7 tyX7_ok nmX7 36 (by decide) rfl rfl rfl rfl rfl (gof_is rfl) gw_1192 dX7_refill_110 (fun f H locs w hT hR1 => ?_)
        have hR := hR.tr hR1
        refine lv_aload_n hx hb dX7_refill_113 rfl (lv_at hl 2 rfl) ?_
        refine lv_iconst (v := 0) hx hb dX7_refill_114 (by decide) ?_
        refine t_puti C w hT hm_m_ ht_m_ (by decide) rfl cin_7 tyX7 tyX7_ok nmX7 37 (by decide) rfl rfl rfl rfl rfl (gof_is rfl) gw_1193 dX7_refill_115 (fun f H locs w hT hR1 => ?_)
        have hR := hR.tr hR1
        refine lv_aload_n hx hb dX7_refill_118 rfl (lv_at hl 2 rfl) ?_
        refine lv_iconst (v := 0) hx hb dX7_refill_119 (by decide) ?_
        refine t_puti C w hT hm_m_ ht_m_ (by decide) rfl cin_7 tyX7 tyX7_ok nmX7 38 (by decide) rfl rfl rfl rfl rfl (gof_is rfl) gw_1194 dX7_refill_120 (fun f H locs w hT hR1 => ?_)
        have hR := hR.tr hR1
        refine lv_aload_n hx hb dX7_refill_123 rfl (lv_at hl 2 rfl) ?_
        refine lv_iconst (v := 0) hx hb dX7_refill_124 (by decide) ?_
        refine t_puti C w hT hm_m_ ht_m_ (by decide) rfl cin_7 tyX7 tyX7_ok nmX7 46 (by decide) rfl rfl rfl rfl rfl (gof_is rfl) gw_1202 dX7_refill_125 (fun f H locs w hT hR1 => ?_)
        have hR := hR.tr hR1
        refine lv_iload_n hx hb dX7_refill_128 rfl (lv_at hl 1 rfl) ?_
        have n0 : (0 : Int32).toInt = 0 := by decide
        exact t_iret C hr hlk w ⟨_, 0, _, rfl, rfl, hT.mono (gof_sub rfl), hR, ⟨rfl, rfl⟩⟩ (by decide) (by decide) dX7_refill_129
      · have c2 := nle_toInt c2
        refine lv_aload_n hx hb dX7_refill_15 rfl (lv_at hl 2 rfl) ?_
        refine t_getr C w hT hm_m_ ht_m_ (by decide) rfl cin_7 29 (by decide) rfl gw_1185 dX7_refill_16 (fun q4 hm_q4 ht_q4 => ?_)
        refine lv_iload_n hx hb dX7_refill_19 rfl (lv_at hl 0 rfl) ?_
        refine lv_iconst (v := 0) hx hb dX7_refill_20 (by decide) ?_
        refine t_iast C w hT hm_q4 ht_q4 (by decide) (by decide) rfl (vp_in_iff.mpr ⟨by omega, (show _ < ((64 : Nat) : Int) by omega)⟩) (gof_is rfl) dX7_refill_21 (fun f H locs w hT hR1 => ?_)
        have hR := hR.tr hR1
        refine lv_iinc (v := (nI (i1 + 1))) (lv' := [(2, .int (nI (i1 + 1))), (1, .int 0), (0, .ref m_)]) hx hb dX7_refill_22 hl (k := 0) rfl (by exact nI_1 i1) (by decide) rfl (fun ls hl => ?_)
        refine lv_goto (tgt := 9) hx hb dX7_refill_25 (by decide) ?_
        exact ih1 (i1 + 1) (by omega) (by omega) _ _ _ w hT hR ls (lv_sub hl [0, 1, 2] rfl)
  exact loop1 65 0 (by decide) (by decide) _ _ _ w hT hR ls hl
set_option maxHeartbeats 4000000 in
set_option maxRecDepth 100000 in
theorem c_X7_restore (l : Launch) (D : va_G) (K : Nat → ClassId) (b0 : Nat) (sa : Nat × Nat × Nat) (sz : Nat) (L : List Nat) (f0 : Nat → va_E) (Ψ : Nat → Nat) (hT : TW K (gof gM0) Ψ L f0) (m_ : Nat) (hm_m_ : m_ ∈ L) (ht_m_ : Ψ m_ = 7) (hu_7 : ∀ b c : Nat, b ∈ L → c ∈ L → Ψ b = 7 → Ψ c = 7 → b = c) : Met l yX7_restore (.code yX7_restore cX7_restore 5 (some .int) :: gt) { frames := 0, cells := 0, slots := 0, locals := 0 } (va_Pc [.ref m_] (hPre D K b0 sa sz L f0)) (hQ D K b0 (fun v9 u9 => ∃ (r : Int32) (th : Int32) (f2 : Nat → va_E), v9 = some (.int r) ∧ u9 = (gof [(700, th)], Ψ, L, f2) ∧ TW K (gof [(700, th)]) Ψ L f2 ∧ rawk Ψ L f0 f2 ∧ ((r = (-1) ∧ th = 0)))) 0 0 (fun q => b0 ≤ q) := by
  refine t_of (own := RX7) (by decide) rfl ?_ (Nat.le_of_ble_eq_true rfl)
  intro p e s m below meth c ls C w hsz hr hlk hnm hl
  have hx := C.1
  have hb := C.2.1
  have hl : lv_has ls 5 [(0, .ref m_)] := hl
  have hR : rawk Ψ L f0 f0 := rawk.rf
  refine lv_aload_n hx hb dX7_restore_0 rfl (lv_at hl 0 rfl) ?_
  refine lv_iconst (v := 0) hx hb dX7_restore_1 (by decide) ?_
  refine t_puti C w hT hm_m_ ht_m_ (by decide) rfl cin_7 tyX7 tyX7_ok nmX7 0 (by decide) rfl rfl rfl rfl rfl (gof_is rfl) gw_1156 dX7_restore_2 (fun f H locs w hT hR1 => ?_)
  have hR := hR.tr hR1
  refine lv_aload_n hx hb dX7_restore_5 rfl (lv_at hl 0 rfl) ?_
  refine t_geti C w hT hm_m_ ht_m_ (by decide) rfl cin_7 56 (by decide) rfl rfl gw_1212 dX7_restore_6 (fun x1 hg => ?_)
  obtain rfl : x1 = 0 := gof_at rfl hg
  refine lv_if_ne (tgt := 14) hx hb dX7_restore_9 (by decide) (fun c0 => absurd c0 (by decide)) (fun _ => ?_)
  refine lv_iconst (v := (-1)) hx hb dX7_restore_12 (by decide) ?_
  have nm1 : ((-1) : Int32).toInt = -1 := by decide
  exact t_iret C hr hlk w ⟨_, 0, _, rfl, rfl, hT.mono (gof_sub rfl), hR, ⟨rfl, rfl⟩⟩ (by decide) (by decide) dX7_restore_13
set_option maxHeartbeats 4000000 in
set_option maxRecDepth 100000 in
theorem c_X7_fault (l : Launch) (D : va_G) (K : Nat → ClassId) (b0 : Nat) (sa : Nat × Nat × Nat) (sz : Nat) (L : List Nat) (f0 : Nat → va_E) (Ψ : Nat → Nat) (hT : TW K (gof gM0) Ψ L f0) (m_ : Nat) (hm_m_ : m_ ∈ L) (ht_m_ : Ψ m_ = 7) (hu_7 : ∀ b c : Nat, b ∈ L → c ∈ L → Ψ b = 7 → Ψ c = 7 → b = c) : Met l yX7_fault (.code yX7_fault cX7_fault 1 (some .int) :: gt) { frames := 0, cells := 0, slots := 0, locals := 0 } (va_Pc [.ref m_] (hPre D K b0 sa sz L f0)) (hQ D K b0 (fun v9 u9 => ∃ (r : Int32) (th : Int32) (f2 : Nat → va_E), v9 = some (.int r) ∧ u9 = (gof [(700, th)], Ψ, L, f2) ∧ TW K (gof [(700, th)]) Ψ L f2 ∧ rawk Ψ L f0 f2 ∧ ((r = (-1) ∧ th = 0)))) 0 0 (fun q => b0 ≤ q) := by
  refine t_of (own := RX7) (by decide) rfl ?_ (Nat.le_of_ble_eq_true rfl)
  intro p e s m below meth c ls C w hsz hr hlk hnm hl
  have hx := C.1
  have hb := C.2.1
  have hl : lv_has ls 1 [(0, .ref m_)] := hl
  have hR : rawk Ψ L f0 f0 := rawk.rf
  refine lv_aload_n hx hb dX7_fault_0 rfl (lv_at hl 0 rfl) ?_
  refine lv_iconst (v := 0) hx hb dX7_fault_1 (by decide) ?_
  refine t_puti C w hT hm_m_ ht_m_ (by decide) rfl cin_7 tyX7 tyX7_ok nmX7 0 (by decide) rfl rfl rfl rfl rfl (gof_is rfl) gw_1156 dX7_fault_2 (fun f H locs w hT hR1 => ?_)
  have hR := hR.tr hR1
  refine lv_aload_n hx hb dX7_fault_5 rfl (lv_at hl 0 rfl) ?_
  refine t_geti C w hT hm_m_ ht_m_ (by decide) rfl cin_7 3 (by decide) rfl rfl gw_1159 dX7_fault_6 (fun x1 hg => ?_)
  obtain rfl : x1 = (-1) := gof_at rfl hg
  have nm1 : ((-1) : Int32).toInt = -1 := by decide
  exact t_iret C hr hlk w ⟨_, 0, _, rfl, rfl, hT.mono (gof_sub rfl), hR, ⟨rfl, rfl⟩⟩ (by decide) (by decide) dX7_fault_9
set_option maxHeartbeats 4000000 in
set_option maxRecDepth 100000 in
theorem c_X7_lying (l : Launch) (D : va_G) (K : Nat → ClassId) (b0 : Nat) (sa : Nat × Nat × Nat) (sz : Nat) (L : List Nat) (f0 : Nat → va_E) (Ψ : Nat → Nat) (hT : TW K (gof gM1) Ψ L f0) (m_ : Nat) (hm_m_ : m_ ∈ L) (ht_m_ : Ψ m_ = 7) (pl : Int32) : Met l yX7_lying (.code yX7_lying cX7_lying 4 (some .int) :: gt) { frames := 0, cells := 0, slots := 0, locals := 0 } (va_Pc [.ref m_, .int pl] (hPre D K b0 sa sz L f0)) (hQ D K b0 (fun v9 u9 => ∃ r : Int32, v9 = some (.int r) ∧ u9 = ((gof gM1), Ψ, L, f0) ∧ (r = 0))) 0 0 (fun q => b0 ≤ q) := by
  refine t_of (own := RX7) (by decide) rfl ?_ (Nat.le_of_ble_eq_true rfl)
  intro p e s m below meth c ls C w hsz hr hlk hnm hl
  have hx := C.1
  have hb := C.2.1
  have hl : lv_has ls 4 [(0, .ref m_), (1, .int pl)] := hl
  have hb_pl := ti_bd pl
  have hR : rawk Ψ L f0 f0 := rawk.rf
  refine lv_iconst (v := 0) hx hb dX7_lying_0 (by decide) ?_
  refine lv_istore_n (lv' := [(2, .int 0), (0, .ref m_), (1, .int pl)]) hx hb dX7_lying_1 rfl hl (by decide) rfl (fun ls hl => ?_)
  refine lv_iconst (v := 0) hx hb dX7_lying_2 (by decide) ?_
  refine lv_istore_n (lv' := [(3, .int 0), (2, .int 0), (0, .ref m_), (1, .int pl)]) hx hb dX7_lying_3 rfl hl (by decide) rfl (fun ls hl => ?_)
  refine lv_iload_n hx hb dX7_lying_4 rfl (lv_at hl 0 rfl) ?_
  refine lv_aload_n hx hb dX7_lying_5 rfl (lv_at hl 2 rfl) ?_
  refine t_geti C w hT hm_m_ ht_m_ (by decide) rfl cin_7 21 (by decide) rfl rfl gw_1177 dX7_lying_6 (fun x1 hg => ?_)
  obtain rfl : x1 = 0 := gof_at rfl hg
  refine lv_icmp_ge (tgt := 58) hx hb dX7_lying_9 (by decide) (fun _ => ?_) (fun c0 => absurd c0 (by decide))
  refine lv_iload_n hx hb dX7_lying_58 rfl (lv_at hl 1 rfl) ?_
  have n0 : (0 : Int32).toInt = 0 := by decide
  exact t_iret C hr hlk w ⟨_, rfl, rfl, rfl⟩ (by decide) (by decide) dX7_lying_59
set_option maxHeartbeats 4000000 in
set_option maxRecDepth 100000 in
theorem c_X7_count (l : Launch) (D : va_G) (K : Nat → ClassId) (b0 : Nat) (sa : Nat × Nat × Nat) (sz : Nat) (L : List Nat) (f0 : Nat → va_E) (Ψ : Nat → Nat) (hT : TW K (gof gM0) Ψ L f0) (m_ : Nat) (hm_m_ : m_ ∈ L) (ht_m_ : Ψ m_ = 7) (wh : Int32) (hu_7 : ∀ b c : Nat, b ∈ L → c ∈ L → Ψ b = 7 → Ψ c = 7 → b = c) : Met l yX7_count (.code yX7_count cX7_count 2 (some .int) :: gt) { frames := 1, cells := 0, slots := 0, locals := 23 } (va_Pc [.ref m_, .int wh] (hPre D K b0 sa sz L f0)) (hQ D K b0 (fun v9 u9 => ∃ (r : Int32) (th : Int32) (f2 : Nat → va_E), v9 = some (.int r) ∧ u9 = (gof [(700, th)], Ψ, L, f2) ∧ TW K (gof [(700, th)]) Ψ L f2 ∧ rawk Ψ L f0 f2 ∧ ((r = 0 ∧ th = 0 ∧ ((0 ≤ wh.toInt ∧ wh.toInt ≤ 4) ∨ (6 ≤ wh.toInt ∧ wh.toInt ≤ 12))) ∨ (r = 1 ∧ th = 0 ∧ (wh.toInt = 5 ∨ wh.toInt = 13)) ∨ (r = (-1) ∧ th = 0 ∧ (wh.toInt < 0 ∨ 13 < wh.toInt))))) 0 0 (fun q => b0 ≤ q) := by
  refine t_of (own := RX7) (by decide) rfl ?_ (Nat.le_of_ble_eq_true rfl)
  intro p e s m below meth c ls C w hsz hr hlk hnm hl
  have hx := C.1
  have hb := C.2.1
  have hl : lv_has ls 2 [(0, .ref m_), (1, .int wh)] := hl
  have hb_wh := ti_bd wh
  have hR : rawk Ψ L f0 f0 := rawk.rf
  refine lv_aload_n hx hb dX7_count_0 rfl (lv_at hl 0 rfl) ?_
  refine lv_iconst (v := 0) hx hb dX7_count_1 (by decide) ?_
  refine t_puti C w hT hm_m_ ht_m_ (by decide) rfl cin_7 tyX7 tyX7_ok nmX7 0 (by decide) rfl rfl rfl rfl rfl (gof_is rfl) gw_1156 dX7_count_2 (fun f H locs w hT hR1 => ?_)
  have hR := hR.tr hR1
  refine lv_iload_n hx hb dX7_count_5 rfl (lv_at hl 1 rfl) ?_
  rcases (show wh.toInt = 0 ∨ wh.toInt = 1 ∨ wh.toInt = 2 ∨ wh.toInt = 3 ∨ wh.toInt = 4 ∨ wh.toInt = 5 ∨ wh.toInt = 6 ∨ wh.toInt = 7 ∨ wh.toInt = 8 ∨ wh.toInt = 9 ∨ wh.toInt = 10 ∨ wh.toInt = 11 ∨ wh.toInt = 12 ∨ wh.toInt = 13 ∨ (wh.toInt < 0 ∨ 13 < wh.toInt) by omega) with k1 | k1 | k1 | k1 | k1 | k1 | k1 | k1 | k1 | k1 | k1 | k1 | k1 | k1 | k1
  · refine lv_tableIn (tgt := 76) hx hb dX7_count_6 (by omega) (by omega) (by rw [k1]; rfl) (by decide) ?_
    refine lv_aload_n hx hb dX7_count_76 rfl (lv_at hl 0 rfl) ?_
    refine t_geti C w hT hm_m_ ht_m_ (by decide) rfl cin_7 21 (by decide) rfl rfl gw_1177 dX7_count_77 (fun x2 hg => ?_)
    obtain rfl : x2 = 0 := gof_at rfl hg
    have n0 : (0 : Int32).toInt = 0 := by decide
    exact t_iret C hr hlk w ⟨_, 0, _, rfl, rfl, hT.mono (gof_sub rfl), hR, Or.inl ⟨rfl, rfl, (by omega)⟩⟩ (by decide) (by decide) dX7_count_80
  · refine lv_tableIn (tgt := 81) hx hb dX7_count_6 (by omega) (by omega) (by rw [k1]; rfl) (by decide) ?_
    refine lv_aload_n hx hb dX7_count_81 rfl (lv_at hl 0 rfl) ?_
    refine lv_iconst (v := 0) hx hb dX7_count_82 (by decide) ?_
    have n0 : (0 : Int32).toInt = 0 := by decide
    refine t_callV (n := 1) C w hT hm_m_ ht_m_ (by decide) rfl rfl (c_X7_lying l D K b0 sa _ L _ Ψ (hT.mono (gof_sub rfl)) m_ hm_m_ ht_m_ 0) gw_1690 gw_1687 gw_1689 gs_67 gw_8 ⟨by decide, by decide, by decide +kernel⟩ rfl rfl ⟨by decide, by decide⟩ rfl hl.1 rfl (Nat.le_of_ble_eq_true rfl) dX7_count_83 ⟨by decide, by decide⟩ (fun v u H locs hp w => ?_)
    obtain ⟨r3, rfl, rfl, hrr3⟩ := hp
    obtain rfl := hrr3
    exact t_iret C hr hlk w ⟨_, 0, _, rfl, rfl, hT.mono (gof_sub rfl), hR, Or.inl ⟨rfl, rfl, (by omega)⟩⟩ (by decide) (by decide) dX7_count_86
  · refine lv_tableIn (tgt := 87) hx hb dX7_count_6 (by omega) (by omega) (by rw [k1]; rfl) (by decide) ?_
    refine lv_aload_n hx hb dX7_count_87 rfl (lv_at hl 0 rfl) ?_
    refine lv_iconst (v := 1) hx hb dX7_count_88 (by decide) ?_
    have n1 : (1 : Int32).toInt = 1 := by decide
    refine t_callV (n := 1) C w hT hm_m_ ht_m_ (by decide) rfl rfl (c_X7_lying l D K b0 sa _ L _ Ψ (hT.mono (gof_sub rfl)) m_ hm_m_ ht_m_ 1) gw_1690 gw_1687 gw_1689 gs_67 gw_8 ⟨by decide, by decide, by decide +kernel⟩ rfl rfl ⟨by decide, by decide⟩ rfl hl.1 rfl (Nat.le_of_ble_eq_true rfl) dX7_count_89 ⟨by decide, by decide⟩ (fun v u H locs hp w => ?_)
    obtain ⟨r4, rfl, rfl, hrr4⟩ := hp
    obtain rfl := hrr4
    have n0 : (0 : Int32).toInt = 0 := by decide
    exact t_iret C hr hlk w ⟨_, 0, _, rfl, rfl, hT.mono (gof_sub rfl), hR, Or.inl ⟨rfl, rfl, (by omega)⟩⟩ (by decide) (by decide) dX7_count_92
  · refine lv_tableIn (tgt := 93) hx hb dX7_count_6 (by omega) (by omega) (by rw [k1]; rfl) (by decide) ?_
    refine lv_aload_n hx hb dX7_count_93 rfl (lv_at hl 0 rfl) ?_
    refine lv_iconst (v := 2) hx hb dX7_count_94 (by decide) ?_
    have n2 : (2 : Int32).toInt = 2 := by decide
    refine t_callV (n := 1) C w hT hm_m_ ht_m_ (by decide) rfl rfl (c_X7_lying l D K b0 sa _ L _ Ψ (hT.mono (gof_sub rfl)) m_ hm_m_ ht_m_ 2) gw_1690 gw_1687 gw_1689 gs_67 gw_8 ⟨by decide, by decide, by decide +kernel⟩ rfl rfl ⟨by decide, by decide⟩ rfl hl.1 rfl (Nat.le_of_ble_eq_true rfl) dX7_count_95 ⟨by decide, by decide⟩ (fun v u H locs hp w => ?_)
    obtain ⟨r5, rfl, rfl, hrr5⟩ := hp
    obtain rfl := hrr5
    have n0 : (0 : Int32).toInt = 0 := by decide
    exact t_iret C hr hlk w ⟨_, 0, _, rfl, rfl, hT.mono (gof_sub rfl), hR, Or.inl ⟨rfl, rfl, (by omega)⟩⟩ (by decide) (by decide) dX7_count_98
  · refine lv_tableIn (tgt := 99) hx hb dX7_count_6 (by omega) (by omega) (by rw [k1]; rfl) (by decide) ?_
    refine lv_aload_n hx hb dX7_count_99 rfl (lv_at hl 0 rfl) ?_
    refine t_geti C w hT hm_m_ ht_m_ (by decide) rfl cin_7 35 (by decide) rfl rfl gw_1191 dX7_count_100 (fun x6 hg => ?_)
    obtain rfl : x6 = 0 := gof_at rfl hg
    have n0 : (0 : Int32).toInt = 0 := by decide
    exact t_iret C hr hlk w ⟨_, 0, _, rfl, rfl, hT.mono (gof_sub rfl), hR, Or.inl ⟨rfl, rfl, (by omega)⟩⟩ (by decide) (by decide) dX7_count_103
  · refine lv_tableIn (tgt := 104) hx hb dX7_count_6 (by omega) (by omega) (by rw [k1]; rfl) (by decide) ?_
    refine lv_aload_n hx hb dX7_count_104 rfl (lv_at hl 0 rfl) ?_
    refine t_geti C w hT hm_m_ ht_m_ (by decide) rfl cin_7 36 (by decide) rfl rfl gw_1192 dX7_count_105 (fun x7 hg => ?_)
    obtain rfl : x7 = 0 := gof_at rfl hg
    refine lv_iconst (v := 1) hx hb dX7_count_108 (by decide) ?_
    refine lv_iadd hx hb dX7_count_109 ?_
    refine lv_topi (fun y8 ey8 => ?_)
    obtain rfl : y8 = 1 := ey8.trans (by decide)
    have n1 : (1 : Int32).toInt = 1 := by decide
    exact t_iret C hr hlk w ⟨_, 0, _, rfl, rfl, hT.mono (gof_sub rfl), hR, Or.inr (Or.inl ⟨rfl, rfl, (by omega)⟩)⟩ (by decide) (by decide) dX7_count_110
  · refine lv_tableIn (tgt := 111) hx hb dX7_count_6 (by omega) (by omega) (by rw [k1]; rfl) (by decide) ?_
    refine lv_aload_n hx hb dX7_count_111 rfl (lv_at hl 0 rfl) ?_
    refine t_geti C w hT hm_m_ ht_m_ (by decide) rfl cin_7 37 (by decide) rfl rfl gw_1193 dX7_count_112 (fun x9 hg => ?_)
    obtain rfl : x9 = 0 := gof_at rfl hg
    have n0 : (0 : Int32).toInt = 0 := by decide
    exact t_iret C hr hlk w ⟨_, 0, _, rfl, rfl, hT.mono (gof_sub rfl), hR, Or.inl ⟨rfl, rfl, (by omega)⟩⟩ (by decide) (by decide) dX7_count_115
  · refine lv_tableIn (tgt := 116) hx hb dX7_count_6 (by omega) (by omega) (by rw [k1]; rfl) (by decide) ?_
    refine lv_aload_n hx hb dX7_count_116 rfl (lv_at hl 0 rfl) ?_
    refine t_geti C w hT hm_m_ ht_m_ (by decide) rfl cin_7 38 (by decide) rfl rfl gw_1194 dX7_count_117 (fun x10 hg => ?_)
    obtain rfl : x10 = 0 := gof_at rfl hg
    have n0 : (0 : Int32).toInt = 0 := by decide
    exact t_iret C hr hlk w ⟨_, 0, _, rfl, rfl, hT.mono (gof_sub rfl), hR, Or.inl ⟨rfl, rfl, (by omega)⟩⟩ (by decide) (by decide) dX7_count_120
  · refine lv_tableIn (tgt := 121) hx hb dX7_count_6 (by omega) (by omega) (by rw [k1]; rfl) (by decide) ?_
    refine lv_aload_n hx hb dX7_count_121 rfl (lv_at hl 0 rfl) ?_
    refine t_geti C w hT hm_m_ ht_m_ (by decide) rfl cin_7 13 (by decide) rfl rfl gw_1169 dX7_count_122 (fun x11 hg => ?_)
    obtain rfl : x11 = 0 := gof_at rfl hg
    have n0 : (0 : Int32).toInt = 0 := by decide
    exact t_iret C hr hlk w ⟨_, 0, _, rfl, rfl, hT.mono (gof_sub rfl), hR, Or.inl ⟨rfl, rfl, (by omega)⟩⟩ (by decide) (by decide) dX7_count_125
  · refine lv_tableIn (tgt := 126) hx hb dX7_count_6 (by omega) (by omega) (by rw [k1]; rfl) (by decide) ?_
    refine lv_aload_n hx hb dX7_count_126 rfl (lv_at hl 0 rfl) ?_
    refine t_geti C w hT hm_m_ ht_m_ (by decide) rfl cin_7 14 (by decide) rfl rfl gw_1170 dX7_count_127 (fun x12 hg => ?_)
    obtain rfl : x12 = 0 := gof_at rfl hg
    have n0 : (0 : Int32).toInt = 0 := by decide
    exact t_iret C hr hlk w ⟨_, 0, _, rfl, rfl, hT.mono (gof_sub rfl), hR, Or.inl ⟨rfl, rfl, (by omega)⟩⟩ (by decide) (by decide) dX7_count_130
  · refine lv_tableIn (tgt := 131) hx hb dX7_count_6 (by omega) (by omega) (by rw [k1]; rfl) (by decide) ?_
    refine lv_aload_n hx hb dX7_count_131 rfl (lv_at hl 0 rfl) ?_
    refine t_geti C w hT hm_m_ ht_m_ (by decide) rfl cin_7 48 (by decide) rfl rfl gw_1204 dX7_count_132 (fun x13 hg => ?_)
    obtain rfl : x13 = 0 := gof_at rfl hg
    have n0 : (0 : Int32).toInt = 0 := by decide
    exact t_iret C hr hlk w ⟨_, 0, _, rfl, rfl, hT.mono (gof_sub rfl), hR, Or.inl ⟨rfl, rfl, (by omega)⟩⟩ (by decide) (by decide) dX7_count_135
  · refine lv_tableIn (tgt := 136) hx hb dX7_count_6 (by omega) (by omega) (by rw [k1]; rfl) (by decide) ?_
    refine lv_aload_n hx hb dX7_count_136 rfl (lv_at hl 0 rfl) ?_
    refine t_geti C w hT hm_m_ ht_m_ (by decide) rfl cin_7 56 (by decide) rfl rfl gw_1212 dX7_count_137 (fun x14 hg => ?_)
    obtain rfl : x14 = 0 := gof_at rfl hg
    have n0 : (0 : Int32).toInt = 0 := by decide
    exact t_iret C hr hlk w ⟨_, 0, _, rfl, rfl, hT.mono (gof_sub rfl), hR, Or.inl ⟨rfl, rfl, (by omega)⟩⟩ (by decide) (by decide) dX7_count_140
  · refine lv_tableIn (tgt := 141) hx hb dX7_count_6 (by omega) (by omega) (by rw [k1]; rfl) (by decide) ?_
    refine lv_aload_n hx hb dX7_count_141 rfl (lv_at hl 0 rfl) ?_
    refine t_geti C w hT hm_m_ ht_m_ (by decide) rfl cin_7 1 (by decide) rfl rfl gw_1157 dX7_count_142 (fun x15 hg => ?_)
    obtain rfl : x15 = 0 := gof_at rfl hg
    have n0 : (0 : Int32).toInt = 0 := by decide
    exact t_iret C hr hlk w ⟨_, 0, _, rfl, rfl, hT.mono (gof_sub rfl), hR, Or.inl ⟨rfl, rfl, (by omega)⟩⟩ (by decide) (by decide) dX7_count_145
  · refine lv_tableIn (tgt := 146) hx hb dX7_count_6 (by omega) (by omega) (by rw [k1]; rfl) (by decide) ?_
    refine lv_aload_n hx hb dX7_count_146 rfl (lv_at hl 0 rfl) ?_
    refine t_geti C w hT hm_m_ ht_m_ (by decide) rfl cin_7 34 (by decide) rfl rfl gw_1190 dX7_count_147 (fun x16 hg => ?_)
    obtain rfl : x16 = 1 := gof_at rfl hg
    have n1 : (1 : Int32).toInt = 1 := by decide
    exact t_iret C hr hlk w ⟨_, 0, _, rfl, rfl, hT.mono (gof_sub rfl), hR, Or.inr (Or.inl ⟨rfl, rfl, (by omega)⟩)⟩ (by decide) (by decide) dX7_count_150
  · refine lv_tableOut (tgt := 151) hx hb dX7_count_6 k1 (by decide) ?_
    refine lv_iconst (v := (-1)) hx hb dX7_count_151 (by decide) ?_
    have nm1 : ((-1) : Int32).toInt = -1 := by decide
    exact t_iret C hr hlk w ⟨_, 0, _, rfl, rfl, hT.mono (gof_sub rfl), hR, Or.inr (Or.inr (⟨rfl, rfl, (by omega)⟩))⟩ (by decide) (by decide) dX7_count_152
set_option maxHeartbeats 4000000 in
set_option maxRecDepth 100000 in
theorem c_X7_hand (l : Launch) (D : va_G) (K : Nat → ClassId) (b0 : Nat) (sa : Nat × Nat × Nat) (sz : Nat) (L : List Nat) (f0 : Nat → va_E) (Ψ : Nat → Nat) (hT : TW K (gof gM0) Ψ L f0) (m_ : Nat) (hm_m_ : m_ ∈ L) (ht_m_ : Ψ m_ = 7) (di : Int32) (hu_7 : ∀ b c : Nat, b ∈ L → c ∈ L → Ψ b = 7 → Ψ c = 7 → b = c) : Met l yX7_hand (.code yX7_hand cX7_hand 3 (some .int) :: gt) { frames := 1, cells := 0, slots := 0, locals := 22 } (va_Pc [.ref m_, .int di] (hPre D K b0 sa sz L f0)) (hQ D K b0 (fun v9 u9 => ∃ (r : Int32) (th : Int32) (f2 : Nat → va_E), v9 = some (.int r) ∧ u9 = (gof [(700, th)], Ψ, L, f2) ∧ TW K (gof [(700, th)]) Ψ L f2 ∧ rawk Ψ L f0 f2 ∧ ((r = 0 ∧ th = 1 ∧ (¬ (1 ≤ di.toInt ∧ di.toInt ≤ 134217727))) ∨ (r = 0 ∧ th = 0 ∧ (1 ≤ di.toInt ∧ di.toInt ≤ 134217727))))) 0 0 (fun q => b0 ≤ q) := by
  refine t_of (own := RX7) (by decide) rfl ?_ (Nat.le_of_ble_eq_true rfl)
  intro p e s m below meth c ls C w hsz hr hlk hnm hl
  have hx := C.1
  have hb := C.2.1
  have hl : lv_has ls 3 [(0, .ref m_), (1, .int di)] := hl
  have hb_di := ti_bd di
  have hR : rawk Ψ L f0 f0 := rawk.rf
  refine lv_aload_n hx hb dX7_hand_0 rfl (lv_at hl 0 rfl) ?_
  refine lv_iconst (v := 0) hx hb dX7_hand_1 (by decide) ?_
  refine t_puti C w hT hm_m_ ht_m_ (by decide) rfl cin_7 tyX7 tyX7_ok nmX7 0 (by decide) rfl rfl rfl rfl rfl (gof_is rfl) gw_1156 dX7_hand_2 (fun f H locs w hT hR1 => ?_)
  have hR := hR.tr hR1
  refine lv_aload_n hx hb dX7_hand_5 rfl (lv_at hl 0 rfl) ?_
  refine lv_iload_n hx hb dX7_hand_6 rfl (lv_at hl 1 rfl) ?_
  refine lv_iconst (v := 1) hx hb dX7_hand_7 (by decide) ?_
  refine lv_ldcw hx hb C.2.2.2.1 (C.2.2.2.2 _ gw_1566) dX7_hand_8 ?_
  have n1 : (1 : Int32).toInt = 1 := by decide
  have n134217727 : (134217727 : Int32).toInt = 134217727 := by decide
  refine t_callS (n := 3) C w (c_X7_in l D K b0 sa _ L _ Ψ (gof gM0) hT di 1 134217727) gw_1343 gw_1341 gw_1342 gw_8 ⟨by decide, by decide, by decide +kernel⟩ rfl rfl ⟨by decide, by decide⟩ rfl hl.1 rfl (Nat.le_of_ble_eq_true rfl) dX7_hand_11 ⟨by decide, by decide⟩ (fun v u H locs hp w => ?_)
  obtain ⟨r1, rfl, rfl, hrr1⟩ := hp
  rcases hrr1 with ⟨rfl, hf0_r1, hf1_r1⟩ | ⟨rfl, hf0_r1⟩
  ·
    refine lv_if_ne (tgt := 21) hx hb dX7_hand_14 (by decide) (fun _ => ?_) (fun c0 => absurd c0 (by decide))
    refine lv_iconst (v := 0) hx hb dX7_hand_21 (by decide) ?_
    refine lv_iconst (v := 1) hx hb dX7_hand_22 (by decide) ?_
    refine t_callV (n := 2) C w hT hm_m_ ht_m_ (by decide) rfl rfl (c_X7_bad0 l D K b0 sa _ L _ Ψ (hT.mono (gof_sub rfl)) m_ hm_m_ ht_m_ 1) gw_1347 gw_1344 gw_1346 gs_22 gw_8 ⟨by decide, by decide, by decide +kernel⟩ rfl rfl ⟨by decide, by decide⟩ rfl hl.1 rfl (Nat.le_of_ble_eq_true rfl) dX7_hand_23 ⟨by decide, by decide⟩ (fun v u H locs hp w => ?_)
    obtain ⟨r2, rfl, rfl, hrr2⟩ := hp
    obtain rfl := hrr2
    refine lv_if_eq (tgt := 31) hx hb dX7_hand_26 (by decide) (fun _ => ?_) (fun c0 => absurd c0 (by decide))
    refine lv_aload_n hx hb dX7_hand_31 rfl (lv_at hl 0 rfl) ?_
    refine t_geti C w hT hm_m_ ht_m_ (by decide) rfl cin_7 48 (by decide) rfl rfl gw_1204 dX7_hand_32 (fun x3 hg => ?_)
    obtain rfl : x3 = 0 := gof_at rfl hg
    refine lv_bipush (v := 6) hx hb dX7_hand_35 (by decide) ?_
    refine lv_icmp_ne (tgt := 42) hx hb dX7_hand_37 (by decide) (fun _ => ?_) (fun c0 => absurd c0 (by decide))
    refine lv_iconst (v := 0) hx hb dX7_hand_42 (by decide) ?_
    refine lv_istore_n (lv' := [(2, .int 0), (0, .ref m_), (1, .int di)]) hx hb dX7_hand_43 rfl hl (by decide) rfl (fun ls hl => ?_)
    refine lv_iload_n hx hb dX7_hand_44 rfl (lv_at hl 0 rfl) ?_
    refine lv_bipush (v := 9) hx hb dX7_hand_45 (by decide) ?_
    refine lv_icmp_ge (tgt := 78) hx hb dX7_hand_47 (by decide) (fun c0 => absurd c0 (by decide)) (fun _ => ?_)
    refine lv_aload_n hx hb dX7_hand_50 rfl (lv_at hl 1 rfl) ?_
    refine t_getr C w hT hm_m_ ht_m_ (by decide) rfl cin_7 49 (by decide) rfl gw_1205 dX7_hand_51 (fun q4 hm_q4 ht_q4 => ?_)
    refine lv_aload_n hx hb dX7_hand_54 rfl (lv_at hl 1 rfl) ?_
    refine t_geti C w hT hm_m_ ht_m_ (by decide) rfl cin_7 48 (by decide) rfl rfl gw_1204 dX7_hand_55 (fun x5 hg => ?_)
    obtain rfl : x5 = 0 := gof_at rfl hg
    refine t_aald C w hT hm_q4 ht_q4 (by decide) rfl rfl (vp_in_iff.mpr ⟨by decide, by decide⟩) rfl dX7_hand_58 (fun q6 hm_q6 ht_q6 => ?_)
    refine lv_iload_n hx hb dX7_hand_59 rfl (lv_at hl 0 rfl) ?_
    refine lv_iload_n hx hb dX7_hand_60 rfl (lv_at hl 2 rfl) ?_
    refine lv_iconst (v := 3) hx hb dX7_hand_61 (by decide) ?_
    refine lv_bipush (v := 8) hx hb dX7_hand_62 (by decide) ?_
    refine lv_iload_n hx hb dX7_hand_64 rfl (lv_at hl 0 rfl) ?_
    refine lv_isub hx hb dX7_hand_65 ?_
    refine lv_topi (fun y7 ey7 => ?_)
    obtain rfl : y7 = 8 := ey7.trans (by decide)
    refine lv_imul hx hb dX7_hand_66 ?_
    refine lv_topi (fun y8 ey8 => ?_)
    obtain rfl : y8 = 24 := ey8.trans (by decide)
    refine lv_ishr hx hb dX7_hand_67 ?_
    refine lv_topi (fun y9 ey9 => ?_)
    refine lv_bipush (v := 7) hx hb dX7_hand_68 (by decide) ?_
    refine lv_iand hx hb dX7_hand_70 ?_
    refine lv_topi (fun y10 ey10 => ?_)
    refine t_iast C w hT hm_q6 ht_q6 (by decide) (by decide) rfl (vp_in_iff.mpr ⟨by decide, by decide⟩) (gof_no rfl) dX7_hand_71 (fun f H locs w hT hR1 => ?_)
    have hR := hR.tr hR1
    refine lv_iinc (v := 1) (lv' := [(2, .int 1), (0, .ref m_), (1, .int di)]) hx hb dX7_hand_72 hl (k := 0) rfl (by decide) (by decide) rfl (fun ls hl => ?_)
    refine lv_goto (tgt := 44) hx hb dX7_hand_75 (by decide) ?_
    refine lv_iload_n hx hb dX7_hand_44 rfl (lv_at hl 0 rfl) ?_
    refine lv_bipush (v := 9) hx hb dX7_hand_45 (by decide) ?_
    refine lv_icmp_ge (tgt := 78) hx hb dX7_hand_47 (by decide) (fun c0 => absurd c0 (by decide)) (fun _ => ?_)
    refine lv_aload_n hx hb dX7_hand_50 rfl (lv_at hl 1 rfl) ?_
    refine t_getr C w hT hm_m_ ht_m_ (by decide) rfl cin_7 49 (by decide) rfl gw_1205 dX7_hand_51 (fun q11 hm_q11 ht_q11 => ?_)
    refine lv_aload_n hx hb dX7_hand_54 rfl (lv_at hl 1 rfl) ?_
    refine t_geti C w hT hm_m_ ht_m_ (by decide) rfl cin_7 48 (by decide) rfl rfl gw_1204 dX7_hand_55 (fun x12 hg => ?_)
    obtain rfl : x12 = 0 := gof_at rfl hg
    refine t_aald C w hT hm_q11 ht_q11 (by decide) rfl rfl (vp_in_iff.mpr ⟨by decide, by decide⟩) rfl dX7_hand_58 (fun q13 hm_q13 ht_q13 => ?_)
    refine lv_iload_n hx hb dX7_hand_59 rfl (lv_at hl 0 rfl) ?_
    refine lv_iload_n hx hb dX7_hand_60 rfl (lv_at hl 2 rfl) ?_
    refine lv_iconst (v := 3) hx hb dX7_hand_61 (by decide) ?_
    refine lv_bipush (v := 8) hx hb dX7_hand_62 (by decide) ?_
    refine lv_iload_n hx hb dX7_hand_64 rfl (lv_at hl 0 rfl) ?_
    refine lv_isub hx hb dX7_hand_65 ?_
    refine lv_topi (fun y14 ey14 => ?_)
    obtain rfl : y14 = 7 := ey14.trans (by decide)
    refine lv_imul hx hb dX7_hand_66 ?_
    refine lv_topi (fun y15 ey15 => ?_)
    obtain rfl : y15 = 21 := ey15.trans (by decide)
    refine lv_ishr hx hb dX7_hand_67 ?_
    refine lv_topi (fun y16 ey16 => ?_)
    refine lv_bipush (v := 7) hx hb dX7_hand_68 (by decide) ?_
    refine lv_iand hx hb dX7_hand_70 ?_
    refine lv_topi (fun y17 ey17 => ?_)
    refine t_iast C w hT hm_q13 ht_q13 (by decide) (by decide) rfl (vp_in_iff.mpr ⟨by decide, by decide⟩) (gof_no rfl) dX7_hand_71 (fun f H locs w hT hR1 => ?_)
    have hR := hR.tr hR1
    refine lv_iinc (v := 2) (lv' := [(2, .int 2), (0, .ref m_), (1, .int di)]) hx hb dX7_hand_72 hl (k := 0) rfl (by decide) (by decide) rfl (fun ls hl => ?_)
    refine lv_goto (tgt := 44) hx hb dX7_hand_75 (by decide) ?_
    refine lv_iload_n hx hb dX7_hand_44 rfl (lv_at hl 0 rfl) ?_
    refine lv_bipush (v := 9) hx hb dX7_hand_45 (by decide) ?_
    refine lv_icmp_ge (tgt := 78) hx hb dX7_hand_47 (by decide) (fun c0 => absurd c0 (by decide)) (fun _ => ?_)
    refine lv_aload_n hx hb dX7_hand_50 rfl (lv_at hl 1 rfl) ?_
    refine t_getr C w hT hm_m_ ht_m_ (by decide) rfl cin_7 49 (by decide) rfl gw_1205 dX7_hand_51 (fun q18 hm_q18 ht_q18 => ?_)
    refine lv_aload_n hx hb dX7_hand_54 rfl (lv_at hl 1 rfl) ?_
    refine t_geti C w hT hm_m_ ht_m_ (by decide) rfl cin_7 48 (by decide) rfl rfl gw_1204 dX7_hand_55 (fun x19 hg => ?_)
    obtain rfl : x19 = 0 := gof_at rfl hg
    refine t_aald C w hT hm_q18 ht_q18 (by decide) rfl rfl (vp_in_iff.mpr ⟨by decide, by decide⟩) rfl dX7_hand_58 (fun q20 hm_q20 ht_q20 => ?_)
    refine lv_iload_n hx hb dX7_hand_59 rfl (lv_at hl 0 rfl) ?_
    refine lv_iload_n hx hb dX7_hand_60 rfl (lv_at hl 2 rfl) ?_
    refine lv_iconst (v := 3) hx hb dX7_hand_61 (by decide) ?_
    refine lv_bipush (v := 8) hx hb dX7_hand_62 (by decide) ?_
    refine lv_iload_n hx hb dX7_hand_64 rfl (lv_at hl 0 rfl) ?_
    refine lv_isub hx hb dX7_hand_65 ?_
    refine lv_topi (fun y21 ey21 => ?_)
    obtain rfl : y21 = 6 := ey21.trans (by decide)
    refine lv_imul hx hb dX7_hand_66 ?_
    refine lv_topi (fun y22 ey22 => ?_)
    obtain rfl : y22 = 18 := ey22.trans (by decide)
    refine lv_ishr hx hb dX7_hand_67 ?_
    refine lv_topi (fun y23 ey23 => ?_)
    refine lv_bipush (v := 7) hx hb dX7_hand_68 (by decide) ?_
    refine lv_iand hx hb dX7_hand_70 ?_
    refine lv_topi (fun y24 ey24 => ?_)
    refine t_iast C w hT hm_q20 ht_q20 (by decide) (by decide) rfl (vp_in_iff.mpr ⟨by decide, by decide⟩) (gof_no rfl) dX7_hand_71 (fun f H locs w hT hR1 => ?_)
    have hR := hR.tr hR1
    refine lv_iinc (v := 3) (lv' := [(2, .int 3), (0, .ref m_), (1, .int di)]) hx hb dX7_hand_72 hl (k := 0) rfl (by decide) (by decide) rfl (fun ls hl => ?_)
    refine lv_goto (tgt := 44) hx hb dX7_hand_75 (by decide) ?_
    refine lv_iload_n hx hb dX7_hand_44 rfl (lv_at hl 0 rfl) ?_
    refine lv_bipush (v := 9) hx hb dX7_hand_45 (by decide) ?_
    refine lv_icmp_ge (tgt := 78) hx hb dX7_hand_47 (by decide) (fun c0 => absurd c0 (by decide)) (fun _ => ?_)
    refine lv_aload_n hx hb dX7_hand_50 rfl (lv_at hl 1 rfl) ?_
    refine t_getr C w hT hm_m_ ht_m_ (by decide) rfl cin_7 49 (by decide) rfl gw_1205 dX7_hand_51 (fun q25 hm_q25 ht_q25 => ?_)
    refine lv_aload_n hx hb dX7_hand_54 rfl (lv_at hl 1 rfl) ?_
    refine t_geti C w hT hm_m_ ht_m_ (by decide) rfl cin_7 48 (by decide) rfl rfl gw_1204 dX7_hand_55 (fun x26 hg => ?_)
    obtain rfl : x26 = 0 := gof_at rfl hg
    refine t_aald C w hT hm_q25 ht_q25 (by decide) rfl rfl (vp_in_iff.mpr ⟨by decide, by decide⟩) rfl dX7_hand_58 (fun q27 hm_q27 ht_q27 => ?_)
    refine lv_iload_n hx hb dX7_hand_59 rfl (lv_at hl 0 rfl) ?_
    refine lv_iload_n hx hb dX7_hand_60 rfl (lv_at hl 2 rfl) ?_
    refine lv_iconst (v := 3) hx hb dX7_hand_61 (by decide) ?_
    refine lv_bipush (v := 8) hx hb dX7_hand_62 (by decide) ?_
    refine lv_iload_n hx hb dX7_hand_64 rfl (lv_at hl 0 rfl) ?_
    refine lv_isub hx hb dX7_hand_65 ?_
    refine lv_topi (fun y28 ey28 => ?_)
    obtain rfl : y28 = 5 := ey28.trans (by decide)
    refine lv_imul hx hb dX7_hand_66 ?_
    refine lv_topi (fun y29 ey29 => ?_)
    obtain rfl : y29 = 15 := ey29.trans (by decide)
    refine lv_ishr hx hb dX7_hand_67 ?_
    refine lv_topi (fun y30 ey30 => ?_)
    refine lv_bipush (v := 7) hx hb dX7_hand_68 (by decide) ?_
    refine lv_iand hx hb dX7_hand_70 ?_
    refine lv_topi (fun y31 ey31 => ?_)
    refine t_iast C w hT hm_q27 ht_q27 (by decide) (by decide) rfl (vp_in_iff.mpr ⟨by decide, by decide⟩) (gof_no rfl) dX7_hand_71 (fun f H locs w hT hR1 => ?_)
    have hR := hR.tr hR1
    refine lv_iinc (v := 4) (lv' := [(2, .int 4), (0, .ref m_), (1, .int di)]) hx hb dX7_hand_72 hl (k := 0) rfl (by decide) (by decide) rfl (fun ls hl => ?_)
    refine lv_goto (tgt := 44) hx hb dX7_hand_75 (by decide) ?_
    refine lv_iload_n hx hb dX7_hand_44 rfl (lv_at hl 0 rfl) ?_
    refine lv_bipush (v := 9) hx hb dX7_hand_45 (by decide) ?_
    refine lv_icmp_ge (tgt := 78) hx hb dX7_hand_47 (by decide) (fun c0 => absurd c0 (by decide)) (fun _ => ?_)
    refine lv_aload_n hx hb dX7_hand_50 rfl (lv_at hl 1 rfl) ?_
    refine t_getr C w hT hm_m_ ht_m_ (by decide) rfl cin_7 49 (by decide) rfl gw_1205 dX7_hand_51 (fun q32 hm_q32 ht_q32 => ?_)
    refine lv_aload_n hx hb dX7_hand_54 rfl (lv_at hl 1 rfl) ?_
    refine t_geti C w hT hm_m_ ht_m_ (by decide) rfl cin_7 48 (by decide) rfl rfl gw_1204 dX7_hand_55 (fun x33 hg => ?_)
    obtain rfl : x33 = 0 := gof_at rfl hg
    refine t_aald C w hT hm_q32 ht_q32 (by decide) rfl rfl (vp_in_iff.mpr ⟨by decide, by decide⟩) rfl dX7_hand_58 (fun q34 hm_q34 ht_q34 => ?_)
    refine lv_iload_n hx hb dX7_hand_59 rfl (lv_at hl 0 rfl) ?_
    refine lv_iload_n hx hb dX7_hand_60 rfl (lv_at hl 2 rfl) ?_
    refine lv_iconst (v := 3) hx hb dX7_hand_61 (by decide) ?_
    refine lv_bipush (v := 8) hx hb dX7_hand_62 (by decide) ?_
    refine lv_iload_n hx hb dX7_hand_64 rfl (lv_at hl 0 rfl) ?_
    refine lv_isub hx hb dX7_hand_65 ?_
    refine lv_topi (fun y35 ey35 => ?_)
    obtain rfl : y35 = 4 := ey35.trans (by decide)
    refine lv_imul hx hb dX7_hand_66 ?_
    refine lv_topi (fun y36 ey36 => ?_)
    obtain rfl : y36 = 12 := ey36.trans (by decide)
    refine lv_ishr hx hb dX7_hand_67 ?_
    refine lv_topi (fun y37 ey37 => ?_)
    refine lv_bipush (v := 7) hx hb dX7_hand_68 (by decide) ?_
    refine lv_iand hx hb dX7_hand_70 ?_
    refine lv_topi (fun y38 ey38 => ?_)
    refine t_iast C w hT hm_q34 ht_q34 (by decide) (by decide) rfl (vp_in_iff.mpr ⟨by decide, by decide⟩) (gof_no rfl) dX7_hand_71 (fun f H locs w hT hR1 => ?_)
    have hR := hR.tr hR1
    refine lv_iinc (v := 5) (lv' := [(2, .int 5), (0, .ref m_), (1, .int di)]) hx hb dX7_hand_72 hl (k := 0) rfl (by decide) (by decide) rfl (fun ls hl => ?_)
    refine lv_goto (tgt := 44) hx hb dX7_hand_75 (by decide) ?_
    refine lv_iload_n hx hb dX7_hand_44 rfl (lv_at hl 0 rfl) ?_
    refine lv_bipush (v := 9) hx hb dX7_hand_45 (by decide) ?_
    refine lv_icmp_ge (tgt := 78) hx hb dX7_hand_47 (by decide) (fun c0 => absurd c0 (by decide)) (fun _ => ?_)
    refine lv_aload_n hx hb dX7_hand_50 rfl (lv_at hl 1 rfl) ?_
    refine t_getr C w hT hm_m_ ht_m_ (by decide) rfl cin_7 49 (by decide) rfl gw_1205 dX7_hand_51 (fun q39 hm_q39 ht_q39 => ?_)
    refine lv_aload_n hx hb dX7_hand_54 rfl (lv_at hl 1 rfl) ?_
    refine t_geti C w hT hm_m_ ht_m_ (by decide) rfl cin_7 48 (by decide) rfl rfl gw_1204 dX7_hand_55 (fun x40 hg => ?_)
    obtain rfl : x40 = 0 := gof_at rfl hg
    refine t_aald C w hT hm_q39 ht_q39 (by decide) rfl rfl (vp_in_iff.mpr ⟨by decide, by decide⟩) rfl dX7_hand_58 (fun q41 hm_q41 ht_q41 => ?_)
    refine lv_iload_n hx hb dX7_hand_59 rfl (lv_at hl 0 rfl) ?_
    refine lv_iload_n hx hb dX7_hand_60 rfl (lv_at hl 2 rfl) ?_
    refine lv_iconst (v := 3) hx hb dX7_hand_61 (by decide) ?_
    refine lv_bipush (v := 8) hx hb dX7_hand_62 (by decide) ?_
    refine lv_iload_n hx hb dX7_hand_64 rfl (lv_at hl 0 rfl) ?_
    refine lv_isub hx hb dX7_hand_65 ?_
    refine lv_topi (fun y42 ey42 => ?_)
    obtain rfl : y42 = 3 := ey42.trans (by decide)
    refine lv_imul hx hb dX7_hand_66 ?_
    refine lv_topi (fun y43 ey43 => ?_)
    obtain rfl : y43 = 9 := ey43.trans (by decide)
    refine lv_ishr hx hb dX7_hand_67 ?_
    refine lv_topi (fun y44 ey44 => ?_)
    refine lv_bipush (v := 7) hx hb dX7_hand_68 (by decide) ?_
    refine lv_iand hx hb dX7_hand_70 ?_
    refine lv_topi (fun y45 ey45 => ?_)
    refine t_iast C w hT hm_q41 ht_q41 (by decide) (by decide) rfl (vp_in_iff.mpr ⟨by decide, by decide⟩) (gof_no rfl) dX7_hand_71 (fun f H locs w hT hR1 => ?_)
    have hR := hR.tr hR1
    refine lv_iinc (v := 6) (lv' := [(2, .int 6), (0, .ref m_), (1, .int di)]) hx hb dX7_hand_72 hl (k := 0) rfl (by decide) (by decide) rfl (fun ls hl => ?_)
    refine lv_goto (tgt := 44) hx hb dX7_hand_75 (by decide) ?_
    refine lv_iload_n hx hb dX7_hand_44 rfl (lv_at hl 0 rfl) ?_
    refine lv_bipush (v := 9) hx hb dX7_hand_45 (by decide) ?_
    refine lv_icmp_ge (tgt := 78) hx hb dX7_hand_47 (by decide) (fun c0 => absurd c0 (by decide)) (fun _ => ?_)
    refine lv_aload_n hx hb dX7_hand_50 rfl (lv_at hl 1 rfl) ?_
    refine t_getr C w hT hm_m_ ht_m_ (by decide) rfl cin_7 49 (by decide) rfl gw_1205 dX7_hand_51 (fun q46 hm_q46 ht_q46 => ?_)
    refine lv_aload_n hx hb dX7_hand_54 rfl (lv_at hl 1 rfl) ?_
    refine t_geti C w hT hm_m_ ht_m_ (by decide) rfl cin_7 48 (by decide) rfl rfl gw_1204 dX7_hand_55 (fun x47 hg => ?_)
    obtain rfl : x47 = 0 := gof_at rfl hg
    refine t_aald C w hT hm_q46 ht_q46 (by decide) rfl rfl (vp_in_iff.mpr ⟨by decide, by decide⟩) rfl dX7_hand_58 (fun q48 hm_q48 ht_q48 => ?_)
    refine lv_iload_n hx hb dX7_hand_59 rfl (lv_at hl 0 rfl) ?_
    refine lv_iload_n hx hb dX7_hand_60 rfl (lv_at hl 2 rfl) ?_
    refine lv_iconst (v := 3) hx hb dX7_hand_61 (by decide) ?_
    refine lv_bipush (v := 8) hx hb dX7_hand_62 (by decide) ?_
    refine lv_iload_n hx hb dX7_hand_64 rfl (lv_at hl 0 rfl) ?_
    refine lv_isub hx hb dX7_hand_65 ?_
    refine lv_topi (fun y49 ey49 => ?_)
    obtain rfl : y49 = 2 := ey49.trans (by decide)
    refine lv_imul hx hb dX7_hand_66 ?_
    refine lv_topi (fun y50 ey50 => ?_)
    obtain rfl : y50 = 6 := ey50.trans (by decide)
    refine lv_ishr hx hb dX7_hand_67 ?_
    refine lv_topi (fun y51 ey51 => ?_)
    refine lv_bipush (v := 7) hx hb dX7_hand_68 (by decide) ?_
    refine lv_iand hx hb dX7_hand_70 ?_
    refine lv_topi (fun y52 ey52 => ?_)
    refine t_iast C w hT hm_q48 ht_q48 (by decide) (by decide) rfl (vp_in_iff.mpr ⟨by decide, by decide⟩) (gof_no rfl) dX7_hand_71 (fun f H locs w hT hR1 => ?_)
    have hR := hR.tr hR1
    refine lv_iinc (v := 7) (lv' := [(2, .int 7), (0, .ref m_), (1, .int di)]) hx hb dX7_hand_72 hl (k := 0) rfl (by decide) (by decide) rfl (fun ls hl => ?_)
    refine lv_goto (tgt := 44) hx hb dX7_hand_75 (by decide) ?_
    refine lv_iload_n hx hb dX7_hand_44 rfl (lv_at hl 0 rfl) ?_
    refine lv_bipush (v := 9) hx hb dX7_hand_45 (by decide) ?_
    refine lv_icmp_ge (tgt := 78) hx hb dX7_hand_47 (by decide) (fun c0 => absurd c0 (by decide)) (fun _ => ?_)
    refine lv_aload_n hx hb dX7_hand_50 rfl (lv_at hl 1 rfl) ?_
    refine t_getr C w hT hm_m_ ht_m_ (by decide) rfl cin_7 49 (by decide) rfl gw_1205 dX7_hand_51 (fun q53 hm_q53 ht_q53 => ?_)
    refine lv_aload_n hx hb dX7_hand_54 rfl (lv_at hl 1 rfl) ?_
    refine t_geti C w hT hm_m_ ht_m_ (by decide) rfl cin_7 48 (by decide) rfl rfl gw_1204 dX7_hand_55 (fun x54 hg => ?_)
    obtain rfl : x54 = 0 := gof_at rfl hg
    refine t_aald C w hT hm_q53 ht_q53 (by decide) rfl rfl (vp_in_iff.mpr ⟨by decide, by decide⟩) rfl dX7_hand_58 (fun q55 hm_q55 ht_q55 => ?_)
    refine lv_iload_n hx hb dX7_hand_59 rfl (lv_at hl 0 rfl) ?_
    refine lv_iload_n hx hb dX7_hand_60 rfl (lv_at hl 2 rfl) ?_
    refine lv_iconst (v := 3) hx hb dX7_hand_61 (by decide) ?_
    refine lv_bipush (v := 8) hx hb dX7_hand_62 (by decide) ?_
    refine lv_iload_n hx hb dX7_hand_64 rfl (lv_at hl 0 rfl) ?_
    refine lv_isub hx hb dX7_hand_65 ?_
    refine lv_topi (fun y56 ey56 => ?_)
    obtain rfl : y56 = 1 := ey56.trans (by decide)
    refine lv_imul hx hb dX7_hand_66 ?_
    refine lv_topi (fun y57 ey57 => ?_)
    obtain rfl : y57 = 3 := ey57.trans (by decide)
    refine lv_ishr hx hb dX7_hand_67 ?_
    refine lv_topi (fun y58 ey58 => ?_)
    refine lv_bipush (v := 7) hx hb dX7_hand_68 (by decide) ?_
    refine lv_iand hx hb dX7_hand_70 ?_
    refine lv_topi (fun y59 ey59 => ?_)
    refine t_iast C w hT hm_q55 ht_q55 (by decide) (by decide) rfl (vp_in_iff.mpr ⟨by decide, by decide⟩) (gof_no rfl) dX7_hand_71 (fun f H locs w hT hR1 => ?_)
    have hR := hR.tr hR1
    refine lv_iinc (v := 8) (lv' := [(2, .int 8), (0, .ref m_), (1, .int di)]) hx hb dX7_hand_72 hl (k := 0) rfl (by decide) (by decide) rfl (fun ls hl => ?_)
    refine lv_goto (tgt := 44) hx hb dX7_hand_75 (by decide) ?_
    refine lv_iload_n hx hb dX7_hand_44 rfl (lv_at hl 0 rfl) ?_
    refine lv_bipush (v := 9) hx hb dX7_hand_45 (by decide) ?_
    refine lv_icmp_ge (tgt := 78) hx hb dX7_hand_47 (by decide) (fun c0 => absurd c0 (by decide)) (fun _ => ?_)
    refine lv_aload_n hx hb dX7_hand_50 rfl (lv_at hl 1 rfl) ?_
    refine t_getr C w hT hm_m_ ht_m_ (by decide) rfl cin_7 49 (by decide) rfl gw_1205 dX7_hand_51 (fun q60 hm_q60 ht_q60 => ?_)
    refine lv_aload_n hx hb dX7_hand_54 rfl (lv_at hl 1 rfl) ?_
    refine t_geti C w hT hm_m_ ht_m_ (by decide) rfl cin_7 48 (by decide) rfl rfl gw_1204 dX7_hand_55 (fun x61 hg => ?_)
    obtain rfl : x61 = 0 := gof_at rfl hg
    refine t_aald C w hT hm_q60 ht_q60 (by decide) rfl rfl (vp_in_iff.mpr ⟨by decide, by decide⟩) rfl dX7_hand_58 (fun q62 hm_q62 ht_q62 => ?_)
    refine lv_iload_n hx hb dX7_hand_59 rfl (lv_at hl 0 rfl) ?_
    refine lv_iload_n hx hb dX7_hand_60 rfl (lv_at hl 2 rfl) ?_
    refine lv_iconst (v := 3) hx hb dX7_hand_61 (by decide) ?_
    refine lv_bipush (v := 8) hx hb dX7_hand_62 (by decide) ?_
    refine lv_iload_n hx hb dX7_hand_64 rfl (lv_at hl 0 rfl) ?_
    refine lv_isub hx hb dX7_hand_65 ?_
    refine lv_topi (fun y63 ey63 => ?_)
    obtain rfl : y63 = 0 := ey63.trans (by decide)
    refine lv_imul hx hb dX7_hand_66 ?_
    refine lv_topi (fun y64 ey64 => ?_)
    obtain rfl : y64 = 0 := ey64.trans (by decide)
    refine lv_ishr hx hb dX7_hand_67 ?_
    refine lv_topi (fun y65 ey65 => ?_)
    refine lv_bipush (v := 7) hx hb dX7_hand_68 (by decide) ?_
    refine lv_iand hx hb dX7_hand_70 ?_
    refine lv_topi (fun y66 ey66 => ?_)
    refine t_iast C w hT hm_q62 ht_q62 (by decide) (by decide) rfl (vp_in_iff.mpr ⟨by decide, by decide⟩) (gof_no rfl) dX7_hand_71 (fun f H locs w hT hR1 => ?_)
    have hR := hR.tr hR1
    refine lv_iinc (v := 9) (lv' := [(2, .int 9), (0, .ref m_), (1, .int di)]) hx hb dX7_hand_72 hl (k := 0) rfl (by decide) (by decide) rfl (fun ls hl => ?_)
    refine lv_goto (tgt := 44) hx hb dX7_hand_75 (by decide) ?_
    refine lv_iload_n hx hb dX7_hand_44 rfl (lv_at hl 0 rfl) ?_
    refine lv_bipush (v := 9) hx hb dX7_hand_45 (by decide) ?_
    refine lv_icmp_ge (tgt := 78) hx hb dX7_hand_47 (by decide) (fun _ => ?_) (fun c0 => absurd c0 (by decide))
    refine lv_aload_n hx hb dX7_hand_78 rfl (lv_at hl 1 rfl) ?_
    refine lv_dup hx hb dX7_hand_79 rfl ?_
    refine t_geti C w hT hm_m_ ht_m_ (by decide) rfl cin_7 48 (by decide) rfl rfl gw_1204 dX7_hand_80 (fun x67 hg => ?_)
    obtain rfl : x67 = 0 := gof_at rfl hg
    refine lv_iconst (v := 1) hx hb dX7_hand_83 (by decide) ?_
    refine lv_iadd hx hb dX7_hand_84 ?_
    refine lv_topi (fun y68 ey68 => ?_)
    obtain rfl : y68 = 1 := ey68.trans (by decide)
    refine t_putS C w hT hm_m_ ht_m_ (fun b h1 h2 => hu_7 b m_ h1 hm_m_ h2 ht_m_) (by decide) rfl cin_7 tyX7 tyX7_ok nmX7 48 (by decide) rfl rfl rfl rfl rfl gw_1204 dX7_hand_85 (fun f H locs w hT hR1 => ?_)
    have hT := hT.mono gof_set
    have hR := hR.tr hR1
    refine lv_aload_n hx hb dX7_hand_88 rfl (lv_at hl 1 rfl) ?_
    refine t_geti C w hT hm_m_ ht_m_ (by decide) rfl cin_7 48 (by decide) rfl rfl gw_1204 dX7_hand_89 (fun x69 hg => ?_)
    obtain rfl : x69 = 1 := gof_at rfl hg
    refine lv_iconst (v := 1) hx hb dX7_hand_92 (by decide) ?_
    refine lv_isub hx hb dX7_hand_93 ?_
    refine lv_topi (fun y70 ey70 => ?_)
    obtain rfl : y70 = 0 := ey70.trans (by decide)
    have n0 : (0 : Int32).toInt = 0 := by decide
    exact t_iret C hr hlk w ⟨_, 0, _, rfl, rfl, hT.mono (gof_sub rfl), hR, Or.inr (⟨rfl, rfl, (by omega)⟩)⟩ (by decide) (by decide) dX7_hand_94
  ·
    refine lv_if_ne (tgt := 21) hx hb dX7_hand_14 (by decide) (fun c0 => absurd c0 (by decide)) (fun _ => ?_)
    refine lv_iconst (v := 1) hx hb dX7_hand_17 (by decide) ?_
    refine lv_goto (tgt := 22) hx hb dX7_hand_18 (by decide) ?_
    refine lv_iconst (v := 1) hx hb dX7_hand_22 (by decide) ?_
    refine t_callV (n := 2) C w hT hm_m_ ht_m_ (by decide) rfl rfl (c_X7_bad1 l D K b0 sa _ L _ Ψ hT m_ hm_m_ ht_m_ hu_7) gw_1347 gw_1344 gw_1346 gs_22 gw_8 ⟨by decide, by decide, by decide +kernel⟩ rfl rfl ⟨by decide, by decide⟩ rfl hl.1 rfl (Nat.le_of_ble_eq_true rfl) dX7_hand_23 ⟨by decide, by decide⟩ (fun v u H locs hp w => ?_)
    obtain ⟨r71, f2, rfl, rfl, hT2, hR1, hrr71⟩ := hp
    have hR := hR.tr hR1
    clear hT
    have hT := hT2
    clear hT2
    generalize f2 = f at w hT hR
    obtain rfl := hrr71
    refine lv_if_eq (tgt := 31) hx hb dX7_hand_26 (by decide) (fun c0 => absurd c0 (by decide)) (fun _ => ?_)
    refine lv_iconst (v := 0) hx hb dX7_hand_29 (by decide) ?_
    have n0 : (0 : Int32).toInt = 0 := by decide
    exact t_iret C hr hlk w ⟨_, 1, _, rfl, rfl, hT.mono (gof_sub rfl), hR, Or.inl ⟨rfl, rfl, (by omega)⟩⟩ (by decide) (by decide) dX7_hand_30
set_option maxHeartbeats 4000000 in
set_option maxRecDepth 100000 in
theorem c_X7_puts (l : Launch) (D : va_G) (K : Nat → ClassId) (b0 : Nat) (sa : Nat × Nat × Nat) (sz : Nat) (L : List Nat) (f0 : Nat → va_E) (Ψ : Nat → Nat) (hT : TW K (gof gM1) Ψ L f0) (m_ : Nat) (hm_m_ : m_ ∈ L) (ht_m_ : Ψ m_ = 7) (ce : Int32) (hl_ce : 0 ≤ ce.toInt) (hh_ce : ce.toInt ≤ 63) : Met l yX7_puts (.code yX7_puts cX7_puts 3 none :: gt) { frames := 0, cells := 0, slots := 0, locals := 0 } (va_Pc [.ref m_, .int 0, .int ce] (hPre D K b0 sa sz L f0)) (hQ D K b0 (fun v9 u9 => ∃ f2 : Nat → va_E, v9 = none ∧ u9 = ((gof (gdrop 3500 gM1)), Ψ, L, f2) ∧ TW K (gof (gdrop 3500 gM1)) Ψ L f2 ∧ rawk Ψ L f0 f2)) 0 0 (fun q => b0 ≤ q) := by
  refine t_of (own := RX7) (by decide) rfl ?_ (Nat.le_of_ble_eq_true rfl)
  intro p e s m below meth c ls C w hsz hr hlk hnm hl
  have hx := C.1
  have hb := C.2.1
  have hl : lv_has ls 3 [(0, .ref m_), (1, .int 0), (2, .int ce)] := hl
  have hb_ce := ti_bd ce
  have hR : rawk Ψ L f0 f0 := rawk.rf
  refine lv_aload_n hx hb dX7_puts_0 rfl (lv_at hl 0 rfl) ?_
  refine t_getr C w hT hm_m_ ht_m_ (by decide) rfl cin_7 28 (by decide) rfl gw_1184 dX7_puts_1 (fun q1 hm_q1 ht_q1 => ?_)
  refine lv_iload_n hx hb dX7_puts_4 rfl (lv_at hl 2 rfl) ?_
  refine t_aald C w hT hm_q1 ht_q1 (by decide) rfl rfl (vp_in_iff.mpr ⟨by omega, (show _ < ((64 : Nat) : Int) by omega)⟩) rfl dX7_puts_5 (fun q2 hm_q2 ht_q2 => ?_)
  refine lv_aload_n hx hb dX7_puts_6 rfl (lv_at hl 0 rfl) ?_
  refine t_getr C w hT hm_m_ ht_m_ (by decide) rfl cin_7 29 (by decide) rfl gw_1185 dX7_puts_7 (fun q3 hm_q3 ht_q3 => ?_)
  refine lv_iload_n hx hb dX7_puts_10 rfl (lv_at hl 2 rfl) ?_
  refine t_iald C w hT hm_q3 ht_q3 (by decide) (by decide) rfl (vp_in_iff.mpr ⟨by omega, (show _ < ((64 : Nat) : Int) by omega)⟩) dX7_puts_11 (fun x4 hg => ?_)
  obtain rfl : x4 = 0 := gof_at rfl hg
  refine lv_iload_n hx hb dX7_puts_12 rfl (lv_at hl 1 rfl) ?_
  refine t_iast C w hT hm_q2 ht_q2 (by decide) (by decide) rfl (vp_in_iff.mpr ⟨by decide, by decide⟩) (gof_no rfl) dX7_puts_13 (fun f H locs w hT hR1 => ?_)
  have hR := hR.tr hR1
  refine lv_aload_n hx hb dX7_puts_14 rfl (lv_at hl 0 rfl) ?_
  refine t_getr C w hT hm_m_ ht_m_ (by decide) rfl cin_7 29 (by decide) rfl gw_1185 dX7_puts_15 (fun q5 hm_q5 ht_q5 => ?_)
  refine lv_iload_n hx hb dX7_puts_18 rfl (lv_at hl 2 rfl) ?_
  refine lv_dup2_11 hx hb dX7_puts_19 rfl rfl ?_
  refine t_iald C w hT hm_q5 ht_q5 (by decide) (by decide) rfl (vp_in_iff.mpr ⟨by omega, (show _ < ((64 : Nat) : Int) by omega)⟩) dX7_puts_20 (fun x6 hg => ?_)
  obtain rfl : x6 = 0 := gof_at rfl hg
  refine lv_iconst (v := 1) hx hb dX7_puts_21 (by decide) ?_
  refine lv_iadd hx hb dX7_puts_22 ?_
  refine lv_topi (fun y7 ey7 => ?_)
  obtain rfl : y7 = 1 := ey7.trans (by decide)
  have hT := hT.mono (gof_sub (l2 := (gdrop 3500 gM1)) rfl)
  refine t_iast C w hT hm_q5 ht_q5 (by decide) (by decide) rfl (vp_in_iff.mpr ⟨by omega, (show _ < ((64 : Nat) : Int) by omega)⟩) (gof_no rfl) dX7_puts_23 (fun f H locs w hT hR1 => ?_)
  have hR := hR.tr hR1
  refine lv_aload_n hx hb dX7_puts_24 rfl (lv_at hl 0 rfl) ?_
  refine t_getr C w hT hm_m_ ht_m_ (by decide) rfl cin_7 26 (by decide) rfl gw_1182 dX7_puts_25 (fun q8 hm_q8 ht_q8 => ?_)
  refine lv_iload_n hx hb dX7_puts_28 rfl (lv_at hl 1 rfl) ?_
  refine lv_iload_n hx hb dX7_puts_29 rfl (lv_at hl 2 rfl) ?_
  refine t_iast C w hT hm_q8 ht_q8 (by decide) (by decide) rfl (vp_in_iff.mpr ⟨by decide, by decide⟩) (gof_no rfl) dX7_puts_30 (fun f H locs w hT hR1 => ?_)
  have hR := hR.tr hR1
  exact t_vret C hr hlk w ⟨_, rfl, rfl, hT, hR⟩ (by decide) (by decide) dX7_puts_31
set_option maxHeartbeats 4000000 in
set_option maxRecDepth 100000 in
theorem c_X7_lay (l : Launch) (D : va_G) (K : Nat → ClassId) (b0 : Nat) (sa : Nat × Nat × Nat) (sz : Nat) (L : List Nat) (f0 : Nat → va_E) (Ψ : Nat → Nat) (hT : TW K (gof gM0) Ψ L f0) (m_ : Nat) (hm_m_ : m_ ∈ L) (ht_m_ : Ψ m_ = 7) (ce : Int32) (w_ : Int32) (l_ : Int32) (v_ : Int32) (hu_7 : ∀ b c : Nat, b ∈ L → c ∈ L → Ψ b = 7 → Ψ c = 7 → b = c) : Met l yX7_lay (.code yX7_lay cX7_lay 5 (some .int) :: gt) { frames := 2, cells := 0, slots := 0, locals := 42 } (va_Pc [.ref m_, .int ce, .int w_, .int l_, .int v_] (hPre D K b0 sa sz L f0)) (hQ D K b0 (fun v9 u9 => ∃ (r : Int32) (th : Int32) (f2 : Nat → va_E), v9 = some (.int r) ∧ u9 = (gof [(700, th)], Ψ, L, f2) ∧ TW K (gof [(700, th)]) Ψ L f2 ∧ rawk Ψ L f0 f2 ∧ ((r = 0 ∧ th = 1 ∧ (¬ (0 ≤ ce.toInt ∧ ce.toInt ≤ 63))) ∨ (r = 0 ∧ th = 2 ∧ (0 ≤ ce.toInt) ∧ (ce.toInt ≤ 63) ∧ (¬ ((0 ≤ ce.toInt ∧ ce.toInt ≤ 63) ∧ ce.toInt ≠ 63 ∧ (1 ≤ w_.toInt ∧ w_.toInt ≤ 99) ∧ (0 ≤ l_.toInt ∧ l_.toInt ≤ 7) ∧ (0 ≤ v_.toInt ∧ v_.toInt ≤ 999)))) ∨ (r = 0 ∧ th = 0 ∧ ((0 ≤ ce.toInt ∧ ce.toInt ≤ 63) ∧ ce.toInt ≠ 63 ∧ (1 ≤ w_.toInt ∧ w_.toInt ≤ 99) ∧ (0 ≤ l_.toInt ∧ l_.toInt ≤ 7) ∧ (0 ≤ v_.toInt ∧ v_.toInt ≤ 999)))))) 0 0 (fun q => b0 ≤ q) := by
  refine t_of (own := RX7) (by decide) rfl ?_ (Nat.le_of_ble_eq_true rfl)
  intro p e s m below meth c ls C w hsz hr hlk hnm hl
  have hx := C.1
  have hb := C.2.1
  have hl : lv_has ls 5 [(0, .ref m_), (1, .int ce), (2, .int w_), (3, .int l_), (4, .int v_)] := hl
  have hb_ce := ti_bd ce
  have hb_w_ := ti_bd w_
  have hb_l_ := ti_bd l_
  have hb_v_ := ti_bd v_
  have hR : rawk Ψ L f0 f0 := rawk.rf
  refine lv_aload_n hx hb dX7_lay_0 rfl (lv_at hl 0 rfl) ?_
  refine lv_iconst (v := 0) hx hb dX7_lay_1 (by decide) ?_
  refine t_puti C w hT hm_m_ ht_m_ (by decide) rfl cin_7 tyX7 tyX7_ok nmX7 0 (by decide) rfl rfl rfl rfl rfl (gof_is rfl) gw_1156 dX7_lay_2 (fun f H locs w hT hR1 => ?_)
  have hR := hR.tr hR1
  refine lv_aload_n hx hb dX7_lay_5 rfl (lv_at hl 0 rfl) ?_
  refine lv_iload_n hx hb dX7_lay_6 rfl (lv_at hl 1 rfl) ?_
  refine t_callS (n := 1) C w (c_X7_isCell l D K b0 sa _ L _ Ψ (gof gM0) hT ce) gw_1467 gw_1465 gw_1466 gw_8 ⟨by decide, by decide, by decide +kernel⟩ rfl rfl ⟨by decide, by decide⟩ rfl hl.1 rfl (Nat.le_of_ble_eq_true rfl) dX7_lay_7 ⟨by decide, by decide⟩ (fun v u H locs hp w => ?_)
  obtain ⟨r1, rfl, rfl, hrr1⟩ := hp
  rcases hrr1 with ⟨rfl, hf0_r1, hf1_r1⟩ | ⟨rfl, hf0_r1⟩
  ·
    refine lv_if_ne (tgt := 17) hx hb dX7_lay_10 (by decide) (fun _ => ?_) (fun c0 => absurd c0 (by decide))
    refine lv_iconst (v := 0) hx hb dX7_lay_17 (by decide) ?_
    refine lv_iconst (v := 1) hx hb dX7_lay_18 (by decide) ?_
    have n1 : (1 : Int32).toInt = 1 := by decide
    refine t_callV (n := 2) C w hT hm_m_ ht_m_ (by decide) rfl rfl (c_X7_bad0 l D K b0 sa _ L _ Ψ (hT.mono (gof_sub rfl)) m_ hm_m_ ht_m_ 1) gw_1347 gw_1344 gw_1346 gs_22 gw_8 ⟨by decide, by decide, by decide +kernel⟩ rfl rfl ⟨by decide, by decide⟩ rfl hl.1 rfl (Nat.le_of_ble_eq_true rfl) dX7_lay_19 ⟨by decide, by decide⟩ (fun v u H locs hp w => ?_)
    obtain ⟨r2, rfl, rfl, hrr2⟩ := hp
    obtain rfl := hrr2
    refine lv_if_ne (tgt := 78) hx hb dX7_lay_22 (by decide) (fun c0 => absurd c0 (by decide)) (fun _ => ?_)
    refine lv_aload_n hx hb dX7_lay_25 rfl (lv_at hl 0 rfl) ?_
    refine lv_iload_n hx hb dX7_lay_26 rfl (lv_at hl 1 rfl) ?_
    refine lv_aload_n hx hb dX7_lay_27 rfl (lv_at hl 0 rfl) ?_
    refine t_geti C w hT hm_m_ ht_m_ (by decide) rfl cin_7 30 (by decide) rfl rfl gw_1186 dX7_lay_28 (fun x3 hg => ?_)
    obtain rfl : x3 = 63 := gof_at rfl hg
    have n63 : (63 : Int32).toInt = 63 := by decide
    refine lv_icmp_eq (tgt := 66) hx hb dX7_lay_31 (by decide) (fun c4 => ?_) (fun c4 => ?_)
    · have c4 := eq_toInt c4
      refine lv_iconst (v := 1) hx hb dX7_lay_66 (by decide) ?_
      refine lv_goto (tgt := 71) hx hb dX7_lay_67 (by decide) ?_
      refine lv_iconst (v := 2) hx hb dX7_lay_71 (by decide) ?_
      refine t_callV (n := 2) C w hT hm_m_ ht_m_ (by decide) rfl rfl (c_X7_bad2 l D K b0 sa _ L _ Ψ hT m_ hm_m_ ht_m_ hu_7) gw_1347 gw_1344 gw_1346 gs_22 gw_8 ⟨by decide, by decide, by decide +kernel⟩ rfl rfl ⟨by decide, by decide⟩ rfl hl.1 rfl (Nat.le_of_ble_eq_true rfl) dX7_lay_72 ⟨by decide, by decide⟩ (fun v u H locs hp w => ?_)
      obtain ⟨r5, f2, rfl, rfl, hT2, hR1, hrr5⟩ := hp
      have hR := hR.tr hR1
      clear hT
      have hT := hT2
      clear hT2
      generalize f2 = f at w hT hR
      obtain rfl := hrr5
      refine lv_if_eq (tgt := 80) hx hb dX7_lay_75 (by decide) (fun c0 => absurd c0 (by decide)) (fun _ => ?_)
      refine lv_iconst (v := 0) hx hb dX7_lay_78 (by decide) ?_
      have n0 : (0 : Int32).toInt = 0 := by decide
      exact t_iret C hr hlk w ⟨_, 2, _, rfl, rfl, hT.mono (gof_sub rfl), hR, Or.inr (Or.inl ⟨rfl, rfl, (by omega), (by omega), (by omega)⟩)⟩ (by decide) (by decide) dX7_lay_79
    · have c4 := ne_toInt c4
      refine lv_iload_n hx hb dX7_lay_34 rfl (lv_at hl 2 rfl) ?_
      refine lv_iconst (v := 1) hx hb dX7_lay_35 (by decide) ?_
      refine lv_bipush (v := 99) hx hb dX7_lay_36 (by decide) ?_
      have n99 : (99 : Int32).toInt = 99 := by decide
      refine t_callS (n := 3) C w (c_X7_in l D K b0 sa _ L _ Ψ (gof gM0) hT w_ 1 99) gw_1343 gw_1341 gw_1342 gw_8 ⟨by decide, by decide, by decide +kernel⟩ rfl rfl ⟨by decide, by decide⟩ rfl hl.1 rfl (Nat.le_of_ble_eq_true rfl) dX7_lay_38 ⟨by decide, by decide⟩ (fun v u H locs hp w => ?_)
      obtain ⟨r6, rfl, rfl, hrr6⟩ := hp
      rcases hrr6 with ⟨rfl, hf0_r6, hf1_r6⟩ | ⟨rfl, hf0_r6⟩
      ·
        refine lv_if_eq (tgt := 66) hx hb dX7_lay_41 (by decide) (fun c0 => absurd c0 (by decide)) (fun _ => ?_)
        refine lv_iload_n hx hb dX7_lay_44 rfl (lv_at hl 3 rfl) ?_
        refine lv_iconst (v := 0) hx hb dX7_lay_45 (by decide) ?_
        refine lv_bipush (v := 7) hx hb dX7_lay_46 (by decide) ?_
        have n0 : (0 : Int32).toInt = 0 := by decide
        have n7 : (7 : Int32).toInt = 7 := by decide
        refine t_callS (n := 3) C w (c_X7_in l D K b0 sa _ L _ Ψ (gof gM0) hT l_ 0 7) gw_1343 gw_1341 gw_1342 gw_8 ⟨by decide, by decide, by decide +kernel⟩ rfl rfl ⟨by decide, by decide⟩ rfl hl.1 rfl (Nat.le_of_ble_eq_true rfl) dX7_lay_48 ⟨by decide, by decide⟩ (fun v u H locs hp w => ?_)
        obtain ⟨r7, rfl, rfl, hrr7⟩ := hp
        rcases hrr7 with ⟨rfl, hf0_r7, hf1_r7⟩ | ⟨rfl, hf0_r7⟩
        ·
          refine lv_if_eq (tgt := 66) hx hb dX7_lay_51 (by decide) (fun c0 => absurd c0 (by decide)) (fun _ => ?_)
          refine lv_iload hx hb dX7_lay_54 (lv_at hl 4 rfl) ?_
          refine lv_iconst (v := 0) hx hb dX7_lay_56 (by decide) ?_
          refine lv_sipush (v := 999) hx hb dX7_lay_57 (by decide) ?_
          have n999 : (999 : Int32).toInt = 999 := by decide
          refine t_callS (n := 3) C w (c_X7_in l D K b0 sa _ L _ Ψ (gof gM0) hT v_ 0 999) gw_1343 gw_1341 gw_1342 gw_8 ⟨by decide, by decide, by decide +kernel⟩ rfl rfl ⟨by decide, by decide⟩ rfl hl.1 rfl (Nat.le_of_ble_eq_true rfl) dX7_lay_60 ⟨by decide, by decide⟩ (fun v u H locs hp w => ?_)
          obtain ⟨r8, rfl, rfl, hrr8⟩ := hp
          rcases hrr8 with ⟨rfl, hf0_r8, hf1_r8⟩ | ⟨rfl, hf0_r8⟩
          ·
            refine lv_if_ne (tgt := 70) hx hb dX7_lay_63 (by decide) (fun _ => ?_) (fun c0 => absurd c0 (by decide))
            refine lv_iconst (v := 0) hx hb dX7_lay_70 (by decide) ?_
            refine lv_iconst (v := 2) hx hb dX7_lay_71 (by decide) ?_
            have n2 : (2 : Int32).toInt = 2 := by decide
            refine t_callV (n := 2) C w hT hm_m_ ht_m_ (by decide) rfl rfl (c_X7_bad0 l D K b0 sa _ L _ Ψ (hT.mono (gof_sub rfl)) m_ hm_m_ ht_m_ 2) gw_1347 gw_1344 gw_1346 gs_22 gw_8 ⟨by decide, by decide, by decide +kernel⟩ rfl rfl ⟨by decide, by decide⟩ rfl hl.1 rfl (Nat.le_of_ble_eq_true rfl) dX7_lay_72 ⟨by decide, by decide⟩ (fun v u H locs hp w => ?_)
            obtain ⟨r9, rfl, rfl, hrr9⟩ := hp
            obtain rfl := hrr9
            refine lv_if_eq (tgt := 80) hx hb dX7_lay_75 (by decide) (fun _ => ?_) (fun c0 => absurd c0 (by decide))
            refine lv_aload_n hx hb dX7_lay_80 rfl (lv_at hl 0 rfl) ?_
            refine t_geti C w hT hm_m_ ht_m_ (by decide) rfl cin_7 21 (by decide) rfl rfl gw_1177 dX7_lay_81 (fun x10 hg => ?_)
            obtain rfl : x10 = 0 := gof_at rfl hg
            refine lv_bipush (v := 24) hx hb dX7_lay_84 (by decide) ?_
            refine lv_icmp_ne (tgt := 91) hx hb dX7_lay_86 (by decide) (fun _ => ?_) (fun c0 => absurd c0 (by decide))
            refine lv_aload_n hx hb dX7_lay_91 rfl (lv_at hl 0 rfl) ?_
            refine t_getr C w hT hm_m_ ht_m_ (by decide) rfl cin_7 22 (by decide) rfl gw_1178 dX7_lay_92 (fun q11 hm_q11 ht_q11 => ?_)
            refine lv_aload_n hx hb dX7_lay_95 rfl (lv_at hl 0 rfl) ?_
            refine t_geti C w hT hm_m_ ht_m_ (by decide) rfl cin_7 21 (by decide) rfl rfl gw_1177 dX7_lay_96 (fun x12 hg => ?_)
            obtain rfl : x12 = 0 := gof_at rfl hg
            refine lv_iload_n hx hb dX7_lay_99 rfl (lv_at hl 2 rfl) ?_
            refine t_iast C w hT hm_q11 ht_q11 (by decide) (by decide) rfl (vp_in_iff.mpr ⟨by decide, by decide⟩) (gof_no rfl) dX7_lay_100 (fun f H locs w hT hR1 => ?_)
            have hR := hR.tr hR1
            refine lv_aload_n hx hb dX7_lay_101 rfl (lv_at hl 0 rfl) ?_
            refine t_getr C w hT hm_m_ ht_m_ (by decide) rfl cin_7 23 (by decide) rfl gw_1179 dX7_lay_102 (fun q13 hm_q13 ht_q13 => ?_)
            refine lv_aload_n hx hb dX7_lay_105 rfl (lv_at hl 0 rfl) ?_
            refine t_geti C w hT hm_m_ ht_m_ (by decide) rfl cin_7 21 (by decide) rfl rfl gw_1177 dX7_lay_106 (fun x14 hg => ?_)
            obtain rfl : x14 = 0 := gof_at rfl hg
            refine lv_iload_n hx hb dX7_lay_109 rfl (lv_at hl 3 rfl) ?_
            refine t_iast C w hT hm_q13 ht_q13 (by decide) (by decide) rfl (vp_in_iff.mpr ⟨by decide, by decide⟩) (gof_no rfl) dX7_lay_110 (fun f H locs w hT hR1 => ?_)
            have hR := hR.tr hR1
            refine lv_aload_n hx hb dX7_lay_111 rfl (lv_at hl 0 rfl) ?_
            refine t_getr C w hT hm_m_ ht_m_ (by decide) rfl cin_7 24 (by decide) rfl gw_1180 dX7_lay_112 (fun q15 hm_q15 ht_q15 => ?_)
            refine lv_aload_n hx hb dX7_lay_115 rfl (lv_at hl 0 rfl) ?_
            refine t_geti C w hT hm_m_ ht_m_ (by decide) rfl cin_7 21 (by decide) rfl rfl gw_1177 dX7_lay_116 (fun x16 hg => ?_)
            obtain rfl : x16 = 0 := gof_at rfl hg
            refine lv_iload hx hb dX7_lay_119 (lv_at hl 4 rfl) ?_
            refine t_iast C w hT hm_q15 ht_q15 (by decide) (by decide) rfl (vp_in_iff.mpr ⟨by decide, by decide⟩) (gof_no rfl) dX7_lay_121 (fun f H locs w hT hR1 => ?_)
            have hR := hR.tr hR1
            refine lv_aload_n hx hb dX7_lay_122 rfl (lv_at hl 0 rfl) ?_
            refine t_getr C w hT hm_m_ ht_m_ (by decide) rfl cin_7 25 (by decide) rfl gw_1181 dX7_lay_123 (fun q17 hm_q17 ht_q17 => ?_)
            refine lv_aload_n hx hb dX7_lay_126 rfl (lv_at hl 0 rfl) ?_
            refine t_geti C w hT hm_m_ ht_m_ (by decide) rfl cin_7 21 (by decide) rfl rfl gw_1177 dX7_lay_127 (fun x18 hg => ?_)
            obtain rfl : x18 = 0 := gof_at rfl hg
            refine lv_iload_n hx hb dX7_lay_130 rfl (lv_at hl 1 rfl) ?_
            refine t_iast C w hT hm_q17 ht_q17 (by decide) (by decide) rfl (vp_in_iff.mpr ⟨by decide, by decide⟩) (gof_no rfl) dX7_lay_131 (fun f H locs w hT hR1 => ?_)
            have hR := hR.tr hR1
            refine lv_aload_n hx hb dX7_lay_132 rfl (lv_at hl 0 rfl) ?_
            refine t_getr C w hT hm_m_ ht_m_ (by decide) rfl cin_7 27 (by decide) rfl gw_1183 dX7_lay_133 (fun q19 hm_q19 ht_q19 => ?_)
            refine lv_aload_n hx hb dX7_lay_136 rfl (lv_at hl 0 rfl) ?_
            refine t_geti C w hT hm_m_ ht_m_ (by decide) rfl cin_7 21 (by decide) rfl rfl gw_1177 dX7_lay_137 (fun x20 hg => ?_)
            obtain rfl : x20 = 0 := gof_at rfl hg
            refine lv_iconst (v := 0) hx hb dX7_lay_140 (by decide) ?_
            refine t_zast C w hT hm_q19 ht_q19 (by decide) (by decide) rfl (vp_in_iff.mpr ⟨by decide, by decide⟩) (gof_no rfl) dX7_lay_141 (fun f H locs w hT hR1 => ?_)
            have hR := hR.tr hR1
            refine lv_aload_n hx hb dX7_lay_142 rfl (lv_at hl 0 rfl) ?_
            refine lv_aload_n hx hb dX7_lay_143 rfl (lv_at hl 0 rfl) ?_
            refine t_geti C w hT hm_m_ ht_m_ (by decide) rfl cin_7 21 (by decide) rfl rfl gw_1177 dX7_lay_144 (fun x21 hg => ?_)
            obtain rfl : x21 = 0 := gof_at rfl hg
            refine lv_iload_n hx hb dX7_lay_147 rfl (lv_at hl 1 rfl) ?_
            refine t_callV (n := 2) C w hT hm_m_ ht_m_ (by decide) rfl rfl (c_X7_puts l D K b0 sa _ L _ Ψ (hT.mono (gof_sub rfl)) m_ hm_m_ ht_m_ ce (by omega) (by omega)) gw_1471 gw_1468 gw_1470 gs_46 gw_8 ⟨by decide, by decide, by decide +kernel⟩ rfl rfl ⟨by decide, by decide⟩ rfl hl.1 rfl (Nat.le_of_ble_eq_true rfl) dX7_lay_148 ⟨by decide, by decide⟩ (fun v u H locs hp w => ?_)
            obtain ⟨f2, rfl, rfl, hT2, hR1⟩ := hp
            have hR := hR.tr hR1
            clear hT
            have hT := hT2
            clear hT2
            generalize f2 = f at w hT hR
            refine lv_aload_n hx hb dX7_lay_151 rfl (lv_at hl 0 rfl) ?_
            refine lv_dup hx hb dX7_lay_152 rfl ?_
            refine t_geti C w hT hm_m_ ht_m_ (by decide) rfl cin_7 21 (by decide) rfl rfl gw_1177 dX7_lay_153 (fun x22 hg => ?_)
            obtain rfl : x22 = 0 := gof_at rfl hg
            refine lv_iconst (v := 1) hx hb dX7_lay_156 (by decide) ?_
            refine lv_iadd hx hb dX7_lay_157 ?_
            refine lv_topi (fun y23 ey23 => ?_)
            obtain rfl : y23 = 1 := ey23.trans (by decide)
            refine t_putS C w hT hm_m_ ht_m_ (fun b h1 h2 => hu_7 b m_ h1 hm_m_ h2 ht_m_) (by decide) rfl cin_7 tyX7 tyX7_ok nmX7 21 (by decide) rfl rfl rfl rfl rfl gw_1177 dX7_lay_158 (fun f H locs w hT hR1 => ?_)
            have hT := hT.mono gof_set
            have hR := hR.tr hR1
            refine lv_aload_n hx hb dX7_lay_161 rfl (lv_at hl 0 rfl) ?_
            refine t_geti C w hT hm_m_ ht_m_ (by decide) rfl cin_7 21 (by decide) rfl rfl gw_1177 dX7_lay_162 (fun x24 hg => ?_)
            obtain rfl : x24 = 1 := gof_at rfl hg
            refine lv_iconst (v := 1) hx hb dX7_lay_165 (by decide) ?_
            refine lv_isub hx hb dX7_lay_166 ?_
            refine lv_topi (fun y25 ey25 => ?_)
            obtain rfl : y25 = 0 := ey25.trans (by decide)
            exact t_iret C hr hlk w ⟨_, 0, _, rfl, rfl, hT.mono (gof_sub rfl), hR, Or.inr (Or.inr (⟨rfl, rfl, (by omega)⟩))⟩ (by decide) (by decide) dX7_lay_167
          ·
            refine lv_if_ne (tgt := 70) hx hb dX7_lay_63 (by decide) (fun c0 => absurd c0 (by decide)) (fun _ => ?_)
            refine lv_iconst (v := 1) hx hb dX7_lay_66 (by decide) ?_
            refine lv_goto (tgt := 71) hx hb dX7_lay_67 (by decide) ?_
            refine lv_iconst (v := 2) hx hb dX7_lay_71 (by decide) ?_
            refine t_callV (n := 2) C w hT hm_m_ ht_m_ (by decide) rfl rfl (c_X7_bad2 l D K b0 sa _ L _ Ψ hT m_ hm_m_ ht_m_ hu_7) gw_1347 gw_1344 gw_1346 gs_22 gw_8 ⟨by decide, by decide, by decide +kernel⟩ rfl rfl ⟨by decide, by decide⟩ rfl hl.1 rfl (Nat.le_of_ble_eq_true rfl) dX7_lay_72 ⟨by decide, by decide⟩ (fun v u H locs hp w => ?_)
            obtain ⟨r26, f2, rfl, rfl, hT2, hR1, hrr26⟩ := hp
            have hR := hR.tr hR1
            clear hT
            have hT := hT2
            clear hT2
            generalize f2 = f at w hT hR
            obtain rfl := hrr26
            refine lv_if_eq (tgt := 80) hx hb dX7_lay_75 (by decide) (fun c0 => absurd c0 (by decide)) (fun _ => ?_)
            refine lv_iconst (v := 0) hx hb dX7_lay_78 (by decide) ?_
            exact t_iret C hr hlk w ⟨_, 2, _, rfl, rfl, hT.mono (gof_sub rfl), hR, Or.inr (Or.inl ⟨rfl, rfl, (by omega), (by omega), (by omega)⟩)⟩ (by decide) (by decide) dX7_lay_79
        ·
          refine lv_if_eq (tgt := 66) hx hb dX7_lay_51 (by decide) (fun _ => ?_) (fun c0 => absurd c0 (by decide))
          refine lv_iconst (v := 1) hx hb dX7_lay_66 (by decide) ?_
          refine lv_goto (tgt := 71) hx hb dX7_lay_67 (by decide) ?_
          refine lv_iconst (v := 2) hx hb dX7_lay_71 (by decide) ?_
          refine t_callV (n := 2) C w hT hm_m_ ht_m_ (by decide) rfl rfl (c_X7_bad2 l D K b0 sa _ L _ Ψ hT m_ hm_m_ ht_m_ hu_7) gw_1347 gw_1344 gw_1346 gs_22 gw_8 ⟨by decide, by decide, by decide +kernel⟩ rfl rfl ⟨by decide, by decide⟩ rfl hl.1 rfl (Nat.le_of_ble_eq_true rfl) dX7_lay_72 ⟨by decide, by decide⟩ (fun v u H locs hp w => ?_)
          obtain ⟨r27, f2, rfl, rfl, hT2, hR1, hrr27⟩ := hp
          have hR := hR.tr hR1
          clear hT
          have hT := hT2
          clear hT2
          generalize f2 = f at w hT hR
          obtain rfl := hrr27
          refine lv_if_eq (tgt := 80) hx hb dX7_lay_75 (by decide) (fun c0 => absurd c0 (by decide)) (fun _ => ?_)
          refine lv_iconst (v := 0) hx hb dX7_lay_78 (by decide) ?_
          exact t_iret C hr hlk w ⟨_, 2, _, rfl, rfl, hT.mono (gof_sub rfl), hR, Or.inr (Or.inl ⟨rfl, rfl, (by omega), (by omega), (by omega)⟩)⟩ (by decide) (by decide) dX7_lay_79
      ·
        refine lv_if_eq (tgt := 66) hx hb dX7_lay_41 (by decide) (fun _ => ?_) (fun c0 => absurd c0 (by decide))
        refine lv_iconst (v := 1) hx hb dX7_lay_66 (by decide) ?_
        refine lv_goto (tgt := 71) hx hb dX7_lay_67 (by decide) ?_
        refine lv_iconst (v := 2) hx hb dX7_lay_71 (by decide) ?_
        refine t_callV (n := 2) C w hT hm_m_ ht_m_ (by decide) rfl rfl (c_X7_bad2 l D K b0 sa _ L _ Ψ hT m_ hm_m_ ht_m_ hu_7) gw_1347 gw_1344 gw_1346 gs_22 gw_8 ⟨by decide, by decide, by decide +kernel⟩ rfl rfl ⟨by decide, by decide⟩ rfl hl.1 rfl (Nat.le_of_ble_eq_true rfl) dX7_lay_72 ⟨by decide, by decide⟩ (fun v u H locs hp w => ?_)
        obtain ⟨r28, f2, rfl, rfl, hT2, hR1, hrr28⟩ := hp
        have hR := hR.tr hR1
        clear hT
        have hT := hT2
        clear hT2
        generalize f2 = f at w hT hR
        obtain rfl := hrr28
        refine lv_if_eq (tgt := 80) hx hb dX7_lay_75 (by decide) (fun c0 => absurd c0 (by decide)) (fun _ => ?_)
        refine lv_iconst (v := 0) hx hb dX7_lay_78 (by decide) ?_
        have n0 : (0 : Int32).toInt = 0 := by decide
        exact t_iret C hr hlk w ⟨_, 2, _, rfl, rfl, hT.mono (gof_sub rfl), hR, Or.inr (Or.inl ⟨rfl, rfl, (by omega), (by omega), (by omega)⟩)⟩ (by decide) (by decide) dX7_lay_79
  ·
    refine lv_if_ne (tgt := 17) hx hb dX7_lay_10 (by decide) (fun c0 => absurd c0 (by decide)) (fun _ => ?_)
    refine lv_iconst (v := 1) hx hb dX7_lay_13 (by decide) ?_
    refine lv_goto (tgt := 18) hx hb dX7_lay_14 (by decide) ?_
    refine lv_iconst (v := 1) hx hb dX7_lay_18 (by decide) ?_
    refine t_callV (n := 2) C w hT hm_m_ ht_m_ (by decide) rfl rfl (c_X7_bad1 l D K b0 sa _ L _ Ψ hT m_ hm_m_ ht_m_ hu_7) gw_1347 gw_1344 gw_1346 gs_22 gw_8 ⟨by decide, by decide, by decide +kernel⟩ rfl rfl ⟨by decide, by decide⟩ rfl hl.1 rfl (Nat.le_of_ble_eq_true rfl) dX7_lay_19 ⟨by decide, by decide⟩ (fun v u H locs hp w => ?_)
    obtain ⟨r29, f2, rfl, rfl, hT2, hR1, hrr29⟩ := hp
    have hR := hR.tr hR1
    clear hT
    have hT := hT2
    clear hT2
    generalize f2 = f at w hT hR
    obtain rfl := hrr29
    refine lv_if_ne (tgt := 78) hx hb dX7_lay_22 (by decide) (fun _ => ?_) (fun c0 => absurd c0 (by decide))
    refine lv_iconst (v := 0) hx hb dX7_lay_78 (by decide) ?_
    have n0 : (0 : Int32).toInt = 0 := by decide
    exact t_iret C hr hlk w ⟨_, 1, _, rfl, rfl, hT.mono (gof_sub rfl), hR, Or.inl ⟨rfl, rfl, (by omega)⟩⟩ (by decide) (by decide) dX7_lay_79
set_option maxHeartbeats 4000000 in
set_option maxRecDepth 100000 in
theorem c_X7_feed (l : Launch) (D : va_G) (K : Nat → ClassId) (b0 : Nat) (sa : Nat × Nat × Nat) (sz : Nat) (L : List Nat) (f0 : Nat → va_E) (Ψ : Nat → Nat) (hT : TW K (gof gM0) Ψ L f0) (m_ : Nat) (hm_m_ : m_ ∈ L) (ht_m_ : Ψ m_ = 7) (a1 : Int32) (a2 : Int32) (a3 : Int32) (a4 : Int32) (a5 : Int32) (hu_7 : ∀ b c : Nat, b ∈ L → c ∈ L → Ψ b = 7 → Ψ c = 7 → b = c) : Met l yX7_feed (.code yX7_feed cX7_feed 8 (some .int) :: gt) { frames := 0, cells := 0, slots := 0, locals := 0 } (va_Pc [.ref m_, .int a1, .int a2, .int a3, .int a4, .int a5] (hPre D K b0 sa sz L f0)) (hQ D K b0 (fun v9 u9 => ∃ (r : Int32) (th : Int32) (f2 : Nat → va_E), v9 = some (.int r) ∧ u9 = (gof [(700, th)], Ψ, L, f2) ∧ TW K (gof [(700, th)]) Ψ L f2 ∧ rawk Ψ L f0 f2 ∧ ((r = 20 ∧ th = 0)))) 0 0 (fun q => b0 ≤ q) := by
  refine t_of (own := RX7) (by decide) rfl ?_ (Nat.le_of_ble_eq_true rfl)
  intro p e s m below meth c ls C w hsz hr hlk hnm hl
  have hx := C.1
  have hb := C.2.1
  have hl : lv_has ls 8 [(0, .ref m_), (1, .int a1), (2, .int a2), (3, .int a3), (4, .int a4), (5, .int a5)] := hl
  have hb_a1 := ti_bd a1
  have hb_a2 := ti_bd a2
  have hb_a3 := ti_bd a3
  have hb_a4 := ti_bd a4
  have hb_a5 := ti_bd a5
  have hR : rawk Ψ L f0 f0 := rawk.rf
  refine lv_aload_n hx hb dX7_feed_0 rfl (lv_at hl 0 rfl) ?_
  refine lv_iconst (v := 0) hx hb dX7_feed_1 (by decide) ?_
  refine t_puti C w hT hm_m_ ht_m_ (by decide) rfl cin_7 tyX7 tyX7_ok nmX7 0 (by decide) rfl rfl rfl rfl rfl (gof_is rfl) gw_1156 dX7_feed_2 (fun f H locs w hT hR1 => ?_)
  have hR := hR.tr hR1
  refine lv_aload_n hx hb dX7_feed_5 rfl (lv_at hl 0 rfl) ?_
  refine t_geti C w hT hm_m_ ht_m_ (by decide) rfl cin_7 1 (by decide) rfl rfl gw_1157 dX7_feed_6 (fun x1 hg => ?_)
  obtain rfl : x1 = 0 := gof_at rfl hg
  refine lv_bipush (v := 20) hx hb dX7_feed_9 (by decide) ?_
  refine lv_iadd hx hb dX7_feed_11 ?_
  refine lv_topi (fun y2 ey2 => ?_)
  obtain rfl : y2 = 20 := ey2.trans (by decide)
  refine lv_sipush (v := 300) hx hb dX7_feed_12 (by decide) ?_
  refine lv_icmp_le (tgt := 20) hx hb dX7_feed_15 (by decide) (fun _ => ?_) (fun c0 => absurd c0 (by decide))
  refine lv_iconst (v := 0) hx hb dX7_feed_20 (by decide) ?_
  refine lv_istore (lv' := [(6, .int 0), (0, .ref m_), (1, .int a1), (2, .int a2), (3, .int a3), (4, .int a4), (5, .int a5)]) hx hb dX7_feed_21 hl (by decide) rfl (fun ls hl => ?_)
  refine lv_iload hx hb dX7_feed_23 (lv_at hl 0 rfl) ?_
  refine lv_bipush (v := 20) hx hb dX7_feed_25 (by decide) ?_
  refine lv_icmp_ge (tgt := 120) hx hb dX7_feed_27 (by decide) (fun c0 => absurd c0 (by decide)) (fun _ => ?_)
  refine lv_iload hx hb dX7_feed_30 (lv_at hl 0 rfl) ?_
  refine lv_iconst (v := 4) hx hb dX7_feed_32 (by decide) ?_
  refine lv_icmp_ge (tgt := 40) hx hb dX7_feed_33 (by decide) (fun c0 => absurd c0 (by decide)) (fun _ => ?_)
  refine lv_iload_n hx hb dX7_feed_36 rfl (lv_at hl 2 rfl) ?_
  refine lv_goto (tgt := 76) hx hb dX7_feed_37 (by decide) ?_
  refine lv_istore (lv' := [(7, .int a1), (6, .int 0), (0, .ref m_), (1, .int a1), (2, .int a2), (3, .int a3), (4, .int a4), (5, .int a5)]) hx hb dX7_feed_76 hl (by decide) rfl (fun ls hl => ?_)
  refine lv_aload_n hx hb dX7_feed_78 rfl (lv_at hl 2 rfl) ?_
  refine t_getr C w hT hm_m_ ht_m_ (by decide) rfl cin_7 10 (by decide) rfl gw_1166 dX7_feed_79 (fun q3 hm_q3 ht_q3 => ?_)
  refine lv_aload_n hx hb dX7_feed_82 rfl (lv_at hl 2 rfl) ?_
  refine t_geti C w hT hm_m_ ht_m_ (by decide) rfl cin_7 1 (by decide) rfl rfl gw_1157 dX7_feed_83 (fun x4 hg => ?_)
  obtain rfl : x4 = 0 := gof_at rfl hg
  refine lv_iload hx hb dX7_feed_86 (lv_at hl 0 rfl) ?_
  refine lv_bipush (v := 24) hx hb dX7_feed_88 (by decide) ?_
  refine lv_bipush (v := 8) hx hb dX7_feed_90 (by decide) ?_
  refine lv_iload hx hb dX7_feed_92 (lv_at hl 1 rfl) ?_
  refine lv_iconst (v := 4) hx hb dX7_feed_94 (by decide) ?_
  refine lv_irem hx hb dX7_feed_95 (by decide) ?_
  refine lv_topi (fun y5 ey5 => ?_)
  obtain rfl : y5 = 0 := ey5.trans (by decide)
  refine lv_imul hx hb dX7_feed_96 ?_
  refine lv_topi (fun y6 ey6 => ?_)
  obtain rfl : y6 = 0 := ey6.trans (by decide)
  refine lv_isub hx hb dX7_feed_97 ?_
  refine lv_topi (fun y7 ey7 => ?_)
  obtain rfl : y7 = 24 := ey7.trans (by decide)
  refine lv_ishr hx hb dX7_feed_98 ?_
  refine lv_topi (fun y8 ey8 => ?_)
  refine lv_sipush (v := 255) hx hb dX7_feed_99 (by decide) ?_
  refine lv_iand hx hb dX7_feed_102 ?_
  refine lv_topi (fun y9 ey9 => ?_)
  refine t_iast C w hT hm_q3 ht_q3 (by decide) (by decide) rfl (vp_in_iff.mpr ⟨by decide, by decide⟩) (gof_no rfl) dX7_feed_103 (fun f H locs w hT hR1 => ?_)
  have hR := hR.tr hR1
  refine lv_aload_n hx hb dX7_feed_104 rfl (lv_at hl 2 rfl) ?_
  refine lv_dup hx hb dX7_feed_105 rfl ?_
  refine t_geti C w hT hm_m_ ht_m_ (by decide) rfl cin_7 1 (by decide) rfl rfl gw_1157 dX7_feed_106 (fun x10 hg => ?_)
  obtain rfl : x10 = 0 := gof_at rfl hg
  refine lv_iconst (v := 1) hx hb dX7_feed_109 (by decide) ?_
  refine lv_iadd hx hb dX7_feed_110 ?_
  refine lv_topi (fun y11 ey11 => ?_)
  obtain rfl : y11 = 1 := ey11.trans (by decide)
  refine t_putS C w hT hm_m_ ht_m_ (fun b h1 h2 => hu_7 b m_ h1 hm_m_ h2 ht_m_) (by decide) rfl cin_7 tyX7 tyX7_ok nmX7 1 (by decide) rfl rfl rfl rfl rfl gw_1157 dX7_feed_111 (fun f H locs w hT hR1 => ?_)
  have hT := hT.mono gof_set
  have hR := hR.tr hR1
  refine lv_iinc (v := 1) (lv' := [(6, .int 1), (7, .int a1), (0, .ref m_), (1, .int a1), (2, .int a2), (3, .int a3), (4, .int a4), (5, .int a5)]) hx hb dX7_feed_114 hl (k := 1) rfl (by decide) (by decide) rfl (fun ls hl => ?_)
  refine lv_goto (tgt := 23) hx hb dX7_feed_117 (by decide) ?_
  refine lv_iload hx hb dX7_feed_23 (lv_at hl 0 rfl) ?_
  refine lv_bipush (v := 20) hx hb dX7_feed_25 (by decide) ?_
  refine lv_icmp_ge (tgt := 120) hx hb dX7_feed_27 (by decide) (fun c0 => absurd c0 (by decide)) (fun _ => ?_)
  refine lv_iload hx hb dX7_feed_30 (lv_at hl 0 rfl) ?_
  refine lv_iconst (v := 4) hx hb dX7_feed_32 (by decide) ?_
  refine lv_icmp_ge (tgt := 40) hx hb dX7_feed_33 (by decide) (fun c0 => absurd c0 (by decide)) (fun _ => ?_)
  refine lv_iload_n hx hb dX7_feed_36 rfl (lv_at hl 3 rfl) ?_
  refine lv_goto (tgt := 76) hx hb dX7_feed_37 (by decide) ?_
  refine lv_istore (lv' := [(7, .int a1), (6, .int 1), (0, .ref m_), (1, .int a1), (2, .int a2), (3, .int a3), (4, .int a4), (5, .int a5)]) hx hb dX7_feed_76 hl (by decide) rfl (fun ls hl => ?_)
  refine lv_aload_n hx hb dX7_feed_78 rfl (lv_at hl 2 rfl) ?_
  refine t_getr C w hT hm_m_ ht_m_ (by decide) rfl cin_7 10 (by decide) rfl gw_1166 dX7_feed_79 (fun q12 hm_q12 ht_q12 => ?_)
  refine lv_aload_n hx hb dX7_feed_82 rfl (lv_at hl 2 rfl) ?_
  refine t_geti C w hT hm_m_ ht_m_ (by decide) rfl cin_7 1 (by decide) rfl rfl gw_1157 dX7_feed_83 (fun x13 hg => ?_)
  obtain rfl : x13 = 1 := gof_at rfl hg
  refine lv_iload hx hb dX7_feed_86 (lv_at hl 0 rfl) ?_
  refine lv_bipush (v := 24) hx hb dX7_feed_88 (by decide) ?_
  refine lv_bipush (v := 8) hx hb dX7_feed_90 (by decide) ?_
  refine lv_iload hx hb dX7_feed_92 (lv_at hl 1 rfl) ?_
  refine lv_iconst (v := 4) hx hb dX7_feed_94 (by decide) ?_
  refine lv_irem hx hb dX7_feed_95 (by decide) ?_
  refine lv_topi (fun y14 ey14 => ?_)
  obtain rfl : y14 = 1 := ey14.trans (by decide)
  refine lv_imul hx hb dX7_feed_96 ?_
  refine lv_topi (fun y15 ey15 => ?_)
  obtain rfl : y15 = 8 := ey15.trans (by decide)
  refine lv_isub hx hb dX7_feed_97 ?_
  refine lv_topi (fun y16 ey16 => ?_)
  obtain rfl : y16 = 16 := ey16.trans (by decide)
  refine lv_ishr hx hb dX7_feed_98 ?_
  refine lv_topi (fun y17 ey17 => ?_)
  refine lv_sipush (v := 255) hx hb dX7_feed_99 (by decide) ?_
  refine lv_iand hx hb dX7_feed_102 ?_
  refine lv_topi (fun y18 ey18 => ?_)
  refine t_iast C w hT hm_q12 ht_q12 (by decide) (by decide) rfl (vp_in_iff.mpr ⟨by decide, by decide⟩) (gof_no rfl) dX7_feed_103 (fun f H locs w hT hR1 => ?_)
  have hR := hR.tr hR1
  refine lv_aload_n hx hb dX7_feed_104 rfl (lv_at hl 2 rfl) ?_
  refine lv_dup hx hb dX7_feed_105 rfl ?_
  refine t_geti C w hT hm_m_ ht_m_ (by decide) rfl cin_7 1 (by decide) rfl rfl gw_1157 dX7_feed_106 (fun x19 hg => ?_)
  obtain rfl : x19 = 1 := gof_at rfl hg
  refine lv_iconst (v := 1) hx hb dX7_feed_109 (by decide) ?_
  refine lv_iadd hx hb dX7_feed_110 ?_
  refine lv_topi (fun y20 ey20 => ?_)
  obtain rfl : y20 = 2 := ey20.trans (by decide)
  refine t_putS C w hT hm_m_ ht_m_ (fun b h1 h2 => hu_7 b m_ h1 hm_m_ h2 ht_m_) (by decide) rfl cin_7 tyX7 tyX7_ok nmX7 1 (by decide) rfl rfl rfl rfl rfl gw_1157 dX7_feed_111 (fun f H locs w hT hR1 => ?_)
  have hT := hT.mono gof_set
  have hR := hR.tr hR1
  refine lv_iinc (v := 2) (lv' := [(6, .int 2), (7, .int a1), (0, .ref m_), (1, .int a1), (2, .int a2), (3, .int a3), (4, .int a4), (5, .int a5)]) hx hb dX7_feed_114 hl (k := 1) rfl (by decide) (by decide) rfl (fun ls hl => ?_)
  refine lv_goto (tgt := 23) hx hb dX7_feed_117 (by decide) ?_
  refine lv_iload hx hb dX7_feed_23 (lv_at hl 0 rfl) ?_
  refine lv_bipush (v := 20) hx hb dX7_feed_25 (by decide) ?_
  refine lv_icmp_ge (tgt := 120) hx hb dX7_feed_27 (by decide) (fun c0 => absurd c0 (by decide)) (fun _ => ?_)
  refine lv_iload hx hb dX7_feed_30 (lv_at hl 0 rfl) ?_
  refine lv_iconst (v := 4) hx hb dX7_feed_32 (by decide) ?_
  refine lv_icmp_ge (tgt := 40) hx hb dX7_feed_33 (by decide) (fun c0 => absurd c0 (by decide)) (fun _ => ?_)
  refine lv_iload_n hx hb dX7_feed_36 rfl (lv_at hl 3 rfl) ?_
  refine lv_goto (tgt := 76) hx hb dX7_feed_37 (by decide) ?_
  refine lv_istore (lv' := [(7, .int a1), (6, .int 2), (0, .ref m_), (1, .int a1), (2, .int a2), (3, .int a3), (4, .int a4), (5, .int a5)]) hx hb dX7_feed_76 hl (by decide) rfl (fun ls hl => ?_)
  refine lv_aload_n hx hb dX7_feed_78 rfl (lv_at hl 2 rfl) ?_
  refine t_getr C w hT hm_m_ ht_m_ (by decide) rfl cin_7 10 (by decide) rfl gw_1166 dX7_feed_79 (fun q21 hm_q21 ht_q21 => ?_)
  refine lv_aload_n hx hb dX7_feed_82 rfl (lv_at hl 2 rfl) ?_
  refine t_geti C w hT hm_m_ ht_m_ (by decide) rfl cin_7 1 (by decide) rfl rfl gw_1157 dX7_feed_83 (fun x22 hg => ?_)
  obtain rfl : x22 = 2 := gof_at rfl hg
  refine lv_iload hx hb dX7_feed_86 (lv_at hl 0 rfl) ?_
  refine lv_bipush (v := 24) hx hb dX7_feed_88 (by decide) ?_
  refine lv_bipush (v := 8) hx hb dX7_feed_90 (by decide) ?_
  refine lv_iload hx hb dX7_feed_92 (lv_at hl 1 rfl) ?_
  refine lv_iconst (v := 4) hx hb dX7_feed_94 (by decide) ?_
  refine lv_irem hx hb dX7_feed_95 (by decide) ?_
  refine lv_topi (fun y23 ey23 => ?_)
  obtain rfl : y23 = 2 := ey23.trans (by decide)
  refine lv_imul hx hb dX7_feed_96 ?_
  refine lv_topi (fun y24 ey24 => ?_)
  obtain rfl : y24 = 16 := ey24.trans (by decide)
  refine lv_isub hx hb dX7_feed_97 ?_
  refine lv_topi (fun y25 ey25 => ?_)
  obtain rfl : y25 = 8 := ey25.trans (by decide)
  refine lv_ishr hx hb dX7_feed_98 ?_
  refine lv_topi (fun y26 ey26 => ?_)
  refine lv_sipush (v := 255) hx hb dX7_feed_99 (by decide) ?_
  refine lv_iand hx hb dX7_feed_102 ?_
  refine lv_topi (fun y27 ey27 => ?_)
  refine t_iast C w hT hm_q21 ht_q21 (by decide) (by decide) rfl (vp_in_iff.mpr ⟨by decide, by decide⟩) (gof_no rfl) dX7_feed_103 (fun f H locs w hT hR1 => ?_)
  have hR := hR.tr hR1
  refine lv_aload_n hx hb dX7_feed_104 rfl (lv_at hl 2 rfl) ?_
  refine lv_dup hx hb dX7_feed_105 rfl ?_
  refine t_geti C w hT hm_m_ ht_m_ (by decide) rfl cin_7 1 (by decide) rfl rfl gw_1157 dX7_feed_106 (fun x28 hg => ?_)
  obtain rfl : x28 = 2 := gof_at rfl hg
  refine lv_iconst (v := 1) hx hb dX7_feed_109 (by decide) ?_
  refine lv_iadd hx hb dX7_feed_110 ?_
  refine lv_topi (fun y29 ey29 => ?_)
  obtain rfl : y29 = 3 := ey29.trans (by decide)
  refine t_putS C w hT hm_m_ ht_m_ (fun b h1 h2 => hu_7 b m_ h1 hm_m_ h2 ht_m_) (by decide) rfl cin_7 tyX7 tyX7_ok nmX7 1 (by decide) rfl rfl rfl rfl rfl gw_1157 dX7_feed_111 (fun f H locs w hT hR1 => ?_)
  have hT := hT.mono gof_set
  have hR := hR.tr hR1
  refine lv_iinc (v := 3) (lv' := [(6, .int 3), (7, .int a1), (0, .ref m_), (1, .int a1), (2, .int a2), (3, .int a3), (4, .int a4), (5, .int a5)]) hx hb dX7_feed_114 hl (k := 1) rfl (by decide) (by decide) rfl (fun ls hl => ?_)
  refine lv_goto (tgt := 23) hx hb dX7_feed_117 (by decide) ?_
  refine lv_iload hx hb dX7_feed_23 (lv_at hl 0 rfl) ?_
  refine lv_bipush (v := 20) hx hb dX7_feed_25 (by decide) ?_
  refine lv_icmp_ge (tgt := 120) hx hb dX7_feed_27 (by decide) (fun c0 => absurd c0 (by decide)) (fun _ => ?_)
  refine lv_iload hx hb dX7_feed_30 (lv_at hl 0 rfl) ?_
  refine lv_iconst (v := 4) hx hb dX7_feed_32 (by decide) ?_
  refine lv_icmp_ge (tgt := 40) hx hb dX7_feed_33 (by decide) (fun c0 => absurd c0 (by decide)) (fun _ => ?_)
  refine lv_iload_n hx hb dX7_feed_36 rfl (lv_at hl 3 rfl) ?_
  refine lv_goto (tgt := 76) hx hb dX7_feed_37 (by decide) ?_
  refine lv_istore (lv' := [(7, .int a1), (6, .int 3), (0, .ref m_), (1, .int a1), (2, .int a2), (3, .int a3), (4, .int a4), (5, .int a5)]) hx hb dX7_feed_76 hl (by decide) rfl (fun ls hl => ?_)
  refine lv_aload_n hx hb dX7_feed_78 rfl (lv_at hl 2 rfl) ?_
  refine t_getr C w hT hm_m_ ht_m_ (by decide) rfl cin_7 10 (by decide) rfl gw_1166 dX7_feed_79 (fun q30 hm_q30 ht_q30 => ?_)
  refine lv_aload_n hx hb dX7_feed_82 rfl (lv_at hl 2 rfl) ?_
  refine t_geti C w hT hm_m_ ht_m_ (by decide) rfl cin_7 1 (by decide) rfl rfl gw_1157 dX7_feed_83 (fun x31 hg => ?_)
  obtain rfl : x31 = 3 := gof_at rfl hg
  refine lv_iload hx hb dX7_feed_86 (lv_at hl 0 rfl) ?_
  refine lv_bipush (v := 24) hx hb dX7_feed_88 (by decide) ?_
  refine lv_bipush (v := 8) hx hb dX7_feed_90 (by decide) ?_
  refine lv_iload hx hb dX7_feed_92 (lv_at hl 1 rfl) ?_
  refine lv_iconst (v := 4) hx hb dX7_feed_94 (by decide) ?_
  refine lv_irem hx hb dX7_feed_95 (by decide) ?_
  refine lv_topi (fun y32 ey32 => ?_)
  obtain rfl : y32 = 3 := ey32.trans (by decide)
  refine lv_imul hx hb dX7_feed_96 ?_
  refine lv_topi (fun y33 ey33 => ?_)
  obtain rfl : y33 = 24 := ey33.trans (by decide)
  refine lv_isub hx hb dX7_feed_97 ?_
  refine lv_topi (fun y34 ey34 => ?_)
  obtain rfl : y34 = 0 := ey34.trans (by decide)
  refine lv_ishr hx hb dX7_feed_98 ?_
  refine lv_topi (fun y35 ey35 => ?_)
  refine lv_sipush (v := 255) hx hb dX7_feed_99 (by decide) ?_
  refine lv_iand hx hb dX7_feed_102 ?_
  refine lv_topi (fun y36 ey36 => ?_)
  refine t_iast C w hT hm_q30 ht_q30 (by decide) (by decide) rfl (vp_in_iff.mpr ⟨by decide, by decide⟩) (gof_no rfl) dX7_feed_103 (fun f H locs w hT hR1 => ?_)
  have hR := hR.tr hR1
  refine lv_aload_n hx hb dX7_feed_104 rfl (lv_at hl 2 rfl) ?_
  refine lv_dup hx hb dX7_feed_105 rfl ?_
  refine t_geti C w hT hm_m_ ht_m_ (by decide) rfl cin_7 1 (by decide) rfl rfl gw_1157 dX7_feed_106 (fun x37 hg => ?_)
  obtain rfl : x37 = 3 := gof_at rfl hg
  refine lv_iconst (v := 1) hx hb dX7_feed_109 (by decide) ?_
  refine lv_iadd hx hb dX7_feed_110 ?_
  refine lv_topi (fun y38 ey38 => ?_)
  obtain rfl : y38 = 4 := ey38.trans (by decide)
  refine t_putS C w hT hm_m_ ht_m_ (fun b h1 h2 => hu_7 b m_ h1 hm_m_ h2 ht_m_) (by decide) rfl cin_7 tyX7 tyX7_ok nmX7 1 (by decide) rfl rfl rfl rfl rfl gw_1157 dX7_feed_111 (fun f H locs w hT hR1 => ?_)
  have hT := hT.mono gof_set
  have hR := hR.tr hR1
  refine lv_iinc (v := 4) (lv' := [(6, .int 4), (7, .int a1), (0, .ref m_), (1, .int a1), (2, .int a2), (3, .int a3), (4, .int a4), (5, .int a5)]) hx hb dX7_feed_114 hl (k := 1) rfl (by decide) (by decide) rfl (fun ls hl => ?_)
  refine lv_goto (tgt := 23) hx hb dX7_feed_117 (by decide) ?_
  refine lv_iload hx hb dX7_feed_23 (lv_at hl 0 rfl) ?_
  refine lv_bipush (v := 20) hx hb dX7_feed_25 (by decide) ?_
  refine lv_icmp_ge (tgt := 120) hx hb dX7_feed_27 (by decide) (fun c0 => absurd c0 (by decide)) (fun _ => ?_)
  refine lv_iload hx hb dX7_feed_30 (lv_at hl 0 rfl) ?_
  refine lv_iconst (v := 4) hx hb dX7_feed_32 (by decide) ?_
  refine lv_icmp_ge (tgt := 40) hx hb dX7_feed_33 (by decide) (fun _ => ?_) (fun c0 => absurd c0 (by decide))
  refine lv_iload hx hb dX7_feed_40 (lv_at hl 0 rfl) ?_
  refine lv_bipush (v := 8) hx hb dX7_feed_42 (by decide) ?_
  refine lv_icmp_ge (tgt := 51) hx hb dX7_feed_44 (by decide) (fun c0 => absurd c0 (by decide)) (fun _ => ?_)
  refine lv_iload_n hx hb dX7_feed_47 rfl (lv_at hl 4 rfl) ?_
  refine lv_goto (tgt := 76) hx hb dX7_feed_48 (by decide) ?_
  refine lv_istore (lv' := [(7, .int a2), (6, .int 4), (0, .ref m_), (1, .int a1), (2, .int a2), (3, .int a3), (4, .int a4), (5, .int a5)]) hx hb dX7_feed_76 hl (by decide) rfl (fun ls hl => ?_)
  refine lv_aload_n hx hb dX7_feed_78 rfl (lv_at hl 2 rfl) ?_
  refine t_getr C w hT hm_m_ ht_m_ (by decide) rfl cin_7 10 (by decide) rfl gw_1166 dX7_feed_79 (fun q39 hm_q39 ht_q39 => ?_)
  refine lv_aload_n hx hb dX7_feed_82 rfl (lv_at hl 2 rfl) ?_
  refine t_geti C w hT hm_m_ ht_m_ (by decide) rfl cin_7 1 (by decide) rfl rfl gw_1157 dX7_feed_83 (fun x40 hg => ?_)
  obtain rfl : x40 = 4 := gof_at rfl hg
  refine lv_iload hx hb dX7_feed_86 (lv_at hl 0 rfl) ?_
  refine lv_bipush (v := 24) hx hb dX7_feed_88 (by decide) ?_
  refine lv_bipush (v := 8) hx hb dX7_feed_90 (by decide) ?_
  refine lv_iload hx hb dX7_feed_92 (lv_at hl 1 rfl) ?_
  refine lv_iconst (v := 4) hx hb dX7_feed_94 (by decide) ?_
  refine lv_irem hx hb dX7_feed_95 (by decide) ?_
  refine lv_topi (fun y41 ey41 => ?_)
  obtain rfl : y41 = 0 := ey41.trans (by decide)
  refine lv_imul hx hb dX7_feed_96 ?_
  refine lv_topi (fun y42 ey42 => ?_)
  obtain rfl : y42 = 0 := ey42.trans (by decide)
  refine lv_isub hx hb dX7_feed_97 ?_
  refine lv_topi (fun y43 ey43 => ?_)
  obtain rfl : y43 = 24 := ey43.trans (by decide)
  refine lv_ishr hx hb dX7_feed_98 ?_
  refine lv_topi (fun y44 ey44 => ?_)
  refine lv_sipush (v := 255) hx hb dX7_feed_99 (by decide) ?_
  refine lv_iand hx hb dX7_feed_102 ?_
  refine lv_topi (fun y45 ey45 => ?_)
  refine t_iast C w hT hm_q39 ht_q39 (by decide) (by decide) rfl (vp_in_iff.mpr ⟨by decide, by decide⟩) (gof_no rfl) dX7_feed_103 (fun f H locs w hT hR1 => ?_)
  have hR := hR.tr hR1
  refine lv_aload_n hx hb dX7_feed_104 rfl (lv_at hl 2 rfl) ?_
  refine lv_dup hx hb dX7_feed_105 rfl ?_
  refine t_geti C w hT hm_m_ ht_m_ (by decide) rfl cin_7 1 (by decide) rfl rfl gw_1157 dX7_feed_106 (fun x46 hg => ?_)
  obtain rfl : x46 = 4 := gof_at rfl hg
  refine lv_iconst (v := 1) hx hb dX7_feed_109 (by decide) ?_
  refine lv_iadd hx hb dX7_feed_110 ?_
  refine lv_topi (fun y47 ey47 => ?_)
  obtain rfl : y47 = 5 := ey47.trans (by decide)
  refine t_putS C w hT hm_m_ ht_m_ (fun b h1 h2 => hu_7 b m_ h1 hm_m_ h2 ht_m_) (by decide) rfl cin_7 tyX7 tyX7_ok nmX7 1 (by decide) rfl rfl rfl rfl rfl gw_1157 dX7_feed_111 (fun f H locs w hT hR1 => ?_)
  have hT := hT.mono gof_set
  have hR := hR.tr hR1
  refine lv_iinc (v := 5) (lv' := [(6, .int 5), (7, .int a2), (0, .ref m_), (1, .int a1), (2, .int a2), (3, .int a3), (4, .int a4), (5, .int a5)]) hx hb dX7_feed_114 hl (k := 1) rfl (by decide) (by decide) rfl (fun ls hl => ?_)
  refine lv_goto (tgt := 23) hx hb dX7_feed_117 (by decide) ?_
  refine lv_iload hx hb dX7_feed_23 (lv_at hl 0 rfl) ?_
  refine lv_bipush (v := 20) hx hb dX7_feed_25 (by decide) ?_
  refine lv_icmp_ge (tgt := 120) hx hb dX7_feed_27 (by decide) (fun c0 => absurd c0 (by decide)) (fun _ => ?_)
  refine lv_iload hx hb dX7_feed_30 (lv_at hl 0 rfl) ?_
  refine lv_iconst (v := 4) hx hb dX7_feed_32 (by decide) ?_
  refine lv_icmp_ge (tgt := 40) hx hb dX7_feed_33 (by decide) (fun _ => ?_) (fun c0 => absurd c0 (by decide))
  refine lv_iload hx hb dX7_feed_40 (lv_at hl 0 rfl) ?_
  refine lv_bipush (v := 8) hx hb dX7_feed_42 (by decide) ?_
  refine lv_icmp_ge (tgt := 51) hx hb dX7_feed_44 (by decide) (fun c0 => absurd c0 (by decide)) (fun _ => ?_)
  refine lv_iload_n hx hb dX7_feed_47 rfl (lv_at hl 4 rfl) ?_
  refine lv_goto (tgt := 76) hx hb dX7_feed_48 (by decide) ?_
  refine lv_istore (lv' := [(7, .int a2), (6, .int 5), (0, .ref m_), (1, .int a1), (2, .int a2), (3, .int a3), (4, .int a4), (5, .int a5)]) hx hb dX7_feed_76 hl (by decide) rfl (fun ls hl => ?_)
  refine lv_aload_n hx hb dX7_feed_78 rfl (lv_at hl 2 rfl) ?_
  refine t_getr C w hT hm_m_ ht_m_ (by decide) rfl cin_7 10 (by decide) rfl gw_1166 dX7_feed_79 (fun q48 hm_q48 ht_q48 => ?_)
  refine lv_aload_n hx hb dX7_feed_82 rfl (lv_at hl 2 rfl) ?_
  refine t_geti C w hT hm_m_ ht_m_ (by decide) rfl cin_7 1 (by decide) rfl rfl gw_1157 dX7_feed_83 (fun x49 hg => ?_)
  obtain rfl : x49 = 5 := gof_at rfl hg
  refine lv_iload hx hb dX7_feed_86 (lv_at hl 0 rfl) ?_
  refine lv_bipush (v := 24) hx hb dX7_feed_88 (by decide) ?_
  refine lv_bipush (v := 8) hx hb dX7_feed_90 (by decide) ?_
  refine lv_iload hx hb dX7_feed_92 (lv_at hl 1 rfl) ?_
  refine lv_iconst (v := 4) hx hb dX7_feed_94 (by decide) ?_
  refine lv_irem hx hb dX7_feed_95 (by decide) ?_
  refine lv_topi (fun y50 ey50 => ?_)
  obtain rfl : y50 = 1 := ey50.trans (by decide)
  refine lv_imul hx hb dX7_feed_96 ?_
  refine lv_topi (fun y51 ey51 => ?_)
  obtain rfl : y51 = 8 := ey51.trans (by decide)
  refine lv_isub hx hb dX7_feed_97 ?_
  refine lv_topi (fun y52 ey52 => ?_)
  obtain rfl : y52 = 16 := ey52.trans (by decide)
  refine lv_ishr hx hb dX7_feed_98 ?_
  refine lv_topi (fun y53 ey53 => ?_)
  refine lv_sipush (v := 255) hx hb dX7_feed_99 (by decide) ?_
  refine lv_iand hx hb dX7_feed_102 ?_
  refine lv_topi (fun y54 ey54 => ?_)
  refine t_iast C w hT hm_q48 ht_q48 (by decide) (by decide) rfl (vp_in_iff.mpr ⟨by decide, by decide⟩) (gof_no rfl) dX7_feed_103 (fun f H locs w hT hR1 => ?_)
  have hR := hR.tr hR1
  refine lv_aload_n hx hb dX7_feed_104 rfl (lv_at hl 2 rfl) ?_
  refine lv_dup hx hb dX7_feed_105 rfl ?_
  refine t_geti C w hT hm_m_ ht_m_ (by decide) rfl cin_7 1 (by decide) rfl rfl gw_1157 dX7_feed_106 (fun x55 hg => ?_)
  obtain rfl : x55 = 5 := gof_at rfl hg
  refine lv_iconst (v := 1) hx hb dX7_feed_109 (by decide) ?_
  refine lv_iadd hx hb dX7_feed_110 ?_
  refine lv_topi (fun y56 ey56 => ?_)
  obtain rfl : y56 = 6 := ey56.trans (by decide)
  refine t_putS C w hT hm_m_ ht_m_ (fun b h1 h2 => hu_7 b m_ h1 hm_m_ h2 ht_m_) (by decide) rfl cin_7 tyX7 tyX7_ok nmX7 1 (by decide) rfl rfl rfl rfl rfl gw_1157 dX7_feed_111 (fun f H locs w hT hR1 => ?_)
  have hT := hT.mono gof_set
  have hR := hR.tr hR1
  refine lv_iinc (v := 6) (lv' := [(6, .int 6), (7, .int a2), (0, .ref m_), (1, .int a1), (2, .int a2), (3, .int a3), (4, .int a4), (5, .int a5)]) hx hb dX7_feed_114 hl (k := 1) rfl (by decide) (by decide) rfl (fun ls hl => ?_)
  refine lv_goto (tgt := 23) hx hb dX7_feed_117 (by decide) ?_
  refine lv_iload hx hb dX7_feed_23 (lv_at hl 0 rfl) ?_
  refine lv_bipush (v := 20) hx hb dX7_feed_25 (by decide) ?_
  refine lv_icmp_ge (tgt := 120) hx hb dX7_feed_27 (by decide) (fun c0 => absurd c0 (by decide)) (fun _ => ?_)
  refine lv_iload hx hb dX7_feed_30 (lv_at hl 0 rfl) ?_
  refine lv_iconst (v := 4) hx hb dX7_feed_32 (by decide) ?_
  refine lv_icmp_ge (tgt := 40) hx hb dX7_feed_33 (by decide) (fun _ => ?_) (fun c0 => absurd c0 (by decide))
  refine lv_iload hx hb dX7_feed_40 (lv_at hl 0 rfl) ?_
  refine lv_bipush (v := 8) hx hb dX7_feed_42 (by decide) ?_
  refine lv_icmp_ge (tgt := 51) hx hb dX7_feed_44 (by decide) (fun c0 => absurd c0 (by decide)) (fun _ => ?_)
  refine lv_iload_n hx hb dX7_feed_47 rfl (lv_at hl 4 rfl) ?_
  refine lv_goto (tgt := 76) hx hb dX7_feed_48 (by decide) ?_
  refine lv_istore (lv' := [(7, .int a2), (6, .int 6), (0, .ref m_), (1, .int a1), (2, .int a2), (3, .int a3), (4, .int a4), (5, .int a5)]) hx hb dX7_feed_76 hl (by decide) rfl (fun ls hl => ?_)
  refine lv_aload_n hx hb dX7_feed_78 rfl (lv_at hl 2 rfl) ?_
  refine t_getr C w hT hm_m_ ht_m_ (by decide) rfl cin_7 10 (by decide) rfl gw_1166 dX7_feed_79 (fun q57 hm_q57 ht_q57 => ?_)
  refine lv_aload_n hx hb dX7_feed_82 rfl (lv_at hl 2 rfl) ?_
  refine t_geti C w hT hm_m_ ht_m_ (by decide) rfl cin_7 1 (by decide) rfl rfl gw_1157 dX7_feed_83 (fun x58 hg => ?_)
  obtain rfl : x58 = 6 := gof_at rfl hg
  refine lv_iload hx hb dX7_feed_86 (lv_at hl 0 rfl) ?_
  refine lv_bipush (v := 24) hx hb dX7_feed_88 (by decide) ?_
  refine lv_bipush (v := 8) hx hb dX7_feed_90 (by decide) ?_
  refine lv_iload hx hb dX7_feed_92 (lv_at hl 1 rfl) ?_
  refine lv_iconst (v := 4) hx hb dX7_feed_94 (by decide) ?_
  refine lv_irem hx hb dX7_feed_95 (by decide) ?_
  refine lv_topi (fun y59 ey59 => ?_)
  obtain rfl : y59 = 2 := ey59.trans (by decide)
  refine lv_imul hx hb dX7_feed_96 ?_
  refine lv_topi (fun y60 ey60 => ?_)
  obtain rfl : y60 = 16 := ey60.trans (by decide)
  refine lv_isub hx hb dX7_feed_97 ?_
  refine lv_topi (fun y61 ey61 => ?_)
  obtain rfl : y61 = 8 := ey61.trans (by decide)
  refine lv_ishr hx hb dX7_feed_98 ?_
  refine lv_topi (fun y62 ey62 => ?_)
  refine lv_sipush (v := 255) hx hb dX7_feed_99 (by decide) ?_
  refine lv_iand hx hb dX7_feed_102 ?_
  refine lv_topi (fun y63 ey63 => ?_)
  refine t_iast C w hT hm_q57 ht_q57 (by decide) (by decide) rfl (vp_in_iff.mpr ⟨by decide, by decide⟩) (gof_no rfl) dX7_feed_103 (fun f H locs w hT hR1 => ?_)
  have hR := hR.tr hR1
  refine lv_aload_n hx hb dX7_feed_104 rfl (lv_at hl 2 rfl) ?_
  refine lv_dup hx hb dX7_feed_105 rfl ?_
  refine t_geti C w hT hm_m_ ht_m_ (by decide) rfl cin_7 1 (by decide) rfl rfl gw_1157 dX7_feed_106 (fun x64 hg => ?_)
  obtain rfl : x64 = 6 := gof_at rfl hg
  refine lv_iconst (v := 1) hx hb dX7_feed_109 (by decide) ?_
  refine lv_iadd hx hb dX7_feed_110 ?_
  refine lv_topi (fun y65 ey65 => ?_)
  obtain rfl : y65 = 7 := ey65.trans (by decide)
  refine t_putS C w hT hm_m_ ht_m_ (fun b h1 h2 => hu_7 b m_ h1 hm_m_ h2 ht_m_) (by decide) rfl cin_7 tyX7 tyX7_ok nmX7 1 (by decide) rfl rfl rfl rfl rfl gw_1157 dX7_feed_111 (fun f H locs w hT hR1 => ?_)
  have hT := hT.mono gof_set
  have hR := hR.tr hR1
  refine lv_iinc (v := 7) (lv' := [(6, .int 7), (7, .int a2), (0, .ref m_), (1, .int a1), (2, .int a2), (3, .int a3), (4, .int a4), (5, .int a5)]) hx hb dX7_feed_114 hl (k := 1) rfl (by decide) (by decide) rfl (fun ls hl => ?_)
  refine lv_goto (tgt := 23) hx hb dX7_feed_117 (by decide) ?_
  refine lv_iload hx hb dX7_feed_23 (lv_at hl 0 rfl) ?_
  refine lv_bipush (v := 20) hx hb dX7_feed_25 (by decide) ?_
  refine lv_icmp_ge (tgt := 120) hx hb dX7_feed_27 (by decide) (fun c0 => absurd c0 (by decide)) (fun _ => ?_)
  refine lv_iload hx hb dX7_feed_30 (lv_at hl 0 rfl) ?_
  refine lv_iconst (v := 4) hx hb dX7_feed_32 (by decide) ?_
  refine lv_icmp_ge (tgt := 40) hx hb dX7_feed_33 (by decide) (fun _ => ?_) (fun c0 => absurd c0 (by decide))
  refine lv_iload hx hb dX7_feed_40 (lv_at hl 0 rfl) ?_
  refine lv_bipush (v := 8) hx hb dX7_feed_42 (by decide) ?_
  refine lv_icmp_ge (tgt := 51) hx hb dX7_feed_44 (by decide) (fun c0 => absurd c0 (by decide)) (fun _ => ?_)
  refine lv_iload_n hx hb dX7_feed_47 rfl (lv_at hl 4 rfl) ?_
  refine lv_goto (tgt := 76) hx hb dX7_feed_48 (by decide) ?_
  refine lv_istore (lv' := [(7, .int a2), (6, .int 7), (0, .ref m_), (1, .int a1), (2, .int a2), (3, .int a3), (4, .int a4), (5, .int a5)]) hx hb dX7_feed_76 hl (by decide) rfl (fun ls hl => ?_)
  refine lv_aload_n hx hb dX7_feed_78 rfl (lv_at hl 2 rfl) ?_
  refine t_getr C w hT hm_m_ ht_m_ (by decide) rfl cin_7 10 (by decide) rfl gw_1166 dX7_feed_79 (fun q66 hm_q66 ht_q66 => ?_)
  refine lv_aload_n hx hb dX7_feed_82 rfl (lv_at hl 2 rfl) ?_
  refine t_geti C w hT hm_m_ ht_m_ (by decide) rfl cin_7 1 (by decide) rfl rfl gw_1157 dX7_feed_83 (fun x67 hg => ?_)
  obtain rfl : x67 = 7 := gof_at rfl hg
  refine lv_iload hx hb dX7_feed_86 (lv_at hl 0 rfl) ?_
  refine lv_bipush (v := 24) hx hb dX7_feed_88 (by decide) ?_
  refine lv_bipush (v := 8) hx hb dX7_feed_90 (by decide) ?_
  refine lv_iload hx hb dX7_feed_92 (lv_at hl 1 rfl) ?_
  refine lv_iconst (v := 4) hx hb dX7_feed_94 (by decide) ?_
  refine lv_irem hx hb dX7_feed_95 (by decide) ?_
  refine lv_topi (fun y68 ey68 => ?_)
  obtain rfl : y68 = 3 := ey68.trans (by decide)
  refine lv_imul hx hb dX7_feed_96 ?_
  refine lv_topi (fun y69 ey69 => ?_)
  obtain rfl : y69 = 24 := ey69.trans (by decide)
  refine lv_isub hx hb dX7_feed_97 ?_
  refine lv_topi (fun y70 ey70 => ?_)
  obtain rfl : y70 = 0 := ey70.trans (by decide)
  refine lv_ishr hx hb dX7_feed_98 ?_
  refine lv_topi (fun y71 ey71 => ?_)
  refine lv_sipush (v := 255) hx hb dX7_feed_99 (by decide) ?_
  refine lv_iand hx hb dX7_feed_102 ?_
  refine lv_topi (fun y72 ey72 => ?_)
  refine t_iast C w hT hm_q66 ht_q66 (by decide) (by decide) rfl (vp_in_iff.mpr ⟨by decide, by decide⟩) (gof_no rfl) dX7_feed_103 (fun f H locs w hT hR1 => ?_)
  have hR := hR.tr hR1
  refine lv_aload_n hx hb dX7_feed_104 rfl (lv_at hl 2 rfl) ?_
  refine lv_dup hx hb dX7_feed_105 rfl ?_
  refine t_geti C w hT hm_m_ ht_m_ (by decide) rfl cin_7 1 (by decide) rfl rfl gw_1157 dX7_feed_106 (fun x73 hg => ?_)
  obtain rfl : x73 = 7 := gof_at rfl hg
  refine lv_iconst (v := 1) hx hb dX7_feed_109 (by decide) ?_
  refine lv_iadd hx hb dX7_feed_110 ?_
  refine lv_topi (fun y74 ey74 => ?_)
  obtain rfl : y74 = 8 := ey74.trans (by decide)
  refine t_putS C w hT hm_m_ ht_m_ (fun b h1 h2 => hu_7 b m_ h1 hm_m_ h2 ht_m_) (by decide) rfl cin_7 tyX7 tyX7_ok nmX7 1 (by decide) rfl rfl rfl rfl rfl gw_1157 dX7_feed_111 (fun f H locs w hT hR1 => ?_)
  have hT := hT.mono gof_set
  have hR := hR.tr hR1
  refine lv_iinc (v := 8) (lv' := [(6, .int 8), (7, .int a2), (0, .ref m_), (1, .int a1), (2, .int a2), (3, .int a3), (4, .int a4), (5, .int a5)]) hx hb dX7_feed_114 hl (k := 1) rfl (by decide) (by decide) rfl (fun ls hl => ?_)
  refine lv_goto (tgt := 23) hx hb dX7_feed_117 (by decide) ?_
  refine lv_iload hx hb dX7_feed_23 (lv_at hl 0 rfl) ?_
  refine lv_bipush (v := 20) hx hb dX7_feed_25 (by decide) ?_
  refine lv_icmp_ge (tgt := 120) hx hb dX7_feed_27 (by decide) (fun c0 => absurd c0 (by decide)) (fun _ => ?_)
  refine lv_iload hx hb dX7_feed_30 (lv_at hl 0 rfl) ?_
  refine lv_iconst (v := 4) hx hb dX7_feed_32 (by decide) ?_
  refine lv_icmp_ge (tgt := 40) hx hb dX7_feed_33 (by decide) (fun _ => ?_) (fun c0 => absurd c0 (by decide))
  refine lv_iload hx hb dX7_feed_40 (lv_at hl 0 rfl) ?_
  refine lv_bipush (v := 8) hx hb dX7_feed_42 (by decide) ?_
  refine lv_icmp_ge (tgt := 51) hx hb dX7_feed_44 (by decide) (fun _ => ?_) (fun c0 => absurd c0 (by decide))
  refine lv_iload hx hb dX7_feed_51 (lv_at hl 0 rfl) ?_
  refine lv_bipush (v := 12) hx hb dX7_feed_53 (by decide) ?_
  refine lv_icmp_ge (tgt := 62) hx hb dX7_feed_55 (by decide) (fun c0 => absurd c0 (by decide)) (fun _ => ?_)
  refine lv_iload_n hx hb dX7_feed_58 rfl (lv_at hl 5 rfl) ?_
  refine lv_goto (tgt := 76) hx hb dX7_feed_59 (by decide) ?_
  refine lv_istore (lv' := [(7, .int a3), (6, .int 8), (0, .ref m_), (1, .int a1), (2, .int a2), (3, .int a3), (4, .int a4), (5, .int a5)]) hx hb dX7_feed_76 hl (by decide) rfl (fun ls hl => ?_)
  refine lv_aload_n hx hb dX7_feed_78 rfl (lv_at hl 2 rfl) ?_
  refine t_getr C w hT hm_m_ ht_m_ (by decide) rfl cin_7 10 (by decide) rfl gw_1166 dX7_feed_79 (fun q75 hm_q75 ht_q75 => ?_)
  refine lv_aload_n hx hb dX7_feed_82 rfl (lv_at hl 2 rfl) ?_
  refine t_geti C w hT hm_m_ ht_m_ (by decide) rfl cin_7 1 (by decide) rfl rfl gw_1157 dX7_feed_83 (fun x76 hg => ?_)
  obtain rfl : x76 = 8 := gof_at rfl hg
  refine lv_iload hx hb dX7_feed_86 (lv_at hl 0 rfl) ?_
  refine lv_bipush (v := 24) hx hb dX7_feed_88 (by decide) ?_
  refine lv_bipush (v := 8) hx hb dX7_feed_90 (by decide) ?_
  refine lv_iload hx hb dX7_feed_92 (lv_at hl 1 rfl) ?_
  refine lv_iconst (v := 4) hx hb dX7_feed_94 (by decide) ?_
  refine lv_irem hx hb dX7_feed_95 (by decide) ?_
  refine lv_topi (fun y77 ey77 => ?_)
  obtain rfl : y77 = 0 := ey77.trans (by decide)
  refine lv_imul hx hb dX7_feed_96 ?_
  refine lv_topi (fun y78 ey78 => ?_)
  obtain rfl : y78 = 0 := ey78.trans (by decide)
  refine lv_isub hx hb dX7_feed_97 ?_
  refine lv_topi (fun y79 ey79 => ?_)
  obtain rfl : y79 = 24 := ey79.trans (by decide)
  refine lv_ishr hx hb dX7_feed_98 ?_
  refine lv_topi (fun y80 ey80 => ?_)
  refine lv_sipush (v := 255) hx hb dX7_feed_99 (by decide) ?_
  refine lv_iand hx hb dX7_feed_102 ?_
  refine lv_topi (fun y81 ey81 => ?_)
  refine t_iast C w hT hm_q75 ht_q75 (by decide) (by decide) rfl (vp_in_iff.mpr ⟨by decide, by decide⟩) (gof_no rfl) dX7_feed_103 (fun f H locs w hT hR1 => ?_)
  have hR := hR.tr hR1
  refine lv_aload_n hx hb dX7_feed_104 rfl (lv_at hl 2 rfl) ?_
  refine lv_dup hx hb dX7_feed_105 rfl ?_
  refine t_geti C w hT hm_m_ ht_m_ (by decide) rfl cin_7 1 (by decide) rfl rfl gw_1157 dX7_feed_106 (fun x82 hg => ?_)
  obtain rfl : x82 = 8 := gof_at rfl hg
  refine lv_iconst (v := 1) hx hb dX7_feed_109 (by decide) ?_
  refine lv_iadd hx hb dX7_feed_110 ?_
  refine lv_topi (fun y83 ey83 => ?_)
  obtain rfl : y83 = 9 := ey83.trans (by decide)
  refine t_putS C w hT hm_m_ ht_m_ (fun b h1 h2 => hu_7 b m_ h1 hm_m_ h2 ht_m_) (by decide) rfl cin_7 tyX7 tyX7_ok nmX7 1 (by decide) rfl rfl rfl rfl rfl gw_1157 dX7_feed_111 (fun f H locs w hT hR1 => ?_)
  have hT := hT.mono gof_set
  have hR := hR.tr hR1
  refine lv_iinc (v := 9) (lv' := [(6, .int 9), (7, .int a3), (0, .ref m_), (1, .int a1), (2, .int a2), (3, .int a3), (4, .int a4), (5, .int a5)]) hx hb dX7_feed_114 hl (k := 1) rfl (by decide) (by decide) rfl (fun ls hl => ?_)
  refine lv_goto (tgt := 23) hx hb dX7_feed_117 (by decide) ?_
  refine lv_iload hx hb dX7_feed_23 (lv_at hl 0 rfl) ?_
  refine lv_bipush (v := 20) hx hb dX7_feed_25 (by decide) ?_
  refine lv_icmp_ge (tgt := 120) hx hb dX7_feed_27 (by decide) (fun c0 => absurd c0 (by decide)) (fun _ => ?_)
  refine lv_iload hx hb dX7_feed_30 (lv_at hl 0 rfl) ?_
  refine lv_iconst (v := 4) hx hb dX7_feed_32 (by decide) ?_
  refine lv_icmp_ge (tgt := 40) hx hb dX7_feed_33 (by decide) (fun _ => ?_) (fun c0 => absurd c0 (by decide))
  refine lv_iload hx hb dX7_feed_40 (lv_at hl 0 rfl) ?_
  refine lv_bipush (v := 8) hx hb dX7_feed_42 (by decide) ?_
  refine lv_icmp_ge (tgt := 51) hx hb dX7_feed_44 (by decide) (fun _ => ?_) (fun c0 => absurd c0 (by decide))
  refine lv_iload hx hb dX7_feed_51 (lv_at hl 0 rfl) ?_
  refine lv_bipush (v := 12) hx hb dX7_feed_53 (by decide) ?_
  refine lv_icmp_ge (tgt := 62) hx hb dX7_feed_55 (by decide) (fun c0 => absurd c0 (by decide)) (fun _ => ?_)
  refine lv_iload_n hx hb dX7_feed_58 rfl (lv_at hl 5 rfl) ?_
  refine lv_goto (tgt := 76) hx hb dX7_feed_59 (by decide) ?_
  refine lv_istore (lv' := [(7, .int a3), (6, .int 9), (0, .ref m_), (1, .int a1), (2, .int a2), (3, .int a3), (4, .int a4), (5, .int a5)]) hx hb dX7_feed_76 hl (by decide) rfl (fun ls hl => ?_)
  refine lv_aload_n hx hb dX7_feed_78 rfl (lv_at hl 2 rfl) ?_
  refine t_getr C w hT hm_m_ ht_m_ (by decide) rfl cin_7 10 (by decide) rfl gw_1166 dX7_feed_79 (fun q84 hm_q84 ht_q84 => ?_)
  refine lv_aload_n hx hb dX7_feed_82 rfl (lv_at hl 2 rfl) ?_
  refine t_geti C w hT hm_m_ ht_m_ (by decide) rfl cin_7 1 (by decide) rfl rfl gw_1157 dX7_feed_83 (fun x85 hg => ?_)
  obtain rfl : x85 = 9 := gof_at rfl hg
  refine lv_iload hx hb dX7_feed_86 (lv_at hl 0 rfl) ?_
  refine lv_bipush (v := 24) hx hb dX7_feed_88 (by decide) ?_
  refine lv_bipush (v := 8) hx hb dX7_feed_90 (by decide) ?_
  refine lv_iload hx hb dX7_feed_92 (lv_at hl 1 rfl) ?_
  refine lv_iconst (v := 4) hx hb dX7_feed_94 (by decide) ?_
  refine lv_irem hx hb dX7_feed_95 (by decide) ?_
  refine lv_topi (fun y86 ey86 => ?_)
  obtain rfl : y86 = 1 := ey86.trans (by decide)
  refine lv_imul hx hb dX7_feed_96 ?_
  refine lv_topi (fun y87 ey87 => ?_)
  obtain rfl : y87 = 8 := ey87.trans (by decide)
  refine lv_isub hx hb dX7_feed_97 ?_
  refine lv_topi (fun y88 ey88 => ?_)
  obtain rfl : y88 = 16 := ey88.trans (by decide)
  refine lv_ishr hx hb dX7_feed_98 ?_
  refine lv_topi (fun y89 ey89 => ?_)
  refine lv_sipush (v := 255) hx hb dX7_feed_99 (by decide) ?_
  refine lv_iand hx hb dX7_feed_102 ?_
  refine lv_topi (fun y90 ey90 => ?_)
  refine t_iast C w hT hm_q84 ht_q84 (by decide) (by decide) rfl (vp_in_iff.mpr ⟨by decide, by decide⟩) (gof_no rfl) dX7_feed_103 (fun f H locs w hT hR1 => ?_)
  have hR := hR.tr hR1
  refine lv_aload_n hx hb dX7_feed_104 rfl (lv_at hl 2 rfl) ?_
  refine lv_dup hx hb dX7_feed_105 rfl ?_
  refine t_geti C w hT hm_m_ ht_m_ (by decide) rfl cin_7 1 (by decide) rfl rfl gw_1157 dX7_feed_106 (fun x91 hg => ?_)
  obtain rfl : x91 = 9 := gof_at rfl hg
  refine lv_iconst (v := 1) hx hb dX7_feed_109 (by decide) ?_
  refine lv_iadd hx hb dX7_feed_110 ?_
  refine lv_topi (fun y92 ey92 => ?_)
  obtain rfl : y92 = 10 := ey92.trans (by decide)
  refine t_putS C w hT hm_m_ ht_m_ (fun b h1 h2 => hu_7 b m_ h1 hm_m_ h2 ht_m_) (by decide) rfl cin_7 tyX7 tyX7_ok nmX7 1 (by decide) rfl rfl rfl rfl rfl gw_1157 dX7_feed_111 (fun f H locs w hT hR1 => ?_)
  have hT := hT.mono gof_set
  have hR := hR.tr hR1
  refine lv_iinc (v := 10) (lv' := [(6, .int 10), (7, .int a3), (0, .ref m_), (1, .int a1), (2, .int a2), (3, .int a3), (4, .int a4), (5, .int a5)]) hx hb dX7_feed_114 hl (k := 1) rfl (by decide) (by decide) rfl (fun ls hl => ?_)
  refine lv_goto (tgt := 23) hx hb dX7_feed_117 (by decide) ?_
  refine lv_iload hx hb dX7_feed_23 (lv_at hl 0 rfl) ?_
  refine lv_bipush (v := 20) hx hb dX7_feed_25 (by decide) ?_
  refine lv_icmp_ge (tgt := 120) hx hb dX7_feed_27 (by decide) (fun c0 => absurd c0 (by decide)) (fun _ => ?_)
  refine lv_iload hx hb dX7_feed_30 (lv_at hl 0 rfl) ?_
  refine lv_iconst (v := 4) hx hb dX7_feed_32 (by decide) ?_
  refine lv_icmp_ge (tgt := 40) hx hb dX7_feed_33 (by decide) (fun _ => ?_) (fun c0 => absurd c0 (by decide))
  refine lv_iload hx hb dX7_feed_40 (lv_at hl 0 rfl) ?_
  refine lv_bipush (v := 8) hx hb dX7_feed_42 (by decide) ?_
  refine lv_icmp_ge (tgt := 51) hx hb dX7_feed_44 (by decide) (fun _ => ?_) (fun c0 => absurd c0 (by decide))
  refine lv_iload hx hb dX7_feed_51 (lv_at hl 0 rfl) ?_
  refine lv_bipush (v := 12) hx hb dX7_feed_53 (by decide) ?_
  refine lv_icmp_ge (tgt := 62) hx hb dX7_feed_55 (by decide) (fun c0 => absurd c0 (by decide)) (fun _ => ?_)
  refine lv_iload_n hx hb dX7_feed_58 rfl (lv_at hl 5 rfl) ?_
  refine lv_goto (tgt := 76) hx hb dX7_feed_59 (by decide) ?_
  refine lv_istore (lv' := [(7, .int a3), (6, .int 10), (0, .ref m_), (1, .int a1), (2, .int a2), (3, .int a3), (4, .int a4), (5, .int a5)]) hx hb dX7_feed_76 hl (by decide) rfl (fun ls hl => ?_)
  refine lv_aload_n hx hb dX7_feed_78 rfl (lv_at hl 2 rfl) ?_
  refine t_getr C w hT hm_m_ ht_m_ (by decide) rfl cin_7 10 (by decide) rfl gw_1166 dX7_feed_79 (fun q93 hm_q93 ht_q93 => ?_)
  refine lv_aload_n hx hb dX7_feed_82 rfl (lv_at hl 2 rfl) ?_
  refine t_geti C w hT hm_m_ ht_m_ (by decide) rfl cin_7 1 (by decide) rfl rfl gw_1157 dX7_feed_83 (fun x94 hg => ?_)
  obtain rfl : x94 = 10 := gof_at rfl hg
  refine lv_iload hx hb dX7_feed_86 (lv_at hl 0 rfl) ?_
  refine lv_bipush (v := 24) hx hb dX7_feed_88 (by decide) ?_
  refine lv_bipush (v := 8) hx hb dX7_feed_90 (by decide) ?_
  refine lv_iload hx hb dX7_feed_92 (lv_at hl 1 rfl) ?_
  refine lv_iconst (v := 4) hx hb dX7_feed_94 (by decide) ?_
  refine lv_irem hx hb dX7_feed_95 (by decide) ?_
  refine lv_topi (fun y95 ey95 => ?_)
  obtain rfl : y95 = 2 := ey95.trans (by decide)
  refine lv_imul hx hb dX7_feed_96 ?_
  refine lv_topi (fun y96 ey96 => ?_)
  obtain rfl : y96 = 16 := ey96.trans (by decide)
  refine lv_isub hx hb dX7_feed_97 ?_
  refine lv_topi (fun y97 ey97 => ?_)
  obtain rfl : y97 = 8 := ey97.trans (by decide)
  refine lv_ishr hx hb dX7_feed_98 ?_
  refine lv_topi (fun y98 ey98 => ?_)
  refine lv_sipush (v := 255) hx hb dX7_feed_99 (by decide) ?_
  refine lv_iand hx hb dX7_feed_102 ?_
  refine lv_topi (fun y99 ey99 => ?_)
  refine t_iast C w hT hm_q93 ht_q93 (by decide) (by decide) rfl (vp_in_iff.mpr ⟨by decide, by decide⟩) (gof_no rfl) dX7_feed_103 (fun f H locs w hT hR1 => ?_)
  have hR := hR.tr hR1
  refine lv_aload_n hx hb dX7_feed_104 rfl (lv_at hl 2 rfl) ?_
  refine lv_dup hx hb dX7_feed_105 rfl ?_
  refine t_geti C w hT hm_m_ ht_m_ (by decide) rfl cin_7 1 (by decide) rfl rfl gw_1157 dX7_feed_106 (fun x100 hg => ?_)
  obtain rfl : x100 = 10 := gof_at rfl hg
  refine lv_iconst (v := 1) hx hb dX7_feed_109 (by decide) ?_
  refine lv_iadd hx hb dX7_feed_110 ?_
  refine lv_topi (fun y101 ey101 => ?_)
  obtain rfl : y101 = 11 := ey101.trans (by decide)
  refine t_putS C w hT hm_m_ ht_m_ (fun b h1 h2 => hu_7 b m_ h1 hm_m_ h2 ht_m_) (by decide) rfl cin_7 tyX7 tyX7_ok nmX7 1 (by decide) rfl rfl rfl rfl rfl gw_1157 dX7_feed_111 (fun f H locs w hT hR1 => ?_)
  have hT := hT.mono gof_set
  have hR := hR.tr hR1
  refine lv_iinc (v := 11) (lv' := [(6, .int 11), (7, .int a3), (0, .ref m_), (1, .int a1), (2, .int a2), (3, .int a3), (4, .int a4), (5, .int a5)]) hx hb dX7_feed_114 hl (k := 1) rfl (by decide) (by decide) rfl (fun ls hl => ?_)
  refine lv_goto (tgt := 23) hx hb dX7_feed_117 (by decide) ?_
  refine lv_iload hx hb dX7_feed_23 (lv_at hl 0 rfl) ?_
  refine lv_bipush (v := 20) hx hb dX7_feed_25 (by decide) ?_
  refine lv_icmp_ge (tgt := 120) hx hb dX7_feed_27 (by decide) (fun c0 => absurd c0 (by decide)) (fun _ => ?_)
  refine lv_iload hx hb dX7_feed_30 (lv_at hl 0 rfl) ?_
  refine lv_iconst (v := 4) hx hb dX7_feed_32 (by decide) ?_
  refine lv_icmp_ge (tgt := 40) hx hb dX7_feed_33 (by decide) (fun _ => ?_) (fun c0 => absurd c0 (by decide))
  refine lv_iload hx hb dX7_feed_40 (lv_at hl 0 rfl) ?_
  refine lv_bipush (v := 8) hx hb dX7_feed_42 (by decide) ?_
  refine lv_icmp_ge (tgt := 51) hx hb dX7_feed_44 (by decide) (fun _ => ?_) (fun c0 => absurd c0 (by decide))
  refine lv_iload hx hb dX7_feed_51 (lv_at hl 0 rfl) ?_
  refine lv_bipush (v := 12) hx hb dX7_feed_53 (by decide) ?_
  refine lv_icmp_ge (tgt := 62) hx hb dX7_feed_55 (by decide) (fun c0 => absurd c0 (by decide)) (fun _ => ?_)
  refine lv_iload_n hx hb dX7_feed_58 rfl (lv_at hl 5 rfl) ?_
  refine lv_goto (tgt := 76) hx hb dX7_feed_59 (by decide) ?_
  refine lv_istore (lv' := [(7, .int a3), (6, .int 11), (0, .ref m_), (1, .int a1), (2, .int a2), (3, .int a3), (4, .int a4), (5, .int a5)]) hx hb dX7_feed_76 hl (by decide) rfl (fun ls hl => ?_)
  refine lv_aload_n hx hb dX7_feed_78 rfl (lv_at hl 2 rfl) ?_
  refine t_getr C w hT hm_m_ ht_m_ (by decide) rfl cin_7 10 (by decide) rfl gw_1166 dX7_feed_79 (fun q102 hm_q102 ht_q102 => ?_)
  refine lv_aload_n hx hb dX7_feed_82 rfl (lv_at hl 2 rfl) ?_
  refine t_geti C w hT hm_m_ ht_m_ (by decide) rfl cin_7 1 (by decide) rfl rfl gw_1157 dX7_feed_83 (fun x103 hg => ?_)
  obtain rfl : x103 = 11 := gof_at rfl hg
  refine lv_iload hx hb dX7_feed_86 (lv_at hl 0 rfl) ?_
  refine lv_bipush (v := 24) hx hb dX7_feed_88 (by decide) ?_
  refine lv_bipush (v := 8) hx hb dX7_feed_90 (by decide) ?_
  refine lv_iload hx hb dX7_feed_92 (lv_at hl 1 rfl) ?_
  refine lv_iconst (v := 4) hx hb dX7_feed_94 (by decide) ?_
  refine lv_irem hx hb dX7_feed_95 (by decide) ?_
  refine lv_topi (fun y104 ey104 => ?_)
  obtain rfl : y104 = 3 := ey104.trans (by decide)
  refine lv_imul hx hb dX7_feed_96 ?_
  refine lv_topi (fun y105 ey105 => ?_)
  obtain rfl : y105 = 24 := ey105.trans (by decide)
  refine lv_isub hx hb dX7_feed_97 ?_
  refine lv_topi (fun y106 ey106 => ?_)
  obtain rfl : y106 = 0 := ey106.trans (by decide)
  refine lv_ishr hx hb dX7_feed_98 ?_
  refine lv_topi (fun y107 ey107 => ?_)
  refine lv_sipush (v := 255) hx hb dX7_feed_99 (by decide) ?_
  refine lv_iand hx hb dX7_feed_102 ?_
  refine lv_topi (fun y108 ey108 => ?_)
  refine t_iast C w hT hm_q102 ht_q102 (by decide) (by decide) rfl (vp_in_iff.mpr ⟨by decide, by decide⟩) (gof_no rfl) dX7_feed_103 (fun f H locs w hT hR1 => ?_)
  have hR := hR.tr hR1
  refine lv_aload_n hx hb dX7_feed_104 rfl (lv_at hl 2 rfl) ?_
  refine lv_dup hx hb dX7_feed_105 rfl ?_
  refine t_geti C w hT hm_m_ ht_m_ (by decide) rfl cin_7 1 (by decide) rfl rfl gw_1157 dX7_feed_106 (fun x109 hg => ?_)
  obtain rfl : x109 = 11 := gof_at rfl hg
  refine lv_iconst (v := 1) hx hb dX7_feed_109 (by decide) ?_
  refine lv_iadd hx hb dX7_feed_110 ?_
  refine lv_topi (fun y110 ey110 => ?_)
  obtain rfl : y110 = 12 := ey110.trans (by decide)
  refine t_putS C w hT hm_m_ ht_m_ (fun b h1 h2 => hu_7 b m_ h1 hm_m_ h2 ht_m_) (by decide) rfl cin_7 tyX7 tyX7_ok nmX7 1 (by decide) rfl rfl rfl rfl rfl gw_1157 dX7_feed_111 (fun f H locs w hT hR1 => ?_)
  have hT := hT.mono gof_set
  have hR := hR.tr hR1
  refine lv_iinc (v := 12) (lv' := [(6, .int 12), (7, .int a3), (0, .ref m_), (1, .int a1), (2, .int a2), (3, .int a3), (4, .int a4), (5, .int a5)]) hx hb dX7_feed_114 hl (k := 1) rfl (by decide) (by decide) rfl (fun ls hl => ?_)
  refine lv_goto (tgt := 23) hx hb dX7_feed_117 (by decide) ?_
  refine lv_iload hx hb dX7_feed_23 (lv_at hl 0 rfl) ?_
  refine lv_bipush (v := 20) hx hb dX7_feed_25 (by decide) ?_
  refine lv_icmp_ge (tgt := 120) hx hb dX7_feed_27 (by decide) (fun c0 => absurd c0 (by decide)) (fun _ => ?_)
  refine lv_iload hx hb dX7_feed_30 (lv_at hl 0 rfl) ?_
  refine lv_iconst (v := 4) hx hb dX7_feed_32 (by decide) ?_
  refine lv_icmp_ge (tgt := 40) hx hb dX7_feed_33 (by decide) (fun _ => ?_) (fun c0 => absurd c0 (by decide))
  refine lv_iload hx hb dX7_feed_40 (lv_at hl 0 rfl) ?_
  refine lv_bipush (v := 8) hx hb dX7_feed_42 (by decide) ?_
  refine lv_icmp_ge (tgt := 51) hx hb dX7_feed_44 (by decide) (fun _ => ?_) (fun c0 => absurd c0 (by decide))
  refine lv_iload hx hb dX7_feed_51 (lv_at hl 0 rfl) ?_
  refine lv_bipush (v := 12) hx hb dX7_feed_53 (by decide) ?_
  refine lv_icmp_ge (tgt := 62) hx hb dX7_feed_55 (by decide) (fun _ => ?_) (fun c0 => absurd c0 (by decide))
  refine lv_iload hx hb dX7_feed_62 (lv_at hl 0 rfl) ?_
  refine lv_bipush (v := 16) hx hb dX7_feed_64 (by decide) ?_
  refine lv_icmp_ge (tgt := 74) hx hb dX7_feed_66 (by decide) (fun c0 => absurd c0 (by decide)) (fun _ => ?_)
  refine lv_iload hx hb dX7_feed_69 (lv_at hl 6 rfl) ?_
  refine lv_goto (tgt := 76) hx hb dX7_feed_71 (by decide) ?_
  refine lv_istore (lv' := [(7, .int a4), (6, .int 12), (0, .ref m_), (1, .int a1), (2, .int a2), (3, .int a3), (4, .int a4), (5, .int a5)]) hx hb dX7_feed_76 hl (by decide) rfl (fun ls hl => ?_)
  refine lv_aload_n hx hb dX7_feed_78 rfl (lv_at hl 2 rfl) ?_
  refine t_getr C w hT hm_m_ ht_m_ (by decide) rfl cin_7 10 (by decide) rfl gw_1166 dX7_feed_79 (fun q111 hm_q111 ht_q111 => ?_)
  refine lv_aload_n hx hb dX7_feed_82 rfl (lv_at hl 2 rfl) ?_
  refine t_geti C w hT hm_m_ ht_m_ (by decide) rfl cin_7 1 (by decide) rfl rfl gw_1157 dX7_feed_83 (fun x112 hg => ?_)
  obtain rfl : x112 = 12 := gof_at rfl hg
  refine lv_iload hx hb dX7_feed_86 (lv_at hl 0 rfl) ?_
  refine lv_bipush (v := 24) hx hb dX7_feed_88 (by decide) ?_
  refine lv_bipush (v := 8) hx hb dX7_feed_90 (by decide) ?_
  refine lv_iload hx hb dX7_feed_92 (lv_at hl 1 rfl) ?_
  refine lv_iconst (v := 4) hx hb dX7_feed_94 (by decide) ?_
  refine lv_irem hx hb dX7_feed_95 (by decide) ?_
  refine lv_topi (fun y113 ey113 => ?_)
  obtain rfl : y113 = 0 := ey113.trans (by decide)
  refine lv_imul hx hb dX7_feed_96 ?_
  refine lv_topi (fun y114 ey114 => ?_)
  obtain rfl : y114 = 0 := ey114.trans (by decide)
  refine lv_isub hx hb dX7_feed_97 ?_
  refine lv_topi (fun y115 ey115 => ?_)
  obtain rfl : y115 = 24 := ey115.trans (by decide)
  refine lv_ishr hx hb dX7_feed_98 ?_
  refine lv_topi (fun y116 ey116 => ?_)
  refine lv_sipush (v := 255) hx hb dX7_feed_99 (by decide) ?_
  refine lv_iand hx hb dX7_feed_102 ?_
  refine lv_topi (fun y117 ey117 => ?_)
  refine t_iast C w hT hm_q111 ht_q111 (by decide) (by decide) rfl (vp_in_iff.mpr ⟨by decide, by decide⟩) (gof_no rfl) dX7_feed_103 (fun f H locs w hT hR1 => ?_)
  have hR := hR.tr hR1
  refine lv_aload_n hx hb dX7_feed_104 rfl (lv_at hl 2 rfl) ?_
  refine lv_dup hx hb dX7_feed_105 rfl ?_
  refine t_geti C w hT hm_m_ ht_m_ (by decide) rfl cin_7 1 (by decide) rfl rfl gw_1157 dX7_feed_106 (fun x118 hg => ?_)
  obtain rfl : x118 = 12 := gof_at rfl hg
  refine lv_iconst (v := 1) hx hb dX7_feed_109 (by decide) ?_
  refine lv_iadd hx hb dX7_feed_110 ?_
  refine lv_topi (fun y119 ey119 => ?_)
  obtain rfl : y119 = 13 := ey119.trans (by decide)
  refine t_putS C w hT hm_m_ ht_m_ (fun b h1 h2 => hu_7 b m_ h1 hm_m_ h2 ht_m_) (by decide) rfl cin_7 tyX7 tyX7_ok nmX7 1 (by decide) rfl rfl rfl rfl rfl gw_1157 dX7_feed_111 (fun f H locs w hT hR1 => ?_)
  have hT := hT.mono gof_set
  have hR := hR.tr hR1
  refine lv_iinc (v := 13) (lv' := [(6, .int 13), (7, .int a4), (0, .ref m_), (1, .int a1), (2, .int a2), (3, .int a3), (4, .int a4), (5, .int a5)]) hx hb dX7_feed_114 hl (k := 1) rfl (by decide) (by decide) rfl (fun ls hl => ?_)
  refine lv_goto (tgt := 23) hx hb dX7_feed_117 (by decide) ?_
  refine lv_iload hx hb dX7_feed_23 (lv_at hl 0 rfl) ?_
  refine lv_bipush (v := 20) hx hb dX7_feed_25 (by decide) ?_
  refine lv_icmp_ge (tgt := 120) hx hb dX7_feed_27 (by decide) (fun c0 => absurd c0 (by decide)) (fun _ => ?_)
  refine lv_iload hx hb dX7_feed_30 (lv_at hl 0 rfl) ?_
  refine lv_iconst (v := 4) hx hb dX7_feed_32 (by decide) ?_
  refine lv_icmp_ge (tgt := 40) hx hb dX7_feed_33 (by decide) (fun _ => ?_) (fun c0 => absurd c0 (by decide))
  refine lv_iload hx hb dX7_feed_40 (lv_at hl 0 rfl) ?_
  refine lv_bipush (v := 8) hx hb dX7_feed_42 (by decide) ?_
  refine lv_icmp_ge (tgt := 51) hx hb dX7_feed_44 (by decide) (fun _ => ?_) (fun c0 => absurd c0 (by decide))
  refine lv_iload hx hb dX7_feed_51 (lv_at hl 0 rfl) ?_
  refine lv_bipush (v := 12) hx hb dX7_feed_53 (by decide) ?_
  refine lv_icmp_ge (tgt := 62) hx hb dX7_feed_55 (by decide) (fun _ => ?_) (fun c0 => absurd c0 (by decide))
  refine lv_iload hx hb dX7_feed_62 (lv_at hl 0 rfl) ?_
  refine lv_bipush (v := 16) hx hb dX7_feed_64 (by decide) ?_
  refine lv_icmp_ge (tgt := 74) hx hb dX7_feed_66 (by decide) (fun c0 => absurd c0 (by decide)) (fun _ => ?_)
  refine lv_iload hx hb dX7_feed_69 (lv_at hl 6 rfl) ?_
  refine lv_goto (tgt := 76) hx hb dX7_feed_71 (by decide) ?_
  refine lv_istore (lv' := [(7, .int a4), (6, .int 13), (0, .ref m_), (1, .int a1), (2, .int a2), (3, .int a3), (4, .int a4), (5, .int a5)]) hx hb dX7_feed_76 hl (by decide) rfl (fun ls hl => ?_)
  refine lv_aload_n hx hb dX7_feed_78 rfl (lv_at hl 2 rfl) ?_
  refine t_getr C w hT hm_m_ ht_m_ (by decide) rfl cin_7 10 (by decide) rfl gw_1166 dX7_feed_79 (fun q120 hm_q120 ht_q120 => ?_)
  refine lv_aload_n hx hb dX7_feed_82 rfl (lv_at hl 2 rfl) ?_
  refine t_geti C w hT hm_m_ ht_m_ (by decide) rfl cin_7 1 (by decide) rfl rfl gw_1157 dX7_feed_83 (fun x121 hg => ?_)
  obtain rfl : x121 = 13 := gof_at rfl hg
  refine lv_iload hx hb dX7_feed_86 (lv_at hl 0 rfl) ?_
  refine lv_bipush (v := 24) hx hb dX7_feed_88 (by decide) ?_
  refine lv_bipush (v := 8) hx hb dX7_feed_90 (by decide) ?_
  refine lv_iload hx hb dX7_feed_92 (lv_at hl 1 rfl) ?_
  refine lv_iconst (v := 4) hx hb dX7_feed_94 (by decide) ?_
  refine lv_irem hx hb dX7_feed_95 (by decide) ?_
  refine lv_topi (fun y122 ey122 => ?_)
  obtain rfl : y122 = 1 := ey122.trans (by decide)
  refine lv_imul hx hb dX7_feed_96 ?_
  refine lv_topi (fun y123 ey123 => ?_)
  obtain rfl : y123 = 8 := ey123.trans (by decide)
  refine lv_isub hx hb dX7_feed_97 ?_
  refine lv_topi (fun y124 ey124 => ?_)
  obtain rfl : y124 = 16 := ey124.trans (by decide)
  refine lv_ishr hx hb dX7_feed_98 ?_
  refine lv_topi (fun y125 ey125 => ?_)
  refine lv_sipush (v := 255) hx hb dX7_feed_99 (by decide) ?_
  refine lv_iand hx hb dX7_feed_102 ?_
  refine lv_topi (fun y126 ey126 => ?_)
  refine t_iast C w hT hm_q120 ht_q120 (by decide) (by decide) rfl (vp_in_iff.mpr ⟨by decide, by decide⟩) (gof_no rfl) dX7_feed_103 (fun f H locs w hT hR1 => ?_)
  have hR := hR.tr hR1
  refine lv_aload_n hx hb dX7_feed_104 rfl (lv_at hl 2 rfl) ?_
  refine lv_dup hx hb dX7_feed_105 rfl ?_
  refine t_geti C w hT hm_m_ ht_m_ (by decide) rfl cin_7 1 (by decide) rfl rfl gw_1157 dX7_feed_106 (fun x127 hg => ?_)
  obtain rfl : x127 = 13 := gof_at rfl hg
  refine lv_iconst (v := 1) hx hb dX7_feed_109 (by decide) ?_
  refine lv_iadd hx hb dX7_feed_110 ?_
  refine lv_topi (fun y128 ey128 => ?_)
  obtain rfl : y128 = 14 := ey128.trans (by decide)
  refine t_putS C w hT hm_m_ ht_m_ (fun b h1 h2 => hu_7 b m_ h1 hm_m_ h2 ht_m_) (by decide) rfl cin_7 tyX7 tyX7_ok nmX7 1 (by decide) rfl rfl rfl rfl rfl gw_1157 dX7_feed_111 (fun f H locs w hT hR1 => ?_)
  have hT := hT.mono gof_set
  have hR := hR.tr hR1
  refine lv_iinc (v := 14) (lv' := [(6, .int 14), (7, .int a4), (0, .ref m_), (1, .int a1), (2, .int a2), (3, .int a3), (4, .int a4), (5, .int a5)]) hx hb dX7_feed_114 hl (k := 1) rfl (by decide) (by decide) rfl (fun ls hl => ?_)
  refine lv_goto (tgt := 23) hx hb dX7_feed_117 (by decide) ?_
  refine lv_iload hx hb dX7_feed_23 (lv_at hl 0 rfl) ?_
  refine lv_bipush (v := 20) hx hb dX7_feed_25 (by decide) ?_
  refine lv_icmp_ge (tgt := 120) hx hb dX7_feed_27 (by decide) (fun c0 => absurd c0 (by decide)) (fun _ => ?_)
  refine lv_iload hx hb dX7_feed_30 (lv_at hl 0 rfl) ?_
  refine lv_iconst (v := 4) hx hb dX7_feed_32 (by decide) ?_
  refine lv_icmp_ge (tgt := 40) hx hb dX7_feed_33 (by decide) (fun _ => ?_) (fun c0 => absurd c0 (by decide))
  refine lv_iload hx hb dX7_feed_40 (lv_at hl 0 rfl) ?_
  refine lv_bipush (v := 8) hx hb dX7_feed_42 (by decide) ?_
  refine lv_icmp_ge (tgt := 51) hx hb dX7_feed_44 (by decide) (fun _ => ?_) (fun c0 => absurd c0 (by decide))
  refine lv_iload hx hb dX7_feed_51 (lv_at hl 0 rfl) ?_
  refine lv_bipush (v := 12) hx hb dX7_feed_53 (by decide) ?_
  refine lv_icmp_ge (tgt := 62) hx hb dX7_feed_55 (by decide) (fun _ => ?_) (fun c0 => absurd c0 (by decide))
  refine lv_iload hx hb dX7_feed_62 (lv_at hl 0 rfl) ?_
  refine lv_bipush (v := 16) hx hb dX7_feed_64 (by decide) ?_
  refine lv_icmp_ge (tgt := 74) hx hb dX7_feed_66 (by decide) (fun c0 => absurd c0 (by decide)) (fun _ => ?_)
  refine lv_iload hx hb dX7_feed_69 (lv_at hl 6 rfl) ?_
  refine lv_goto (tgt := 76) hx hb dX7_feed_71 (by decide) ?_
  refine lv_istore (lv' := [(7, .int a4), (6, .int 14), (0, .ref m_), (1, .int a1), (2, .int a2), (3, .int a3), (4, .int a4), (5, .int a5)]) hx hb dX7_feed_76 hl (by decide) rfl (fun ls hl => ?_)
  refine lv_aload_n hx hb dX7_feed_78 rfl (lv_at hl 2 rfl) ?_
  refine t_getr C w hT hm_m_ ht_m_ (by decide) rfl cin_7 10 (by decide) rfl gw_1166 dX7_feed_79 (fun q129 hm_q129 ht_q129 => ?_)
  refine lv_aload_n hx hb dX7_feed_82 rfl (lv_at hl 2 rfl) ?_
  refine t_geti C w hT hm_m_ ht_m_ (by decide) rfl cin_7 1 (by decide) rfl rfl gw_1157 dX7_feed_83 (fun x130 hg => ?_)
  obtain rfl : x130 = 14 := gof_at rfl hg
  refine lv_iload hx hb dX7_feed_86 (lv_at hl 0 rfl) ?_
  refine lv_bipush (v := 24) hx hb dX7_feed_88 (by decide) ?_
  refine lv_bipush (v := 8) hx hb dX7_feed_90 (by decide) ?_
  refine lv_iload hx hb dX7_feed_92 (lv_at hl 1 rfl) ?_
  refine lv_iconst (v := 4) hx hb dX7_feed_94 (by decide) ?_
  refine lv_irem hx hb dX7_feed_95 (by decide) ?_
  refine lv_topi (fun y131 ey131 => ?_)
  obtain rfl : y131 = 2 := ey131.trans (by decide)
  refine lv_imul hx hb dX7_feed_96 ?_
  refine lv_topi (fun y132 ey132 => ?_)
  obtain rfl : y132 = 16 := ey132.trans (by decide)
  refine lv_isub hx hb dX7_feed_97 ?_
  refine lv_topi (fun y133 ey133 => ?_)
  obtain rfl : y133 = 8 := ey133.trans (by decide)
  refine lv_ishr hx hb dX7_feed_98 ?_
  refine lv_topi (fun y134 ey134 => ?_)
  refine lv_sipush (v := 255) hx hb dX7_feed_99 (by decide) ?_
  refine lv_iand hx hb dX7_feed_102 ?_
  refine lv_topi (fun y135 ey135 => ?_)
  refine t_iast C w hT hm_q129 ht_q129 (by decide) (by decide) rfl (vp_in_iff.mpr ⟨by decide, by decide⟩) (gof_no rfl) dX7_feed_103 (fun f H locs w hT hR1 => ?_)
  have hR := hR.tr hR1
  refine lv_aload_n hx hb dX7_feed_104 rfl (lv_at hl 2 rfl) ?_
  refine lv_dup hx hb dX7_feed_105 rfl ?_
  refine t_geti C w hT hm_m_ ht_m_ (by decide) rfl cin_7 1 (by decide) rfl rfl gw_1157 dX7_feed_106 (fun x136 hg => ?_)
  obtain rfl : x136 = 14 := gof_at rfl hg
  refine lv_iconst (v := 1) hx hb dX7_feed_109 (by decide) ?_
  refine lv_iadd hx hb dX7_feed_110 ?_
  refine lv_topi (fun y137 ey137 => ?_)
  obtain rfl : y137 = 15 := ey137.trans (by decide)
  refine t_putS C w hT hm_m_ ht_m_ (fun b h1 h2 => hu_7 b m_ h1 hm_m_ h2 ht_m_) (by decide) rfl cin_7 tyX7 tyX7_ok nmX7 1 (by decide) rfl rfl rfl rfl rfl gw_1157 dX7_feed_111 (fun f H locs w hT hR1 => ?_)
  have hT := hT.mono gof_set
  have hR := hR.tr hR1
  refine lv_iinc (v := 15) (lv' := [(6, .int 15), (7, .int a4), (0, .ref m_), (1, .int a1), (2, .int a2), (3, .int a3), (4, .int a4), (5, .int a5)]) hx hb dX7_feed_114 hl (k := 1) rfl (by decide) (by decide) rfl (fun ls hl => ?_)
  refine lv_goto (tgt := 23) hx hb dX7_feed_117 (by decide) ?_
  refine lv_iload hx hb dX7_feed_23 (lv_at hl 0 rfl) ?_
  refine lv_bipush (v := 20) hx hb dX7_feed_25 (by decide) ?_
  refine lv_icmp_ge (tgt := 120) hx hb dX7_feed_27 (by decide) (fun c0 => absurd c0 (by decide)) (fun _ => ?_)
  refine lv_iload hx hb dX7_feed_30 (lv_at hl 0 rfl) ?_
  refine lv_iconst (v := 4) hx hb dX7_feed_32 (by decide) ?_
  refine lv_icmp_ge (tgt := 40) hx hb dX7_feed_33 (by decide) (fun _ => ?_) (fun c0 => absurd c0 (by decide))
  refine lv_iload hx hb dX7_feed_40 (lv_at hl 0 rfl) ?_
  refine lv_bipush (v := 8) hx hb dX7_feed_42 (by decide) ?_
  refine lv_icmp_ge (tgt := 51) hx hb dX7_feed_44 (by decide) (fun _ => ?_) (fun c0 => absurd c0 (by decide))
  refine lv_iload hx hb dX7_feed_51 (lv_at hl 0 rfl) ?_
  refine lv_bipush (v := 12) hx hb dX7_feed_53 (by decide) ?_
  refine lv_icmp_ge (tgt := 62) hx hb dX7_feed_55 (by decide) (fun _ => ?_) (fun c0 => absurd c0 (by decide))
  refine lv_iload hx hb dX7_feed_62 (lv_at hl 0 rfl) ?_
  refine lv_bipush (v := 16) hx hb dX7_feed_64 (by decide) ?_
  refine lv_icmp_ge (tgt := 74) hx hb dX7_feed_66 (by decide) (fun c0 => absurd c0 (by decide)) (fun _ => ?_)
  refine lv_iload hx hb dX7_feed_69 (lv_at hl 6 rfl) ?_
  refine lv_goto (tgt := 76) hx hb dX7_feed_71 (by decide) ?_
  refine lv_istore (lv' := [(7, .int a4), (6, .int 15), (0, .ref m_), (1, .int a1), (2, .int a2), (3, .int a3), (4, .int a4), (5, .int a5)]) hx hb dX7_feed_76 hl (by decide) rfl (fun ls hl => ?_)
  refine lv_aload_n hx hb dX7_feed_78 rfl (lv_at hl 2 rfl) ?_
  refine t_getr C w hT hm_m_ ht_m_ (by decide) rfl cin_7 10 (by decide) rfl gw_1166 dX7_feed_79 (fun q138 hm_q138 ht_q138 => ?_)
  refine lv_aload_n hx hb dX7_feed_82 rfl (lv_at hl 2 rfl) ?_
  refine t_geti C w hT hm_m_ ht_m_ (by decide) rfl cin_7 1 (by decide) rfl rfl gw_1157 dX7_feed_83 (fun x139 hg => ?_)
  obtain rfl : x139 = 15 := gof_at rfl hg
  refine lv_iload hx hb dX7_feed_86 (lv_at hl 0 rfl) ?_
  refine lv_bipush (v := 24) hx hb dX7_feed_88 (by decide) ?_
  refine lv_bipush (v := 8) hx hb dX7_feed_90 (by decide) ?_
  refine lv_iload hx hb dX7_feed_92 (lv_at hl 1 rfl) ?_
  refine lv_iconst (v := 4) hx hb dX7_feed_94 (by decide) ?_
  refine lv_irem hx hb dX7_feed_95 (by decide) ?_
  refine lv_topi (fun y140 ey140 => ?_)
  obtain rfl : y140 = 3 := ey140.trans (by decide)
  refine lv_imul hx hb dX7_feed_96 ?_
  refine lv_topi (fun y141 ey141 => ?_)
  obtain rfl : y141 = 24 := ey141.trans (by decide)
  refine lv_isub hx hb dX7_feed_97 ?_
  refine lv_topi (fun y142 ey142 => ?_)
  obtain rfl : y142 = 0 := ey142.trans (by decide)
  refine lv_ishr hx hb dX7_feed_98 ?_
  refine lv_topi (fun y143 ey143 => ?_)
  refine lv_sipush (v := 255) hx hb dX7_feed_99 (by decide) ?_
  refine lv_iand hx hb dX7_feed_102 ?_
  refine lv_topi (fun y144 ey144 => ?_)
  refine t_iast C w hT hm_q138 ht_q138 (by decide) (by decide) rfl (vp_in_iff.mpr ⟨by decide, by decide⟩) (gof_no rfl) dX7_feed_103 (fun f H locs w hT hR1 => ?_)
  have hR := hR.tr hR1
  refine lv_aload_n hx hb dX7_feed_104 rfl (lv_at hl 2 rfl) ?_
  refine lv_dup hx hb dX7_feed_105 rfl ?_
  refine t_geti C w hT hm_m_ ht_m_ (by decide) rfl cin_7 1 (by decide) rfl rfl gw_1157 dX7_feed_106 (fun x145 hg => ?_)
  obtain rfl : x145 = 15 := gof_at rfl hg
  refine lv_iconst (v := 1) hx hb dX7_feed_109 (by decide) ?_
  refine lv_iadd hx hb dX7_feed_110 ?_
  refine lv_topi (fun y146 ey146 => ?_)
  obtain rfl : y146 = 16 := ey146.trans (by decide)
  refine t_putS C w hT hm_m_ ht_m_ (fun b h1 h2 => hu_7 b m_ h1 hm_m_ h2 ht_m_) (by decide) rfl cin_7 tyX7 tyX7_ok nmX7 1 (by decide) rfl rfl rfl rfl rfl gw_1157 dX7_feed_111 (fun f H locs w hT hR1 => ?_)
  have hT := hT.mono gof_set
  have hR := hR.tr hR1
  refine lv_iinc (v := 16) (lv' := [(6, .int 16), (7, .int a4), (0, .ref m_), (1, .int a1), (2, .int a2), (3, .int a3), (4, .int a4), (5, .int a5)]) hx hb dX7_feed_114 hl (k := 1) rfl (by decide) (by decide) rfl (fun ls hl => ?_)
  refine lv_goto (tgt := 23) hx hb dX7_feed_117 (by decide) ?_
  refine lv_iload hx hb dX7_feed_23 (lv_at hl 0 rfl) ?_
  refine lv_bipush (v := 20) hx hb dX7_feed_25 (by decide) ?_
  refine lv_icmp_ge (tgt := 120) hx hb dX7_feed_27 (by decide) (fun c0 => absurd c0 (by decide)) (fun _ => ?_)
  refine lv_iload hx hb dX7_feed_30 (lv_at hl 0 rfl) ?_
  refine lv_iconst (v := 4) hx hb dX7_feed_32 (by decide) ?_
  refine lv_icmp_ge (tgt := 40) hx hb dX7_feed_33 (by decide) (fun _ => ?_) (fun c0 => absurd c0 (by decide))
  refine lv_iload hx hb dX7_feed_40 (lv_at hl 0 rfl) ?_
  refine lv_bipush (v := 8) hx hb dX7_feed_42 (by decide) ?_
  refine lv_icmp_ge (tgt := 51) hx hb dX7_feed_44 (by decide) (fun _ => ?_) (fun c0 => absurd c0 (by decide))
  refine lv_iload hx hb dX7_feed_51 (lv_at hl 0 rfl) ?_
  refine lv_bipush (v := 12) hx hb dX7_feed_53 (by decide) ?_
  refine lv_icmp_ge (tgt := 62) hx hb dX7_feed_55 (by decide) (fun _ => ?_) (fun c0 => absurd c0 (by decide))
  refine lv_iload hx hb dX7_feed_62 (lv_at hl 0 rfl) ?_
  refine lv_bipush (v := 16) hx hb dX7_feed_64 (by decide) ?_
  refine lv_icmp_ge (tgt := 74) hx hb dX7_feed_66 (by decide) (fun _ => ?_) (fun c0 => absurd c0 (by decide))
  refine lv_iload hx hb dX7_feed_74 (lv_at hl 7 rfl) ?_
  refine lv_istore (lv' := [(7, .int a5), (6, .int 16), (0, .ref m_), (1, .int a1), (2, .int a2), (3, .int a3), (4, .int a4), (5, .int a5)]) hx hb dX7_feed_76 hl (by decide) rfl (fun ls hl => ?_)
  refine lv_aload_n hx hb dX7_feed_78 rfl (lv_at hl 2 rfl) ?_
  refine t_getr C w hT hm_m_ ht_m_ (by decide) rfl cin_7 10 (by decide) rfl gw_1166 dX7_feed_79 (fun q147 hm_q147 ht_q147 => ?_)
  refine lv_aload_n hx hb dX7_feed_82 rfl (lv_at hl 2 rfl) ?_
  refine t_geti C w hT hm_m_ ht_m_ (by decide) rfl cin_7 1 (by decide) rfl rfl gw_1157 dX7_feed_83 (fun x148 hg => ?_)
  obtain rfl : x148 = 16 := gof_at rfl hg
  refine lv_iload hx hb dX7_feed_86 (lv_at hl 0 rfl) ?_
  refine lv_bipush (v := 24) hx hb dX7_feed_88 (by decide) ?_
  refine lv_bipush (v := 8) hx hb dX7_feed_90 (by decide) ?_
  refine lv_iload hx hb dX7_feed_92 (lv_at hl 1 rfl) ?_
  refine lv_iconst (v := 4) hx hb dX7_feed_94 (by decide) ?_
  refine lv_irem hx hb dX7_feed_95 (by decide) ?_
  refine lv_topi (fun y149 ey149 => ?_)
  obtain rfl : y149 = 0 := ey149.trans (by decide)
  refine lv_imul hx hb dX7_feed_96 ?_
  refine lv_topi (fun y150 ey150 => ?_)
  obtain rfl : y150 = 0 := ey150.trans (by decide)
  refine lv_isub hx hb dX7_feed_97 ?_
  refine lv_topi (fun y151 ey151 => ?_)
  obtain rfl : y151 = 24 := ey151.trans (by decide)
  refine lv_ishr hx hb dX7_feed_98 ?_
  refine lv_topi (fun y152 ey152 => ?_)
  refine lv_sipush (v := 255) hx hb dX7_feed_99 (by decide) ?_
  refine lv_iand hx hb dX7_feed_102 ?_
  refine lv_topi (fun y153 ey153 => ?_)
  refine t_iast C w hT hm_q147 ht_q147 (by decide) (by decide) rfl (vp_in_iff.mpr ⟨by decide, by decide⟩) (gof_no rfl) dX7_feed_103 (fun f H locs w hT hR1 => ?_)
  have hR := hR.tr hR1
  refine lv_aload_n hx hb dX7_feed_104 rfl (lv_at hl 2 rfl) ?_
  refine lv_dup hx hb dX7_feed_105 rfl ?_
  refine t_geti C w hT hm_m_ ht_m_ (by decide) rfl cin_7 1 (by decide) rfl rfl gw_1157 dX7_feed_106 (fun x154 hg => ?_)
  obtain rfl : x154 = 16 := gof_at rfl hg
  refine lv_iconst (v := 1) hx hb dX7_feed_109 (by decide) ?_
  refine lv_iadd hx hb dX7_feed_110 ?_
  refine lv_topi (fun y155 ey155 => ?_)
  obtain rfl : y155 = 17 := ey155.trans (by decide)
  refine t_putS C w hT hm_m_ ht_m_ (fun b h1 h2 => hu_7 b m_ h1 hm_m_ h2 ht_m_) (by decide) rfl cin_7 tyX7 tyX7_ok nmX7 1 (by decide) rfl rfl rfl rfl rfl gw_1157 dX7_feed_111 (fun f H locs w hT hR1 => ?_)
  have hT := hT.mono gof_set
  have hR := hR.tr hR1
  refine lv_iinc (v := 17) (lv' := [(6, .int 17), (7, .int a5), (0, .ref m_), (1, .int a1), (2, .int a2), (3, .int a3), (4, .int a4), (5, .int a5)]) hx hb dX7_feed_114 hl (k := 1) rfl (by decide) (by decide) rfl (fun ls hl => ?_)
  refine lv_goto (tgt := 23) hx hb dX7_feed_117 (by decide) ?_
  refine lv_iload hx hb dX7_feed_23 (lv_at hl 0 rfl) ?_
  refine lv_bipush (v := 20) hx hb dX7_feed_25 (by decide) ?_
  refine lv_icmp_ge (tgt := 120) hx hb dX7_feed_27 (by decide) (fun c0 => absurd c0 (by decide)) (fun _ => ?_)
  refine lv_iload hx hb dX7_feed_30 (lv_at hl 0 rfl) ?_
  refine lv_iconst (v := 4) hx hb dX7_feed_32 (by decide) ?_
  refine lv_icmp_ge (tgt := 40) hx hb dX7_feed_33 (by decide) (fun _ => ?_) (fun c0 => absurd c0 (by decide))
  refine lv_iload hx hb dX7_feed_40 (lv_at hl 0 rfl) ?_
  refine lv_bipush (v := 8) hx hb dX7_feed_42 (by decide) ?_
  refine lv_icmp_ge (tgt := 51) hx hb dX7_feed_44 (by decide) (fun _ => ?_) (fun c0 => absurd c0 (by decide))
  refine lv_iload hx hb dX7_feed_51 (lv_at hl 0 rfl) ?_
  refine lv_bipush (v := 12) hx hb dX7_feed_53 (by decide) ?_
  refine lv_icmp_ge (tgt := 62) hx hb dX7_feed_55 (by decide) (fun _ => ?_) (fun c0 => absurd c0 (by decide))
  refine lv_iload hx hb dX7_feed_62 (lv_at hl 0 rfl) ?_
  refine lv_bipush (v := 16) hx hb dX7_feed_64 (by decide) ?_
  refine lv_icmp_ge (tgt := 74) hx hb dX7_feed_66 (by decide) (fun _ => ?_) (fun c0 => absurd c0 (by decide))
  refine lv_iload hx hb dX7_feed_74 (lv_at hl 7 rfl) ?_
  refine lv_istore (lv' := [(7, .int a5), (6, .int 17), (0, .ref m_), (1, .int a1), (2, .int a2), (3, .int a3), (4, .int a4), (5, .int a5)]) hx hb dX7_feed_76 hl (by decide) rfl (fun ls hl => ?_)
  refine lv_aload_n hx hb dX7_feed_78 rfl (lv_at hl 2 rfl) ?_
  refine t_getr C w hT hm_m_ ht_m_ (by decide) rfl cin_7 10 (by decide) rfl gw_1166 dX7_feed_79 (fun q156 hm_q156 ht_q156 => ?_)
  refine lv_aload_n hx hb dX7_feed_82 rfl (lv_at hl 2 rfl) ?_
  refine t_geti C w hT hm_m_ ht_m_ (by decide) rfl cin_7 1 (by decide) rfl rfl gw_1157 dX7_feed_83 (fun x157 hg => ?_)
  obtain rfl : x157 = 17 := gof_at rfl hg
  refine lv_iload hx hb dX7_feed_86 (lv_at hl 0 rfl) ?_
  refine lv_bipush (v := 24) hx hb dX7_feed_88 (by decide) ?_
  refine lv_bipush (v := 8) hx hb dX7_feed_90 (by decide) ?_
  refine lv_iload hx hb dX7_feed_92 (lv_at hl 1 rfl) ?_
  refine lv_iconst (v := 4) hx hb dX7_feed_94 (by decide) ?_
  refine lv_irem hx hb dX7_feed_95 (by decide) ?_
  refine lv_topi (fun y158 ey158 => ?_)
  obtain rfl : y158 = 1 := ey158.trans (by decide)
  refine lv_imul hx hb dX7_feed_96 ?_
  refine lv_topi (fun y159 ey159 => ?_)
  obtain rfl : y159 = 8 := ey159.trans (by decide)
  refine lv_isub hx hb dX7_feed_97 ?_
  refine lv_topi (fun y160 ey160 => ?_)
  obtain rfl : y160 = 16 := ey160.trans (by decide)
  refine lv_ishr hx hb dX7_feed_98 ?_
  refine lv_topi (fun y161 ey161 => ?_)
  refine lv_sipush (v := 255) hx hb dX7_feed_99 (by decide) ?_
  refine lv_iand hx hb dX7_feed_102 ?_
  refine lv_topi (fun y162 ey162 => ?_)
  refine t_iast C w hT hm_q156 ht_q156 (by decide) (by decide) rfl (vp_in_iff.mpr ⟨by decide, by decide⟩) (gof_no rfl) dX7_feed_103 (fun f H locs w hT hR1 => ?_)
  have hR := hR.tr hR1
  refine lv_aload_n hx hb dX7_feed_104 rfl (lv_at hl 2 rfl) ?_
  refine lv_dup hx hb dX7_feed_105 rfl ?_
  refine t_geti C w hT hm_m_ ht_m_ (by decide) rfl cin_7 1 (by decide) rfl rfl gw_1157 dX7_feed_106 (fun x163 hg => ?_)
  obtain rfl : x163 = 17 := gof_at rfl hg
  refine lv_iconst (v := 1) hx hb dX7_feed_109 (by decide) ?_
  refine lv_iadd hx hb dX7_feed_110 ?_
  refine lv_topi (fun y164 ey164 => ?_)
  obtain rfl : y164 = 18 := ey164.trans (by decide)
  refine t_putS C w hT hm_m_ ht_m_ (fun b h1 h2 => hu_7 b m_ h1 hm_m_ h2 ht_m_) (by decide) rfl cin_7 tyX7 tyX7_ok nmX7 1 (by decide) rfl rfl rfl rfl rfl gw_1157 dX7_feed_111 (fun f H locs w hT hR1 => ?_)
  have hT := hT.mono gof_set
  have hR := hR.tr hR1
  refine lv_iinc (v := 18) (lv' := [(6, .int 18), (7, .int a5), (0, .ref m_), (1, .int a1), (2, .int a2), (3, .int a3), (4, .int a4), (5, .int a5)]) hx hb dX7_feed_114 hl (k := 1) rfl (by decide) (by decide) rfl (fun ls hl => ?_)
  refine lv_goto (tgt := 23) hx hb dX7_feed_117 (by decide) ?_
  refine lv_iload hx hb dX7_feed_23 (lv_at hl 0 rfl) ?_
  refine lv_bipush (v := 20) hx hb dX7_feed_25 (by decide) ?_
  refine lv_icmp_ge (tgt := 120) hx hb dX7_feed_27 (by decide) (fun c0 => absurd c0 (by decide)) (fun _ => ?_)
  refine lv_iload hx hb dX7_feed_30 (lv_at hl 0 rfl) ?_
  refine lv_iconst (v := 4) hx hb dX7_feed_32 (by decide) ?_
  refine lv_icmp_ge (tgt := 40) hx hb dX7_feed_33 (by decide) (fun _ => ?_) (fun c0 => absurd c0 (by decide))
  refine lv_iload hx hb dX7_feed_40 (lv_at hl 0 rfl) ?_
  refine lv_bipush (v := 8) hx hb dX7_feed_42 (by decide) ?_
  refine lv_icmp_ge (tgt := 51) hx hb dX7_feed_44 (by decide) (fun _ => ?_) (fun c0 => absurd c0 (by decide))
  refine lv_iload hx hb dX7_feed_51 (lv_at hl 0 rfl) ?_
  refine lv_bipush (v := 12) hx hb dX7_feed_53 (by decide) ?_
  refine lv_icmp_ge (tgt := 62) hx hb dX7_feed_55 (by decide) (fun _ => ?_) (fun c0 => absurd c0 (by decide))
  refine lv_iload hx hb dX7_feed_62 (lv_at hl 0 rfl) ?_
  refine lv_bipush (v := 16) hx hb dX7_feed_64 (by decide) ?_
  refine lv_icmp_ge (tgt := 74) hx hb dX7_feed_66 (by decide) (fun _ => ?_) (fun c0 => absurd c0 (by decide))
  refine lv_iload hx hb dX7_feed_74 (lv_at hl 7 rfl) ?_
  refine lv_istore (lv' := [(7, .int a5), (6, .int 18), (0, .ref m_), (1, .int a1), (2, .int a2), (3, .int a3), (4, .int a4), (5, .int a5)]) hx hb dX7_feed_76 hl (by decide) rfl (fun ls hl => ?_)
  refine lv_aload_n hx hb dX7_feed_78 rfl (lv_at hl 2 rfl) ?_
  refine t_getr C w hT hm_m_ ht_m_ (by decide) rfl cin_7 10 (by decide) rfl gw_1166 dX7_feed_79 (fun q165 hm_q165 ht_q165 => ?_)
  refine lv_aload_n hx hb dX7_feed_82 rfl (lv_at hl 2 rfl) ?_
  refine t_geti C w hT hm_m_ ht_m_ (by decide) rfl cin_7 1 (by decide) rfl rfl gw_1157 dX7_feed_83 (fun x166 hg => ?_)
  obtain rfl : x166 = 18 := gof_at rfl hg
  refine lv_iload hx hb dX7_feed_86 (lv_at hl 0 rfl) ?_
  refine lv_bipush (v := 24) hx hb dX7_feed_88 (by decide) ?_
  refine lv_bipush (v := 8) hx hb dX7_feed_90 (by decide) ?_
  refine lv_iload hx hb dX7_feed_92 (lv_at hl 1 rfl) ?_
  refine lv_iconst (v := 4) hx hb dX7_feed_94 (by decide) ?_
  refine lv_irem hx hb dX7_feed_95 (by decide) ?_
  refine lv_topi (fun y167 ey167 => ?_)
  obtain rfl : y167 = 2 := ey167.trans (by decide)
  refine lv_imul hx hb dX7_feed_96 ?_
  refine lv_topi (fun y168 ey168 => ?_)
  obtain rfl : y168 = 16 := ey168.trans (by decide)
  refine lv_isub hx hb dX7_feed_97 ?_
  refine lv_topi (fun y169 ey169 => ?_)
  obtain rfl : y169 = 8 := ey169.trans (by decide)
  refine lv_ishr hx hb dX7_feed_98 ?_
  refine lv_topi (fun y170 ey170 => ?_)
  refine lv_sipush (v := 255) hx hb dX7_feed_99 (by decide) ?_
  refine lv_iand hx hb dX7_feed_102 ?_
  refine lv_topi (fun y171 ey171 => ?_)
  refine t_iast C w hT hm_q165 ht_q165 (by decide) (by decide) rfl (vp_in_iff.mpr ⟨by decide, by decide⟩) (gof_no rfl) dX7_feed_103 (fun f H locs w hT hR1 => ?_)
  have hR := hR.tr hR1
  refine lv_aload_n hx hb dX7_feed_104 rfl (lv_at hl 2 rfl) ?_
  refine lv_dup hx hb dX7_feed_105 rfl ?_
  refine t_geti C w hT hm_m_ ht_m_ (by decide) rfl cin_7 1 (by decide) rfl rfl gw_1157 dX7_feed_106 (fun x172 hg => ?_)
  obtain rfl : x172 = 18 := gof_at rfl hg
  refine lv_iconst (v := 1) hx hb dX7_feed_109 (by decide) ?_
  refine lv_iadd hx hb dX7_feed_110 ?_
  refine lv_topi (fun y173 ey173 => ?_)
  obtain rfl : y173 = 19 := ey173.trans (by decide)
  refine t_putS C w hT hm_m_ ht_m_ (fun b h1 h2 => hu_7 b m_ h1 hm_m_ h2 ht_m_) (by decide) rfl cin_7 tyX7 tyX7_ok nmX7 1 (by decide) rfl rfl rfl rfl rfl gw_1157 dX7_feed_111 (fun f H locs w hT hR1 => ?_)
  have hT := hT.mono gof_set
  have hR := hR.tr hR1
  refine lv_iinc (v := 19) (lv' := [(6, .int 19), (7, .int a5), (0, .ref m_), (1, .int a1), (2, .int a2), (3, .int a3), (4, .int a4), (5, .int a5)]) hx hb dX7_feed_114 hl (k := 1) rfl (by decide) (by decide) rfl (fun ls hl => ?_)
  refine lv_goto (tgt := 23) hx hb dX7_feed_117 (by decide) ?_
  refine lv_iload hx hb dX7_feed_23 (lv_at hl 0 rfl) ?_
  refine lv_bipush (v := 20) hx hb dX7_feed_25 (by decide) ?_
  refine lv_icmp_ge (tgt := 120) hx hb dX7_feed_27 (by decide) (fun c0 => absurd c0 (by decide)) (fun _ => ?_)
  refine lv_iload hx hb dX7_feed_30 (lv_at hl 0 rfl) ?_
  refine lv_iconst (v := 4) hx hb dX7_feed_32 (by decide) ?_
  refine lv_icmp_ge (tgt := 40) hx hb dX7_feed_33 (by decide) (fun _ => ?_) (fun c0 => absurd c0 (by decide))
  refine lv_iload hx hb dX7_feed_40 (lv_at hl 0 rfl) ?_
  refine lv_bipush (v := 8) hx hb dX7_feed_42 (by decide) ?_
  refine lv_icmp_ge (tgt := 51) hx hb dX7_feed_44 (by decide) (fun _ => ?_) (fun c0 => absurd c0 (by decide))
  refine lv_iload hx hb dX7_feed_51 (lv_at hl 0 rfl) ?_
  refine lv_bipush (v := 12) hx hb dX7_feed_53 (by decide) ?_
  refine lv_icmp_ge (tgt := 62) hx hb dX7_feed_55 (by decide) (fun _ => ?_) (fun c0 => absurd c0 (by decide))
  refine lv_iload hx hb dX7_feed_62 (lv_at hl 0 rfl) ?_
  refine lv_bipush (v := 16) hx hb dX7_feed_64 (by decide) ?_
  refine lv_icmp_ge (tgt := 74) hx hb dX7_feed_66 (by decide) (fun _ => ?_) (fun c0 => absurd c0 (by decide))
  refine lv_iload hx hb dX7_feed_74 (lv_at hl 7 rfl) ?_
  refine lv_istore (lv' := [(7, .int a5), (6, .int 19), (0, .ref m_), (1, .int a1), (2, .int a2), (3, .int a3), (4, .int a4), (5, .int a5)]) hx hb dX7_feed_76 hl (by decide) rfl (fun ls hl => ?_)
  refine lv_aload_n hx hb dX7_feed_78 rfl (lv_at hl 2 rfl) ?_
  refine t_getr C w hT hm_m_ ht_m_ (by decide) rfl cin_7 10 (by decide) rfl gw_1166 dX7_feed_79 (fun q174 hm_q174 ht_q174 => ?_)
  refine lv_aload_n hx hb dX7_feed_82 rfl (lv_at hl 2 rfl) ?_
  refine t_geti C w hT hm_m_ ht_m_ (by decide) rfl cin_7 1 (by decide) rfl rfl gw_1157 dX7_feed_83 (fun x175 hg => ?_)
  obtain rfl : x175 = 19 := gof_at rfl hg
  refine lv_iload hx hb dX7_feed_86 (lv_at hl 0 rfl) ?_
  refine lv_bipush (v := 24) hx hb dX7_feed_88 (by decide) ?_
  refine lv_bipush (v := 8) hx hb dX7_feed_90 (by decide) ?_
  refine lv_iload hx hb dX7_feed_92 (lv_at hl 1 rfl) ?_
  refine lv_iconst (v := 4) hx hb dX7_feed_94 (by decide) ?_
  refine lv_irem hx hb dX7_feed_95 (by decide) ?_
  refine lv_topi (fun y176 ey176 => ?_)
  obtain rfl : y176 = 3 := ey176.trans (by decide)
  refine lv_imul hx hb dX7_feed_96 ?_
  refine lv_topi (fun y177 ey177 => ?_)
  obtain rfl : y177 = 24 := ey177.trans (by decide)
  refine lv_isub hx hb dX7_feed_97 ?_
  refine lv_topi (fun y178 ey178 => ?_)
  obtain rfl : y178 = 0 := ey178.trans (by decide)
  refine lv_ishr hx hb dX7_feed_98 ?_
  refine lv_topi (fun y179 ey179 => ?_)
  refine lv_sipush (v := 255) hx hb dX7_feed_99 (by decide) ?_
  refine lv_iand hx hb dX7_feed_102 ?_
  refine lv_topi (fun y180 ey180 => ?_)
  refine t_iast C w hT hm_q174 ht_q174 (by decide) (by decide) rfl (vp_in_iff.mpr ⟨by decide, by decide⟩) (gof_no rfl) dX7_feed_103 (fun f H locs w hT hR1 => ?_)
  have hR := hR.tr hR1
  refine lv_aload_n hx hb dX7_feed_104 rfl (lv_at hl 2 rfl) ?_
  refine lv_dup hx hb dX7_feed_105 rfl ?_
  refine t_geti C w hT hm_m_ ht_m_ (by decide) rfl cin_7 1 (by decide) rfl rfl gw_1157 dX7_feed_106 (fun x181 hg => ?_)
  obtain rfl : x181 = 19 := gof_at rfl hg
  refine lv_iconst (v := 1) hx hb dX7_feed_109 (by decide) ?_
  refine lv_iadd hx hb dX7_feed_110 ?_
  refine lv_topi (fun y182 ey182 => ?_)
  obtain rfl : y182 = 20 := ey182.trans (by decide)
  refine t_putS C w hT hm_m_ ht_m_ (fun b h1 h2 => hu_7 b m_ h1 hm_m_ h2 ht_m_) (by decide) rfl cin_7 tyX7 tyX7_ok nmX7 1 (by decide) rfl rfl rfl rfl rfl gw_1157 dX7_feed_111 (fun f H locs w hT hR1 => ?_)
  have hT := hT.mono gof_set
  have hR := hR.tr hR1
  refine lv_iinc (v := 20) (lv' := [(6, .int 20), (7, .int a5), (0, .ref m_), (1, .int a1), (2, .int a2), (3, .int a3), (4, .int a4), (5, .int a5)]) hx hb dX7_feed_114 hl (k := 1) rfl (by decide) (by decide) rfl (fun ls hl => ?_)
  refine lv_goto (tgt := 23) hx hb dX7_feed_117 (by decide) ?_
  refine lv_iload hx hb dX7_feed_23 (lv_at hl 0 rfl) ?_
  refine lv_bipush (v := 20) hx hb dX7_feed_25 (by decide) ?_
  refine lv_icmp_ge (tgt := 120) hx hb dX7_feed_27 (by decide) (fun _ => ?_) (fun c0 => absurd c0 (by decide))
  refine lv_aload_n hx hb dX7_feed_120 rfl (lv_at hl 2 rfl) ?_
  refine t_geti C w hT hm_m_ ht_m_ (by decide) rfl cin_7 1 (by decide) rfl rfl gw_1157 dX7_feed_121 (fun x183 hg => ?_)
  obtain rfl : x183 = 20 := gof_at rfl hg
  have n20 : (20 : Int32).toInt = 20 := by decide
  exact t_iret C hr hlk w ⟨_, 0, _, rfl, rfl, hT.mono (gof_sub rfl), hR, ⟨rfl, rfl⟩⟩ (by decide) (by decide) dX7_feed_124
