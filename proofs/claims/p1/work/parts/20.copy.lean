theorem dX2_copyFrom_0 : decode cX2_copyFrom 0 = .ok (.aload_n 0, 1) := by decide +kernel
theorem dX2_copyFrom_1 : decode cX2_copyFrom 1 = .ok (.aload_n 1, 1) := by decide +kernel
theorem dX2_copyFrom_2 : decode cX2_copyFrom 2 = .ok (.getfield 9, 3) := by decide +kernel
theorem dX2_copyFrom_5 : decode cX2_copyFrom 5 = .ok (.putfield 9, 3) := by decide +kernel
theorem dX2_copyFrom_8 : decode cX2_copyFrom 8 = .ok (.aload_n 1, 1) := by decide +kernel
theorem dX2_copyFrom_9 : decode cX2_copyFrom 9 = .ok (.getfield 15, 3) := by decide +kernel
theorem dX2_copyFrom_12 : decode cX2_copyFrom 12 = .ok (.iconst 0, 1) := by decide +kernel
theorem dX2_copyFrom_13 : decode cX2_copyFrom 13 = .ok (.aload_n 0, 1) := by decide +kernel
theorem dX2_copyFrom_14 : decode cX2_copyFrom 14 = .ok (.getfield 15, 3) := by decide +kernel
theorem dX2_copyFrom_17 : decode cX2_copyFrom 17 = .ok (.iconst 0, 1) := by decide +kernel
theorem dX2_copyFrom_18 : decode cX2_copyFrom 18 = .ok (.bipush 24, 2) := by decide +kernel
theorem dX2_copyFrom_20 : decode cX2_copyFrom 20 = .ok (.invokestatic 73, 3) := by decide +kernel
theorem dX2_copyFrom_23 : decode cX2_copyFrom 23 = .ok (.aload_n 1, 1) := by decide +kernel
theorem dX2_copyFrom_24 : decode cX2_copyFrom 24 = .ok (.getfield 19, 3) := by decide +kernel
theorem dX2_copyFrom_27 : decode cX2_copyFrom 27 = .ok (.iconst 0, 1) := by decide +kernel
theorem dX2_copyFrom_28 : decode cX2_copyFrom 28 = .ok (.aload_n 0, 1) := by decide +kernel
theorem dX2_copyFrom_29 : decode cX2_copyFrom 29 = .ok (.getfield 19, 3) := by decide +kernel
theorem dX2_copyFrom_32 : decode cX2_copyFrom 32 = .ok (.iconst 0, 1) := by decide +kernel
theorem dX2_copyFrom_33 : decode cX2_copyFrom 33 = .ok (.bipush 24, 2) := by decide +kernel
theorem dX2_copyFrom_35 : decode cX2_copyFrom 35 = .ok (.invokestatic 73, 3) := by decide +kernel
theorem dX2_copyFrom_38 : decode cX2_copyFrom 38 = .ok (.aload_n 1, 1) := by decide +kernel
theorem dX2_copyFrom_39 : decode cX2_copyFrom 39 = .ok (.getfield 22, 3) := by decide +kernel
theorem dX2_copyFrom_42 : decode cX2_copyFrom 42 = .ok (.iconst 0, 1) := by decide +kernel
theorem dX2_copyFrom_43 : decode cX2_copyFrom 43 = .ok (.aload_n 0, 1) := by decide +kernel
theorem dX2_copyFrom_44 : decode cX2_copyFrom 44 = .ok (.getfield 22, 3) := by decide +kernel
theorem dX2_copyFrom_47 : decode cX2_copyFrom 47 = .ok (.iconst 0, 1) := by decide +kernel
theorem dX2_copyFrom_48 : decode cX2_copyFrom 48 = .ok (.bipush 24, 2) := by decide +kernel
theorem dX2_copyFrom_50 : decode cX2_copyFrom 50 = .ok (.invokestatic 73, 3) := by decide +kernel
theorem dX2_copyFrom_53 : decode cX2_copyFrom 53 = .ok (.aload_n 1, 1) := by decide +kernel
theorem dX2_copyFrom_54 : decode cX2_copyFrom 54 = .ok (.getfield 25, 3) := by decide +kernel
theorem dX2_copyFrom_57 : decode cX2_copyFrom 57 = .ok (.iconst 0, 1) := by decide +kernel
theorem dX2_copyFrom_58 : decode cX2_copyFrom 58 = .ok (.aload_n 0, 1) := by decide +kernel
theorem dX2_copyFrom_59 : decode cX2_copyFrom 59 = .ok (.getfield 25, 3) := by decide +kernel
theorem dX2_copyFrom_62 : decode cX2_copyFrom 62 = .ok (.iconst 0, 1) := by decide +kernel
theorem dX2_copyFrom_63 : decode cX2_copyFrom 63 = .ok (.bipush 24, 2) := by decide +kernel
theorem dX2_copyFrom_65 : decode cX2_copyFrom 65 = .ok (.invokestatic 73, 3) := by decide +kernel
theorem dX2_copyFrom_68 : decode cX2_copyFrom 68 = .ok (.aload_n 1, 1) := by decide +kernel
theorem dX2_copyFrom_69 : decode cX2_copyFrom 69 = .ok (.getfield 28, 3) := by decide +kernel
theorem dX2_copyFrom_72 : decode cX2_copyFrom 72 = .ok (.iconst 0, 1) := by decide +kernel
theorem dX2_copyFrom_73 : decode cX2_copyFrom 73 = .ok (.aload_n 0, 1) := by decide +kernel
theorem dX2_copyFrom_74 : decode cX2_copyFrom 74 = .ok (.getfield 28, 3) := by decide +kernel
theorem dX2_copyFrom_77 : decode cX2_copyFrom 77 = .ok (.iconst 0, 1) := by decide +kernel
theorem dX2_copyFrom_78 : decode cX2_copyFrom 78 = .ok (.bipush 24, 2) := by decide +kernel
theorem dX2_copyFrom_80 : decode cX2_copyFrom 80 = .ok (.invokestatic 73, 3) := by decide +kernel
theorem dX2_copyFrom_83 : decode cX2_copyFrom 83 = .ok (.aload_n 1, 1) := by decide +kernel
theorem dX2_copyFrom_84 : decode cX2_copyFrom 84 = .ok (.getfield 31, 3) := by decide +kernel
theorem dX2_copyFrom_87 : decode cX2_copyFrom 87 = .ok (.iconst 0, 1) := by decide +kernel
theorem dX2_copyFrom_88 : decode cX2_copyFrom 88 = .ok (.aload_n 0, 1) := by decide +kernel
theorem dX2_copyFrom_89 : decode cX2_copyFrom 89 = .ok (.getfield 31, 3) := by decide +kernel
theorem dX2_copyFrom_92 : decode cX2_copyFrom 92 = .ok (.iconst 0, 1) := by decide +kernel
theorem dX2_copyFrom_93 : decode cX2_copyFrom 93 = .ok (.bipush 24, 2) := by decide +kernel
theorem dX2_copyFrom_95 : decode cX2_copyFrom 95 = .ok (.invokestatic 73, 3) := by decide +kernel
theorem dX2_copyFrom_98 : decode cX2_copyFrom 98 = .ok (.aload_n 1, 1) := by decide +kernel
theorem dX2_copyFrom_99 : decode cX2_copyFrom 99 = .ok (.getfield 34, 3) := by decide +kernel
theorem dX2_copyFrom_102 : decode cX2_copyFrom 102 = .ok (.iconst 0, 1) := by decide +kernel
theorem dX2_copyFrom_103 : decode cX2_copyFrom 103 = .ok (.aload_n 0, 1) := by decide +kernel
theorem dX2_copyFrom_104 : decode cX2_copyFrom 104 = .ok (.getfield 34, 3) := by decide +kernel
theorem dX2_copyFrom_107 : decode cX2_copyFrom 107 = .ok (.iconst 0, 1) := by decide +kernel
theorem dX2_copyFrom_108 : decode cX2_copyFrom 108 = .ok (.bipush 24, 2) := by decide +kernel
theorem dX2_copyFrom_110 : decode cX2_copyFrom 110 = .ok (.invokestatic 73, 3) := by decide +kernel
theorem dX2_copyFrom_113 : decode cX2_copyFrom 113 = .ok (.aload_n 1, 1) := by decide +kernel
theorem dX2_copyFrom_114 : decode cX2_copyFrom 114 = .ok (.getfield 37, 3) := by decide +kernel
theorem dX2_copyFrom_117 : decode cX2_copyFrom 117 = .ok (.iconst 0, 1) := by decide +kernel
theorem dX2_copyFrom_118 : decode cX2_copyFrom 118 = .ok (.aload_n 0, 1) := by decide +kernel
theorem dX2_copyFrom_119 : decode cX2_copyFrom 119 = .ok (.getfield 37, 3) := by decide +kernel
theorem dX2_copyFrom_122 : decode cX2_copyFrom 122 = .ok (.iconst 0, 1) := by decide +kernel
theorem dX2_copyFrom_123 : decode cX2_copyFrom 123 = .ok (.bipush 64, 2) := by decide +kernel
theorem dX2_copyFrom_125 : decode cX2_copyFrom 125 = .ok (.invokestatic 73, 3) := by decide +kernel
theorem dX2_copyFrom_128 : decode cX2_copyFrom 128 = .ok (.return_, 1) := by decide +kernel
theorem dX0_copyFrom_0 : decode cX0_copyFrom 0 = .ok (.aload_n 0, 1) := by decide +kernel
theorem dX0_copyFrom_1 : decode cX0_copyFrom 1 = .ok (.getfield 12, 3) := by decide +kernel
theorem dX0_copyFrom_4 : decode cX0_copyFrom 4 = .ok (.aload_n 1, 1) := by decide +kernel
theorem dX0_copyFrom_5 : decode cX0_copyFrom 5 = .ok (.getfield 12, 3) := by decide +kernel
theorem dX0_copyFrom_8 : decode cX0_copyFrom 8 = .ok (.invokevirtual 84, 3) := by decide +kernel
theorem dX0_copyFrom_11 : decode cX0_copyFrom 11 = .ok (.aload_n 0, 1) := by decide +kernel
theorem dX0_copyFrom_12 : decode cX0_copyFrom 12 = .ok (.aload_n 1, 1) := by decide +kernel
theorem dX0_copyFrom_13 : decode cX0_copyFrom 13 = .ok (.getfield 18, 3) := by decide +kernel
theorem dX0_copyFrom_16 : decode cX0_copyFrom 16 = .ok (.putfield 18, 3) := by decide +kernel
theorem dX0_copyFrom_19 : decode cX0_copyFrom 19 = .ok (.aload_n 0, 1) := by decide +kernel
theorem dX0_copyFrom_20 : decode cX0_copyFrom 20 = .ok (.aload_n 1, 1) := by decide +kernel
theorem dX0_copyFrom_21 : decode cX0_copyFrom 21 = .ok (.getfield 22, 3) := by decide +kernel
theorem dX0_copyFrom_24 : decode cX0_copyFrom 24 = .ok (.putfield 22, 3) := by decide +kernel
theorem dX0_copyFrom_27 : decode cX0_copyFrom 27 = .ok (.aload_n 0, 1) := by decide +kernel
theorem dX0_copyFrom_28 : decode cX0_copyFrom 28 = .ok (.aload_n 1, 1) := by decide +kernel
theorem dX0_copyFrom_29 : decode cX0_copyFrom 29 = .ok (.getfield 25, 3) := by decide +kernel
theorem dX0_copyFrom_32 : decode cX0_copyFrom 32 = .ok (.putfield 25, 3) := by decide +kernel
theorem dX0_copyFrom_35 : decode cX0_copyFrom 35 = .ok (.aload_n 0, 1) := by decide +kernel
theorem dX0_copyFrom_36 : decode cX0_copyFrom 36 = .ok (.aload_n 1, 1) := by decide +kernel
theorem dX0_copyFrom_37 : decode cX0_copyFrom 37 = .ok (.getfield 28, 3) := by decide +kernel
theorem dX0_copyFrom_40 : decode cX0_copyFrom 40 = .ok (.putfield 28, 3) := by decide +kernel
theorem dX0_copyFrom_43 : decode cX0_copyFrom 43 = .ok (.aload_n 0, 1) := by decide +kernel
theorem dX0_copyFrom_44 : decode cX0_copyFrom 44 = .ok (.aload_n 1, 1) := by decide +kernel
theorem dX0_copyFrom_45 : decode cX0_copyFrom 45 = .ok (.getfield 31, 3) := by decide +kernel
theorem dX0_copyFrom_48 : decode cX0_copyFrom 48 = .ok (.putfield 31, 3) := by decide +kernel
theorem dX0_copyFrom_51 : decode cX0_copyFrom 51 = .ok (.aload_n 0, 1) := by decide +kernel
theorem dX0_copyFrom_52 : decode cX0_copyFrom 52 = .ok (.aload_n 1, 1) := by decide +kernel
theorem dX0_copyFrom_53 : decode cX0_copyFrom 53 = .ok (.getfield 34, 3) := by decide +kernel
theorem dX0_copyFrom_56 : decode cX0_copyFrom 56 = .ok (.putfield 34, 3) := by decide +kernel
theorem dX0_copyFrom_59 : decode cX0_copyFrom 59 = .ok (.aload_n 0, 1) := by decide +kernel
theorem dX0_copyFrom_60 : decode cX0_copyFrom 60 = .ok (.aload_n 1, 1) := by decide +kernel
theorem dX0_copyFrom_61 : decode cX0_copyFrom 61 = .ok (.getfield 37, 3) := by decide +kernel
theorem dX0_copyFrom_64 : decode cX0_copyFrom 64 = .ok (.putfield 37, 3) := by decide +kernel
theorem dX0_copyFrom_67 : decode cX0_copyFrom 67 = .ok (.aload_n 0, 1) := by decide +kernel
theorem dX0_copyFrom_68 : decode cX0_copyFrom 68 = .ok (.aload_n 1, 1) := by decide +kernel
theorem dX0_copyFrom_69 : decode cX0_copyFrom 69 = .ok (.getfield 40, 3) := by decide +kernel
theorem dX0_copyFrom_72 : decode cX0_copyFrom 72 = .ok (.putfield 40, 3) := by decide +kernel
theorem dX0_copyFrom_75 : decode cX0_copyFrom 75 = .ok (.aload_n 0, 1) := by decide +kernel
theorem dX0_copyFrom_76 : decode cX0_copyFrom 76 = .ok (.aload_n 1, 1) := by decide +kernel
theorem dX0_copyFrom_77 : decode cX0_copyFrom 77 = .ok (.getfield 43, 3) := by decide +kernel
theorem dX0_copyFrom_80 : decode cX0_copyFrom 80 = .ok (.putfield 43, 3) := by decide +kernel
theorem dX0_copyFrom_83 : decode cX0_copyFrom 83 = .ok (.aload_n 0, 1) := by decide +kernel
theorem dX0_copyFrom_84 : decode cX0_copyFrom 84 = .ok (.aload_n 1, 1) := by decide +kernel
theorem dX0_copyFrom_85 : decode cX0_copyFrom 85 = .ok (.getfield 46, 3) := by decide +kernel
theorem dX0_copyFrom_88 : decode cX0_copyFrom 88 = .ok (.putfield 46, 3) := by decide +kernel
theorem dX0_copyFrom_91 : decode cX0_copyFrom 91 = .ok (.aload_n 0, 1) := by decide +kernel
theorem dX0_copyFrom_92 : decode cX0_copyFrom 92 = .ok (.aload_n 1, 1) := by decide +kernel
theorem dX0_copyFrom_93 : decode cX0_copyFrom 93 = .ok (.getfield 55, 3) := by decide +kernel
theorem dX0_copyFrom_96 : decode cX0_copyFrom 96 = .ok (.putfield 55, 3) := by decide +kernel
theorem dX0_copyFrom_99 : decode cX0_copyFrom 99 = .ok (.iconst 0, 1) := by decide +kernel
theorem dX0_copyFrom_100 : decode cX0_copyFrom 100 = .ok (.istore_n 2, 1) := by decide +kernel
theorem dX0_copyFrom_101 : decode cX0_copyFrom 101 = .ok (.iload_n 2, 1) := by decide +kernel
theorem dX0_copyFrom_102 : decode cX0_copyFrom 102 = .ok (.aload_n 0, 1) := by decide +kernel
theorem dX0_copyFrom_103 : decode cX0_copyFrom 103 = .ok (.getfield 55, 3) := by decide +kernel
theorem dX0_copyFrom_106 : decode cX0_copyFrom 106 = .ok (.if_icmp .ge 28, 3) := by decide +kernel
theorem dX0_copyFrom_109 : decode cX0_copyFrom 109 = .ok (.iload_n 2, 1) := by decide +kernel
theorem dX0_copyFrom_110 : decode cX0_copyFrom 110 = .ok (.sipush 200, 3) := by decide +kernel
theorem dX0_copyFrom_113 : decode cX0_copyFrom 113 = .ok (.if_icmp .ge 21, 3) := by decide +kernel
theorem dX0_copyFrom_116 : decode cX0_copyFrom 116 = .ok (.aload_n 0, 1) := by decide +kernel
theorem dX0_copyFrom_117 : decode cX0_copyFrom 117 = .ok (.getfield 51, 3) := by decide +kernel
theorem dX0_copyFrom_120 : decode cX0_copyFrom 120 = .ok (.iload_n 2, 1) := by decide +kernel
theorem dX0_copyFrom_121 : decode cX0_copyFrom 121 = .ok (.aload_n 1, 1) := by decide +kernel
theorem dX0_copyFrom_122 : decode cX0_copyFrom 122 = .ok (.getfield 51, 3) := by decide +kernel
theorem dX0_copyFrom_125 : decode cX0_copyFrom 125 = .ok (.iload_n 2, 1) := by decide +kernel
theorem dX0_copyFrom_126 : decode cX0_copyFrom 126 = .ok (.aaload, 1) := by decide +kernel
theorem dX0_copyFrom_127 : decode cX0_copyFrom 127 = .ok (.aastore, 1) := by decide +kernel
theorem dX0_copyFrom_128 : decode cX0_copyFrom 128 = .ok (.iinc 2 1, 3) := by decide +kernel
theorem dX0_copyFrom_131 : decode cX0_copyFrom 131 = .ok (.goto (-30), 3) := by decide +kernel
theorem dX0_copyFrom_134 : decode cX0_copyFrom 134 = .ok (.return_, 1) := by decide +kernel
theorem dX0_move_0 : decode cX0_move 0 = .ok (.aload_n 0, 1) := by decide +kernel
theorem dX0_move_1 : decode cX0_move 1 = .ok (.dup, 1) := by decide +kernel
theorem dX0_move_2 : decode cX0_move 2 = .ok (.getfield 37, 3) := by decide +kernel
theorem dX0_move_5 : decode cX0_move 5 = .ok (.iconst 1, 1) := by decide +kernel
theorem dX0_move_6 : decode cX0_move 6 = .ok (.iadd, 1) := by decide +kernel
theorem dX0_move_7 : decode cX0_move 7 = .ok (.putfield 37, 3) := by decide +kernel
theorem dX0_move_10 : decode cX0_move 10 = .ok (.aload_n 0, 1) := by decide +kernel
theorem dX0_move_11 : decode cX0_move 11 = .ok (.aload_n 1, 1) := by decide +kernel
theorem dX0_move_12 : decode cX0_move 12 = .ok (.getfield 59, 3) := by decide +kernel
theorem dX0_move_15 : decode cX0_move 15 = .ok (.iconst 5, 1) := by decide +kernel
theorem dX0_move_16 : decode cX0_move 16 = .ok (.if_icmp .ne 7, 3) := by decide +kernel
theorem dX0_move_19 : decode cX0_move 19 = .ok (.iconst 0, 1) := by decide +kernel
theorem dX0_move_20 : decode cX0_move 20 = .ok (.goto 9, 3) := by decide +kernel
theorem dX0_move_23 : decode cX0_move 23 = .ok (.aload_n 0, 1) := by decide +kernel
theorem dX0_move_24 : decode cX0_move 24 = .ok (.getfield 40, 3) := by decide +kernel
theorem dX0_move_27 : decode cX0_move 27 = .ok (.iconst 1, 1) := by decide +kernel
theorem dX0_move_28 : decode cX0_move 28 = .ok (.iadd, 1) := by decide +kernel
theorem dX0_move_29 : decode cX0_move 29 = .ok (.putfield 40, 3) := by decide +kernel
theorem dX0_move_32 : decode cX0_move 32 = .ok (.aload_n 0, 1) := by decide +kernel
theorem dX0_move_33 : decode cX0_move 33 = .ok (.dup, 1) := by decide +kernel
theorem dX0_move_34 : decode cX0_move 34 = .ok (.getfield 43, 3) := by decide +kernel
theorem dX0_move_37 : decode cX0_move 37 = .ok (.aload_n 0, 1) := by decide +kernel
theorem dX0_move_38 : decode cX0_move 38 = .ok (.getfield 25, 3) := by decide +kernel
theorem dX0_move_41 : decode cX0_move 41 = .ok (.iadd, 1) := by decide +kernel
theorem dX0_move_42 : decode cX0_move 42 = .ok (.putfield 43, 3) := by decide +kernel
theorem dX0_move_45 : decode cX0_move 45 = .ok (.aload_n 1, 1) := by decide +kernel
theorem dX0_move_46 : decode cX0_move 46 = .ok (.getfield 59, 3) := by decide +kernel
theorem dX0_move_49 : decode cX0_move 49 = .ok (.iconst 5, 1) := by decide +kernel
theorem dX0_move_50 : decode cX0_move 50 = .ok (.if_icmp .eq 12, 3) := by decide +kernel
theorem dX0_move_53 : decode cX0_move 53 = .ok (.aload_n 1, 1) := by decide +kernel
theorem dX0_move_54 : decode cX0_move 54 = .ok (.getfield 59, 3) := by decide +kernel
theorem dX0_move_57 : decode cX0_move 57 = .ok (.iconst 3, 1) := by decide +kernel
theorem dX0_move_58 : decode cX0_move 58 = .ok (.if_icmp .eq 4, 3) := by decide +kernel
theorem dX0_move_61 : decode cX0_move 61 = .ok (.return_, 1) := by decide +kernel
theorem dX0_move_62 : decode cX0_move 62 = .ok (.iconst 0, 1) := by decide +kernel
theorem dX0_move_63 : decode cX0_move 63 = .ok (.istore_n 2, 1) := by decide +kernel
theorem dX0_move_64 : decode cX0_move 64 = .ok (.iload_n 2, 1) := by decide +kernel
theorem dX0_move_65 : decode cX0_move 65 = .ok (.aload_n 1, 1) := by decide +kernel
theorem dX0_move_66 : decode cX0_move 66 = .ok (.getfield 62, 3) := by decide +kernel
theorem dX0_move_69 : decode cX0_move 69 = .ok (.if_icmp .ge 22, 3) := by decide +kernel
theorem dX0_move_72 : decode cX0_move 72 = .ok (.aload_n 0, 1) := by decide +kernel
theorem dX0_move_73 : decode cX0_move 73 = .ok (.getfield 12, 3) := by decide +kernel
theorem dX0_move_76 : decode cX0_move 76 = .ok (.aload_n 1, 1) := by decide +kernel
theorem dX0_move_77 : decode cX0_move 77 = .ok (.iload_n 2, 1) := by decide +kernel
theorem dX0_move_78 : decode cX0_move 78 = .ok (.invokevirtual 65, 3) := by decide +kernel
theorem dX0_move_81 : decode cX0_move 81 = .ok (.iconst (-1), 1) := by decide +kernel
theorem dX0_move_82 : decode cX0_move 82 = .ok (.invokevirtual 69, 3) := by decide +kernel
theorem dX0_move_85 : decode cX0_move 85 = .ok (.iinc 2 1, 3) := by decide +kernel
theorem dX0_move_88 : decode cX0_move 88 = .ok (.goto (-24), 3) := by decide +kernel
theorem dX0_move_91 : decode cX0_move 91 = .ok (.aload_n 1, 1) := by decide +kernel
theorem dX0_move_92 : decode cX0_move 92 = .ok (.getfield 59, 3) := by decide +kernel
theorem dX0_move_95 : decode cX0_move 95 = .ok (.iconst 5, 1) := by decide +kernel
theorem dX0_move_96 : decode cX0_move 96 = .ok (.if_icmp .ne 21, 3) := by decide +kernel
theorem dX0_move_99 : decode cX0_move 99 = .ok (.aload_n 0, 1) := by decide +kernel
theorem dX0_move_100 : decode cX0_move 100 = .ok (.dup, 1) := by decide +kernel
theorem dX0_move_101 : decode cX0_move 101 = .ok (.getfield 46, 3) := by decide +kernel
theorem dX0_move_104 : decode cX0_move 104 = .ok (.aload_n 0, 1) := by decide +kernel
theorem dX0_move_105 : decode cX0_move 105 = .ok (.getfield 12, 3) := by decide +kernel
theorem dX0_move_108 : decode cX0_move 108 = .ok (.aload_n 1, 1) := by decide +kernel
theorem dX0_move_109 : decode cX0_move 109 = .ok (.invokevirtual 73, 3) := by decide +kernel
theorem dX0_move_112 : decode cX0_move 112 = .ok (.iadd, 1) := by decide +kernel
theorem dX0_move_113 : decode cX0_move 113 = .ok (.putfield 46, 3) := by decide +kernel
theorem dX0_move_116 : decode cX0_move 116 = .ok (.return_, 1) := by decide +kernel
theorem dX0_move_117 : decode cX0_move 117 = .ok (.iconst 0, 1) := by decide +kernel
theorem dX0_move_118 : decode cX0_move 118 = .ok (.istore_n 2, 1) := by decide +kernel
theorem dX0_move_119 : decode cX0_move 119 = .ok (.iload_n 2, 1) := by decide +kernel
theorem dX0_move_120 : decode cX0_move 120 = .ok (.aload_n 1, 1) := by decide +kernel
theorem dX0_move_121 : decode cX0_move 121 = .ok (.getfield 62, 3) := by decide +kernel
theorem dX0_move_124 : decode cX0_move 124 = .ok (.if_icmp .ge 25, 3) := by decide +kernel
theorem dX0_move_127 : decode cX0_move 127 = .ok (.aload_n 0, 1) := by decide +kernel
theorem dX0_move_128 : decode cX0_move 128 = .ok (.getfield 12, 3) := by decide +kernel
theorem dX0_move_131 : decode cX0_move 131 = .ok (.aload_n 1, 1) := by decide +kernel
theorem dX0_move_132 : decode cX0_move 132 = .ok (.iload_n 2, 1) := by decide +kernel
theorem dX0_move_133 : decode cX0_move 133 = .ok (.invokevirtual 65, 3) := by decide +kernel
theorem dX0_move_136 : decode cX0_move 136 = .ok (.aload_n 1, 1) := by decide +kernel
theorem dX0_move_137 : decode cX0_move 137 = .ok (.getfield 77, 3) := by decide +kernel
theorem dX0_move_140 : decode cX0_move 140 = .ok (.invokevirtual 80, 3) := by decide +kernel
theorem dX0_move_143 : decode cX0_move 143 = .ok (.iinc 2 1, 3) := by decide +kernel
theorem dX0_move_146 : decode cX0_move 146 = .ok (.goto (-27), 3) := by decide +kernel
theorem dX0_move_149 : decode cX0_move 149 = .ok (.return_, 1) := by decide +kernel
theorem dX6_probeCopy_0 : decode cX6_probeCopy 0 = .ok (.aload_n 0, 1) := by decide +kernel
theorem dX6_probeCopy_1 : decode cX6_probeCopy 1 = .ok (.getfield 75, 3) := by decide +kernel
theorem dX6_probeCopy_4 : decode cX6_probeCopy 4 = .ok (.aload_n 0, 1) := by decide +kernel
theorem dX6_probeCopy_5 : decode cX6_probeCopy 5 = .ok (.getfield 16, 3) := by decide +kernel
theorem dX6_probeCopy_8 : decode cX6_probeCopy 8 = .ok (.invokevirtual 178, 3) := by decide +kernel
theorem dX6_probeCopy_11 : decode cX6_probeCopy 11 = .ok (.aload_n 0, 1) := by decide +kernel
theorem dX6_probeCopy_12 : decode cX6_probeCopy 12 = .ok (.getfield 68, 3) := by decide +kernel
theorem dX6_probeCopy_15 : decode cX6_probeCopy 15 = .ok (.aload_n 0, 1) := by decide +kernel
theorem dX6_probeCopy_16 : decode cX6_probeCopy 16 = .ok (.invokevirtual 182, 3) := by decide +kernel
theorem dX6_probeCopy_19 : decode cX6_probeCopy 19 = .ok (.aload_n 0, 1) := by decide +kernel
theorem dX6_probeCopy_20 : decode cX6_probeCopy 20 = .ok (.getfield 75, 3) := by decide +kernel
theorem dX6_probeCopy_23 : decode cX6_probeCopy 23 = .ok (.iconst 0, 1) := by decide +kernel
theorem dX6_probeCopy_24 : decode cX6_probeCopy 24 = .ok (.invokevirtual 186, 3) := by decide +kernel
theorem dX6_probeCopy_27 : decode cX6_probeCopy 27 = .ok (.aload_n 0, 1) := by decide +kernel
theorem dX6_probeCopy_28 : decode cX6_probeCopy 28 = .ok (.getfield 75, 3) := by decide +kernel
theorem dX6_probeCopy_31 : decode cX6_probeCopy 31 = .ok (.aload_n 0, 1) := by decide +kernel
theorem dX6_probeCopy_32 : decode cX6_probeCopy 32 = .ok (.getfield 16, 3) := by decide +kernel
theorem dX6_probeCopy_35 : decode cX6_probeCopy 35 = .ok (.iload_n 1, 1) := by decide +kernel
theorem dX6_probeCopy_36 : decode cX6_probeCopy 36 = .ok (.invokevirtual 234, 3) := by decide +kernel
theorem dX6_probeCopy_39 : decode cX6_probeCopy 39 = .ok (.aload_n 0, 1) := by decide +kernel
theorem dX6_probeCopy_40 : decode cX6_probeCopy 40 = .ok (.getfield 75, 3) := by decide +kernel
theorem dX6_probeCopy_43 : decode cX6_probeCopy 43 = .ok (.aload_n 0, 1) := by decide +kernel
theorem dX6_probeCopy_44 : decode cX6_probeCopy 44 = .ok (.getfield 68, 3) := by decide +kernel
theorem dX6_probeCopy_47 : decode cX6_probeCopy 47 = .ok (.invokevirtual 190, 3) := by decide +kernel
theorem dX6_probeCopy_50 : decode cX6_probeCopy 50 = .ok (.aload_n 0, 1) := by decide +kernel
theorem dX6_probeCopy_51 : decode cX6_probeCopy 51 = .ok (.getfield 68, 3) := by decide +kernel
theorem dX6_probeCopy_54 : decode cX6_probeCopy 54 = .ok (.invokevirtual 193, 3) := by decide +kernel
theorem dX6_probeCopy_57 : decode cX6_probeCopy 57 = .ok (.invokevirtual 335, 3) := by decide +kernel
theorem dX6_probeCopy_60 : decode cX6_probeCopy 60 = .ok (.return_, 1) := by decide +kernel
theorem dX6_tryOnCopy_0 : decode cX6_tryOnCopy 0 = .ok (.aload_n 0, 1) := by decide +kernel
theorem dX6_tryOnCopy_1 : decode cX6_tryOnCopy 1 = .ok (.iload_n 1, 1) := by decide +kernel
theorem dX6_tryOnCopy_2 : decode cX6_tryOnCopy 2 = .ok (.invokevirtual 348, 3) := by decide +kernel
theorem dX6_tryOnCopy_5 : decode cX6_tryOnCopy 5 = .ok (.aload_n 0, 1) := by decide +kernel
theorem dX6_tryOnCopy_6 : decode cX6_tryOnCopy 6 = .ok (.getfield 16, 3) := by decide +kernel
theorem dX6_tryOnCopy_9 : decode cX6_tryOnCopy 9 = .ok (.aload_n 0, 1) := by decide +kernel
theorem dX6_tryOnCopy_10 : decode cX6_tryOnCopy 10 = .ok (.getfield 75, 3) := by decide +kernel
theorem dX6_tryOnCopy_13 : decode cX6_tryOnCopy 13 = .ok (.invokevirtual 338, 3) := by decide +kernel
theorem dX6_tryOnCopy_16 : decode cX6_tryOnCopy 16 = .ok (.aload_n 0, 1) := by decide +kernel
theorem dX6_tryOnCopy_17 : decode cX6_tryOnCopy 17 = .ok (.getfield 75, 3) := by decide +kernel
theorem dX6_tryOnCopy_20 : decode cX6_tryOnCopy 20 = .ok (.getfield 345, 3) := by decide +kernel
theorem dX6_tryOnCopy_23 : decode cX6_tryOnCopy 23 = .ok (.ireturn, 1) := by decide +kernel
theorem dX6_worthOnCopy_0 : decode cX6_worthOnCopy 0 = .ok (.aload_n 0, 1) := by decide +kernel
theorem dX6_worthOnCopy_1 : decode cX6_worthOnCopy 1 = .ok (.iload_n 1, 1) := by decide +kernel
theorem dX6_worthOnCopy_2 : decode cX6_worthOnCopy 2 = .ok (.invokevirtual 348, 3) := by decide +kernel
theorem dX6_worthOnCopy_5 : decode cX6_worthOnCopy 5 = .ok (.aload_n 0, 1) := by decide +kernel
theorem dX6_worthOnCopy_6 : decode cX6_worthOnCopy 6 = .ok (.getfield 75, 3) := by decide +kernel
theorem dX6_worthOnCopy_9 : decode cX6_worthOnCopy 9 = .ok (.getfield 345, 3) := by decide +kernel
theorem dX6_worthOnCopy_12 : decode cX6_worthOnCopy 12 = .ok (.iconst 5, 1) := by decide +kernel
theorem dX6_worthOnCopy_13 : decode cX6_worthOnCopy 13 = .ok (.if_icmp .ne 20, 3) := by decide +kernel
theorem dX6_worthOnCopy_16 : decode cX6_worthOnCopy 16 = .ok (.aload_n 0, 1) := by decide +kernel
theorem dX6_worthOnCopy_17 : decode cX6_worthOnCopy 17 = .ok (.getfield 16, 3) := by decide +kernel
theorem dX6_worthOnCopy_20 : decode cX6_worthOnCopy 20 = .ok (.getfield 100, 3) := by decide +kernel
theorem dX6_worthOnCopy_23 : decode cX6_worthOnCopy 23 = .ok (.aload_n 0, 1) := by decide +kernel
theorem dX6_worthOnCopy_24 : decode cX6_worthOnCopy 24 = .ok (.getfield 75, 3) := by decide +kernel
theorem dX6_worthOnCopy_27 : decode cX6_worthOnCopy 27 = .ok (.invokevirtual 351, 3) := by decide +kernel
theorem dX6_worthOnCopy_30 : decode cX6_worthOnCopy 30 = .ok (.goto 4, 3) := by decide +kernel
theorem dX6_worthOnCopy_33 : decode cX6_worthOnCopy 33 = .ok (.iconst 0, 1) := by decide +kernel
theorem dX6_worthOnCopy_34 : decode cX6_worthOnCopy 34 = .ok (.aload_n 0, 1) := by decide +kernel
theorem dX6_worthOnCopy_35 : decode cX6_worthOnCopy 35 = .ok (.getfield 16, 3) := by decide +kernel
theorem dX6_worthOnCopy_38 : decode cX6_worthOnCopy 38 = .ok (.getfield 145, 3) := by decide +kernel
theorem dX6_worthOnCopy_41 : decode cX6_worthOnCopy 41 = .ok (.isub, 1) := by decide +kernel
theorem dX6_worthOnCopy_42 : decode cX6_worthOnCopy 42 = .ok (.ireturn, 1) := by decide +kernel
theorem dX6_faithGiven_0 : decode cX6_faithGiven 0 = .ok (.iload_n 0, 1) := by decide +kernel
theorem dX6_faithGiven_1 : decode cX6_faithGiven 1 = .ok (.iconst 5, 1) := by decide +kernel
theorem dX6_faithGiven_2 : decode cX6_faithGiven 2 = .ok (.if_icmp .ne 5, 3) := by decide +kernel
theorem dX6_faithGiven_5 : decode cX6_faithGiven 5 = .ok (.iconst 5, 1) := by decide +kernel
theorem dX6_faithGiven_6 : decode cX6_faithGiven 6 = .ok (.ireturn, 1) := by decide +kernel
theorem dX6_faithGiven_7 : decode cX6_faithGiven 7 = .ok (.iload_n 0, 1) := by decide +kernel
theorem dX6_faithGiven_8 : decode cX6_faithGiven 8 = .ok (.iconst 2, 1) := by decide +kernel
theorem dX6_faithGiven_9 : decode cX6_faithGiven 9 = .ok (.if_icmp .eq 8, 3) := by decide +kernel
theorem dX6_faithGiven_12 : decode cX6_faithGiven 12 = .ok (.iload_n 0, 1) := by decide +kernel
theorem dX6_faithGiven_13 : decode cX6_faithGiven 13 = .ok (.iconst 3, 1) := by decide +kernel
theorem dX6_faithGiven_14 : decode cX6_faithGiven 14 = .ok (.if_icmp .ne 7, 3) := by decide +kernel
theorem dX6_faithGiven_17 : decode cX6_faithGiven 17 = .ok (.iconst 1, 1) := by decide +kernel
theorem dX6_faithGiven_18 : decode cX6_faithGiven 18 = .ok (.goto 5, 3) := by decide +kernel
theorem dX6_faithGiven_21 : decode cX6_faithGiven 21 = .ok (.bipush (-2), 2) := by decide +kernel
theorem dX6_faithGiven_23 : decode cX6_faithGiven 23 = .ok (.ireturn, 1) := by decide +kernel
set_option maxHeartbeats 4000000 in
set_option maxRecDepth 100000 in
theorem c_X2_copyFrom (l : Launch) (D : va_G) (K : Nat → ClassId) (b0 : Nat) (sa : Nat × Nat × Nat) (sz : Nat) (L : List Nat) (f0 : Nat → va_E) (Ψ : Nat → Nat) (hT : TW K (gof gX1) Ψ L f0) (h1 : Nat) (hm_h1 : h1 ∈ L) (ht_h1 : Ψ h1 = 2) (h2 : Nat) (hm_h2 : h2 ∈ L) (ht_h2 : Ψ h2 = 2) : Met l yX2_copyFrom (.code yX2_copyFrom cX2_copyFrom 2 none :: gt) { frames := 1, cells := 0, slots := 0, locals := 60 } (va_Pc [.ref h1, .ref h2] (hPre D K b0 sa sz L f0)) (hQ D K b0 (fun v9 u9 => ∃ f2 : Nat → va_E, v9 = none ∧ u9 = ((gof gX1), Ψ, L, f2) ∧ TW K (gof gX1) Ψ L f2 ∧ rawk Ψ L f0 f2)) 0 0 (fun q => b0 ≤ q) := by
  refine t_of (own := RX2) (by decide) rfl ?_ (Nat.le_of_ble_eq_true rfl)
  intro p e s m below meth c ls C w hsz hr hlk hnm hl
  have hx := C.1
  have hb := C.2.1
  have hl : lv_has ls 2 [(0, .ref h1), (1, .ref h2)] := hl
  have hR : rawk Ψ L f0 f0 := rawk.rf
  refine lv_aload_n hx hb dX2_copyFrom_0 rfl (lv_at hl 0 rfl) ?_
  refine lv_aload_n hx hb dX2_copyFrom_1 rfl (lv_at hl 1 rfl) ?_
  refine t_geti C w hT hm_h2 ht_h2 (by decide) rfl cin_2 0 (by decide) rfl rfl gw_46 dX2_copyFrom_2 (fun x1 hg => ?_)
  obtain rfl : x1 = 0 := gof_at rfl hg
  refine t_puti C w hT hm_h1 ht_h1 (by decide) rfl cin_2 tyX2 tyX2_ok nmX2 0 (by decide) rfl rfl rfl rfl rfl (gof_is rfl) gw_46 dX2_copyFrom_5 (fun f H locs w hT hR1 => ?_)
  have hR := hR.tr hR1
  refine lv_aload_n hx hb dX2_copyFrom_8 rfl (lv_at hl 1 rfl) ?_
  refine t_getr C w hT hm_h2 ht_h2 (by decide) rfl cin_2 1 (by decide) rfl gw_48 dX2_copyFrom_9 (fun q2 hm_q2 ht_q2 => ?_)
  refine lv_iconst (v := 0) hx hb dX2_copyFrom_12 (by decide) ?_
  refine lv_aload_n hx hb dX2_copyFrom_13 rfl (lv_at hl 0 rfl) ?_
  refine t_getr C w hT hm_h1 ht_h1 (by decide) rfl cin_2 1 (by decide) rfl gw_48 dX2_copyFrom_14 (fun q3 hm_q3 ht_q3 => ?_)
  refine lv_iconst (v := 0) hx hb dX2_copyFrom_17 (by decide) ?_
  refine lv_bipush (v := 24) hx hb dX2_copyFrom_18 (by decide) ?_
  refine t_copy C w hT hm_q2 ht_q2 hm_q3 ht_q3 (by decide) (by decide) hl.1 gw_528 gw_530 gw_529 gw_21 (by decide) (by decide) (by decide) (Nat.le_of_ble_eq_true rfl) dX2_copyFrom_20 (fun f H locs w hT hR1 => ?_)
  have hR := hR.tr hR1
  refine lv_aload_n hx hb dX2_copyFrom_23 rfl (lv_at hl 1 rfl) ?_
  refine t_getr C w hT hm_h2 ht_h2 (by decide) rfl cin_2 2 (by decide) rfl gw_51 dX2_copyFrom_24 (fun q4 hm_q4 ht_q4 => ?_)
  refine lv_iconst (v := 0) hx hb dX2_copyFrom_27 (by decide) ?_
  refine lv_aload_n hx hb dX2_copyFrom_28 rfl (lv_at hl 0 rfl) ?_
  refine t_getr C w hT hm_h1 ht_h1 (by decide) rfl cin_2 2 (by decide) rfl gw_51 dX2_copyFrom_29 (fun q5 hm_q5 ht_q5 => ?_)
  refine lv_iconst (v := 0) hx hb dX2_copyFrom_32 (by decide) ?_
  refine lv_bipush (v := 24) hx hb dX2_copyFrom_33 (by decide) ?_
  refine t_copy C w hT hm_q4 ht_q4 hm_q5 ht_q5 (by decide) (by decide) hl.1 gw_528 gw_530 gw_529 gw_21 (by decide) (by decide) (by decide) (Nat.le_of_ble_eq_true rfl) dX2_copyFrom_35 (fun f H locs w hT hR1 => ?_)
  have hR := hR.tr hR1
  refine lv_aload_n hx hb dX2_copyFrom_38 rfl (lv_at hl 1 rfl) ?_
  refine t_getr C w hT hm_h2 ht_h2 (by decide) rfl cin_2 3 (by decide) rfl gw_54 dX2_copyFrom_39 (fun q6 hm_q6 ht_q6 => ?_)
  refine lv_iconst (v := 0) hx hb dX2_copyFrom_42 (by decide) ?_
  refine lv_aload_n hx hb dX2_copyFrom_43 rfl (lv_at hl 0 rfl) ?_
  refine t_getr C w hT hm_h1 ht_h1 (by decide) rfl cin_2 3 (by decide) rfl gw_54 dX2_copyFrom_44 (fun q7 hm_q7 ht_q7 => ?_)
  refine lv_iconst (v := 0) hx hb dX2_copyFrom_47 (by decide) ?_
  refine lv_bipush (v := 24) hx hb dX2_copyFrom_48 (by decide) ?_
  refine t_copy C w hT hm_q6 ht_q6 hm_q7 ht_q7 (by decide) (by decide) hl.1 gw_528 gw_530 gw_529 gw_21 (by decide) (by decide) (by decide) (Nat.le_of_ble_eq_true rfl) dX2_copyFrom_50 (fun f H locs w hT hR1 => ?_)
  have hR := hR.tr hR1
  refine lv_aload_n hx hb dX2_copyFrom_53 rfl (lv_at hl 1 rfl) ?_
  refine t_getr C w hT hm_h2 ht_h2 (by decide) rfl cin_2 4 (by decide) rfl gw_56 dX2_copyFrom_54 (fun q8 hm_q8 ht_q8 => ?_)
  refine lv_iconst (v := 0) hx hb dX2_copyFrom_57 (by decide) ?_
  refine lv_aload_n hx hb dX2_copyFrom_58 rfl (lv_at hl 0 rfl) ?_
  refine t_getr C w hT hm_h1 ht_h1 (by decide) rfl cin_2 4 (by decide) rfl gw_56 dX2_copyFrom_59 (fun q9 hm_q9 ht_q9 => ?_)
  refine lv_iconst (v := 0) hx hb dX2_copyFrom_62 (by decide) ?_
  refine lv_bipush (v := 24) hx hb dX2_copyFrom_63 (by decide) ?_
  refine t_copy C w hT hm_q8 ht_q8 hm_q9 ht_q9 (by decide) (by decide) hl.1 gw_528 gw_530 gw_529 gw_21 (by decide) (by decide) (by decide) (Nat.le_of_ble_eq_true rfl) dX2_copyFrom_65 (fun f H locs w hT hR1 => ?_)
  have hR := hR.tr hR1
  refine lv_aload_n hx hb dX2_copyFrom_68 rfl (lv_at hl 1 rfl) ?_
  refine t_getr C w hT hm_h2 ht_h2 (by decide) rfl cin_2 5 (by decide) rfl gw_59 dX2_copyFrom_69 (fun q10 hm_q10 ht_q10 => ?_)
  refine lv_iconst (v := 0) hx hb dX2_copyFrom_72 (by decide) ?_
  refine lv_aload_n hx hb dX2_copyFrom_73 rfl (lv_at hl 0 rfl) ?_
  refine t_getr C w hT hm_h1 ht_h1 (by decide) rfl cin_2 5 (by decide) rfl gw_59 dX2_copyFrom_74 (fun q11 hm_q11 ht_q11 => ?_)
  refine lv_iconst (v := 0) hx hb dX2_copyFrom_77 (by decide) ?_
  refine lv_bipush (v := 24) hx hb dX2_copyFrom_78 (by decide) ?_
  refine t_copy C w hT hm_q10 ht_q10 hm_q11 ht_q11 (by decide) (by decide) hl.1 gw_528 gw_530 gw_529 gw_21 (by decide) (by decide) (by decide) (Nat.le_of_ble_eq_true rfl) dX2_copyFrom_80 (fun f H locs w hT hR1 => ?_)
  have hR := hR.tr hR1
  refine lv_aload_n hx hb dX2_copyFrom_83 rfl (lv_at hl 1 rfl) ?_
  refine t_getr C w hT hm_h2 ht_h2 (by decide) rfl cin_2 6 (by decide) rfl gw_60 dX2_copyFrom_84 (fun q12 hm_q12 ht_q12 => ?_)
  refine lv_iconst (v := 0) hx hb dX2_copyFrom_87 (by decide) ?_
  refine lv_aload_n hx hb dX2_copyFrom_88 rfl (lv_at hl 0 rfl) ?_
  refine t_getr C w hT hm_h1 ht_h1 (by decide) rfl cin_2 6 (by decide) rfl gw_60 dX2_copyFrom_89 (fun q13 hm_q13 ht_q13 => ?_)
  refine lv_iconst (v := 0) hx hb dX2_copyFrom_92 (by decide) ?_
  refine lv_bipush (v := 24) hx hb dX2_copyFrom_93 (by decide) ?_
  refine t_copy C w hT hm_q12 ht_q12 hm_q13 ht_q13 (by decide) (by decide) hl.1 gw_528 gw_530 gw_529 gw_21 (by decide) (by decide) (by decide) (Nat.le_of_ble_eq_true rfl) dX2_copyFrom_95 (fun f H locs w hT hR1 => ?_)
  have hR := hR.tr hR1
  refine lv_aload_n hx hb dX2_copyFrom_98 rfl (lv_at hl 1 rfl) ?_
  refine t_getr C w hT hm_h2 ht_h2 (by decide) rfl cin_2 7 (by decide) rfl gw_62 dX2_copyFrom_99 (fun q14 hm_q14 ht_q14 => ?_)
  refine lv_iconst (v := 0) hx hb dX2_copyFrom_102 (by decide) ?_
  refine lv_aload_n hx hb dX2_copyFrom_103 rfl (lv_at hl 0 rfl) ?_
  refine t_getr C w hT hm_h1 ht_h1 (by decide) rfl cin_2 7 (by decide) rfl gw_62 dX2_copyFrom_104 (fun q15 hm_q15 ht_q15 => ?_)
  refine lv_iconst (v := 0) hx hb dX2_copyFrom_107 (by decide) ?_
  refine lv_bipush (v := 24) hx hb dX2_copyFrom_108 (by decide) ?_
  refine t_copy C w hT hm_q14 ht_q14 hm_q15 ht_q15 (by decide) (by decide) hl.1 gw_528 gw_530 gw_529 gw_21 (by decide) (by decide) (by decide) (Nat.le_of_ble_eq_true rfl) dX2_copyFrom_110 (fun f H locs w hT hR1 => ?_)
  have hR := hR.tr hR1
  refine lv_aload_n hx hb dX2_copyFrom_113 rfl (lv_at hl 1 rfl) ?_
  refine t_getr C w hT hm_h2 ht_h2 (by decide) rfl cin_2 8 (by decide) rfl gw_63 dX2_copyFrom_114 (fun q16 hm_q16 ht_q16 => ?_)
  refine lv_iconst (v := 0) hx hb dX2_copyFrom_117 (by decide) ?_
  refine lv_aload_n hx hb dX2_copyFrom_118 rfl (lv_at hl 0 rfl) ?_
  refine t_getr C w hT hm_h1 ht_h1 (by decide) rfl cin_2 8 (by decide) rfl gw_63 dX2_copyFrom_119 (fun q17 hm_q17 ht_q17 => ?_)
  refine lv_iconst (v := 0) hx hb dX2_copyFrom_122 (by decide) ?_
  refine lv_bipush (v := 64) hx hb dX2_copyFrom_123 (by decide) ?_
  refine t_copy C w hT hm_q16 ht_q16 hm_q17 ht_q17 (by decide) (by decide) hl.1 gw_528 gw_530 gw_529 gw_21 (by decide) (by decide) (by decide) (Nat.le_of_ble_eq_true rfl) dX2_copyFrom_125 (fun f H locs w hT hR1 => ?_)
  have hR := hR.tr hR1
  exact t_vret C hr hlk w ⟨_, rfl, rfl, hT, hR⟩ (by decide) (by decide) dX2_copyFrom_128
set_option maxHeartbeats 4000000 in
set_option maxRecDepth 100000 in
theorem c_X0_copyFrom (l : Launch) (D : va_G) (K : Nat → ClassId) (b0 : Nat) (sa : Nat × Nat × Nat) (sz : Nat) (L : List Nat) (f0 : Nat → va_E) (Ψ : Nat → Nat) (hT : TW K (gof gX1) Ψ L f0) (b1 : Nat) (hm_b1 : b1 ∈ L) (ht_b1 : Ψ b1 = 0) (b2 : Nat) (hm_b2 : b2 ∈ L) (ht_b2 : Ψ b2 = 0) : Met l yX0_copyFrom (.code yX0_copyFrom cX0_copyFrom 3 none :: gt) { frames := 2, cells := 0, slots := 0, locals := 81 } (va_Pc [.ref b1, .ref b2] (hPre D K b0 sa sz L f0)) (hQ D K b0 (fun v9 u9 => ∃ f2 : Nat → va_E, v9 = none ∧ u9 = ((gof gX1), Ψ, L, f2) ∧ TW K (gof gX1) Ψ L f2 ∧ rawk Ψ L f0 f2)) 0 0 (fun q => b0 ≤ q) := by
  refine t_of (own := RX0) (by decide) rfl ?_ (Nat.le_of_ble_eq_true rfl)
  intro p e s m below meth c ls C w hsz hr hlk hnm hl
  have hx := C.1
  have hb := C.2.1
  have hl : lv_has ls 3 [(0, .ref b1), (1, .ref b2)] := hl
  have hR : rawk Ψ L f0 f0 := rawk.rf
  refine lv_aload_n hx hb dX0_copyFrom_0 rfl (lv_at hl 0 rfl) ?_
  refine t_getr C w hT hm_b1 ht_b1 (by decide) rfl cin_0 0 (by decide) rfl gw_88 dX0_copyFrom_1 (fun q1 hm_q1 ht_q1 => ?_)
  refine lv_aload_n hx hb dX0_copyFrom_4 rfl (lv_at hl 1 rfl) ?_
  refine t_getr C w hT hm_b2 ht_b2 (by decide) rfl cin_0 0 (by decide) rfl gw_88 dX0_copyFrom_5 (fun q2 hm_q2 ht_q2 => ?_)
  refine t_callV (n := 1) C w hT hm_q1 ht_q1 (by decide) rfl rfl (c_X2_copyFrom l D K b0 sa _ L _ Ψ hT q1 hm_q1 ht_q1 q2 hm_q2 ht_q2) gw_527 gw_524 gw_525 gw_526 gw_3 ⟨by decide, by decide, by decide +kernel⟩ rfl rfl ⟨by decide, by decide⟩ rfl hl.1 rfl (Nat.le_of_ble_eq_true rfl) dX0_copyFrom_8 ⟨by decide, by decide⟩ (fun v u H locs hp w => ?_)
  obtain ⟨f2, rfl, rfl, hT2, hR1⟩ := hp
  have hR := hR.tr hR1
  clear hT
  have hT := hT2
  clear hT2
  generalize f2 = f at w hT hR
  refine lv_aload_n hx hb dX0_copyFrom_11 rfl (lv_at hl 0 rfl) ?_
  refine lv_aload_n hx hb dX0_copyFrom_12 rfl (lv_at hl 1 rfl) ?_
  refine t_geti C w hT hm_b2 ht_b2 (by decide) rfl cin_0 1 (by decide) rfl rfl gw_91 dX0_copyFrom_13 (fun x3 hg => ?_)
  obtain rfl : x3 = 63 := gof_at rfl hg
  refine t_puti C w hT hm_b1 ht_b1 (by decide) rfl cin_0 tyX0 tyX0_ok nmX0 1 (by decide) rfl rfl rfl rfl rfl (gof_is rfl) gw_91 dX0_copyFrom_16 (fun f H locs w hT hR1 => ?_)
  have hR := hR.tr hR1
  refine lv_aload_n hx hb dX0_copyFrom_19 rfl (lv_at hl 0 rfl) ?_
  refine lv_aload_n hx hb dX0_copyFrom_20 rfl (lv_at hl 1 rfl) ?_
  refine t_geti C w hT hm_b2 ht_b2 (by decide) rfl cin_0 2 (by decide) rfl rfl gw_94 dX0_copyFrom_21 (fun x4 hg => ?_)
  obtain rfl : x4 = 14 := gof_at rfl hg
  refine t_puti C w hT hm_b1 ht_b1 (by decide) rfl cin_0 tyX0 tyX0_ok nmX0 2 (by decide) rfl rfl rfl rfl rfl (gof_is rfl) gw_94 dX0_copyFrom_24 (fun f H locs w hT hR1 => ?_)
  have hR := hR.tr hR1
  refine lv_aload_n hx hb dX0_copyFrom_27 rfl (lv_at hl 0 rfl) ?_
  refine lv_aload_n hx hb dX0_copyFrom_28 rfl (lv_at hl 1 rfl) ?_
  refine t_geti C w hT hm_b2 ht_b2 (by decide) rfl cin_0 3 (by decide) rfl rfl gw_97 dX0_copyFrom_29 (fun x5 hg => ?_)
  obtain rfl : x5 = 1 := gof_at rfl hg
  refine t_puti C w hT hm_b1 ht_b1 (by decide) rfl cin_0 tyX0 tyX0_ok nmX0 3 (by decide) rfl rfl rfl rfl rfl (gof_is rfl) gw_97 dX0_copyFrom_32 (fun f H locs w hT hR1 => ?_)
  have hR := hR.tr hR1
  refine lv_aload_n hx hb dX0_copyFrom_35 rfl (lv_at hl 0 rfl) ?_
  refine lv_aload_n hx hb dX0_copyFrom_36 rfl (lv_at hl 1 rfl) ?_
  refine t_geti C w hT hm_b2 ht_b2 (by decide) rfl cin_0 4 (by decide) rfl rfl gw_100 dX0_copyFrom_37 (fun x6 hg => ?_)
  obtain rfl : x6 = 0 := gof_at rfl hg
  refine t_puti C w hT hm_b1 ht_b1 (by decide) rfl cin_0 tyX0 tyX0_ok nmX0 4 (by decide) rfl rfl rfl rfl rfl (gof_is rfl) gw_100 dX0_copyFrom_40 (fun f H locs w hT hR1 => ?_)
  have hR := hR.tr hR1
  refine lv_aload_n hx hb dX0_copyFrom_43 rfl (lv_at hl 0 rfl) ?_
  refine lv_aload_n hx hb dX0_copyFrom_44 rfl (lv_at hl 1 rfl) ?_
  refine t_geti C w hT hm_b2 ht_b2 (by decide) rfl cin_0 5 (by decide) rfl rfl gw_103 dX0_copyFrom_45 (fun x7 hg => ?_)
  obtain rfl : x7 = 1 := gof_at rfl hg
  refine t_puti C w hT hm_b1 ht_b1 (by decide) rfl cin_0 tyX0 tyX0_ok nmX0 5 (by decide) rfl rfl rfl rfl rfl (gof_is rfl) gw_103 dX0_copyFrom_48 (fun f H locs w hT hR1 => ?_)
  have hR := hR.tr hR1
  refine lv_aload_n hx hb dX0_copyFrom_51 rfl (lv_at hl 0 rfl) ?_
  refine lv_aload_n hx hb dX0_copyFrom_52 rfl (lv_at hl 1 rfl) ?_
  refine t_geti C w hT hm_b2 ht_b2 (by decide) rfl cin_0 6 (by decide) rfl rfl gw_105 dX0_copyFrom_53 (fun x8 hg => ?_)
  obtain rfl : x8 = (-1) := gof_at rfl hg
  refine t_puti C w hT hm_b1 ht_b1 (by decide) rfl cin_0 tyX0 tyX0_ok nmX0 6 (by decide) rfl rfl rfl rfl rfl (gof_is rfl) gw_105 dX0_copyFrom_56 (fun f H locs w hT hR1 => ?_)
  have hR := hR.tr hR1
  refine lv_aload_n hx hb dX0_copyFrom_59 rfl (lv_at hl 0 rfl) ?_
  refine lv_aload_n hx hb dX0_copyFrom_60 rfl (lv_at hl 1 rfl) ?_
  refine t_geti C w hT hm_b2 ht_b2 (by decide) rfl cin_0 7 (by decide) rfl rfl gw_107 dX0_copyFrom_61 (fun x9 hg => ?_)
  refine t_puti C w hT hm_b1 ht_b1 (by decide) rfl cin_0 tyX0 tyX0_ok nmX0 7 (by decide) rfl rfl rfl rfl rfl (gof_no rfl) gw_107 dX0_copyFrom_64 (fun f H locs w hT hR1 => ?_)
  have hR := hR.tr hR1
  refine lv_aload_n hx hb dX0_copyFrom_67 rfl (lv_at hl 0 rfl) ?_
  refine lv_aload_n hx hb dX0_copyFrom_68 rfl (lv_at hl 1 rfl) ?_
  refine t_geti C w hT hm_b2 ht_b2 (by decide) rfl cin_0 8 (by decide) rfl rfl gw_110 dX0_copyFrom_69 (fun x10 hg => ?_)
  refine t_puti C w hT hm_b1 ht_b1 (by decide) rfl cin_0 tyX0 tyX0_ok nmX0 8 (by decide) rfl rfl rfl rfl rfl (gof_no rfl) gw_110 dX0_copyFrom_72 (fun f H locs w hT hR1 => ?_)
  have hR := hR.tr hR1
  refine lv_aload_n hx hb dX0_copyFrom_75 rfl (lv_at hl 0 rfl) ?_
  refine lv_aload_n hx hb dX0_copyFrom_76 rfl (lv_at hl 1 rfl) ?_
  refine t_geti C w hT hm_b2 ht_b2 (by decide) rfl cin_0 9 (by decide) rfl rfl gw_113 dX0_copyFrom_77 (fun x11 hg => ?_)
  refine t_puti C w hT hm_b1 ht_b1 (by decide) rfl cin_0 tyX0 tyX0_ok nmX0 9 (by decide) rfl rfl rfl rfl rfl (gof_no rfl) gw_113 dX0_copyFrom_80 (fun f H locs w hT hR1 => ?_)
  have hR := hR.tr hR1
  refine lv_aload_n hx hb dX0_copyFrom_83 rfl (lv_at hl 0 rfl) ?_
  refine lv_aload_n hx hb dX0_copyFrom_84 rfl (lv_at hl 1 rfl) ?_
  refine t_geti C w hT hm_b2 ht_b2 (by decide) rfl cin_0 10 (by decide) rfl rfl gw_116 dX0_copyFrom_85 (fun x12 hg => ?_)
  refine t_puti C w hT hm_b1 ht_b1 (by decide) rfl cin_0 tyX0 tyX0_ok nmX0 10 (by decide) rfl rfl rfl rfl rfl (gof_no rfl) gw_116 dX0_copyFrom_88 (fun f H locs w hT hR1 => ?_)
  have hR := hR.tr hR1
  refine lv_aload_n hx hb dX0_copyFrom_91 rfl (lv_at hl 0 rfl) ?_
  refine lv_aload_n hx hb dX0_copyFrom_92 rfl (lv_at hl 1 rfl) ?_
  refine t_geti C w hT hm_b2 ht_b2 (by decide) rfl cin_0 12 (by decide) rfl rfl gw_120 dX0_copyFrom_93 (fun x13 hg => ?_)
  obtain rfl : x13 = 0 := gof_at rfl hg
  refine t_puti C w hT hm_b1 ht_b1 (by decide) rfl cin_0 tyX0 tyX0_ok nmX0 12 (by decide) rfl rfl rfl rfl rfl (gof_is rfl) gw_120 dX0_copyFrom_96 (fun f H locs w hT hR1 => ?_)
  have hR := hR.tr hR1
  refine lv_iconst (v := 0) hx hb dX0_copyFrom_99 (by decide) ?_
  refine lv_istore_n (lv' := [(2, .int 0), (0, .ref b1), (1, .ref b2)]) hx hb dX0_copyFrom_100 rfl hl (by decide) rfl (fun ls hl => ?_)
  refine lv_iload_n hx hb dX0_copyFrom_101 rfl (lv_at hl 0 rfl) ?_
  refine lv_aload_n hx hb dX0_copyFrom_102 rfl (lv_at hl 1 rfl) ?_
  refine t_geti C w hT hm_b1 ht_b1 (by decide) rfl cin_0 12 (by decide) rfl rfl gw_120 dX0_copyFrom_103 (fun x14 hg => ?_)
  obtain rfl : x14 = 0 := gof_at rfl hg
  refine lv_icmp_ge (tgt := 134) hx hb dX0_copyFrom_106 (by decide) (fun _ => ?_) (fun c0 => absurd c0 (by decide))
  exact t_vret C hr hlk w ⟨_, rfl, rfl, hT, hR⟩ (by decide) (by decide) dX0_copyFrom_134
set_option maxHeartbeats 4000000 in
set_option maxRecDepth 100000 in
theorem c_X0_move (l : Launch) (D : va_G) (K : Nat → ClassId) (b0 : Nat) (sa : Nat × Nat × Nat) (sz : Nat) (L : List Nat) (f0 : Nat → va_E) (Ψ : Nat → Nat) (hT : TW K (gof gX1) Ψ L f0) (bx : Nat) (hm_bx : bx ∈ L) (ht_bx : Ψ bx = 0) (y : Nat) (hm_y : y ∈ L) (ht_y : Ψ y = 5) : Met l yX0_move (.code yX0_move cX0_move 3 none :: gt) { frames := 0, cells := 0, slots := 0, locals := 0 } (va_Pc [.ref bx, .ref y] (hPre D K b0 sa sz L f0)) (hQ D K b0 (fun v9 u9 => ∃ f2 : Nat → va_E, v9 = none ∧ u9 = ((gof gX1), Ψ, L, f2) ∧ TW K (gof gX1) Ψ L f2 ∧ rawk Ψ L f0 f2)) 0 0 (fun q => b0 ≤ q) := by
  refine t_of (own := RX0) (by decide) rfl ?_ (Nat.le_of_ble_eq_true rfl)
  intro p e s m below meth c ls C w hsz hr hlk hnm hl
  have hx := C.1
  have hb := C.2.1
  have hl : lv_has ls 3 [(0, .ref bx), (1, .ref y)] := hl
  have hR : rawk Ψ L f0 f0 := rawk.rf
  refine lv_aload_n hx hb dX0_move_0 rfl (lv_at hl 0 rfl) ?_
  refine lv_dup hx hb dX0_move_1 rfl ?_
  refine t_geti C w hT hm_bx ht_bx (by decide) rfl cin_0 7 (by decide) rfl rfl gw_107 dX0_move_2 (fun x1 hg => ?_)
  refine lv_iconst (v := 1) hx hb dX0_move_5 (by decide) ?_
  refine lv_iadd hx hb dX0_move_6 ?_
  refine lv_topi (fun y2 ey2 => ?_)
  refine t_puti C w hT hm_bx ht_bx (by decide) rfl cin_0 tyX0 tyX0_ok nmX0 7 (by decide) rfl rfl rfl rfl rfl (gof_no rfl) gw_107 dX0_move_7 (fun f H locs w hT hR1 => ?_)
  have hR := hR.tr hR1
  refine lv_aload_n hx hb dX0_move_10 rfl (lv_at hl 0 rfl) ?_
  refine lv_aload_n hx hb dX0_move_11 rfl (lv_at hl 1 rfl) ?_
  refine t_geti C w hT hm_y ht_y (by decide) rfl cin_5 1 (by decide) rfl rfl gw_221 dX0_move_12 (fun x3 hg => ?_)
  obtain rfl : x3 = 0 := gof_at rfl hg
  refine lv_iconst (v := 5) hx hb dX0_move_15 (by decide) ?_
  refine lv_icmp_ne (tgt := 23) hx hb dX0_move_16 (by decide) (fun _ => ?_) (fun c0 => absurd c0 (by decide))
  refine lv_aload_n hx hb dX0_move_23 rfl (lv_at hl 0 rfl) ?_
  refine t_geti C w hT hm_bx ht_bx (by decide) rfl cin_0 8 (by decide) rfl rfl gw_110 dX0_move_24 (fun x4 hg => ?_)
  refine lv_iconst (v := 1) hx hb dX0_move_27 (by decide) ?_
  refine lv_iadd hx hb dX0_move_28 ?_
  refine lv_topi (fun y5 ey5 => ?_)
  refine t_puti C w hT hm_bx ht_bx (by decide) rfl cin_0 tyX0 tyX0_ok nmX0 8 (by decide) rfl rfl rfl rfl rfl (gof_no rfl) gw_110 dX0_move_29 (fun f H locs w hT hR1 => ?_)
  have hR := hR.tr hR1
  refine lv_aload_n hx hb dX0_move_32 rfl (lv_at hl 0 rfl) ?_
  refine lv_dup hx hb dX0_move_33 rfl ?_
  refine t_geti C w hT hm_bx ht_bx (by decide) rfl cin_0 9 (by decide) rfl rfl gw_113 dX0_move_34 (fun x6 hg => ?_)
  refine lv_aload_n hx hb dX0_move_37 rfl (lv_at hl 0 rfl) ?_
  refine t_geti C w hT hm_bx ht_bx (by decide) rfl cin_0 3 (by decide) rfl rfl gw_97 dX0_move_38 (fun x7 hg => ?_)
  obtain rfl : x7 = 1 := gof_at rfl hg
  refine lv_iadd hx hb dX0_move_41 ?_
  refine lv_topi (fun y8 ey8 => ?_)
  refine t_puti C w hT hm_bx ht_bx (by decide) rfl cin_0 tyX0 tyX0_ok nmX0 9 (by decide) rfl rfl rfl rfl rfl (gof_no rfl) gw_113 dX0_move_42 (fun f H locs w hT hR1 => ?_)
  have hR := hR.tr hR1
  refine lv_aload_n hx hb dX0_move_45 rfl (lv_at hl 1 rfl) ?_
  refine t_geti C w hT hm_y ht_y (by decide) rfl cin_5 1 (by decide) rfl rfl gw_221 dX0_move_46 (fun x9 hg => ?_)
  obtain rfl : x9 = 0 := gof_at rfl hg
  refine lv_iconst (v := 5) hx hb dX0_move_49 (by decide) ?_
  refine lv_icmp_eq (tgt := 62) hx hb dX0_move_50 (by decide) (fun c0 => absurd c0 (by decide)) (fun _ => ?_)
  refine lv_aload_n hx hb dX0_move_53 rfl (lv_at hl 1 rfl) ?_
  refine t_geti C w hT hm_y ht_y (by decide) rfl cin_5 1 (by decide) rfl rfl gw_221 dX0_move_54 (fun x10 hg => ?_)
  obtain rfl : x10 = 0 := gof_at rfl hg
  refine lv_iconst (v := 3) hx hb dX0_move_57 (by decide) ?_
  refine lv_icmp_eq (tgt := 62) hx hb dX0_move_58 (by decide) (fun c0 => absurd c0 (by decide)) (fun _ => ?_)
  exact t_vret C hr hlk w ⟨_, rfl, rfl, hT, hR⟩ (by decide) (by decide) dX0_move_61
set_option maxHeartbeats 4000000 in
set_option maxRecDepth 100000 in
theorem c_X6_probeCopy (l : Launch) (D : va_G) (K : Nat → ClassId) (b0 : Nat) (sa : Nat × Nat × Nat) (sz : Nat) (L : List Nat) (f0 : Nat → va_E) (Ψ : Nat → Nat) (hT : TW K (gof gX1) Ψ L f0) (x : Nat) (hm_x : x ∈ L) (ht_x : Ψ x = 6) (ce : Int32) : Met l yX6_probeCopy (.code yX6_probeCopy cX6_probeCopy 2 none :: gt) { frames := 3, cells := 0, slots := 0, locals := 69 } (va_Pc [.ref x, .int ce] (hPre D K b0 sa sz L f0)) (hQ D K b0 (fun v9 u9 => ∃ f2 : Nat → va_E, v9 = none ∧ u9 = ((gof gX1), Ψ, L, f2) ∧ TW K (gof gX1) Ψ L f2 ∧ rawk Ψ L f0 f2)) 0 0 (fun q => b0 ≤ q) := by
  refine t_of (own := RX6) (by decide) rfl ?_ (Nat.le_of_ble_eq_true rfl)
  intro p e s m below meth c ls C w hsz hr hlk hnm hl
  have hx := C.1
  have hb := C.2.1
  have hl : lv_has ls 2 [(0, .ref x), (1, .int ce)] := hl
  have hb_ce := ti_bd ce
  have hR : rawk Ψ L f0 f0 := rawk.rf
  refine lv_aload_n hx hb dX6_probeCopy_0 rfl (lv_at hl 0 rfl) ?_
  refine t_getr C w hT hm_x ht_x (by decide) rfl cin_6 15 (by decide) rfl gw_302 dX6_probeCopy_1 (fun q1 hm_q1 ht_q1 => ?_)
  refine lv_aload_n hx hb dX6_probeCopy_4 rfl (lv_at hl 0 rfl) ?_
  refine t_getr C w hT hm_x ht_x (by decide) rfl cin_6 1 (by decide) rfl gw_288 dX6_probeCopy_5 (fun q2 hm_q2 ht_q2 => ?_)
  refine t_callV (n := 1) C w hT hm_q1 ht_q1 (by decide) rfl rfl (c_X5_nameNext l D K b0 sa _ L _ Ψ hT q1 hm_q1 ht_q1 q2 hm_q2 ht_q2) gw_380 gw_377 gw_378 gw_379 gw_7 ⟨by decide, by decide, by decide +kernel⟩ rfl rfl ⟨by decide, by decide⟩ rfl hl.1 rfl (Nat.le_of_ble_eq_true rfl) dX6_probeCopy_8 ⟨by decide, by decide⟩ (fun v u H locs hp w => ?_)
  obtain ⟨f2, rfl, rfl, hT2, hR1⟩ := hp
  have hR := hR.tr hR1
  clear hT
  have hT := hT2
  clear hT2
  generalize f2 = f at w hT hR
  refine lv_aload_n hx hb dX6_probeCopy_11 rfl (lv_at hl 0 rfl) ?_
  refine t_getr C w hT hm_x ht_x (by decide) rfl cin_6 14 (by decide) rfl gw_301 dX6_probeCopy_12 (fun q3 hm_q3 ht_q3 => ?_)
  refine lv_aload_n hx hb dX6_probeCopy_15 rfl (lv_at hl 0 rfl) ?_
  refine t_callV (n := 0) C w hT hm_x ht_x (by decide) rfl rfl (c_X6_codeInForce l D K b0 sa _ L _ Ψ hT x hm_x ht_x) gw_373 gw_370 gw_372 gs_3 gw_1 ⟨by decide, by decide, by decide +kernel⟩ rfl rfl ⟨by decide, by decide⟩ rfl hl.1 rfl (Nat.le_of_ble_eq_true rfl) dX6_probeCopy_16 ⟨by decide, by decide⟩ (fun v u H locs hp w => ?_)
  obtain ⟨r4, rfl, rfl, hrr4⟩ := hp
  subst hrr4
  refine lv_aload_n hx hb dX6_probeCopy_19 rfl (lv_at hl 0 rfl) ?_
  refine t_getr C w hT hm_x ht_x (by decide) rfl cin_6 15 (by decide) rfl gw_302 dX6_probeCopy_20 (fun q5 hm_q5 ht_q5 => ?_)
  refine lv_iconst (v := 0) hx hb dX6_probeCopy_23 (by decide) ?_
  have n0 : (0 : Int32).toInt = 0 := by decide
  refine t_callV (n := 3) C w hT hm_q3 ht_q3 (by decide) rfl rfl (c_X3_run l D K b0 sa _ L _ Ψ hT q3 hm_q3 ht_q3 q5 hm_q5 ht_q5 0) gw_384 gw_381 gw_382 gw_383 gw_6 ⟨by decide, by decide, by decide +kernel⟩ rfl rfl ⟨by decide, by decide⟩ rfl hl.1 rfl (Nat.le_of_ble_eq_true rfl) dX6_probeCopy_24 ⟨by decide, by decide⟩ (fun v u H locs hp w => ?_)
  obtain ⟨f2, rfl, rfl, hT2, hR1⟩ := hp
  have hR := hR.tr hR1
  clear hT
  have hT := hT2
  clear hT2
  generalize f2 = f at w hT hR
  refine lv_aload_n hx hb dX6_probeCopy_27 rfl (lv_at hl 0 rfl) ?_
  refine t_getr C w hT hm_x ht_x (by decide) rfl cin_6 15 (by decide) rfl gw_302 dX6_probeCopy_28 (fun q6 hm_q6 ht_q6 => ?_)
  refine lv_aload_n hx hb dX6_probeCopy_31 rfl (lv_at hl 0 rfl) ?_
  refine t_getr C w hT hm_x ht_x (by decide) rfl cin_6 1 (by decide) rfl gw_288 dX6_probeCopy_32 (fun q7 hm_q7 ht_q7 => ?_)
  refine lv_iload_n hx hb dX6_probeCopy_35 rfl (lv_at hl 1 rfl) ?_
  refine t_callV (n := 2) C w hT hm_q6 ht_q6 (by decide) rfl rfl (c_X5_look l D K b0 sa _ L _ Ψ hT q6 hm_q6 ht_q6 q7 hm_q7 ht_q7 ce) gw_429 gw_426 gw_427 gw_428 gw_7 ⟨by decide, by decide, by decide +kernel⟩ rfl rfl ⟨by decide, by decide⟩ rfl hl.1 rfl (Nat.le_of_ble_eq_true rfl) dX6_probeCopy_36 ⟨by decide, by decide⟩ (fun v u H locs hp w => ?_)
  obtain ⟨f2, rfl, rfl, hT2, hR1⟩ := hp
  have hR := hR.tr hR1
  clear hT
  have hT := hT2
  clear hT2
  generalize f2 = f at w hT hR
  refine lv_aload_n hx hb dX6_probeCopy_39 rfl (lv_at hl 0 rfl) ?_
  refine t_getr C w hT hm_x ht_x (by decide) rfl cin_6 15 (by decide) rfl gw_302 dX6_probeCopy_40 (fun q8 hm_q8 ht_q8 => ?_)
  refine lv_aload_n hx hb dX6_probeCopy_43 rfl (lv_at hl 0 rfl) ?_
  refine t_getr C w hT hm_x ht_x (by decide) rfl cin_6 14 (by decide) rfl gw_301 dX6_probeCopy_44 (fun q9 hm_q9 ht_q9 => ?_)
  refine t_callV (n := 0) C w hT hm_q9 ht_q9 (by decide) rfl rfl (c_X3_grip l D K b0 sa _ L _ Ψ hT q9 hm_q9 ht_q9) gw_421 gw_418 gw_419 gw_420 gw_6 ⟨by decide, by decide, by decide +kernel⟩ rfl rfl ⟨by decide, by decide⟩ rfl hl.1 rfl (Nat.le_of_ble_eq_true rfl) dX6_probeCopy_47 ⟨by decide, by decide⟩ (fun v u H locs hp w => ?_)
  obtain ⟨r10, rfl, rfl, hrr10⟩ := hp
  obtain rfl := hrr10
  refine lv_aload_n hx hb dX6_probeCopy_50 rfl (lv_at hl 0 rfl) ?_
  refine t_getr C w hT hm_x ht_x (by decide) rfl cin_6 14 (by decide) rfl gw_301 dX6_probeCopy_51 (fun q11 hm_q11 ht_q11 => ?_)
  refine t_callV (n := 0) C w hT hm_q11 ht_q11 (by decide) rfl rfl (c_X3_slip l D K b0 sa _ L _ Ψ hT q11 hm_q11 ht_q11) gw_425 gw_422 gw_423 gw_424 gw_6 ⟨by decide, by decide, by decide +kernel⟩ rfl rfl ⟨by decide, by decide⟩ rfl hl.1 rfl (Nat.le_of_ble_eq_true rfl) dX6_probeCopy_54 ⟨by decide, by decide⟩ (fun v u H locs hp w => ?_)
  obtain ⟨r12, rfl, rfl, hrr12⟩ := hp
  obtain rfl := hrr12
  refine t_callV (n := 2) C w hT hm_q8 ht_q8 (by decide) rfl rfl (c_X5_carry l D K b0 sa _ L _ Ψ hT q8 hm_q8 ht_q8 0 0) gw_956 gw_953 gw_954 gw_955 gw_7 ⟨by decide, by decide, by decide +kernel⟩ rfl rfl ⟨by decide, by decide⟩ rfl hl.1 rfl (Nat.le_of_ble_eq_true rfl) dX6_probeCopy_57 ⟨by decide, by decide⟩ (fun v u H locs hp w => ?_)
  obtain ⟨f2, rfl, rfl, hT2, hR1⟩ := hp
  have hR := hR.tr hR1
  clear hT
  have hT := hT2
  clear hT2
  generalize f2 = f at w hT hR
  exact t_vret C hr hlk w ⟨_, rfl, rfl, hT, hR⟩ (by decide) (by decide) dX6_probeCopy_60
set_option maxHeartbeats 4000000 in
set_option maxRecDepth 100000 in
theorem c_X6_tryOnCopy (l : Launch) (D : va_G) (K : Nat → ClassId) (b0 : Nat) (sa : Nat × Nat × Nat) (sz : Nat) (L : List Nat) (f0 : Nat → va_E) (Ψ : Nat → Nat) (hT : TW K (gof gX1) Ψ L f0) (x : Nat) (hm_x : x ∈ L) (ht_x : Ψ x = 6) (ce : Int32) : Met l yX6_tryOnCopy (.code yX6_tryOnCopy cX6_tryOnCopy 2 (some .int) :: gt) { frames := 4, cells := 0, slots := 0, locals := 90 } (va_Pc [.ref x, .int ce] (hPre D K b0 sa sz L f0)) (hQ D K b0 (fun v9 u9 => ∃ (r : Int32) (f2 : Nat → va_E), v9 = some (.int r) ∧ u9 = ((gof gX1), Ψ, L, f2) ∧ TW K (gof gX1) Ψ L f2 ∧ rawk Ψ L f0 f2 ∧ (r = 0))) 0 0 (fun q => b0 ≤ q) := by
  refine t_of (own := RX6) (by decide) rfl ?_ (Nat.le_of_ble_eq_true rfl)
  intro p e s m below meth c ls C w hsz hr hlk hnm hl
  have hx := C.1
  have hb := C.2.1
  have hl : lv_has ls 2 [(0, .ref x), (1, .int ce)] := hl
  have hb_ce := ti_bd ce
  have hR : rawk Ψ L f0 f0 := rawk.rf
  refine lv_aload_n hx hb dX6_tryOnCopy_0 rfl (lv_at hl 0 rfl) ?_
  refine lv_iload_n hx hb dX6_tryOnCopy_1 rfl (lv_at hl 1 rfl) ?_
  refine t_callV (n := 1) C w hT hm_x ht_x (by decide) rfl rfl (c_X6_probeCopy l D K b0 sa _ L _ Ψ hT x hm_x ht_x ce) gw_1070 gw_1067 gw_1069 gs_19 gw_1 ⟨by decide, by decide, by decide +kernel⟩ rfl rfl ⟨by decide, by decide⟩ rfl hl.1 rfl (Nat.le_of_ble_eq_true rfl) dX6_tryOnCopy_2 ⟨by decide, by decide⟩ (fun v u H locs hp w => ?_)
  obtain ⟨f2, rfl, rfl, hT2, hR1⟩ := hp
  have hR := hR.tr hR1
  clear hT
  have hT := hT2
  clear hT2
  generalize f2 = f at w hT hR
  refine lv_aload_n hx hb dX6_tryOnCopy_5 rfl (lv_at hl 0 rfl) ?_
  refine t_getr C w hT hm_x ht_x (by decide) rfl cin_6 1 (by decide) rfl gw_288 dX6_tryOnCopy_6 (fun q1 hm_q1 ht_q1 => ?_)
  refine lv_aload_n hx hb dX6_tryOnCopy_9 rfl (lv_at hl 0 rfl) ?_
  refine t_getr C w hT hm_x ht_x (by decide) rfl cin_6 15 (by decide) rfl gw_302 dX6_tryOnCopy_10 (fun q2 hm_q2 ht_q2 => ?_)
  refine t_callV (n := 1) C w hT hm_q1 ht_q1 (by decide) rfl rfl (c_X0_move l D K b0 sa _ L _ Ψ hT q1 hm_q1 ht_q1 q2 hm_q2 ht_q2) gw_960 gw_957 gw_958 gw_959 gw_2 ⟨by decide, by decide, by decide +kernel⟩ rfl rfl ⟨by decide, by decide⟩ rfl hl.1 rfl (Nat.le_of_ble_eq_true rfl) dX6_tryOnCopy_13 ⟨by decide, by decide⟩ (fun v u H locs hp w => ?_)
  obtain ⟨f2, rfl, rfl, hT2, hR1⟩ := hp
  have hR := hR.tr hR1
  clear hT
  have hT := hT2
  clear hT2
  generalize f2 = f at w hT hR
  refine lv_aload_n hx hb dX6_tryOnCopy_16 rfl (lv_at hl 0 rfl) ?_
  refine t_getr C w hT hm_x ht_x (by decide) rfl cin_6 15 (by decide) rfl gw_302 dX6_tryOnCopy_17 (fun q3 hm_q3 ht_q3 => ?_)
  refine t_geti C w hT hm_q3 ht_q3 (by decide) rfl cin_5 1 (by decide) rfl rfl gw_222 dX6_tryOnCopy_20 (fun x4 hg => ?_)
  obtain rfl : x4 = 0 := gof_at rfl hg
  have n0 : (0 : Int32).toInt = 0 := by decide
  exact t_iret C hr hlk w ⟨_, _, rfl, rfl, hT, hR, rfl⟩ (by decide) (by decide) dX6_tryOnCopy_23
set_option maxHeartbeats 4000000 in
set_option maxRecDepth 100000 in
theorem c_X6_worthOnCopy (l : Launch) (D : va_G) (K : Nat → ClassId) (b0 : Nat) (sa : Nat × Nat × Nat) (sz : Nat) (L : List Nat) (f0 : Nat → va_E) (Ψ : Nat → Nat) (hT : TW K (gof gX1) Ψ L f0) (x : Nat) (hm_x : x ∈ L) (ht_x : Ψ x = 6) (ce : Int32) : Met l yX6_worthOnCopy (.code yX6_worthOnCopy cX6_worthOnCopy 2 (some .int) :: gt) { frames := 4, cells := 0, slots := 0, locals := 90 } (va_Pc [.ref x, .int ce] (hPre D K b0 sa sz L f0)) (hQ D K b0 (fun v9 u9 => ∃ (r : Int32) (f2 : Nat → va_E), v9 = some (.int r) ∧ u9 = ((gof gX1), Ψ, L, f2) ∧ TW K (gof gX1) Ψ L f2 ∧ rawk Ψ L f0 f2 ∧ (r = (-1)))) 0 0 (fun q => b0 ≤ q) := by
  refine t_of (own := RX6) (by decide) rfl ?_ (Nat.le_of_ble_eq_true rfl)
  intro p e s m below meth c ls C w hsz hr hlk hnm hl
  have hx := C.1
  have hb := C.2.1
  have hl : lv_has ls 2 [(0, .ref x), (1, .int ce)] := hl
  have hb_ce := ti_bd ce
  have hR : rawk Ψ L f0 f0 := rawk.rf
  refine lv_aload_n hx hb dX6_worthOnCopy_0 rfl (lv_at hl 0 rfl) ?_
  refine lv_iload_n hx hb dX6_worthOnCopy_1 rfl (lv_at hl 1 rfl) ?_
  refine t_callV (n := 1) C w hT hm_x ht_x (by decide) rfl rfl (c_X6_probeCopy l D K b0 sa _ L _ Ψ hT x hm_x ht_x ce) gw_1070 gw_1067 gw_1069 gs_19 gw_1 ⟨by decide, by decide, by decide +kernel⟩ rfl rfl ⟨by decide, by decide⟩ rfl hl.1 rfl (Nat.le_of_ble_eq_true rfl) dX6_worthOnCopy_2 ⟨by decide, by decide⟩ (fun v u H locs hp w => ?_)
  obtain ⟨f2, rfl, rfl, hT2, hR1⟩ := hp
  have hR := hR.tr hR1
  clear hT
  have hT := hT2
  clear hT2
  generalize f2 = f at w hT hR
  refine lv_aload_n hx hb dX6_worthOnCopy_5 rfl (lv_at hl 0 rfl) ?_
  refine t_getr C w hT hm_x ht_x (by decide) rfl cin_6 15 (by decide) rfl gw_302 dX6_worthOnCopy_6 (fun q1 hm_q1 ht_q1 => ?_)
  refine t_geti C w hT hm_q1 ht_q1 (by decide) rfl cin_5 1 (by decide) rfl rfl gw_222 dX6_worthOnCopy_9 (fun x2 hg => ?_)
  obtain rfl : x2 = 0 := gof_at rfl hg
  refine lv_iconst (v := 5) hx hb dX6_worthOnCopy_12 (by decide) ?_
  refine lv_icmp_ne (tgt := 33) hx hb dX6_worthOnCopy_13 (by decide) (fun _ => ?_) (fun c0 => absurd c0 (by decide))
  refine lv_iconst (v := 0) hx hb dX6_worthOnCopy_33 (by decide) ?_
  refine lv_aload_n hx hb dX6_worthOnCopy_34 rfl (lv_at hl 0 rfl) ?_
  refine t_getr C w hT hm_x ht_x (by decide) rfl cin_6 1 (by decide) rfl gw_288 dX6_worthOnCopy_35 (fun q3 hm_q3 ht_q3 => ?_)
  refine t_geti C w hT hm_q3 ht_q3 (by decide) rfl cin_0 3 (by decide) rfl rfl gw_99 dX6_worthOnCopy_38 (fun x4 hg => ?_)
  obtain rfl : x4 = 1 := gof_at rfl hg
  refine lv_isub hx hb dX6_worthOnCopy_41 ?_
  refine lv_topi (fun y5 ey5 => ?_)
  obtain rfl : y5 = (-1) := ey5.trans (by decide)
  have nm1 : ((-1) : Int32).toInt = -1 := by decide
  exact t_iret C hr hlk w ⟨_, _, rfl, rfl, hT, hR, rfl⟩ (by decide) (by decide) dX6_worthOnCopy_42
set_option maxHeartbeats 4000000 in
set_option maxRecDepth 100000 in
theorem c_X6_faithGiven (l : Launch) (D : va_G) (K : Nat → ClassId) (b0 : Nat) (sa : Nat × Nat × Nat) (sz : Nat) (L : List Nat) (f0 : Nat → va_E) (Ψ : Nat → Nat) (G : tG) (hT : TW K G Ψ L f0)  : Met l yX6_faithGiven (.code yX6_faithGiven cX6_faithGiven 1 (some .int) :: gt) { frames := 0, cells := 0, slots := 0, locals := 0 } (va_Pc [.int 0] (hPre D K b0 sa sz L f0)) (hQ D K b0 (fun v9 u9 => ∃ r : Int32, v9 = some (.int r) ∧ u9 = (G, Ψ, L, f0) ∧ (r = (-2)))) 0 0 (fun q => b0 ≤ q) := by
  refine t_of (own := RX6) (by decide) rfl ?_ (Nat.le_of_ble_eq_true rfl)
  intro p e s m below meth c ls C w hsz hr hlk hnm hl
  have hx := C.1
  have hb := C.2.1
  have hl : lv_has ls 1 [(0, .int 0)] := hl
  have hR : rawk Ψ L f0 f0 := rawk.rf
  refine lv_iload_n hx hb dX6_faithGiven_0 rfl (lv_at hl 0 rfl) ?_
  refine lv_iconst (v := 5) hx hb dX6_faithGiven_1 (by decide) ?_
  refine lv_icmp_ne (tgt := 7) hx hb dX6_faithGiven_2 (by decide) (fun _ => ?_) (fun c0 => absurd c0 (by decide))
  refine lv_iload_n hx hb dX6_faithGiven_7 rfl (lv_at hl 0 rfl) ?_
  refine lv_iconst (v := 2) hx hb dX6_faithGiven_8 (by decide) ?_
  refine lv_icmp_eq (tgt := 17) hx hb dX6_faithGiven_9 (by decide) (fun c0 => absurd c0 (by decide)) (fun _ => ?_)
  refine lv_iload_n hx hb dX6_faithGiven_12 rfl (lv_at hl 0 rfl) ?_
  refine lv_iconst (v := 3) hx hb dX6_faithGiven_13 (by decide) ?_
  refine lv_icmp_ne (tgt := 21) hx hb dX6_faithGiven_14 (by decide) (fun _ => ?_) (fun c0 => absurd c0 (by decide))
  refine lv_bipush (v := (-2)) hx hb dX6_faithGiven_21 (by decide) ?_
  have nm2 : ((-2) : Int32).toInt = -2 := by decide
  exact t_iret C hr hlk w ⟨_, rfl, rfl, rfl⟩ (by decide) (by decide) dX6_faithGiven_23
