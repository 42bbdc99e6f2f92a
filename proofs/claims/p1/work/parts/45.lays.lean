theorem dX7_lays_0 : decode cX7_lays 0 = .ok (.iconst 0, 1) := by decide +kernel
theorem dX7_lays_1 : decode cX7_lays 1 = .ok (.istore_n 2, 1) := by decide +kernel
theorem dX7_lays_2 : decode cX7_lays 2 = .ok (.iload_n 2, 1) := by decide +kernel
theorem dX7_lays_3 : decode cX7_lays 3 = .ok (.bipush 64, 2) := by decide +kernel
theorem dX7_lays_5 : decode cX7_lays 5 = .ok (.if_icmp .ge 58, 3) := by decide +kernel
theorem dX7_lays_8 : decode cX7_lays 8 = .ok (.iconst 0, 1) := by decide +kernel
theorem dX7_lays_9 : decode cX7_lays 9 = .ok (.istore_n 3, 1) := by decide +kernel
theorem dX7_lays_10 : decode cX7_lays 10 = .ok (.iload_n 3, 1) := by decide +kernel
theorem dX7_lays_11 : decode cX7_lays 11 = .ok (.bipush 24, 2) := by decide +kernel
theorem dX7_lays_13 : decode cX7_lays 13 = .ok (.if_icmp .ge 30, 3) := by decide +kernel
theorem dX7_lays_16 : decode cX7_lays 16 = .ok (.aload_n 0, 1) := by decide +kernel
theorem dX7_lays_17 : decode cX7_lays 17 = .ok (.getfield 79, 3) := by decide +kernel
theorem dX7_lays_20 : decode cX7_lays 20 = .ok (.bipush 64, 2) := by decide +kernel
theorem dX7_lays_22 : decode cX7_lays 22 = .ok (.iload_n 1, 1) := by decide +kernel
theorem dX7_lays_23 : decode cX7_lays 23 = .ok (.imul, 1) := by decide +kernel
theorem dX7_lays_24 : decode cX7_lays 24 = .ok (.iload_n 2, 1) := by decide +kernel
theorem dX7_lays_25 : decode cX7_lays 25 = .ok (.iadd, 1) := by decide +kernel
theorem dX7_lays_26 : decode cX7_lays 26 = .ok (.aaload, 1) := by decide +kernel
theorem dX7_lays_27 : decode cX7_lays 27 = .ok (.iload_n 3, 1) := by decide +kernel
theorem dX7_lays_28 : decode cX7_lays 28 = .ok (.aload_n 0, 1) := by decide +kernel
theorem dX7_lays_29 : decode cX7_lays 29 = .ok (.getfield 52, 3) := by decide +kernel
theorem dX7_lays_32 : decode cX7_lays 32 = .ok (.iload_n 2, 1) := by decide +kernel
theorem dX7_lays_33 : decode cX7_lays 33 = .ok (.aaload, 1) := by decide +kernel
theorem dX7_lays_34 : decode cX7_lays 34 = .ok (.iload_n 3, 1) := by decide +kernel
theorem dX7_lays_35 : decode cX7_lays 35 = .ok (.iaload, 1) := by decide +kernel
theorem dX7_lays_36 : decode cX7_lays 36 = .ok (.iastore, 1) := by decide +kernel
theorem dX7_lays_37 : decode cX7_lays 37 = .ok (.iinc 3 1, 3) := by decide +kernel
theorem dX7_lays_40 : decode cX7_lays 40 = .ok (.goto (-30), 3) := by decide +kernel
theorem dX7_lays_43 : decode cX7_lays 43 = .ok (.aload_n 0, 1) := by decide +kernel
theorem dX7_lays_44 : decode cX7_lays 44 = .ok (.getfield 82, 3) := by decide +kernel
theorem dX7_lays_47 : decode cX7_lays 47 = .ok (.iload_n 1, 1) := by decide +kernel
theorem dX7_lays_48 : decode cX7_lays 48 = .ok (.aaload, 1) := by decide +kernel
theorem dX7_lays_49 : decode cX7_lays 49 = .ok (.iload_n 2, 1) := by decide +kernel
theorem dX7_lays_50 : decode cX7_lays 50 = .ok (.aload_n 0, 1) := by decide +kernel
theorem dX7_lays_51 : decode cX7_lays 51 = .ok (.getfield 55, 3) := by decide +kernel
theorem dX7_lays_54 : decode cX7_lays 54 = .ok (.iload_n 2, 1) := by decide +kernel
theorem dX7_lays_55 : decode cX7_lays 55 = .ok (.iaload, 1) := by decide +kernel
theorem dX7_lays_56 : decode cX7_lays 56 = .ok (.iastore, 1) := by decide +kernel
theorem dX7_lays_57 : decode cX7_lays 57 = .ok (.iinc 2 1, 3) := by decide +kernel
theorem dX7_lays_60 : decode cX7_lays 60 = .ok (.goto (-58), 3) := by decide +kernel
theorem dX7_lays_63 : decode cX7_lays 63 = .ok (.iconst 0, 1) := by decide +kernel
theorem dX7_lays_64 : decode cX7_lays 64 = .ok (.istore_n 2, 1) := by decide +kernel
theorem dX7_lays_65 : decode cX7_lays 65 = .ok (.iload_n 2, 1) := by decide +kernel
theorem dX7_lays_66 : decode cX7_lays 66 = .ok (.bipush 24, 2) := by decide +kernel
theorem dX7_lays_68 : decode cX7_lays 68 = .ok (.if_icmp .ge 23, 3) := by decide +kernel
theorem dX7_lays_71 : decode cX7_lays 71 = .ok (.aload_n 0, 1) := by decide +kernel
theorem dX7_lays_72 : decode cX7_lays 72 = .ok (.getfield 85, 3) := by decide +kernel
theorem dX7_lays_75 : decode cX7_lays 75 = .ok (.iload_n 1, 1) := by decide +kernel
theorem dX7_lays_76 : decode cX7_lays 76 = .ok (.aaload, 1) := by decide +kernel
theorem dX7_lays_77 : decode cX7_lays 77 = .ok (.iload_n 2, 1) := by decide +kernel
theorem dX7_lays_78 : decode cX7_lays 78 = .ok (.aload_n 0, 1) := by decide +kernel
theorem dX7_lays_79 : decode cX7_lays 79 = .ok (.getfield 45, 3) := by decide +kernel
theorem dX7_lays_82 : decode cX7_lays 82 = .ok (.iload_n 2, 1) := by decide +kernel
theorem dX7_lays_83 : decode cX7_lays 83 = .ok (.iaload, 1) := by decide +kernel
theorem dX7_lays_84 : decode cX7_lays 84 = .ok (.iastore, 1) := by decide +kernel
theorem dX7_lays_85 : decode cX7_lays 85 = .ok (.iinc 2 1, 3) := by decide +kernel
theorem dX7_lays_88 : decode cX7_lays 88 = .ok (.goto (-23), 3) := by decide +kernel
theorem dX7_lays_91 : decode cX7_lays 91 = .ok (.aload_n 0, 1) := by decide +kernel
theorem dX7_lays_92 : decode cX7_lays 92 = .ok (.getfield 88, 3) := by decide +kernel
theorem dX7_lays_95 : decode cX7_lays 95 = .ok (.iload_n 1, 1) := by decide +kernel
theorem dX7_lays_96 : decode cX7_lays 96 = .ok (.aaload, 1) := by decide +kernel
theorem dX7_lays_97 : decode cX7_lays 97 = .ok (.iconst 0, 1) := by decide +kernel
theorem dX7_lays_98 : decode cX7_lays 98 = .ok (.aload_n 0, 1) := by decide +kernel
theorem dX7_lays_99 : decode cX7_lays 99 = .ok (.getfield 222, 3) := by decide +kernel
theorem dX7_lays_102 : decode cX7_lays 102 = .ok (.iastore, 1) := by decide +kernel
theorem dX7_lays_103 : decode cX7_lays 103 = .ok (.aload_n 0, 1) := by decide +kernel
theorem dX7_lays_104 : decode cX7_lays 104 = .ok (.getfield 88, 3) := by decide +kernel
theorem dX7_lays_107 : decode cX7_lays 107 = .ok (.iload_n 1, 1) := by decide +kernel
theorem dX7_lays_108 : decode cX7_lays 108 = .ok (.aaload, 1) := by decide +kernel
theorem dX7_lays_109 : decode cX7_lays 109 = .ok (.iconst 1, 1) := by decide +kernel
theorem dX7_lays_110 : decode cX7_lays 110 = .ok (.aload_n 0, 1) := by decide +kernel
theorem dX7_lays_111 : decode cX7_lays 111 = .ok (.getfield 225, 3) := by decide +kernel
theorem dX7_lays_114 : decode cX7_lays 114 = .ok (.iastore, 1) := by decide +kernel
theorem dX7_lays_115 : decode cX7_lays 115 = .ok (.aload_n 0, 1) := by decide +kernel
theorem dX7_lays_116 : decode cX7_lays 116 = .ok (.getfield 88, 3) := by decide +kernel
theorem dX7_lays_119 : decode cX7_lays 119 = .ok (.iload_n 1, 1) := by decide +kernel
theorem dX7_lays_120 : decode cX7_lays 120 = .ok (.aaload, 1) := by decide +kernel
theorem dX7_lays_121 : decode cX7_lays 121 = .ok (.iconst 2, 1) := by decide +kernel
theorem dX7_lays_122 : decode cX7_lays 122 = .ok (.aload_n 0, 1) := by decide +kernel
theorem dX7_lays_123 : decode cX7_lays 123 = .ok (.getfield 228, 3) := by decide +kernel
theorem dX7_lays_126 : decode cX7_lays 126 = .ok (.iastore, 1) := by decide +kernel
theorem dX7_lays_127 : decode cX7_lays 127 = .ok (.aload_n 0, 1) := by decide +kernel
theorem dX7_lays_128 : decode cX7_lays 128 = .ok (.getfield 88, 3) := by decide +kernel
theorem dX7_lays_131 : decode cX7_lays 131 = .ok (.iload_n 1, 1) := by decide +kernel
theorem dX7_lays_132 : decode cX7_lays 132 = .ok (.aaload, 1) := by decide +kernel
theorem dX7_lays_133 : decode cX7_lays 133 = .ok (.iconst 3, 1) := by decide +kernel
theorem dX7_lays_134 : decode cX7_lays 134 = .ok (.aload_n 0, 1) := by decide +kernel
theorem dX7_lays_135 : decode cX7_lays 135 = .ok (.getfield 231, 3) := by decide +kernel
theorem dX7_lays_138 : decode cX7_lays 138 = .ok (.iastore, 1) := by decide +kernel
theorem dX7_lays_139 : decode cX7_lays 139 = .ok (.return_, 1) := by decide +kernel
theorem dX7_laysBack_0 : decode cX7_laysBack 0 = .ok (.iconst 0, 1) := by decide +kernel
theorem dX7_laysBack_1 : decode cX7_laysBack 1 = .ok (.istore_n 2, 1) := by decide +kernel
theorem dX7_laysBack_2 : decode cX7_laysBack 2 = .ok (.iload_n 2, 1) := by decide +kernel
theorem dX7_laysBack_3 : decode cX7_laysBack 3 = .ok (.bipush 64, 2) := by decide +kernel
theorem dX7_laysBack_5 : decode cX7_laysBack 5 = .ok (.if_icmp .ge 58, 3) := by decide +kernel
theorem dX7_laysBack_8 : decode cX7_laysBack 8 = .ok (.iconst 0, 1) := by decide +kernel
theorem dX7_laysBack_9 : decode cX7_laysBack 9 = .ok (.istore_n 3, 1) := by decide +kernel
theorem dX7_laysBack_10 : decode cX7_laysBack 10 = .ok (.iload_n 3, 1) := by decide +kernel
theorem dX7_laysBack_11 : decode cX7_laysBack 11 = .ok (.bipush 24, 2) := by decide +kernel
theorem dX7_laysBack_13 : decode cX7_laysBack 13 = .ok (.if_icmp .ge 30, 3) := by decide +kernel
theorem dX7_laysBack_16 : decode cX7_laysBack 16 = .ok (.aload_n 0, 1) := by decide +kernel
theorem dX7_laysBack_17 : decode cX7_laysBack 17 = .ok (.getfield 52, 3) := by decide +kernel
theorem dX7_laysBack_20 : decode cX7_laysBack 20 = .ok (.iload_n 2, 1) := by decide +kernel
theorem dX7_laysBack_21 : decode cX7_laysBack 21 = .ok (.aaload, 1) := by decide +kernel
theorem dX7_laysBack_22 : decode cX7_laysBack 22 = .ok (.iload_n 3, 1) := by decide +kernel
theorem dX7_laysBack_23 : decode cX7_laysBack 23 = .ok (.aload_n 0, 1) := by decide +kernel
theorem dX7_laysBack_24 : decode cX7_laysBack 24 = .ok (.getfield 79, 3) := by decide +kernel
theorem dX7_laysBack_27 : decode cX7_laysBack 27 = .ok (.bipush 64, 2) := by decide +kernel
theorem dX7_laysBack_29 : decode cX7_laysBack 29 = .ok (.iload_n 1, 1) := by decide +kernel
theorem dX7_laysBack_30 : decode cX7_laysBack 30 = .ok (.imul, 1) := by decide +kernel
theorem dX7_laysBack_31 : decode cX7_laysBack 31 = .ok (.iload_n 2, 1) := by decide +kernel
theorem dX7_laysBack_32 : decode cX7_laysBack 32 = .ok (.iadd, 1) := by decide +kernel
theorem dX7_laysBack_33 : decode cX7_laysBack 33 = .ok (.aaload, 1) := by decide +kernel
theorem dX7_laysBack_34 : decode cX7_laysBack 34 = .ok (.iload_n 3, 1) := by decide +kernel
theorem dX7_laysBack_35 : decode cX7_laysBack 35 = .ok (.iaload, 1) := by decide +kernel
theorem dX7_laysBack_36 : decode cX7_laysBack 36 = .ok (.iastore, 1) := by decide +kernel
theorem dX7_laysBack_37 : decode cX7_laysBack 37 = .ok (.iinc 3 1, 3) := by decide +kernel
theorem dX7_laysBack_40 : decode cX7_laysBack 40 = .ok (.goto (-30), 3) := by decide +kernel
theorem dX7_laysBack_43 : decode cX7_laysBack 43 = .ok (.aload_n 0, 1) := by decide +kernel
theorem dX7_laysBack_44 : decode cX7_laysBack 44 = .ok (.getfield 55, 3) := by decide +kernel
theorem dX7_laysBack_47 : decode cX7_laysBack 47 = .ok (.iload_n 2, 1) := by decide +kernel
theorem dX7_laysBack_48 : decode cX7_laysBack 48 = .ok (.aload_n 0, 1) := by decide +kernel
theorem dX7_laysBack_49 : decode cX7_laysBack 49 = .ok (.getfield 82, 3) := by decide +kernel
theorem dX7_laysBack_52 : decode cX7_laysBack 52 = .ok (.iload_n 1, 1) := by decide +kernel
theorem dX7_laysBack_53 : decode cX7_laysBack 53 = .ok (.aaload, 1) := by decide +kernel
theorem dX7_laysBack_54 : decode cX7_laysBack 54 = .ok (.iload_n 2, 1) := by decide +kernel
theorem dX7_laysBack_55 : decode cX7_laysBack 55 = .ok (.iaload, 1) := by decide +kernel
theorem dX7_laysBack_56 : decode cX7_laysBack 56 = .ok (.iastore, 1) := by decide +kernel
theorem dX7_laysBack_57 : decode cX7_laysBack 57 = .ok (.iinc 2 1, 3) := by decide +kernel
theorem dX7_laysBack_60 : decode cX7_laysBack 60 = .ok (.goto (-58), 3) := by decide +kernel
theorem dX7_laysBack_63 : decode cX7_laysBack 63 = .ok (.iconst 0, 1) := by decide +kernel
theorem dX7_laysBack_64 : decode cX7_laysBack 64 = .ok (.istore_n 2, 1) := by decide +kernel
theorem dX7_laysBack_65 : decode cX7_laysBack 65 = .ok (.iload_n 2, 1) := by decide +kernel
theorem dX7_laysBack_66 : decode cX7_laysBack 66 = .ok (.bipush 24, 2) := by decide +kernel
theorem dX7_laysBack_68 : decode cX7_laysBack 68 = .ok (.if_icmp .ge 23, 3) := by decide +kernel
theorem dX7_laysBack_71 : decode cX7_laysBack 71 = .ok (.aload_n 0, 1) := by decide +kernel
theorem dX7_laysBack_72 : decode cX7_laysBack 72 = .ok (.getfield 45, 3) := by decide +kernel
theorem dX7_laysBack_75 : decode cX7_laysBack 75 = .ok (.iload_n 2, 1) := by decide +kernel
theorem dX7_laysBack_76 : decode cX7_laysBack 76 = .ok (.aload_n 0, 1) := by decide +kernel
theorem dX7_laysBack_77 : decode cX7_laysBack 77 = .ok (.getfield 85, 3) := by decide +kernel
theorem dX7_laysBack_80 : decode cX7_laysBack 80 = .ok (.iload_n 1, 1) := by decide +kernel
theorem dX7_laysBack_81 : decode cX7_laysBack 81 = .ok (.aaload, 1) := by decide +kernel
theorem dX7_laysBack_82 : decode cX7_laysBack 82 = .ok (.iload_n 2, 1) := by decide +kernel
theorem dX7_laysBack_83 : decode cX7_laysBack 83 = .ok (.iaload, 1) := by decide +kernel
theorem dX7_laysBack_84 : decode cX7_laysBack 84 = .ok (.iastore, 1) := by decide +kernel
theorem dX7_laysBack_85 : decode cX7_laysBack 85 = .ok (.iinc 2 1, 3) := by decide +kernel
theorem dX7_laysBack_88 : decode cX7_laysBack 88 = .ok (.goto (-23), 3) := by decide +kernel
theorem dX7_laysBack_91 : decode cX7_laysBack 91 = .ok (.aload_n 0, 1) := by decide +kernel
theorem dX7_laysBack_92 : decode cX7_laysBack 92 = .ok (.aload_n 0, 1) := by decide +kernel
theorem dX7_laysBack_93 : decode cX7_laysBack 93 = .ok (.getfield 88, 3) := by decide +kernel
theorem dX7_laysBack_96 : decode cX7_laysBack 96 = .ok (.iload_n 1, 1) := by decide +kernel
theorem dX7_laysBack_97 : decode cX7_laysBack 97 = .ok (.aaload, 1) := by decide +kernel
theorem dX7_laysBack_98 : decode cX7_laysBack 98 = .ok (.iconst 0, 1) := by decide +kernel
theorem dX7_laysBack_99 : decode cX7_laysBack 99 = .ok (.iaload, 1) := by decide +kernel
theorem dX7_laysBack_100 : decode cX7_laysBack 100 = .ok (.putfield 222, 3) := by decide +kernel
theorem dX7_laysBack_103 : decode cX7_laysBack 103 = .ok (.aload_n 0, 1) := by decide +kernel
theorem dX7_laysBack_104 : decode cX7_laysBack 104 = .ok (.aload_n 0, 1) := by decide +kernel
theorem dX7_laysBack_105 : decode cX7_laysBack 105 = .ok (.getfield 88, 3) := by decide +kernel
theorem dX7_laysBack_108 : decode cX7_laysBack 108 = .ok (.iload_n 1, 1) := by decide +kernel
theorem dX7_laysBack_109 : decode cX7_laysBack 109 = .ok (.aaload, 1) := by decide +kernel
theorem dX7_laysBack_110 : decode cX7_laysBack 110 = .ok (.iconst 1, 1) := by decide +kernel
theorem dX7_laysBack_111 : decode cX7_laysBack 111 = .ok (.iaload, 1) := by decide +kernel
theorem dX7_laysBack_112 : decode cX7_laysBack 112 = .ok (.putfield 225, 3) := by decide +kernel
theorem dX7_laysBack_115 : decode cX7_laysBack 115 = .ok (.aload_n 0, 1) := by decide +kernel
theorem dX7_laysBack_116 : decode cX7_laysBack 116 = .ok (.aload_n 0, 1) := by decide +kernel
theorem dX7_laysBack_117 : decode cX7_laysBack 117 = .ok (.getfield 88, 3) := by decide +kernel
theorem dX7_laysBack_120 : decode cX7_laysBack 120 = .ok (.iload_n 1, 1) := by decide +kernel
theorem dX7_laysBack_121 : decode cX7_laysBack 121 = .ok (.aaload, 1) := by decide +kernel
theorem dX7_laysBack_122 : decode cX7_laysBack 122 = .ok (.iconst 2, 1) := by decide +kernel
theorem dX7_laysBack_123 : decode cX7_laysBack 123 = .ok (.iaload, 1) := by decide +kernel
theorem dX7_laysBack_124 : decode cX7_laysBack 124 = .ok (.putfield 228, 3) := by decide +kernel
theorem dX7_laysBack_127 : decode cX7_laysBack 127 = .ok (.aload_n 0, 1) := by decide +kernel
theorem dX7_laysBack_128 : decode cX7_laysBack 128 = .ok (.aload_n 0, 1) := by decide +kernel
theorem dX7_laysBack_129 : decode cX7_laysBack 129 = .ok (.getfield 88, 3) := by decide +kernel
theorem dX7_laysBack_132 : decode cX7_laysBack 132 = .ok (.iload_n 1, 1) := by decide +kernel
theorem dX7_laysBack_133 : decode cX7_laysBack 133 = .ok (.aaload, 1) := by decide +kernel
theorem dX7_laysBack_134 : decode cX7_laysBack 134 = .ok (.iconst 3, 1) := by decide +kernel
theorem dX7_laysBack_135 : decode cX7_laysBack 135 = .ok (.iaload, 1) := by decide +kernel
theorem dX7_laysBack_136 : decode cX7_laysBack 136 = .ok (.putfield 231, 3) := by decide +kernel
theorem dX7_laysBack_139 : decode cX7_laysBack 139 = .ok (.return_, 1) := by decide +kernel
theorem dX7_image_0 : decode cX7_image 0 = .ok (.aload_n 0, 1) := by decide +kernel
theorem dX7_image_1 : decode cX7_image 1 = .ok (.iconst 0, 1) := by decide +kernel
theorem dX7_image_2 : decode cX7_image 2 = .ok (.putfield 97, 3) := by decide +kernel
theorem dX7_image_5 : decode cX7_image 5 = .ok (.aload_n 0, 1) := by decide +kernel
theorem dX7_image_6 : decode cX7_image 6 = .ok (.getfield 365, 3) := by decide +kernel
theorem dX7_image_9 : decode cX7_image 9 = .ok (.iconst 3, 1) := by decide +kernel
theorem dX7_image_10 : decode cX7_image 10 = .ok (.if_icmp .ne 5, 3) := by decide +kernel
theorem dX7_image_13 : decode cX7_image 13 = .ok (.iconst (-1), 1) := by decide +kernel
theorem dX7_image_14 : decode cX7_image 14 = .ok (.ireturn, 1) := by decide +kernel
theorem dX7_image_15 : decode cX7_image 15 = .ok (.aload_n 0, 1) := by decide +kernel
theorem dX7_image_16 : decode cX7_image 16 = .ok (.getfield 365, 3) := by decide +kernel
theorem dX7_image_19 : decode cX7_image 19 = .ok (.istore_n 1, 1) := by decide +kernel
theorem dX7_image_20 : decode cX7_image 20 = .ok (.aload_n 0, 1) := by decide +kernel
theorem dX7_image_21 : decode cX7_image 21 = .ok (.iload_n 1, 1) := by decide +kernel
theorem dX7_image_22 : decode cX7_image 22 = .ok (.invokevirtual 352, 3) := by decide +kernel
theorem dX7_image_25 : decode cX7_image 25 = .ok (.aload_n 0, 1) := by decide +kernel
theorem dX7_image_26 : decode cX7_image 26 = .ok (.getfield 88, 3) := by decide +kernel
theorem dX7_image_29 : decode cX7_image 29 = .ok (.iload_n 1, 1) := by decide +kernel
theorem dX7_image_30 : decode cX7_image 30 = .ok (.aaload, 1) := by decide +kernel
theorem dX7_image_31 : decode cX7_image 31 = .ok (.astore_n 2, 1) := by decide +kernel
theorem dX7_image_32 : decode cX7_image 32 = .ok (.aload_n 2, 1) := by decide +kernel
theorem dX7_image_33 : decode cX7_image 33 = .ok (.iconst 4, 1) := by decide +kernel
theorem dX7_image_34 : decode cX7_image 34 = .ok (.aload_n 0, 1) := by decide +kernel
theorem dX7_image_35 : decode cX7_image 35 = .ok (.getfield 58, 3) := by decide +kernel
theorem dX7_image_38 : decode cX7_image 38 = .ok (.iastore, 1) := by decide +kernel
theorem dX7_image_39 : decode cX7_image 39 = .ok (.aload_n 2, 1) := by decide +kernel
theorem dX7_image_40 : decode cX7_image 40 = .ok (.iconst 5, 1) := by decide +kernel
theorem dX7_image_41 : decode cX7_image 41 = .ok (.aload_n 0, 1) := by decide +kernel
theorem dX7_image_42 : decode cX7_image 42 = .ok (.getfield 61, 3) := by decide +kernel
theorem dX7_image_45 : decode cX7_image 45 = .ok (.iastore, 1) := by decide +kernel
theorem dX7_image_46 : decode cX7_image 46 = .ok (.aload_n 2, 1) := by decide +kernel
theorem dX7_image_47 : decode cX7_image 47 = .ok (.bipush 6, 2) := by decide +kernel
theorem dX7_image_49 : decode cX7_image 49 = .ok (.aload_n 0, 1) := by decide +kernel
theorem dX7_image_50 : decode cX7_image 50 = .ok (.getfield 64, 3) := by decide +kernel
theorem dX7_image_53 : decode cX7_image 53 = .ok (.iastore, 1) := by decide +kernel
theorem dX7_image_54 : decode cX7_image 54 = .ok (.aload_n 2, 1) := by decide +kernel
theorem dX7_image_55 : decode cX7_image 55 = .ok (.bipush 7, 2) := by decide +kernel
theorem dX7_image_57 : decode cX7_image 57 = .ok (.aload_n 0, 1) := by decide +kernel
theorem dX7_image_58 : decode cX7_image 58 = .ok (.getfield 234, 3) := by decide +kernel
theorem dX7_image_61 : decode cX7_image 61 = .ok (.iastore, 1) := by decide +kernel
theorem dX7_image_62 : decode cX7_image 62 = .ok (.aload_n 2, 1) := by decide +kernel
theorem dX7_image_63 : decode cX7_image 63 = .ok (.bipush 8, 2) := by decide +kernel
theorem dX7_image_65 : decode cX7_image 65 = .ok (.aload_n 0, 1) := by decide +kernel
theorem dX7_image_66 : decode cX7_image 66 = .ok (.getfield 67, 3) := by decide +kernel
theorem dX7_image_69 : decode cX7_image 69 = .ok (.iastore, 1) := by decide +kernel
theorem dX7_image_70 : decode cX7_image 70 = .ok (.aload_n 2, 1) := by decide +kernel
theorem dX7_image_71 : decode cX7_image 71 = .ok (.bipush 9, 2) := by decide +kernel
theorem dX7_image_73 : decode cX7_image 73 = .ok (.bipush 100, 2) := by decide +kernel
theorem dX7_image_75 : decode cX7_image 75 = .ok (.aload_n 0, 1) := by decide +kernel
theorem dX7_image_76 : decode cX7_image 76 = .ok (.getfield 313, 3) := by decide +kernel
theorem dX7_image_79 : decode cX7_image 79 = .ok (.imul, 1) := by decide +kernel
theorem dX7_image_80 : decode cX7_image 80 = .ok (.aload_n 0, 1) := by decide +kernel
theorem dX7_image_81 : decode cX7_image 81 = .ok (.getfield 256, 3) := by decide +kernel
theorem dX7_image_84 : decode cX7_image 84 = .ok (.iadd, 1) := by decide +kernel
theorem dX7_image_85 : decode cX7_image 85 = .ok (.iastore, 1) := by decide +kernel
theorem dX7_image_86 : decode cX7_image 86 = .ok (.aload_n 2, 1) := by decide +kernel
theorem dX7_image_87 : decode cX7_image 87 = .ok (.bipush 10, 2) := by decide +kernel
theorem dX7_image_89 : decode cX7_image 89 = .ok (.aload_n 0, 1) := by decide +kernel
theorem dX7_image_90 : decode cX7_image 90 = .ok (.getfield 27, 3) := by decide +kernel
theorem dX7_image_93 : decode cX7_image 93 = .ok (.iastore, 1) := by decide +kernel
theorem dX7_image_94 : decode cX7_image 94 = .ok (.iconst 0, 1) := by decide +kernel
theorem dX7_image_95 : decode cX7_image 95 = .ok (.istore_n 3, 1) := by decide +kernel
theorem dX7_image_96 : decode cX7_image 96 = .ok (.iload_n 3, 1) := by decide +kernel
theorem dX7_image_97 : decode cX7_image 97 = .ok (.bipush 24, 2) := by decide +kernel
theorem dX7_image_99 : decode cX7_image 99 = .ok (.if_icmp .ge 105, 3) := by decide +kernel
theorem dX7_image_102 : decode cX7_image 102 = .ok (.aload_n 0, 1) := by decide +kernel
theorem dX7_image_103 : decode cX7_image 103 = .ok (.getfield 91, 3) := by decide +kernel
theorem dX7_image_106 : decode cX7_image 106 = .ok (.iconst 5, 1) := by decide +kernel
theorem dX7_image_107 : decode cX7_image 107 = .ok (.iload_n 1, 1) := by decide +kernel
theorem dX7_image_108 : decode cX7_image 108 = .ok (.imul, 1) := by decide +kernel
theorem dX7_image_109 : decode cX7_image 109 = .ok (.aaload, 1) := by decide +kernel
theorem dX7_image_110 : decode cX7_image 110 = .ok (.iload_n 3, 1) := by decide +kernel
theorem dX7_image_111 : decode cX7_image 111 = .ok (.aload_n 0, 1) := by decide +kernel
theorem dX7_image_112 : decode cX7_image 112 = .ok (.getfield 33, 3) := by decide +kernel
theorem dX7_image_115 : decode cX7_image 115 = .ok (.iload_n 3, 1) := by decide +kernel
theorem dX7_image_116 : decode cX7_image 116 = .ok (.iaload, 1) := by decide +kernel
theorem dX7_image_117 : decode cX7_image 117 = .ok (.iastore, 1) := by decide +kernel
theorem dX7_image_118 : decode cX7_image 118 = .ok (.aload_n 0, 1) := by decide +kernel
theorem dX7_image_119 : decode cX7_image 119 = .ok (.getfield 91, 3) := by decide +kernel
theorem dX7_image_122 : decode cX7_image 122 = .ok (.iconst 5, 1) := by decide +kernel
theorem dX7_image_123 : decode cX7_image 123 = .ok (.iload_n 1, 1) := by decide +kernel
theorem dX7_image_124 : decode cX7_image 124 = .ok (.imul, 1) := by decide +kernel
theorem dX7_image_125 : decode cX7_image 125 = .ok (.iconst 1, 1) := by decide +kernel
theorem dX7_image_126 : decode cX7_image 126 = .ok (.iadd, 1) := by decide +kernel
theorem dX7_image_127 : decode cX7_image 127 = .ok (.aaload, 1) := by decide +kernel
theorem dX7_image_128 : decode cX7_image 128 = .ok (.iload_n 3, 1) := by decide +kernel
theorem dX7_image_129 : decode cX7_image 129 = .ok (.aload_n 0, 1) := by decide +kernel
theorem dX7_image_130 : decode cX7_image 130 = .ok (.getfield 36, 3) := by decide +kernel
theorem dX7_image_133 : decode cX7_image 133 = .ok (.iload_n 3, 1) := by decide +kernel
theorem dX7_image_134 : decode cX7_image 134 = .ok (.iaload, 1) := by decide +kernel
theorem dX7_image_135 : decode cX7_image 135 = .ok (.iastore, 1) := by decide +kernel
theorem dX7_image_136 : decode cX7_image 136 = .ok (.aload_n 0, 1) := by decide +kernel
theorem dX7_image_137 : decode cX7_image 137 = .ok (.getfield 91, 3) := by decide +kernel
theorem dX7_image_140 : decode cX7_image 140 = .ok (.iconst 5, 1) := by decide +kernel
theorem dX7_image_141 : decode cX7_image 141 = .ok (.iload_n 1, 1) := by decide +kernel
theorem dX7_image_142 : decode cX7_image 142 = .ok (.imul, 1) := by decide +kernel
theorem dX7_image_143 : decode cX7_image 143 = .ok (.iconst 2, 1) := by decide +kernel
theorem dX7_image_144 : decode cX7_image 144 = .ok (.iadd, 1) := by decide +kernel
theorem dX7_image_145 : decode cX7_image 145 = .ok (.aaload, 1) := by decide +kernel
theorem dX7_image_146 : decode cX7_image 146 = .ok (.iload_n 3, 1) := by decide +kernel
theorem dX7_image_147 : decode cX7_image 147 = .ok (.aload_n 0, 1) := by decide +kernel
theorem dX7_image_148 : decode cX7_image 148 = .ok (.getfield 39, 3) := by decide +kernel
theorem dX7_image_151 : decode cX7_image 151 = .ok (.iload_n 3, 1) := by decide +kernel
theorem dX7_image_152 : decode cX7_image 152 = .ok (.iaload, 1) := by decide +kernel
theorem dX7_image_153 : decode cX7_image 153 = .ok (.iastore, 1) := by decide +kernel
theorem dX7_image_154 : decode cX7_image 154 = .ok (.aload_n 0, 1) := by decide +kernel
theorem dX7_image_155 : decode cX7_image 155 = .ok (.getfield 91, 3) := by decide +kernel
theorem dX7_image_158 : decode cX7_image 158 = .ok (.iconst 5, 1) := by decide +kernel
theorem dX7_image_159 : decode cX7_image 159 = .ok (.iload_n 1, 1) := by decide +kernel
theorem dX7_image_160 : decode cX7_image 160 = .ok (.imul, 1) := by decide +kernel
theorem dX7_image_161 : decode cX7_image 161 = .ok (.iconst 3, 1) := by decide +kernel
theorem dX7_image_162 : decode cX7_image 162 = .ok (.iadd, 1) := by decide +kernel
theorem dX7_image_163 : decode cX7_image 163 = .ok (.aaload, 1) := by decide +kernel
theorem dX7_image_164 : decode cX7_image 164 = .ok (.iload_n 3, 1) := by decide +kernel
theorem dX7_image_165 : decode cX7_image 165 = .ok (.aload_n 0, 1) := by decide +kernel
theorem dX7_image_166 : decode cX7_image 166 = .ok (.getfield 42, 3) := by decide +kernel
theorem dX7_image_169 : decode cX7_image 169 = .ok (.iload_n 3, 1) := by decide +kernel
theorem dX7_image_170 : decode cX7_image 170 = .ok (.iaload, 1) := by decide +kernel
theorem dX7_image_171 : decode cX7_image 171 = .ok (.iastore, 1) := by decide +kernel
theorem dX7_image_172 : decode cX7_image 172 = .ok (.aload_n 0, 1) := by decide +kernel
theorem dX7_image_173 : decode cX7_image 173 = .ok (.getfield 91, 3) := by decide +kernel
theorem dX7_image_176 : decode cX7_image 176 = .ok (.iconst 5, 1) := by decide +kernel
theorem dX7_image_177 : decode cX7_image 177 = .ok (.iload_n 1, 1) := by decide +kernel
theorem dX7_image_178 : decode cX7_image 178 = .ok (.imul, 1) := by decide +kernel
theorem dX7_image_179 : decode cX7_image 179 = .ok (.iconst 4, 1) := by decide +kernel
theorem dX7_image_180 : decode cX7_image 180 = .ok (.iadd, 1) := by decide +kernel
theorem dX7_image_181 : decode cX7_image 181 = .ok (.aaload, 1) := by decide +kernel
theorem dX7_image_182 : decode cX7_image 182 = .ok (.iload_n 3, 1) := by decide +kernel
theorem dX7_image_183 : decode cX7_image 183 = .ok (.aload_n 0, 1) := by decide +kernel
theorem dX7_image_184 : decode cX7_image 184 = .ok (.getfield 48, 3) := by decide +kernel
theorem dX7_image_187 : decode cX7_image 187 = .ok (.iload_n 3, 1) := by decide +kernel
theorem dX7_image_188 : decode cX7_image 188 = .ok (.baload, 1) := by decide +kernel
theorem dX7_image_189 : decode cX7_image 189 = .ok (.ifCond .eq 7, 3) := by decide +kernel
theorem dX7_image_192 : decode cX7_image 192 = .ok (.iconst 1, 1) := by decide +kernel
theorem dX7_image_193 : decode cX7_image 193 = .ok (.goto 4, 3) := by decide +kernel
theorem dX7_image_196 : decode cX7_image 196 = .ok (.iconst 0, 1) := by decide +kernel
theorem dX7_image_197 : decode cX7_image 197 = .ok (.iastore, 1) := by decide +kernel
theorem dX7_image_198 : decode cX7_image 198 = .ok (.iinc 3 1, 3) := by decide +kernel
theorem dX7_image_201 : decode cX7_image 201 = .ok (.goto (-105), 3) := by decide +kernel
theorem dX7_image_204 : decode cX7_image 204 = .ok (.iconst 0, 1) := by decide +kernel
theorem dX7_image_205 : decode cX7_image 205 = .ok (.istore_n 3, 1) := by decide +kernel
theorem dX7_image_206 : decode cX7_image 206 = .ok (.iload_n 3, 1) := by decide +kernel
theorem dX7_image_207 : decode cX7_image 207 = .ok (.aload_n 0, 1) := by decide +kernel
theorem dX7_image_208 : decode cX7_image 208 = .ok (.getfield 313, 3) := by decide +kernel
theorem dX7_image_211 : decode cX7_image 211 = .ok (.if_icmp .ge 49, 3) := by decide +kernel
theorem dX7_image_214 : decode cX7_image 214 = .ok (.iconst 0, 1) := by decide +kernel
theorem dX7_image_215 : decode cX7_image 215 = .ok (.istore 4, 2) := by decide +kernel
theorem dX7_image_217 : decode cX7_image 217 = .ok (.iload 4, 2) := by decide +kernel
theorem dX7_image_219 : decode cX7_image 219 = .ok (.bipush 14, 2) := by decide +kernel
theorem dX7_image_221 : decode cX7_image 221 = .ok (.if_icmp .ge 33, 3) := by decide +kernel
theorem dX7_image_224 : decode cX7_image 224 = .ok (.aload_n 0, 1) := by decide +kernel
theorem dX7_image_225 : decode cX7_image 225 = .ok (.getfield 94, 3) := by decide +kernel
theorem dX7_image_228 : decode cX7_image 228 = .ok (.sipush 200, 3) := by decide +kernel
theorem dX7_image_231 : decode cX7_image 231 = .ok (.iload_n 1, 1) := by decide +kernel
theorem dX7_image_232 : decode cX7_image 232 = .ok (.imul, 1) := by decide +kernel
theorem dX7_image_233 : decode cX7_image 233 = .ok (.iload_n 3, 1) := by decide +kernel
theorem dX7_image_234 : decode cX7_image 234 = .ok (.iadd, 1) := by decide +kernel
theorem dX7_image_235 : decode cX7_image 235 = .ok (.aaload, 1) := by decide +kernel
theorem dX7_image_236 : decode cX7_image 236 = .ok (.iload 4, 2) := by decide +kernel
theorem dX7_image_238 : decode cX7_image 238 = .ok (.aload_n 0, 1) := by decide +kernel
theorem dX7_image_239 : decode cX7_image 239 = .ok (.getfield 73, 3) := by decide +kernel
theorem dX7_image_242 : decode cX7_image 242 = .ok (.iload_n 3, 1) := by decide +kernel
theorem dX7_image_243 : decode cX7_image 243 = .ok (.aaload, 1) := by decide +kernel
theorem dX7_image_244 : decode cX7_image 244 = .ok (.iload 4, 2) := by decide +kernel
theorem dX7_image_246 : decode cX7_image 246 = .ok (.iaload, 1) := by decide +kernel
theorem dX7_image_247 : decode cX7_image 247 = .ok (.iastore, 1) := by decide +kernel
theorem dX7_image_248 : decode cX7_image 248 = .ok (.iinc 4 1, 3) := by decide +kernel
theorem dX7_image_251 : decode cX7_image 251 = .ok (.goto (-34), 3) := by decide +kernel
theorem dX7_image_254 : decode cX7_image 254 = .ok (.iinc 3 1, 3) := by decide +kernel
theorem dX7_image_257 : decode cX7_image 257 = .ok (.goto (-51), 3) := by decide +kernel
theorem dX7_image_260 : decode cX7_image 260 = .ok (.aload_n 0, 1) := by decide +kernel
theorem dX7_image_261 : decode cX7_image 261 = .ok (.dup, 1) := by decide +kernel
theorem dX7_image_262 : decode cX7_image 262 = .ok (.getfield 365, 3) := by decide +kernel
theorem dX7_image_265 : decode cX7_image 265 = .ok (.iconst 1, 1) := by decide +kernel
theorem dX7_image_266 : decode cX7_image 266 = .ok (.iadd, 1) := by decide +kernel
theorem dX7_image_267 : decode cX7_image 267 = .ok (.putfield 365, 3) := by decide +kernel
theorem dX7_image_270 : decode cX7_image 270 = .ok (.aload_n 0, 1) := by decide +kernel
theorem dX7_image_271 : decode cX7_image 271 = .ok (.getfield 365, 3) := by decide +kernel
theorem dX7_image_274 : decode cX7_image 274 = .ok (.ireturn, 1) := by decide +kernel
set_option maxHeartbeats 4000000 in
set_option maxRecDepth 100000 in
theorem c_X7_lays3 (l : Launch) (D : va_G) (K : Nat → ClassId) (b0 : Nat) (sa : Nat × Nat × Nat) (sz : Nat) (L : List Nat) (f0 : Nat → va_E) (Ψ : Nat → Nat) (hT : TW K (gof gM1) Ψ L f0) (m_ : Nat) (hm_m_ : m_ ∈ L) (ht_m_ : Ψ m_ = 7) : Met l yX7_lays (.code yX7_lays cX7_lays 4 none :: gt) { frames := 0, cells := 0, slots := 0, locals := 0 } (va_Pc [.ref m_, .int 3] (hPre D K b0 sa sz L f0)) (hQ D K b0 (fun v9 u9 => ∃ f2 : Nat → va_E, v9 = none ∧ u9 = ((gof gM1), Ψ, L, f2) ∧ TW K (gof gM1) Ψ L f2 ∧ rawk Ψ L f0 f2)) 0 0 (fun q => b0 ≤ q) := by
  refine t_of (own := RX7) (by decide) rfl ?_ (Nat.le_of_ble_eq_true rfl)
  intro p e s m below meth c ls C w hsz hr hlk hnm hl
  have hx := C.1
  have hb := C.2.1
  have hl : lv_has ls 4 [(0, .ref m_), (1, .int 3)] := hl
  have hR : rawk Ψ L f0 f0 := rawk.rf
  refine lv_iconst (v := 0) hx hb dX7_lays_0 (by decide) ?_
  refine lv_istore_n (lv' := [(2, .int 0), (0, .ref m_), (1, .int 3)]) hx hb dX7_lays_1 rfl hl (by decide) rfl (fun ls hl => ?_)
  have loop1 : ∀ (n i1 : Nat), i1 ≤ 64 → 64 - i1 < n → ∀ (f : Nat → va_E) (H : Heap) (locs : List Loc), Wh D K b0 sa s H locs L f → TW K (gof gM1) Ψ L f → rawk Ψ L f0 f → ∀ ls : Array Slot, lv_has ls 4 [(2, .int (nI i1)), (0, .ref m_), (1, .int 3)] → W p l e { frames := 0, cells := 0, slots := 0, locals := 0 } s m [.ref m_, .int 3].toArray below meth c H locs 0 0 (MQ below (hQ D K b0 (fun v9 u9 => ∃ f2 : Nat → va_E, v9 = none ∧ u9 = ((gof gM1), Ψ, L, f2) ∧ TW K (gof gM1) Ψ L f2 ∧ rawk Ψ L f0 f2)) [.ref m_, .int 3].toArray s 0 0 (fun q => b0 ≤ q)) (F0 m 2 ls []) := by
    intro n
    induction n with
    | zero => intro i1 h1 h2; exact absurd h2 (Nat.not_lt_zero _)
    | succ n ih1 =>
      intro i1 hi1 hn1 f H locs w hT hR ls hl
      have ti1 : (nI i1).toInt = (i1 : Int) := nI_toInt (by omega)
      refine lv_iload_n hx hb dX7_lays_2 rfl (lv_at hl 0 rfl) ?_
      refine lv_bipush (v := 64) hx hb dX7_lays_3 (by decide) ?_
      have n64 : (64 : Int32).toInt = 64 := by decide
      refine lv_icmp_ge (tgt := 63) hx hb dX7_lays_5 (by decide) (fun c2 => ?_) (fun c2 => ?_)
      · have c2 := le_toInt c2
        refine lv_iconst (v := 0) hx hb dX7_lays_63 (by decide) ?_
        refine lv_istore_n (lv' := [(2, .int 0), (0, .ref m_), (1, .int 3)]) hx hb dX7_lays_64 rfl hl (by decide) rfl (fun ls hl => ?_)
        have loop3 : ∀ (n i3 : Nat), i3 ≤ 24 → 24 - i3 < n → ∀ (f : Nat → va_E) (H : Heap) (locs : List Loc), Wh D K b0 sa s H locs L f → TW K (gof gM1) Ψ L f → rawk Ψ L f0 f → ∀ ls : Array Slot, lv_has ls 4 [(2, .int (nI i3)), (0, .ref m_), (1, .int 3)] → W p l e { frames := 0, cells := 0, slots := 0, locals := 0 } s m [.ref m_, .int 3].toArray below meth c H locs 0 0 (MQ below (hQ D K b0 (fun v9 u9 => ∃ f2 : Nat → va_E, v9 = none ∧ u9 = ((gof gM1), Ψ, L, f2) ∧ TW K (gof gM1) Ψ L f2 ∧ rawk Ψ L f0 f2)) [.ref m_, .int 3].toArray s 0 0 (fun q => b0 ≤ q)) (F0 m 65 ls []) := by
          intro n
          induction n with
          | zero => intro i3 h1 h2; exact absurd h2 (Nat.not_lt_zero _)
          | succ n ih3 =>
            intro i3 hi3 hn3 f H locs w hT hR ls hl
            have ti3 : (nI i3).toInt = (i3 : Int) := nI_toInt (by omega)
            refine lv_iload_n hx hb dX7_lays_65 rfl (lv_at hl 0 rfl) ?_
            refine lv_bipush (v := 24) hx hb dX7_lays_66 (by decide) ?_
            have n24 : (24 : Int32).toInt = 24 := by decide
            refine lv_icmp_ge (tgt := 91) hx hb dX7_lays_68 (by decide) (fun c4 => ?_) (fun c4 => ?_)
            · have c4 := le_toInt c4
              refine lv_aload_n hx hb dX7_lays_91 rfl (lv_at hl 1 rfl) ?_
              refine t_getr C w hT hm_m_ ht_m_ (by decide) rfl cin_7 53 (by decide) rfl gw_1209 dX7_lays_92 (fun q5 hm_q5 ht_q5 => ?_)
              refine lv_iload_n hx hb dX7_lays_95 rfl (lv_at hl 2 rfl) ?_
              refine t_aald C w hT hm_q5 ht_q5 (by decide) rfl rfl (vp_in_iff.mpr ⟨by decide, by decide⟩) rfl dX7_lays_96 (fun q6 hm_q6 ht_q6 => ?_)
              refine lv_iconst (v := 0) hx hb dX7_lays_97 (by decide) ?_
              refine lv_aload_n hx hb dX7_lays_98 rfl (lv_at hl 1 rfl) ?_
              refine t_geti C w hT hm_m_ ht_m_ (by decide) rfl cin_7 35 (by decide) rfl rfl gw_1191 dX7_lays_99 (fun x7 hg => ?_)
              refine t_iast C w hT hm_q6 ht_q6 (by decide) (by decide) rfl (vp_in_iff.mpr ⟨by decide, by decide⟩) (gof_no rfl) dX7_lays_102 (fun f H locs w hT hR1 => ?_)
              have hR := hR.tr hR1
              refine lv_aload_n hx hb dX7_lays_103 rfl (lv_at hl 1 rfl) ?_
              refine t_getr C w hT hm_m_ ht_m_ (by decide) rfl cin_7 53 (by decide) rfl gw_1209 dX7_lays_104 (fun q8 hm_q8 ht_q8 => ?_)
              refine lv_iload_n hx hb dX7_lays_107 rfl (lv_at hl 2 rfl) ?_
              refine t_aald C w hT hm_q8 ht_q8 (by decide) rfl rfl (vp_in_iff.mpr ⟨by decide, by decide⟩) rfl dX7_lays_108 (fun q9 hm_q9 ht_q9 => ?_)
              refine lv_iconst (v := 1) hx hb dX7_lays_109 (by decide) ?_
              refine lv_aload_n hx hb dX7_lays_110 rfl (lv_at hl 1 rfl) ?_
              refine t_geti C w hT hm_m_ ht_m_ (by decide) rfl cin_7 36 (by decide) rfl rfl gw_1192 dX7_lays_111 (fun x10 hg => ?_)
              refine t_iast C w hT hm_q9 ht_q9 (by decide) (by decide) rfl (vp_in_iff.mpr ⟨by decide, by decide⟩) (gof_no rfl) dX7_lays_114 (fun f H locs w hT hR1 => ?_)
              have hR := hR.tr hR1
              refine lv_aload_n hx hb dX7_lays_115 rfl (lv_at hl 1 rfl) ?_
              refine t_getr C w hT hm_m_ ht_m_ (by decide) rfl cin_7 53 (by decide) rfl gw_1209 dX7_lays_116 (fun q11 hm_q11 ht_q11 => ?_)
              refine lv_iload_n hx hb dX7_lays_119 rfl (lv_at hl 2 rfl) ?_
              refine t_aald C w hT hm_q11 ht_q11 (by decide) rfl rfl (vp_in_iff.mpr ⟨by decide, by decide⟩) rfl dX7_lays_120 (fun q12 hm_q12 ht_q12 => ?_)
              refine lv_iconst (v := 2) hx hb dX7_lays_121 (by decide) ?_
              refine lv_aload_n hx hb dX7_lays_122 rfl (lv_at hl 1 rfl) ?_
              refine t_geti C w hT hm_m_ ht_m_ (by decide) rfl cin_7 37 (by decide) rfl rfl gw_1193 dX7_lays_123 (fun x13 hg => ?_)
              refine t_iast C w hT hm_q12 ht_q12 (by decide) (by decide) rfl (vp_in_iff.mpr ⟨by decide, by decide⟩) (gof_no rfl) dX7_lays_126 (fun f H locs w hT hR1 => ?_)
              have hR := hR.tr hR1
              refine lv_aload_n hx hb dX7_lays_127 rfl (lv_at hl 1 rfl) ?_
              refine t_getr C w hT hm_m_ ht_m_ (by decide) rfl cin_7 53 (by decide) rfl gw_1209 dX7_lays_128 (fun q14 hm_q14 ht_q14 => ?_)
              refine lv_iload_n hx hb dX7_lays_131 rfl (lv_at hl 2 rfl) ?_
              refine t_aald C w hT hm_q14 ht_q14 (by decide) rfl rfl (vp_in_iff.mpr ⟨by decide, by decide⟩) rfl dX7_lays_132 (fun q15 hm_q15 ht_q15 => ?_)
              refine lv_iconst (v := 3) hx hb dX7_lays_133 (by decide) ?_
              refine lv_aload_n hx hb dX7_lays_134 rfl (lv_at hl 1 rfl) ?_
              refine t_geti C w hT hm_m_ ht_m_ (by decide) rfl cin_7 38 (by decide) rfl rfl gw_1194 dX7_lays_135 (fun x16 hg => ?_)
              refine t_iast C w hT hm_q15 ht_q15 (by decide) (by decide) rfl (vp_in_iff.mpr ⟨by decide, by decide⟩) (gof_no rfl) dX7_lays_138 (fun f H locs w hT hR1 => ?_)
              have hR := hR.tr hR1
              exact t_vret C hr hlk w ⟨_, rfl, rfl, hT, hR⟩ (by decide) (by decide) dX7_lays_139
            · have c4 := nle_toInt c4
              refine lv_aload_n hx hb dX7_lays_71 rfl (lv_at hl 1 rfl) ?_
              refine t_getr C w hT hm_m_ ht_m_ (by decide) rfl cin_7 52 (by decide) rfl gw_1208 dX7_lays_72 (fun q17 hm_q17 ht_q17 => ?_)
              refine lv_iload_n hx hb dX7_lays_75 rfl (lv_at hl 2 rfl) ?_
              refine t_aald C w hT hm_q17 ht_q17 (by decide) rfl rfl (vp_in_iff.mpr ⟨by decide, by decide⟩) rfl dX7_lays_76 (fun q18 hm_q18 ht_q18 => ?_)
              refine lv_iload_n hx hb dX7_lays_77 rfl (lv_at hl 0 rfl) ?_
              refine lv_aload_n hx hb dX7_lays_78 rfl (lv_at hl 1 rfl) ?_
              refine t_getr C w hT hm_m_ ht_m_ (by decide) rfl cin_7 26 (by decide) rfl gw_1182 dX7_lays_79 (fun q19 hm_q19 ht_q19 => ?_)
              refine lv_iload_n hx hb dX7_lays_82 rfl (lv_at hl 0 rfl) ?_
              refine t_iald C w hT hm_q19 ht_q19 (by decide) (by decide) rfl (vp_in_iff.mpr ⟨by omega, (show _ < ((24 : Nat) : Int) by omega)⟩) dX7_lays_83 (fun x20 hg => ?_)
              refine t_iast C w hT hm_q18 ht_q18 (by decide) (by decide) rfl (vp_in_iff.mpr ⟨by omega, (show _ < ((24 : Nat) : Int) by omega)⟩) (gof_no rfl) dX7_lays_84 (fun f H locs w hT hR1 => ?_)
              have hR := hR.tr hR1
              refine lv_iinc (v := (nI (i3 + 1))) (lv' := [(2, .int (nI (i3 + 1))), (0, .ref m_), (1, .int 3)]) hx hb dX7_lays_85 hl (k := 0) rfl (by exact nI_1 i3) (by decide) rfl (fun ls hl => ?_)
              refine lv_goto (tgt := 65) hx hb dX7_lays_88 (by decide) ?_
              exact ih3 (i3 + 1) (by omega) (by omega) _ _ _ w hT hR ls (lv_sub hl [0, 1, 2] rfl)
        exact loop3 25 0 (by decide) (by decide) _ _ _ w hT hR ls hl
      · have c2 := nle_toInt c2
        refine lv_iconst (v := 0) hx hb dX7_lays_8 (by decide) ?_
        refine lv_istore_n (lv' := [(3, .int 0), (2, .int (nI i1)), (0, .ref m_), (1, .int 3)]) hx hb dX7_lays_9 rfl hl (by decide) rfl (fun ls hl => ?_)
        have loop21 : ∀ (n i21 : Nat), i21 ≤ 24 → 24 - i21 < n → ∀ (f : Nat → va_E) (H : Heap) (locs : List Loc), Wh D K b0 sa s H locs L f → TW K (gof gM1) Ψ L f → rawk Ψ L f0 f → ∀ ls : Array Slot, lv_has ls 4 [(3, .int (nI i21)), (2, .int (nI i1)), (0, .ref m_), (1, .int 3)] → W p l e { frames := 0, cells := 0, slots := 0, locals := 0 } s m [.ref m_, .int 3].toArray below meth c H locs 0 0 (MQ below (hQ D K b0 (fun v9 u9 => ∃ f2 : Nat → va_E, v9 = none ∧ u9 = ((gof gM1), Ψ, L, f2) ∧ TW K (gof gM1) Ψ L f2 ∧ rawk Ψ L f0 f2)) [.ref m_, .int 3].toArray s 0 0 (fun q => b0 ≤ q)) (F0 m 10 ls []) := by
          intro n
          induction n with
          | zero => intro i21 h1 h2; exact absurd h2 (Nat.not_lt_zero _)
          | succ n ih21 =>
            intro i21 hi21 hn21 f H locs w hT hR ls hl
            have ti21 : (nI i21).toInt = (i21 : Int) := nI_toInt (by omega)
            refine lv_iload_n hx hb dX7_lays_10 rfl (lv_at hl 0 rfl) ?_
            refine lv_bipush (v := 24) hx hb dX7_lays_11 (by decide) ?_
            have n24 : (24 : Int32).toInt = 24 := by decide
            refine lv_icmp_ge (tgt := 43) hx hb dX7_lays_13 (by decide) (fun c22 => ?_) (fun c22 => ?_)
            · have c22 := le_toInt c22
              refine lv_aload_n hx hb dX7_lays_43 rfl (lv_at hl 2 rfl) ?_
              refine t_getr C w hT hm_m_ ht_m_ (by decide) rfl cin_7 51 (by decide) rfl gw_1207 dX7_lays_44 (fun q23 hm_q23 ht_q23 => ?_)
              refine lv_iload_n hx hb dX7_lays_47 rfl (lv_at hl 3 rfl) ?_
              refine t_aald C w hT hm_q23 ht_q23 (by decide) rfl rfl (vp_in_iff.mpr ⟨by decide, by decide⟩) rfl dX7_lays_48 (fun q24 hm_q24 ht_q24 => ?_)
              refine lv_iload_n hx hb dX7_lays_49 rfl (lv_at hl 1 rfl) ?_
              refine lv_aload_n hx hb dX7_lays_50 rfl (lv_at hl 2 rfl) ?_
              refine t_getr C w hT hm_m_ ht_m_ (by decide) rfl cin_7 29 (by decide) rfl gw_1185 dX7_lays_51 (fun q25 hm_q25 ht_q25 => ?_)
              refine lv_iload_n hx hb dX7_lays_54 rfl (lv_at hl 1 rfl) ?_
              refine t_iald C w hT hm_q25 ht_q25 (by decide) (by decide) rfl (vp_in_iff.mpr ⟨by omega, (show _ < ((64 : Nat) : Int) by omega)⟩) dX7_lays_55 (fun x26 hg => ?_)
              obtain rfl : x26 = 0 := gof_at rfl hg
              refine t_iast C w hT hm_q24 ht_q24 (by decide) (by decide) rfl (vp_in_iff.mpr ⟨by omega, (show _ < ((64 : Nat) : Int) by omega)⟩) (gof_is rfl) dX7_lays_56 (fun f H locs w hT hR1 => ?_)
              have hR := hR.tr hR1
              refine lv_iinc (v := (nI (i1 + 1))) (lv' := [(2, .int (nI (i1 + 1))), (3, .int (nI i21)), (0, .ref m_), (1, .int 3)]) hx hb dX7_lays_57 hl (k := 1) rfl (by exact nI_1 i1) (by decide) rfl (fun ls hl => ?_)
              refine lv_goto (tgt := 2) hx hb dX7_lays_60 (by decide) ?_
              exact ih1 (i1 + 1) (by omega) (by omega) _ _ _ w hT hR ls (lv_sub hl [0, 2, 3] rfl)
            · have c22 := nle_toInt c22
              refine lv_aload_n hx hb dX7_lays_16 rfl (lv_at hl 2 rfl) ?_
              refine t_getr C w hT hm_m_ ht_m_ (by decide) rfl cin_7 50 (by decide) rfl gw_1206 dX7_lays_17 (fun q27 hm_q27 ht_q27 => ?_)
              refine lv_bipush (v := 64) hx hb dX7_lays_20 (by decide) ?_
              refine lv_iload_n hx hb dX7_lays_22 rfl (lv_at hl 3 rfl) ?_
              refine lv_imul hx hb dX7_lays_23 ?_
              refine lv_topi (fun y28 ey28 => ?_)
              obtain rfl : y28 = 192 := ey28.trans (by decide)
              refine lv_iload_n hx hb dX7_lays_24 rfl (lv_at hl 1 rfl) ?_
              refine lv_iadd hx hb dX7_lays_25 ?_
              refine lv_topi (fun y29 ey29 => ?_)
              have n192 : (192 : Int32).toInt = 192 := by decide
              have ty29 : y29.toInt = (192 : Int32).toInt + ((nI i1) : Int32).toInt := by rw [ey29]; exact ti_add (by omega) (by omega)
              refine t_aald C w hT hm_q27 ht_q27 (by decide) rfl rfl (vp_in_iff.mpr ⟨by omega, (show _ < ((256 : Nat) : Int) by omega)⟩) rfl dX7_lays_26 (fun q30 hm_q30 ht_q30 => ?_)
              refine lv_iload_n hx hb dX7_lays_27 rfl (lv_at hl 0 rfl) ?_
              refine lv_aload_n hx hb dX7_lays_28 rfl (lv_at hl 2 rfl) ?_
              refine t_getr C w hT hm_m_ ht_m_ (by decide) rfl cin_7 28 (by decide) rfl gw_1184 dX7_lays_29 (fun q31 hm_q31 ht_q31 => ?_)
              refine lv_iload_n hx hb dX7_lays_32 rfl (lv_at hl 1 rfl) ?_
              refine t_aald C w hT hm_q31 ht_q31 (by decide) rfl rfl (vp_in_iff.mpr ⟨by omega, (show _ < ((64 : Nat) : Int) by omega)⟩) rfl dX7_lays_33 (fun q32 hm_q32 ht_q32 => ?_)
              refine lv_iload_n hx hb dX7_lays_34 rfl (lv_at hl 0 rfl) ?_
              refine t_iald C w hT hm_q32 ht_q32 (by decide) (by decide) rfl (vp_in_iff.mpr ⟨by omega, (show _ < ((24 : Nat) : Int) by omega)⟩) dX7_lays_35 (fun x33 hg => ?_)
              refine t_iast C w hT hm_q30 ht_q30 (by decide) (by decide) rfl (vp_in_iff.mpr ⟨by omega, (show _ < ((24 : Nat) : Int) by omega)⟩) (gof_no rfl) dX7_lays_36 (fun f H locs w hT hR1 => ?_)
              have hR := hR.tr hR1
              refine lv_iinc (v := (nI (i21 + 1))) (lv' := [(3, .int (nI (i21 + 1))), (2, .int (nI i1)), (0, .ref m_), (1, .int 3)]) hx hb dX7_lays_37 hl (k := 0) rfl (by exact nI_1 i21) (by decide) rfl (fun ls hl => ?_)
              refine lv_goto (tgt := 10) hx hb dX7_lays_40 (by decide) ?_
              exact ih21 (i21 + 1) (by omega) (by omega) _ _ _ w hT hR ls (lv_sub hl [0, 1, 2, 3] rfl)
        exact loop21 25 0 (by decide) (by decide) _ _ _ w hT hR ls hl
  exact loop1 65 0 (by decide) (by decide) _ _ _ w hT hR ls hl
set_option maxHeartbeats 4000000 in
set_option maxRecDepth 100000 in
theorem c_X7_lays0 (l : Launch) (D : va_G) (K : Nat → ClassId) (b0 : Nat) (sa : Nat × Nat × Nat) (sz : Nat) (L : List Nat) (f0 : Nat → va_E) (Ψ : Nat → Nat) (hT : TW K (gof gM1) Ψ L f0) (m_ : Nat) (hm_m_ : m_ ∈ L) (ht_m_ : Ψ m_ = 7) : Met l yX7_lays (.code yX7_lays cX7_lays 4 none :: gt) { frames := 0, cells := 0, slots := 0, locals := 0 } (va_Pc [.ref m_, .int 0] (hPre D K b0 sa sz L f0)) (hQ D K b0 (fun v9 u9 => ∃ f2 : Nat → va_E, v9 = none ∧ u9 = ((gof gM1), Ψ, L, f2) ∧ TW K (gof gM1) Ψ L f2 ∧ rawk Ψ L f0 f2)) 0 0 (fun q => b0 ≤ q) := by
  refine t_of (own := RX7) (by decide) rfl ?_ (Nat.le_of_ble_eq_true rfl)
  intro p e s m below meth c ls C w hsz hr hlk hnm hl
  have hx := C.1
  have hb := C.2.1
  have hl : lv_has ls 4 [(0, .ref m_), (1, .int 0)] := hl
  have hR : rawk Ψ L f0 f0 := rawk.rf
  refine lv_iconst (v := 0) hx hb dX7_lays_0 (by decide) ?_
  refine lv_istore_n (lv' := [(2, .int 0), (0, .ref m_), (1, .int 0)]) hx hb dX7_lays_1 rfl hl (by decide) rfl (fun ls hl => ?_)
  have loop1 : ∀ (n i1 : Nat), i1 ≤ 64 → 64 - i1 < n → ∀ (f : Nat → va_E) (H : Heap) (locs : List Loc), Wh D K b0 sa s H locs L f → TW K (gof gM1) Ψ L f → rawk Ψ L f0 f → ∀ ls : Array Slot, lv_has ls 4 [(2, .int (nI i1)), (0, .ref m_), (1, .int 0)] → W p l e { frames := 0, cells := 0, slots := 0, locals := 0 } s m [.ref m_, .int 0].toArray below meth c H locs 0 0 (MQ below (hQ D K b0 (fun v9 u9 => ∃ f2 : Nat → va_E, v9 = none ∧ u9 = ((gof gM1), Ψ, L, f2) ∧ TW K (gof gM1) Ψ L f2 ∧ rawk Ψ L f0 f2)) [.ref m_, .int 0].toArray s 0 0 (fun q => b0 ≤ q)) (F0 m 2 ls []) := by
    intro n
    induction n with
    | zero => intro i1 h1 h2; exact absurd h2 (Nat.not_lt_zero _)
    | succ n ih1 =>
      intro i1 hi1 hn1 f H locs w hT hR ls hl
      have ti1 : (nI i1).toInt = (i1 : Int) := nI_toInt (by omega)
      refine lv_iload_n hx hb dX7_lays_2 rfl (lv_at hl 0 rfl) ?_
      refine lv_bipush (v := 64) hx hb dX7_lays_3 (by decide) ?_
      have n64 : (64 : Int32).toInt = 64 := by decide
      refine lv_icmp_ge (tgt := 63) hx hb dX7_lays_5 (by decide) (fun c2 => ?_) (fun c2 => ?_)
      · have c2 := le_toInt c2
        refine lv_iconst (v := 0) hx hb dX7_lays_63 (by decide) ?_
        refine lv_istore_n (lv' := [(2, .int 0), (0, .ref m_), (1, .int 0)]) hx hb dX7_lays_64 rfl hl (by decide) rfl (fun ls hl => ?_)
        have loop3 : ∀ (n i3 : Nat), i3 ≤ 24 → 24 - i3 < n → ∀ (f : Nat → va_E) (H : Heap) (locs : List Loc), Wh D K b0 sa s H locs L f → TW K (gof gM1) Ψ L f → rawk Ψ L f0 f → ∀ ls : Array Slot, lv_has ls 4 [(2, .int (nI i3)), (0, .ref m_), (1, .int 0)] → W p l e { frames := 0, cells := 0, slots := 0, locals := 0 } s m [.ref m_, .int 0].toArray below meth c H locs 0 0 (MQ below (hQ D K b0 (fun v9 u9 => ∃ f2 : Nat → va_E, v9 = none ∧ u9 = ((gof gM1), Ψ, L, f2) ∧ TW K (gof gM1) Ψ L f2 ∧ rawk Ψ L f0 f2)) [.ref m_, .int 0].toArray s 0 0 (fun q => b0 ≤ q)) (F0 m 65 ls []) := by
          intro n
          induction n with
          | zero => intro i3 h1 h2; exact absurd h2 (Nat.not_lt_zero _)
          | succ n ih3 =>
            intro i3 hi3 hn3 f H locs w hT hR ls hl
            have ti3 : (nI i3).toInt = (i3 : Int) := nI_toInt (by omega)
            refine lv_iload_n hx hb dX7_lays_65 rfl (lv_at hl 0 rfl) ?_
            refine lv_bipush (v := 24) hx hb dX7_lays_66 (by decide) ?_
            have n24 : (24 : Int32).toInt = 24 := by decide
            refine lv_icmp_ge (tgt := 91) hx hb dX7_lays_68 (by decide) (fun c4 => ?_) (fun c4 => ?_)
            · have c4 := le_toInt c4
              refine lv_aload_n hx hb dX7_lays_91 rfl (lv_at hl 1 rfl) ?_
              refine t_getr C w hT hm_m_ ht_m_ (by decide) rfl cin_7 53 (by decide) rfl gw_1209 dX7_lays_92 (fun q5 hm_q5 ht_q5 => ?_)
              refine lv_iload_n hx hb dX7_lays_95 rfl (lv_at hl 2 rfl) ?_
              refine t_aald C w hT hm_q5 ht_q5 (by decide) rfl rfl (vp_in_iff.mpr ⟨by decide, by decide⟩) rfl dX7_lays_96 (fun q6 hm_q6 ht_q6 => ?_)
              refine lv_iconst (v := 0) hx hb dX7_lays_97 (by decide) ?_
              refine lv_aload_n hx hb dX7_lays_98 rfl (lv_at hl 1 rfl) ?_
              refine t_geti C w hT hm_m_ ht_m_ (by decide) rfl cin_7 35 (by decide) rfl rfl gw_1191 dX7_lays_99 (fun x7 hg => ?_)
              refine t_iast C w hT hm_q6 ht_q6 (by decide) (by decide) rfl (vp_in_iff.mpr ⟨by decide, by decide⟩) (gof_no rfl) dX7_lays_102 (fun f H locs w hT hR1 => ?_)
              have hR := hR.tr hR1
              refine lv_aload_n hx hb dX7_lays_103 rfl (lv_at hl 1 rfl) ?_
              refine t_getr C w hT hm_m_ ht_m_ (by decide) rfl cin_7 53 (by decide) rfl gw_1209 dX7_lays_104 (fun q8 hm_q8 ht_q8 => ?_)
              refine lv_iload_n hx hb dX7_lays_107 rfl (lv_at hl 2 rfl) ?_
              refine t_aald C w hT hm_q8 ht_q8 (by decide) rfl rfl (vp_in_iff.mpr ⟨by decide, by decide⟩) rfl dX7_lays_108 (fun q9 hm_q9 ht_q9 => ?_)
              refine lv_iconst (v := 1) hx hb dX7_lays_109 (by decide) ?_
              refine lv_aload_n hx hb dX7_lays_110 rfl (lv_at hl 1 rfl) ?_
              refine t_geti C w hT hm_m_ ht_m_ (by decide) rfl cin_7 36 (by decide) rfl rfl gw_1192 dX7_lays_111 (fun x10 hg => ?_)
              refine t_iast C w hT hm_q9 ht_q9 (by decide) (by decide) rfl (vp_in_iff.mpr ⟨by decide, by decide⟩) (gof_no rfl) dX7_lays_114 (fun f H locs w hT hR1 => ?_)
              have hR := hR.tr hR1
              refine lv_aload_n hx hb dX7_lays_115 rfl (lv_at hl 1 rfl) ?_
              refine t_getr C w hT hm_m_ ht_m_ (by decide) rfl cin_7 53 (by decide) rfl gw_1209 dX7_lays_116 (fun q11 hm_q11 ht_q11 => ?_)
              refine lv_iload_n hx hb dX7_lays_119 rfl (lv_at hl 2 rfl) ?_
              refine t_aald C w hT hm_q11 ht_q11 (by decide) rfl rfl (vp_in_iff.mpr ⟨by decide, by decide⟩) rfl dX7_lays_120 (fun q12 hm_q12 ht_q12 => ?_)
              refine lv_iconst (v := 2) hx hb dX7_lays_121 (by decide) ?_
              refine lv_aload_n hx hb dX7_lays_122 rfl (lv_at hl 1 rfl) ?_
              refine t_geti C w hT hm_m_ ht_m_ (by decide) rfl cin_7 37 (by decide) rfl rfl gw_1193 dX7_lays_123 (fun x13 hg => ?_)
              refine t_iast C w hT hm_q12 ht_q12 (by decide) (by decide) rfl (vp_in_iff.mpr ⟨by decide, by decide⟩) (gof_no rfl) dX7_lays_126 (fun f H locs w hT hR1 => ?_)
              have hR := hR.tr hR1
              refine lv_aload_n hx hb dX7_lays_127 rfl (lv_at hl 1 rfl) ?_
              refine t_getr C w hT hm_m_ ht_m_ (by decide) rfl cin_7 53 (by decide) rfl gw_1209 dX7_lays_128 (fun q14 hm_q14 ht_q14 => ?_)
              refine lv_iload_n hx hb dX7_lays_131 rfl (lv_at hl 2 rfl) ?_
              refine t_aald C w hT hm_q14 ht_q14 (by decide) rfl rfl (vp_in_iff.mpr ⟨by decide, by decide⟩) rfl dX7_lays_132 (fun q15 hm_q15 ht_q15 => ?_)
              refine lv_iconst (v := 3) hx hb dX7_lays_133 (by decide) ?_
              refine lv_aload_n hx hb dX7_lays_134 rfl (lv_at hl 1 rfl) ?_
              refine t_geti C w hT hm_m_ ht_m_ (by decide) rfl cin_7 38 (by decide) rfl rfl gw_1194 dX7_lays_135 (fun x16 hg => ?_)
              refine t_iast C w hT hm_q15 ht_q15 (by decide) (by decide) rfl (vp_in_iff.mpr ⟨by decide, by decide⟩) (gof_no rfl) dX7_lays_138 (fun f H locs w hT hR1 => ?_)
              have hR := hR.tr hR1
              exact t_vret C hr hlk w ⟨_, rfl, rfl, hT, hR⟩ (by decide) (by decide) dX7_lays_139
            · have c4 := nle_toInt c4
              refine lv_aload_n hx hb dX7_lays_71 rfl (lv_at hl 1 rfl) ?_
              refine t_getr C w hT hm_m_ ht_m_ (by decide) rfl cin_7 52 (by decide) rfl gw_1208 dX7_lays_72 (fun q17 hm_q17 ht_q17 => ?_)
              refine lv_iload_n hx hb dX7_lays_75 rfl (lv_at hl 2 rfl) ?_
              refine t_aald C w hT hm_q17 ht_q17 (by decide) rfl rfl (vp_in_iff.mpr ⟨by decide, by decide⟩) rfl dX7_lays_76 (fun q18 hm_q18 ht_q18 => ?_)
              refine lv_iload_n hx hb dX7_lays_77 rfl (lv_at hl 0 rfl) ?_
              refine lv_aload_n hx hb dX7_lays_78 rfl (lv_at hl 1 rfl) ?_
              refine t_getr C w hT hm_m_ ht_m_ (by decide) rfl cin_7 26 (by decide) rfl gw_1182 dX7_lays_79 (fun q19 hm_q19 ht_q19 => ?_)
              refine lv_iload_n hx hb dX7_lays_82 rfl (lv_at hl 0 rfl) ?_
              refine t_iald C w hT hm_q19 ht_q19 (by decide) (by decide) rfl (vp_in_iff.mpr ⟨by omega, (show _ < ((24 : Nat) : Int) by omega)⟩) dX7_lays_83 (fun x20 hg => ?_)
              refine t_iast C w hT hm_q18 ht_q18 (by decide) (by decide) rfl (vp_in_iff.mpr ⟨by omega, (show _ < ((24 : Nat) : Int) by omega)⟩) (gof_no rfl) dX7_lays_84 (fun f H locs w hT hR1 => ?_)
              have hR := hR.tr hR1
              refine lv_iinc (v := (nI (i3 + 1))) (lv' := [(2, .int (nI (i3 + 1))), (0, .ref m_), (1, .int 0)]) hx hb dX7_lays_85 hl (k := 0) rfl (by exact nI_1 i3) (by decide) rfl (fun ls hl => ?_)
              refine lv_goto (tgt := 65) hx hb dX7_lays_88 (by decide) ?_
              exact ih3 (i3 + 1) (by omega) (by omega) _ _ _ w hT hR ls (lv_sub hl [0, 1, 2] rfl)
        exact loop3 25 0 (by decide) (by decide) _ _ _ w hT hR ls hl
      · have c2 := nle_toInt c2
        refine lv_iconst (v := 0) hx hb dX7_lays_8 (by decide) ?_
        refine lv_istore_n (lv' := [(3, .int 0), (2, .int (nI i1)), (0, .ref m_), (1, .int 0)]) hx hb dX7_lays_9 rfl hl (by decide) rfl (fun ls hl => ?_)
        have loop21 : ∀ (n i21 : Nat), i21 ≤ 24 → 24 - i21 < n → ∀ (f : Nat → va_E) (H : Heap) (locs : List Loc), Wh D K b0 sa s H locs L f → TW K (gof gM1) Ψ L f → rawk Ψ L f0 f → ∀ ls : Array Slot, lv_has ls 4 [(3, .int (nI i21)), (2, .int (nI i1)), (0, .ref m_), (1, .int 0)] → W p l e { frames := 0, cells := 0, slots := 0, locals := 0 } s m [.ref m_, .int 0].toArray below meth c H locs 0 0 (MQ below (hQ D K b0 (fun v9 u9 => ∃ f2 : Nat → va_E, v9 = none ∧ u9 = ((gof gM1), Ψ, L, f2) ∧ TW K (gof gM1) Ψ L f2 ∧ rawk Ψ L f0 f2)) [.ref m_, .int 0].toArray s 0 0 (fun q => b0 ≤ q)) (F0 m 10 ls []) := by
          intro n
          induction n with
          | zero => intro i21 h1 h2; exact absurd h2 (Nat.not_lt_zero _)
          | succ n ih21 =>
            intro i21 hi21 hn21 f H locs w hT hR ls hl
            have ti21 : (nI i21).toInt = (i21 : Int) := nI_toInt (by omega)
            refine lv_iload_n hx hb dX7_lays_10 rfl (lv_at hl 0 rfl) ?_
            refine lv_bipush (v := 24) hx hb dX7_lays_11 (by decide) ?_
            have n24 : (24 : Int32).toInt = 24 := by decide
            refine lv_icmp_ge (tgt := 43) hx hb dX7_lays_13 (by decide) (fun c22 => ?_) (fun c22 => ?_)
            · have c22 := le_toInt c22
              refine lv_aload_n hx hb dX7_lays_43 rfl (lv_at hl 2 rfl) ?_
              refine t_getr C w hT hm_m_ ht_m_ (by decide) rfl cin_7 51 (by decide) rfl gw_1207 dX7_lays_44 (fun q23 hm_q23 ht_q23 => ?_)
              refine lv_iload_n hx hb dX7_lays_47 rfl (lv_at hl 3 rfl) ?_
              refine t_aald C w hT hm_q23 ht_q23 (by decide) rfl rfl (vp_in_iff.mpr ⟨by decide, by decide⟩) rfl dX7_lays_48 (fun q24 hm_q24 ht_q24 => ?_)
              refine lv_iload_n hx hb dX7_lays_49 rfl (lv_at hl 1 rfl) ?_
              refine lv_aload_n hx hb dX7_lays_50 rfl (lv_at hl 2 rfl) ?_
              refine t_getr C w hT hm_m_ ht_m_ (by decide) rfl cin_7 29 (by decide) rfl gw_1185 dX7_lays_51 (fun q25 hm_q25 ht_q25 => ?_)
              refine lv_iload_n hx hb dX7_lays_54 rfl (lv_at hl 1 rfl) ?_
              refine t_iald C w hT hm_q25 ht_q25 (by decide) (by decide) rfl (vp_in_iff.mpr ⟨by omega, (show _ < ((64 : Nat) : Int) by omega)⟩) dX7_lays_55 (fun x26 hg => ?_)
              obtain rfl : x26 = 0 := gof_at rfl hg
              refine t_iast C w hT hm_q24 ht_q24 (by decide) (by decide) rfl (vp_in_iff.mpr ⟨by omega, (show _ < ((64 : Nat) : Int) by omega)⟩) (gof_is rfl) dX7_lays_56 (fun f H locs w hT hR1 => ?_)
              have hR := hR.tr hR1
              refine lv_iinc (v := (nI (i1 + 1))) (lv' := [(2, .int (nI (i1 + 1))), (3, .int (nI i21)), (0, .ref m_), (1, .int 0)]) hx hb dX7_lays_57 hl (k := 1) rfl (by exact nI_1 i1) (by decide) rfl (fun ls hl => ?_)
              refine lv_goto (tgt := 2) hx hb dX7_lays_60 (by decide) ?_
              exact ih1 (i1 + 1) (by omega) (by omega) _ _ _ w hT hR ls (lv_sub hl [0, 2, 3] rfl)
            · have c22 := nle_toInt c22
              refine lv_aload_n hx hb dX7_lays_16 rfl (lv_at hl 2 rfl) ?_
              refine t_getr C w hT hm_m_ ht_m_ (by decide) rfl cin_7 50 (by decide) rfl gw_1206 dX7_lays_17 (fun q27 hm_q27 ht_q27 => ?_)
              refine lv_bipush (v := 64) hx hb dX7_lays_20 (by decide) ?_
              refine lv_iload_n hx hb dX7_lays_22 rfl (lv_at hl 3 rfl) ?_
              refine lv_imul hx hb dX7_lays_23 ?_
              refine lv_topi (fun y28 ey28 => ?_)
              obtain rfl : y28 = 0 := ey28.trans (by decide)
              refine lv_iload_n hx hb dX7_lays_24 rfl (lv_at hl 1 rfl) ?_
              refine lv_iadd hx hb dX7_lays_25 ?_
              refine lv_topi (fun y29 ey29 => ?_)
              have n0 : (0 : Int32).toInt = 0 := by decide
              have ty29 : y29.toInt = (0 : Int32).toInt + ((nI i1) : Int32).toInt := by rw [ey29]; exact ti_add (by omega) (by omega)
              refine t_aald C w hT hm_q27 ht_q27 (by decide) rfl rfl (vp_in_iff.mpr ⟨by omega, (show _ < ((256 : Nat) : Int) by omega)⟩) rfl dX7_lays_26 (fun q30 hm_q30 ht_q30 => ?_)
              refine lv_iload_n hx hb dX7_lays_27 rfl (lv_at hl 0 rfl) ?_
              refine lv_aload_n hx hb dX7_lays_28 rfl (lv_at hl 2 rfl) ?_
              refine t_getr C w hT hm_m_ ht_m_ (by decide) rfl cin_7 28 (by decide) rfl gw_1184 dX7_lays_29 (fun q31 hm_q31 ht_q31 => ?_)
              refine lv_iload_n hx hb dX7_lays_32 rfl (lv_at hl 1 rfl) ?_
              refine t_aald C w hT hm_q31 ht_q31 (by decide) rfl rfl (vp_in_iff.mpr ⟨by omega, (show _ < ((64 : Nat) : Int) by omega)⟩) rfl dX7_lays_33 (fun q32 hm_q32 ht_q32 => ?_)
              refine lv_iload_n hx hb dX7_lays_34 rfl (lv_at hl 0 rfl) ?_
              refine t_iald C w hT hm_q32 ht_q32 (by decide) (by decide) rfl (vp_in_iff.mpr ⟨by omega, (show _ < ((24 : Nat) : Int) by omega)⟩) dX7_lays_35 (fun x33 hg => ?_)
              refine t_iast C w hT hm_q30 ht_q30 (by decide) (by decide) rfl (vp_in_iff.mpr ⟨by omega, (show _ < ((24 : Nat) : Int) by omega)⟩) (gof_no rfl) dX7_lays_36 (fun f H locs w hT hR1 => ?_)
              have hR := hR.tr hR1
              refine lv_iinc (v := (nI (i21 + 1))) (lv' := [(3, .int (nI (i21 + 1))), (2, .int (nI i1)), (0, .ref m_), (1, .int 0)]) hx hb dX7_lays_37 hl (k := 0) rfl (by exact nI_1 i21) (by decide) rfl (fun ls hl => ?_)
              refine lv_goto (tgt := 10) hx hb dX7_lays_40 (by decide) ?_
              exact ih21 (i21 + 1) (by omega) (by omega) _ _ _ w hT hR ls (lv_sub hl [0, 1, 2, 3] rfl)
        exact loop21 25 0 (by decide) (by decide) _ _ _ w hT hR ls hl
  exact loop1 65 0 (by decide) (by decide) _ _ _ w hT hR ls hl
set_option maxHeartbeats 4000000 in
set_option maxRecDepth 100000 in
theorem c_X7_laysBack (l : Launch) (D : va_G) (K : Nat → ClassId) (b0 : Nat) (sa : Nat × Nat × Nat) (sz : Nat) (L : List Nat) (f0 : Nat → va_E) (Ψ : Nat → Nat) (hT : TW K (gof gM1) Ψ L f0) (m_ : Nat) (hm_m_ : m_ ∈ L) (ht_m_ : Ψ m_ = 7) : Met l yX7_laysBack (.code yX7_laysBack cX7_laysBack 4 none :: gt) { frames := 0, cells := 0, slots := 0, locals := 0 } (va_Pc [.ref m_, .int 3] (hPre D K b0 sa sz L f0)) (hQ D K b0 (fun v9 u9 => ∃ f2 : Nat → va_E, v9 = none ∧ u9 = ((gof gM1), Ψ, L, f2) ∧ TW K (gof gM1) Ψ L f2 ∧ rawk Ψ L f0 f2)) 0 0 (fun q => b0 ≤ q) := by
  refine t_of (own := RX7) (by decide) rfl ?_ (Nat.le_of_ble_eq_true rfl)
  intro p e s m below meth c ls C w hsz hr hlk hnm hl
  have hx := C.1
  have hb := C.2.1
  have hl : lv_has ls 4 [(0, .ref m_), (1, .int 3)] := hl
  have hR : rawk Ψ L f0 f0 := rawk.rf
  refine lv_iconst (v := 0) hx hb dX7_laysBack_0 (by decide) ?_
  refine lv_istore_n (lv' := [(2, .int 0), (0, .ref m_), (1, .int 3)]) hx hb dX7_laysBack_1 rfl hl (by decide) rfl (fun ls hl => ?_)
  have loop1 : ∀ (n i1 : Nat), i1 ≤ 64 → 64 - i1 < n → ∀ (f : Nat → va_E) (H : Heap) (locs : List Loc), Wh D K b0 sa s H locs L f → TW K (gof gM1) Ψ L f → rawk Ψ L f0 f → ∀ ls : Array Slot, lv_has ls 4 [(2, .int (nI i1)), (0, .ref m_), (1, .int 3)] → W p l e { frames := 0, cells := 0, slots := 0, locals := 0 } s m [.ref m_, .int 3].toArray below meth c H locs 0 0 (MQ below (hQ D K b0 (fun v9 u9 => ∃ f2 : Nat → va_E, v9 = none ∧ u9 = ((gof gM1), Ψ, L, f2) ∧ TW K (gof gM1) Ψ L f2 ∧ rawk Ψ L f0 f2)) [.ref m_, .int 3].toArray s 0 0 (fun q => b0 ≤ q)) (F0 m 2 ls []) := by
    intro n
    induction n with
    | zero => intro i1 h1 h2; exact absurd h2 (Nat.not_lt_zero _)
    | succ n ih1 =>
      intro i1 hi1 hn1 f H locs w hT hR ls hl
      have ti1 : (nI i1).toInt = (i1 : Int) := nI_toInt (by omega)
      refine lv_iload_n hx hb dX7_laysBack_2 rfl (lv_at hl 0 rfl) ?_
      refine lv_bipush (v := 64) hx hb dX7_laysBack_3 (by decide) ?_
      have n64 : (64 : Int32).toInt = 64 := by decide
      refine lv_icmp_ge (tgt := 63) hx hb dX7_laysBack_5 (by decide) (fun c2 => ?_) (fun c2 => ?_)
      · have c2 := le_toInt c2
        refine lv_iconst (v := 0) hx hb dX7_laysBack_63 (by decide) ?_
        refine lv_istore_n (lv' := [(2, .int 0), (0, .ref m_), (1, .int 3)]) hx hb dX7_laysBack_64 rfl hl (by decide) rfl (fun ls hl => ?_)
        have loop3 : ∀ (n i3 : Nat), i3 ≤ 24 → 24 - i3 < n → ∀ (f : Nat → va_E) (H : Heap) (locs : List Loc), Wh D K b0 sa s H locs L f → TW K (gof gM1) Ψ L f → rawk Ψ L f0 f → ∀ ls : Array Slot, lv_has ls 4 [(2, .int (nI i3)), (0, .ref m_), (1, .int 3)] → W p l e { frames := 0, cells := 0, slots := 0, locals := 0 } s m [.ref m_, .int 3].toArray below meth c H locs 0 0 (MQ below (hQ D K b0 (fun v9 u9 => ∃ f2 : Nat → va_E, v9 = none ∧ u9 = ((gof gM1), Ψ, L, f2) ∧ TW K (gof gM1) Ψ L f2 ∧ rawk Ψ L f0 f2)) [.ref m_, .int 3].toArray s 0 0 (fun q => b0 ≤ q)) (F0 m 65 ls []) := by
          intro n
          induction n with
          | zero => intro i3 h1 h2; exact absurd h2 (Nat.not_lt_zero _)
          | succ n ih3 =>
            intro i3 hi3 hn3 f H locs w hT hR ls hl
            have ti3 : (nI i3).toInt = (i3 : Int) := nI_toInt (by omega)
            refine lv_iload_n hx hb dX7_laysBack_65 rfl (lv_at hl 0 rfl) ?_
            refine lv_bipush (v := 24) hx hb dX7_laysBack_66 (by decide) ?_
            have n24 : (24 : Int32).toInt = 24 := by decide
            refine lv_icmp_ge (tgt := 91) hx hb dX7_laysBack_68 (by decide) (fun c4 => ?_) (fun c4 => ?_)
            · have c4 := le_toInt c4
              refine lv_aload_n hx hb dX7_laysBack_91 rfl (lv_at hl 1 rfl) ?_
              refine lv_aload_n hx hb dX7_laysBack_92 rfl (lv_at hl 1 rfl) ?_
              refine t_getr C w hT hm_m_ ht_m_ (by decide) rfl cin_7 53 (by decide) rfl gw_1209 dX7_laysBack_93 (fun q5 hm_q5 ht_q5 => ?_)
              refine lv_iload_n hx hb dX7_laysBack_96 rfl (lv_at hl 2 rfl) ?_
              refine t_aald C w hT hm_q5 ht_q5 (by decide) rfl rfl (vp_in_iff.mpr ⟨by decide, by decide⟩) rfl dX7_laysBack_97 (fun q6 hm_q6 ht_q6 => ?_)
              refine lv_iconst (v := 0) hx hb dX7_laysBack_98 (by decide) ?_
              refine t_iald C w hT hm_q6 ht_q6 (by decide) (by decide) rfl (vp_in_iff.mpr ⟨by decide, by decide⟩) dX7_laysBack_99 (fun x7 hg => ?_)
              refine t_puti C w hT hm_m_ ht_m_ (by decide) rfl cin_7 tyX7 tyX7_ok nmX7 35 (by decide) rfl rfl rfl rfl rfl (gof_no rfl) gw_1191 dX7_laysBack_100 (fun f H locs w hT hR1 => ?_)
              have hR := hR.tr hR1
              refine lv_aload_n hx hb dX7_laysBack_103 rfl (lv_at hl 1 rfl) ?_
              refine lv_aload_n hx hb dX7_laysBack_104 rfl (lv_at hl 1 rfl) ?_
              refine t_getr C w hT hm_m_ ht_m_ (by decide) rfl cin_7 53 (by decide) rfl gw_1209 dX7_laysBack_105 (fun q8 hm_q8 ht_q8 => ?_)
              refine lv_iload_n hx hb dX7_laysBack_108 rfl (lv_at hl 2 rfl) ?_
              refine t_aald C w hT hm_q8 ht_q8 (by decide) rfl rfl (vp_in_iff.mpr ⟨by decide, by decide⟩) rfl dX7_laysBack_109 (fun q9 hm_q9 ht_q9 => ?_)
              refine lv_iconst (v := 1) hx hb dX7_laysBack_110 (by decide) ?_
              refine t_iald C w hT hm_q9 ht_q9 (by decide) (by decide) rfl (vp_in_iff.mpr ⟨by decide, by decide⟩) dX7_laysBack_111 (fun x10 hg => ?_)
              refine t_puti C w hT hm_m_ ht_m_ (by decide) rfl cin_7 tyX7 tyX7_ok nmX7 36 (by decide) rfl rfl rfl rfl rfl (gof_no rfl) gw_1192 dX7_laysBack_112 (fun f H locs w hT hR1 => ?_)
              have hR := hR.tr hR1
              refine lv_aload_n hx hb dX7_laysBack_115 rfl (lv_at hl 1 rfl) ?_
              refine lv_aload_n hx hb dX7_laysBack_116 rfl (lv_at hl 1 rfl) ?_
              refine t_getr C w hT hm_m_ ht_m_ (by decide) rfl cin_7 53 (by decide) rfl gw_1209 dX7_laysBack_117 (fun q11 hm_q11 ht_q11 => ?_)
              refine lv_iload_n hx hb dX7_laysBack_120 rfl (lv_at hl 2 rfl) ?_
              refine t_aald C w hT hm_q11 ht_q11 (by decide) rfl rfl (vp_in_iff.mpr ⟨by decide, by decide⟩) rfl dX7_laysBack_121 (fun q12 hm_q12 ht_q12 => ?_)
              refine lv_iconst (v := 2) hx hb dX7_laysBack_122 (by decide) ?_
              refine t_iald C w hT hm_q12 ht_q12 (by decide) (by decide) rfl (vp_in_iff.mpr ⟨by decide, by decide⟩) dX7_laysBack_123 (fun x13 hg => ?_)
              refine t_puti C w hT hm_m_ ht_m_ (by decide) rfl cin_7 tyX7 tyX7_ok nmX7 37 (by decide) rfl rfl rfl rfl rfl (gof_no rfl) gw_1193 dX7_laysBack_124 (fun f H locs w hT hR1 => ?_)
              have hR := hR.tr hR1
              refine lv_aload_n hx hb dX7_laysBack_127 rfl (lv_at hl 1 rfl) ?_
              refine lv_aload_n hx hb dX7_laysBack_128 rfl (lv_at hl 1 rfl) ?_
              refine t_getr C w hT hm_m_ ht_m_ (by decide) rfl cin_7 53 (by decide) rfl gw_1209 dX7_laysBack_129 (fun q14 hm_q14 ht_q14 => ?_)
              refine lv_iload_n hx hb dX7_laysBack_132 rfl (lv_at hl 2 rfl) ?_
              refine t_aald C w hT hm_q14 ht_q14 (by decide) rfl rfl (vp_in_iff.mpr ⟨by decide, by decide⟩) rfl dX7_laysBack_133 (fun q15 hm_q15 ht_q15 => ?_)
              refine lv_iconst (v := 3) hx hb dX7_laysBack_134 (by decide) ?_
              refine t_iald C w hT hm_q15 ht_q15 (by decide) (by decide) rfl (vp_in_iff.mpr ⟨by decide, by decide⟩) dX7_laysBack_135 (fun x16 hg => ?_)
              refine t_puti C w hT hm_m_ ht_m_ (by decide) rfl cin_7 tyX7 tyX7_ok nmX7 38 (by decide) rfl rfl rfl rfl rfl (gof_no rfl) gw_1194 dX7_laysBack_136 (fun f H locs w hT hR1 => ?_)
              have hR := hR.tr hR1
              exact t_vret C hr hlk w ⟨_, rfl, rfl, hT, hR⟩ (by decide) (by decide) dX7_laysBack_139
            · have c4 := nle_toInt c4
              refine lv_aload_n hx hb dX7_laysBack_71 rfl (lv_at hl 1 rfl) ?_
              refine t_getr C w hT hm_m_ ht_m_ (by decide) rfl cin_7 26 (by decide) rfl gw_1182 dX7_laysBack_72 (fun q17 hm_q17 ht_q17 => ?_)
              refine lv_iload_n hx hb dX7_laysBack_75 rfl (lv_at hl 0 rfl) ?_
              refine lv_aload_n hx hb dX7_laysBack_76 rfl (lv_at hl 1 rfl) ?_
              refine t_getr C w hT hm_m_ ht_m_ (by decide) rfl cin_7 52 (by decide) rfl gw_1208 dX7_laysBack_77 (fun q18 hm_q18 ht_q18 => ?_)
              refine lv_iload_n hx hb dX7_laysBack_80 rfl (lv_at hl 2 rfl) ?_
              refine t_aald C w hT hm_q18 ht_q18 (by decide) rfl rfl (vp_in_iff.mpr ⟨by decide, by decide⟩) rfl dX7_laysBack_81 (fun q19 hm_q19 ht_q19 => ?_)
              refine lv_iload_n hx hb dX7_laysBack_82 rfl (lv_at hl 0 rfl) ?_
              refine t_iald C w hT hm_q19 ht_q19 (by decide) (by decide) rfl (vp_in_iff.mpr ⟨by omega, (show _ < ((24 : Nat) : Int) by omega)⟩) dX7_laysBack_83 (fun x20 hg => ?_)
              refine t_iast C w hT hm_q17 ht_q17 (by decide) (by decide) rfl (vp_in_iff.mpr ⟨by omega, (show _ < ((24 : Nat) : Int) by omega)⟩) (gof_no rfl) dX7_laysBack_84 (fun f H locs w hT hR1 => ?_)
              have hR := hR.tr hR1
              refine lv_iinc (v := (nI (i3 + 1))) (lv' := [(2, .int (nI (i3 + 1))), (0, .ref m_), (1, .int 3)]) hx hb dX7_laysBack_85 hl (k := 0) rfl (by exact nI_1 i3) (by decide) rfl (fun ls hl => ?_)
              refine lv_goto (tgt := 65) hx hb dX7_laysBack_88 (by decide) ?_
              exact ih3 (i3 + 1) (by omega) (by omega) _ _ _ w hT hR ls (lv_sub hl [0, 1, 2] rfl)
        exact loop3 25 0 (by decide) (by decide) _ _ _ w hT hR ls hl
      · have c2 := nle_toInt c2
        refine lv_iconst (v := 0) hx hb dX7_laysBack_8 (by decide) ?_
        refine lv_istore_n (lv' := [(3, .int 0), (2, .int (nI i1)), (0, .ref m_), (1, .int 3)]) hx hb dX7_laysBack_9 rfl hl (by decide) rfl (fun ls hl => ?_)
        have loop21 : ∀ (n i21 : Nat), i21 ≤ 24 → 24 - i21 < n → ∀ (f : Nat → va_E) (H : Heap) (locs : List Loc), Wh D K b0 sa s H locs L f → TW K (gof gM1) Ψ L f → rawk Ψ L f0 f → ∀ ls : Array Slot, lv_has ls 4 [(3, .int (nI i21)), (2, .int (nI i1)), (0, .ref m_), (1, .int 3)] → W p l e { frames := 0, cells := 0, slots := 0, locals := 0 } s m [.ref m_, .int 3].toArray below meth c H locs 0 0 (MQ below (hQ D K b0 (fun v9 u9 => ∃ f2 : Nat → va_E, v9 = none ∧ u9 = ((gof gM1), Ψ, L, f2) ∧ TW K (gof gM1) Ψ L f2 ∧ rawk Ψ L f0 f2)) [.ref m_, .int 3].toArray s 0 0 (fun q => b0 ≤ q)) (F0 m 10 ls []) := by
          intro n
          induction n with
          | zero => intro i21 h1 h2; exact absurd h2 (Nat.not_lt_zero _)
          | succ n ih21 =>
            intro i21 hi21 hn21 f H locs w hT hR ls hl
            have ti21 : (nI i21).toInt = (i21 : Int) := nI_toInt (by omega)
            refine lv_iload_n hx hb dX7_laysBack_10 rfl (lv_at hl 0 rfl) ?_
            refine lv_bipush (v := 24) hx hb dX7_laysBack_11 (by decide) ?_
            have n24 : (24 : Int32).toInt = 24 := by decide
            refine lv_icmp_ge (tgt := 43) hx hb dX7_laysBack_13 (by decide) (fun c22 => ?_) (fun c22 => ?_)
            · have c22 := le_toInt c22
              refine lv_aload_n hx hb dX7_laysBack_43 rfl (lv_at hl 2 rfl) ?_
              refine t_getr C w hT hm_m_ ht_m_ (by decide) rfl cin_7 29 (by decide) rfl gw_1185 dX7_laysBack_44 (fun q23 hm_q23 ht_q23 => ?_)
              refine lv_iload_n hx hb dX7_laysBack_47 rfl (lv_at hl 1 rfl) ?_
              refine lv_aload_n hx hb dX7_laysBack_48 rfl (lv_at hl 2 rfl) ?_
              refine t_getr C w hT hm_m_ ht_m_ (by decide) rfl cin_7 51 (by decide) rfl gw_1207 dX7_laysBack_49 (fun q24 hm_q24 ht_q24 => ?_)
              refine lv_iload_n hx hb dX7_laysBack_52 rfl (lv_at hl 3 rfl) ?_
              refine t_aald C w hT hm_q24 ht_q24 (by decide) rfl rfl (vp_in_iff.mpr ⟨by decide, by decide⟩) rfl dX7_laysBack_53 (fun q25 hm_q25 ht_q25 => ?_)
              refine lv_iload_n hx hb dX7_laysBack_54 rfl (lv_at hl 1 rfl) ?_
              refine t_iald C w hT hm_q25 ht_q25 (by decide) (by decide) rfl (vp_in_iff.mpr ⟨by omega, (show _ < ((64 : Nat) : Int) by omega)⟩) dX7_laysBack_55 (fun x26 hg => ?_)
              obtain rfl : x26 = 0 := gof_at rfl hg
              refine t_iast C w hT hm_q23 ht_q23 (by decide) (by decide) rfl (vp_in_iff.mpr ⟨by omega, (show _ < ((64 : Nat) : Int) by omega)⟩) (gof_is rfl) dX7_laysBack_56 (fun f H locs w hT hR1 => ?_)
              have hR := hR.tr hR1
              refine lv_iinc (v := (nI (i1 + 1))) (lv' := [(2, .int (nI (i1 + 1))), (3, .int (nI i21)), (0, .ref m_), (1, .int 3)]) hx hb dX7_laysBack_57 hl (k := 1) rfl (by exact nI_1 i1) (by decide) rfl (fun ls hl => ?_)
              refine lv_goto (tgt := 2) hx hb dX7_laysBack_60 (by decide) ?_
              exact ih1 (i1 + 1) (by omega) (by omega) _ _ _ w hT hR ls (lv_sub hl [0, 2, 3] rfl)
            · have c22 := nle_toInt c22
              refine lv_aload_n hx hb dX7_laysBack_16 rfl (lv_at hl 2 rfl) ?_
              refine t_getr C w hT hm_m_ ht_m_ (by decide) rfl cin_7 28 (by decide) rfl gw_1184 dX7_laysBack_17 (fun q27 hm_q27 ht_q27 => ?_)
              refine lv_iload_n hx hb dX7_laysBack_20 rfl (lv_at hl 1 rfl) ?_
              refine t_aald C w hT hm_q27 ht_q27 (by decide) rfl rfl (vp_in_iff.mpr ⟨by omega, (show _ < ((64 : Nat) : Int) by omega)⟩) rfl dX7_laysBack_21 (fun q28 hm_q28 ht_q28 => ?_)
              refine lv_iload_n hx hb dX7_laysBack_22 rfl (lv_at hl 0 rfl) ?_
              refine lv_aload_n hx hb dX7_laysBack_23 rfl (lv_at hl 2 rfl) ?_
              refine t_getr C w hT hm_m_ ht_m_ (by decide) rfl cin_7 50 (by decide) rfl gw_1206 dX7_laysBack_24 (fun q29 hm_q29 ht_q29 => ?_)
              refine lv_bipush (v := 64) hx hb dX7_laysBack_27 (by decide) ?_
              refine lv_iload_n hx hb dX7_laysBack_29 rfl (lv_at hl 3 rfl) ?_
              refine lv_imul hx hb dX7_laysBack_30 ?_
              refine lv_topi (fun y30 ey30 => ?_)
              obtain rfl : y30 = 192 := ey30.trans (by decide)
              refine lv_iload_n hx hb dX7_laysBack_31 rfl (lv_at hl 1 rfl) ?_
              refine lv_iadd hx hb dX7_laysBack_32 ?_
              refine lv_topi (fun y31 ey31 => ?_)
              have n192 : (192 : Int32).toInt = 192 := by decide
              have ty31 : y31.toInt = (192 : Int32).toInt + ((nI i1) : Int32).toInt := by rw [ey31]; exact ti_add (by omega) (by omega)
              refine t_aald C w hT hm_q29 ht_q29 (by decide) rfl rfl (vp_in_iff.mpr ⟨by omega, (show _ < ((256 : Nat) : Int) by omega)⟩) rfl dX7_laysBack_33 (fun q32 hm_q32 ht_q32 => ?_)
              refine lv_iload_n hx hb dX7_laysBack_34 rfl (lv_at hl 0 rfl) ?_
              refine t_iald C w hT hm_q32 ht_q32 (by decide) (by decide) rfl (vp_in_iff.mpr ⟨by omega, (show _ < ((24 : Nat) : Int) by omega)⟩) dX7_laysBack_35 (fun x33 hg => ?_)
              refine t_iast C w hT hm_q28 ht_q28 (by decide) (by decide) rfl (vp_in_iff.mpr ⟨by omega, (show _ < ((24 : Nat) : Int) by omega)⟩) (gof_no rfl) dX7_laysBack_36 (fun f H locs w hT hR1 => ?_)
              have hR := hR.tr hR1
              refine lv_iinc (v := (nI (i21 + 1))) (lv' := [(3, .int (nI (i21 + 1))), (2, .int (nI i1)), (0, .ref m_), (1, .int 3)]) hx hb dX7_laysBack_37 hl (k := 0) rfl (by exact nI_1 i21) (by decide) rfl (fun ls hl => ?_)
              refine lv_goto (tgt := 10) hx hb dX7_laysBack_40 (by decide) ?_
              exact ih21 (i21 + 1) (by omega) (by omega) _ _ _ w hT hR ls (lv_sub hl [0, 1, 2, 3] rfl)
        exact loop21 25 0 (by decide) (by decide) _ _ _ w hT hR ls hl
  exact loop1 65 0 (by decide) (by decide) _ _ _ w hT hR ls hl
set_option maxHeartbeats 4000000 in
set_option maxRecDepth 100000 in
theorem c_X7_image (l : Launch) (D : va_G) (K : Nat → ClassId) (b0 : Nat) (sa : Nat × Nat × Nat) (sz : Nat) (L : List Nat) (f0 : Nat → va_E) (Ψ : Nat → Nat) (hT : TW K (gof gM0) Ψ L f0) (m_ : Nat) (hm_m_ : m_ ∈ L) (ht_m_ : Ψ m_ = 7) (hu_7 : ∀ b c : Nat, b ∈ L → c ∈ L → Ψ b = 7 → Ψ c = 7 → b = c) : Met l yX7_image (.code yX7_image cX7_image 5 (some .int) :: gt) { frames := 1, cells := 0, slots := 0, locals := 23 } (va_Pc [.ref m_] (hPre D K b0 sa sz L f0)) (hQ D K b0 (fun v9 u9 => ∃ (r : Int32) (th : Int32) (f2 : Nat → va_E), v9 = some (.int r) ∧ u9 = (gof [(700, th)], Ψ, L, f2) ∧ TW K (gof [(700, th)]) Ψ L f2 ∧ rawk Ψ L f0 f2 ∧ ((r = 1 ∧ th = 0)))) 0 0 (fun q => b0 ≤ q) := by
  refine t_of (own := RX7) (by decide) rfl ?_ (Nat.le_of_ble_eq_true rfl)
  intro p e s m below meth c ls C w hsz hr hlk hnm hl
  have hx := C.1
  have hb := C.2.1
  have hl : lv_has ls 5 [(0, .ref m_)] := hl
  have hR : rawk Ψ L f0 f0 := rawk.rf
  refine lv_aload_n hx hb dX7_image_0 rfl (lv_at hl 0 rfl) ?_
  refine lv_iconst (v := 0) hx hb dX7_image_1 (by decide) ?_
  refine t_puti C w hT hm_m_ ht_m_ (by decide) rfl cin_7 tyX7 tyX7_ok nmX7 0 (by decide) rfl rfl rfl rfl rfl (gof_is rfl) gw_1156 dX7_image_2 (fun f H locs w hT hR1 => ?_)
  have hR := hR.tr hR1
  refine lv_aload_n hx hb dX7_image_5 rfl (lv_at hl 0 rfl) ?_
  refine t_geti C w hT hm_m_ ht_m_ (by decide) rfl cin_7 56 (by decide) rfl rfl gw_1212 dX7_image_6 (fun x1 hg => ?_)
  obtain rfl : x1 = 0 := gof_at rfl hg
  refine lv_iconst (v := 3) hx hb dX7_image_9 (by decide) ?_
  refine lv_icmp_ne (tgt := 15) hx hb dX7_image_10 (by decide) (fun _ => ?_) (fun c0 => absurd c0 (by decide))
  refine lv_aload_n hx hb dX7_image_15 rfl (lv_at hl 0 rfl) ?_
  refine t_geti C w hT hm_m_ ht_m_ (by decide) rfl cin_7 56 (by decide) rfl rfl gw_1212 dX7_image_16 (fun x2 hg => ?_)
  obtain rfl : x2 = 0 := gof_at rfl hg
  refine lv_istore_n (lv' := [(1, .int 0), (0, .ref m_)]) hx hb dX7_image_19 rfl hl (by decide) rfl (fun ls hl => ?_)
  refine lv_aload_n hx hb dX7_image_20 rfl (lv_at hl 1 rfl) ?_
  refine lv_iload_n hx hb dX7_image_21 rfl (lv_at hl 0 rfl) ?_
  refine t_callV (n := 1) C w hT hm_m_ ht_m_ (by decide) rfl rfl (c_X7_lays0 l D K b0 sa _ L _ Ψ (hT.mono (gof_sub rfl)) m_ hm_m_ ht_m_) gw_1637 gw_1634 gw_1636 gs_64 gw_8 ⟨by decide, by decide, by decide +kernel⟩ rfl rfl ⟨by decide, by decide⟩ rfl hl.1 rfl (Nat.le_of_ble_eq_true rfl) dX7_image_22 ⟨by decide, by decide⟩ (fun v u H locs hp w => ?_)
  obtain ⟨f2, rfl, rfl, hT2, hR1⟩ := hp
  have hR := hR.tr hR1
  clear hT
  have hT := hT2
  clear hT2
  generalize f2 = f at w hT hR
  refine lv_aload_n hx hb dX7_image_25 rfl (lv_at hl 1 rfl) ?_
  refine t_getr C w hT hm_m_ ht_m_ (by decide) rfl cin_7 53 (by decide) rfl gw_1209 dX7_image_26 (fun q3 hm_q3 ht_q3 => ?_)
  refine lv_iload_n hx hb dX7_image_29 rfl (lv_at hl 0 rfl) ?_
  refine t_aald C w hT hm_q3 ht_q3 (by decide) rfl rfl (vp_in_iff.mpr ⟨by decide, by decide⟩) rfl dX7_image_30 (fun q4 hm_q4 ht_q4 => ?_)
  refine lv_astore_n (lv' := [(2, .ref q4), (1, .int 0), (0, .ref m_)]) hx hb dX7_image_31 rfl hl (by decide) rfl (fun ls hl => ?_)
  refine lv_aload_n hx hb dX7_image_32 rfl (lv_at hl 0 rfl) ?_
  refine lv_iconst (v := 4) hx hb dX7_image_33 (by decide) ?_
  refine lv_aload_n hx hb dX7_image_34 rfl (lv_at hl 2 rfl) ?_
  refine t_geti C w hT hm_m_ ht_m_ (by decide) rfl cin_7 30 (by decide) rfl rfl gw_1186 dX7_image_35 (fun x5 hg => ?_)
  obtain rfl : x5 = 63 := gof_at rfl hg
  refine t_iast C w hT hm_q4 ht_q4 (by decide) (by decide) rfl (vp_in_iff.mpr ⟨by decide, by decide⟩) (gof_no rfl) dX7_image_38 (fun f H locs w hT hR1 => ?_)
  have hR := hR.tr hR1
  refine lv_aload_n hx hb dX7_image_39 rfl (lv_at hl 0 rfl) ?_
  refine lv_iconst (v := 5) hx hb dX7_image_40 (by decide) ?_
  refine lv_aload_n hx hb dX7_image_41 rfl (lv_at hl 2 rfl) ?_
  refine t_geti C w hT hm_m_ ht_m_ (by decide) rfl cin_7 31 (by decide) rfl rfl gw_1187 dX7_image_42 (fun x6 hg => ?_)
  obtain rfl : x6 = 14 := gof_at rfl hg
  refine t_iast C w hT hm_q4 ht_q4 (by decide) (by decide) rfl (vp_in_iff.mpr ⟨by decide, by decide⟩) (gof_no rfl) dX7_image_45 (fun f H locs w hT hR1 => ?_)
  have hR := hR.tr hR1
  refine lv_aload_n hx hb dX7_image_46 rfl (lv_at hl 0 rfl) ?_
  refine lv_bipush (v := 6) hx hb dX7_image_47 (by decide) ?_
  refine lv_aload_n hx hb dX7_image_49 rfl (lv_at hl 2 rfl) ?_
  refine t_geti C w hT hm_m_ ht_m_ (by decide) rfl cin_7 32 (by decide) rfl rfl gw_1188 dX7_image_50 (fun x7 hg => ?_)
  obtain rfl : x7 = 1 := gof_at rfl hg
  refine t_iast C w hT hm_q4 ht_q4 (by decide) (by decide) rfl (vp_in_iff.mpr ⟨by decide, by decide⟩) (gof_no rfl) dX7_image_53 (fun f H locs w hT hR1 => ?_)
  have hR := hR.tr hR1
  refine lv_aload_n hx hb dX7_image_54 rfl (lv_at hl 0 rfl) ?_
  refine lv_bipush (v := 7) hx hb dX7_image_55 (by decide) ?_
  refine lv_aload_n hx hb dX7_image_57 rfl (lv_at hl 2 rfl) ?_
  refine t_geti C w hT hm_m_ ht_m_ (by decide) rfl cin_7 33 (by decide) rfl rfl gw_1189 dX7_image_58 (fun x8 hg => ?_)
  obtain rfl : x8 = 0 := gof_at rfl hg
  refine t_iast C w hT hm_q4 ht_q4 (by decide) (by decide) rfl (vp_in_iff.mpr ⟨by decide, by decide⟩) (gof_no rfl) dX7_image_61 (fun f H locs w hT hR1 => ?_)
  have hR := hR.tr hR1
  refine lv_aload_n hx hb dX7_image_62 rfl (lv_at hl 0 rfl) ?_
  refine lv_bipush (v := 8) hx hb dX7_image_63 (by decide) ?_
  refine lv_aload_n hx hb dX7_image_65 rfl (lv_at hl 2 rfl) ?_
  refine t_geti C w hT hm_m_ ht_m_ (by decide) rfl cin_7 34 (by decide) rfl rfl gw_1190 dX7_image_66 (fun x9 hg => ?_)
  obtain rfl : x9 = 1 := gof_at rfl hg
  refine t_iast C w hT hm_q4 ht_q4 (by decide) (by decide) rfl (vp_in_iff.mpr ⟨by decide, by decide⟩) (gof_no rfl) dX7_image_69 (fun f H locs w hT hR1 => ?_)
  have hR := hR.tr hR1
  refine lv_aload_n hx hb dX7_image_70 rfl (lv_at hl 0 rfl) ?_
  refine lv_bipush (v := 9) hx hb dX7_image_71 (by decide) ?_
  refine lv_bipush (v := 100) hx hb dX7_image_73 (by decide) ?_
  refine lv_aload_n hx hb dX7_image_75 rfl (lv_at hl 2 rfl) ?_
  refine t_geti C w hT hm_m_ ht_m_ (by decide) rfl cin_7 46 (by decide) rfl rfl gw_1202 dX7_image_76 (fun x10 hg => ?_)
  obtain rfl : x10 = 0 := gof_at rfl hg
  refine lv_imul hx hb dX7_image_79 ?_
  refine lv_topi (fun y11 ey11 => ?_)
  obtain rfl : y11 = 0 := ey11.trans (by decide)
  refine lv_aload_n hx hb dX7_image_80 rfl (lv_at hl 2 rfl) ?_
  refine t_geti C w hT hm_m_ ht_m_ (by decide) rfl cin_7 21 (by decide) rfl rfl gw_1177 dX7_image_81 (fun x12 hg => ?_)
  obtain rfl : x12 = 0 := gof_at rfl hg
  refine lv_iadd hx hb dX7_image_84 ?_
  refine lv_topi (fun y13 ey13 => ?_)
  obtain rfl : y13 = 0 := ey13.trans (by decide)
  refine t_iast C w hT hm_q4 ht_q4 (by decide) (by decide) rfl (vp_in_iff.mpr ⟨by decide, by decide⟩) (gof_no rfl) dX7_image_85 (fun f H locs w hT hR1 => ?_)
  have hR := hR.tr hR1
  refine lv_aload_n hx hb dX7_image_86 rfl (lv_at hl 0 rfl) ?_
  refine lv_bipush (v := 10) hx hb dX7_image_87 (by decide) ?_
  refine lv_aload_n hx hb dX7_image_89 rfl (lv_at hl 2 rfl) ?_
  refine t_geti C w hT hm_m_ ht_m_ (by decide) rfl cin_7 15 (by decide) rfl rfl gw_1171 dX7_image_90 (fun x14 hg => ?_)
  obtain rfl : x14 = (-1) := gof_at rfl hg
  refine t_iast C w hT hm_q4 ht_q4 (by decide) (by decide) rfl (vp_in_iff.mpr ⟨by decide, by decide⟩) (gof_no rfl) dX7_image_93 (fun f H locs w hT hR1 => ?_)
  have hR := hR.tr hR1
  refine lv_iconst (v := 0) hx hb dX7_image_94 (by decide) ?_
  refine lv_istore_n (lv' := [(3, .int 0), (2, .ref q4), (1, .int 0), (0, .ref m_)]) hx hb dX7_image_95 rfl hl (by decide) rfl (fun ls hl => ?_)
  have loop15 : ∀ (n i15 : Nat), i15 ≤ 24 → 24 - i15 < n → ∀ (f : Nat → va_E) (H : Heap) (locs : List Loc), Wh D K b0 sa s H locs L f → TW K (gof gM1) Ψ L f → rawk Ψ L f0 f → ∀ ls : Array Slot, lv_has ls 5 [(3, .int (nI i15)), (2, .ref q4), (1, .int 0), (0, .ref m_)] → W p l e { frames := 1, cells := 0, slots := 0, locals := 23 } s m [.ref m_].toArray below meth c H locs 0 0 (MQ below (hQ D K b0 (fun v9 u9 => ∃ (r : Int32) (th : Int32) (f2 : Nat → va_E), v9 = some (.int r) ∧ u9 = (gof [(700, th)], Ψ, L, f2) ∧ TW K (gof [(700, th)]) Ψ L f2 ∧ rawk Ψ L f0 f2 ∧ ((r = 1 ∧ th = 0)))) [.ref m_].toArray s 0 0 (fun q => b0 ≤ q)) (F0 m 96 ls []) := by
    intro n
    induction n with
    | zero => intro i15 h1 h2; exact absurd h2 (Nat.not_lt_zero _)
    | succ n ih15 =>
      intro i15 hi15 hn15 f H locs w hT hR ls hl
      have ti15 : (nI i15).toInt = (i15 : Int) := nI_toInt (by omega)
      refine lv_iload_n hx hb dX7_image_96 rfl (lv_at hl 0 rfl) ?_
      refine lv_bipush (v := 24) hx hb dX7_image_97 (by decide) ?_
      have n24 : (24 : Int32).toInt = 24 := by decide
      refine lv_icmp_ge (tgt := 204) hx hb dX7_image_99 (by decide) (fun c16 => ?_) (fun c16 => ?_)
      · have c16 := le_toInt c16
        refine lv_iconst (v := 0) hx hb dX7_image_204 (by decide) ?_
        refine lv_istore_n (lv' := [(3, .int 0), (2, .ref q4), (1, .int 0), (0, .ref m_)]) hx hb dX7_image_205 rfl hl (by decide) rfl (fun ls hl => ?_)
        refine lv_iload_n hx hb dX7_image_206 rfl (lv_at hl 0 rfl) ?_
        refine lv_aload_n hx hb dX7_image_207 rfl (lv_at hl 3 rfl) ?_
        refine t_geti C w hT hm_m_ ht_m_ (by decide) rfl cin_7 46 (by decide) rfl rfl gw_1202 dX7_image_208 (fun x17 hg => ?_)
        obtain rfl : x17 = 0 := gof_at rfl hg
        refine lv_icmp_ge (tgt := 260) hx hb dX7_image_211 (by decide) (fun _ => ?_) (fun c0 => absurd c0 (by decide))
        refine lv_aload_n hx hb dX7_image_260 rfl (lv_at hl 3 rfl) ?_
        refine lv_dup hx hb dX7_image_261 rfl ?_
        refine t_geti C w hT hm_m_ ht_m_ (by decide) rfl cin_7 56 (by decide) rfl rfl gw_1212 dX7_image_262 (fun x18 hg => ?_)
        obtain rfl : x18 = 0 := gof_at rfl hg
        refine lv_iconst (v := 1) hx hb dX7_image_265 (by decide) ?_
        refine lv_iadd hx hb dX7_image_266 ?_
        refine lv_topi (fun y19 ey19 => ?_)
        obtain rfl : y19 = 1 := ey19.trans (by decide)
        refine t_putS C w hT hm_m_ ht_m_ (fun b h1 h2 => hu_7 b m_ h1 hm_m_ h2 ht_m_) (by decide) rfl cin_7 tyX7 tyX7_ok nmX7 56 (by decide) rfl rfl rfl rfl rfl gw_1212 dX7_image_267 (fun f H locs w hT hR1 => ?_)
        have hT := hT.mono gof_set
        have hR := hR.tr hR1
        refine lv_aload_n hx hb dX7_image_270 rfl (lv_at hl 3 rfl) ?_
        refine t_geti C w hT hm_m_ ht_m_ (by decide) rfl cin_7 56 (by decide) rfl rfl gw_1212 dX7_image_271 (fun x20 hg => ?_)
        obtain rfl : x20 = 1 := gof_at rfl hg
        have n1 : (1 : Int32).toInt = 1 := by decide
        exact t_iret C hr hlk w ⟨_, 0, _, rfl, rfl, hT.mono (gof_sub rfl), hR, ⟨rfl, rfl⟩⟩ (by decide) (by decide) dX7_image_274
      · have c16 := nle_toInt c16
        refine lv_aload_n hx hb dX7_image_102 rfl (lv_at hl 3 rfl) ?_
        refine t_getr C w hT hm_m_ ht_m_ (by decide) rfl cin_7 54 (by decide) rfl gw_1210 dX7_image_103 (fun q21 hm_q21 ht_q21 => ?_)
        refine lv_iconst (v := 5) hx hb dX7_image_106 (by decide) ?_
        refine lv_iload_n hx hb dX7_image_107 rfl (lv_at hl 2 rfl) ?_
        refine lv_imul hx hb dX7_image_108 ?_
        refine lv_topi (fun y22 ey22 => ?_)
        obtain rfl : y22 = 0 := ey22.trans (by decide)
        refine t_aald C w hT hm_q21 ht_q21 (by decide) rfl rfl (vp_in_iff.mpr ⟨by decide, by decide⟩) rfl dX7_image_109 (fun q23 hm_q23 ht_q23 => ?_)
        refine lv_iload_n hx hb dX7_image_110 rfl (lv_at hl 0 rfl) ?_
        refine lv_aload_n hx hb dX7_image_111 rfl (lv_at hl 3 rfl) ?_
        refine t_getr C w hT hm_m_ ht_m_ (by decide) rfl cin_7 22 (by decide) rfl gw_1178 dX7_image_112 (fun q24 hm_q24 ht_q24 => ?_)
        refine lv_iload_n hx hb dX7_image_115 rfl (lv_at hl 0 rfl) ?_
        refine t_iald C w hT hm_q24 ht_q24 (by decide) (by decide) rfl (vp_in_iff.mpr ⟨by omega, (show _ < ((24 : Nat) : Int) by omega)⟩) dX7_image_116 (fun x25 hg => ?_)
        refine t_iast C w hT hm_q23 ht_q23 (by decide) (by decide) rfl (vp_in_iff.mpr ⟨by omega, (show _ < ((24 : Nat) : Int) by omega)⟩) (gof_no rfl) dX7_image_117 (fun f H locs w hT hR1 => ?_)
        have hR := hR.tr hR1
        refine lv_aload_n hx hb dX7_image_118 rfl (lv_at hl 3 rfl) ?_
        refine t_getr C w hT hm_m_ ht_m_ (by decide) rfl cin_7 54 (by decide) rfl gw_1210 dX7_image_119 (fun q26 hm_q26 ht_q26 => ?_)
        refine lv_iconst (v := 5) hx hb dX7_image_122 (by decide) ?_
        refine lv_iload_n hx hb dX7_image_123 rfl (lv_at hl 2 rfl) ?_
        refine lv_imul hx hb dX7_image_124 ?_
        refine lv_topi (fun y27 ey27 => ?_)
        obtain rfl : y27 = 0 := ey27.trans (by decide)
        refine lv_iconst (v := 1) hx hb dX7_image_125 (by decide) ?_
        refine lv_iadd hx hb dX7_image_126 ?_
        refine lv_topi (fun y28 ey28 => ?_)
        obtain rfl : y28 = 1 := ey28.trans (by decide)
        refine t_aald C w hT hm_q26 ht_q26 (by decide) rfl rfl (vp_in_iff.mpr ⟨by decide, by decide⟩) rfl dX7_image_127 (fun q29 hm_q29 ht_q29 => ?_)
        refine lv_iload_n hx hb dX7_image_128 rfl (lv_at hl 0 rfl) ?_
        refine lv_aload_n hx hb dX7_image_129 rfl (lv_at hl 3 rfl) ?_
        refine t_getr C w hT hm_m_ ht_m_ (by decide) rfl cin_7 23 (by decide) rfl gw_1179 dX7_image_130 (fun q30 hm_q30 ht_q30 => ?_)
        refine lv_iload_n hx hb dX7_image_133 rfl (lv_at hl 0 rfl) ?_
        refine t_iald C w hT hm_q30 ht_q30 (by decide) (by decide) rfl (vp_in_iff.mpr ⟨by omega, (show _ < ((24 : Nat) : Int) by omega)⟩) dX7_image_134 (fun x31 hg => ?_)
        refine t_iast C w hT hm_q29 ht_q29 (by decide) (by decide) rfl (vp_in_iff.mpr ⟨by omega, (show _ < ((24 : Nat) : Int) by omega)⟩) (gof_no rfl) dX7_image_135 (fun f H locs w hT hR1 => ?_)
        have hR := hR.tr hR1
        refine lv_aload_n hx hb dX7_image_136 rfl (lv_at hl 3 rfl) ?_
        refine t_getr C w hT hm_m_ ht_m_ (by decide) rfl cin_7 54 (by decide) rfl gw_1210 dX7_image_137 (fun q32 hm_q32 ht_q32 => ?_)
        refine lv_iconst (v := 5) hx hb dX7_image_140 (by decide) ?_
        refine lv_iload_n hx hb dX7_image_141 rfl (lv_at hl 2 rfl) ?_
        refine lv_imul hx hb dX7_image_142 ?_
        refine lv_topi (fun y33 ey33 => ?_)
        obtain rfl : y33 = 0 := ey33.trans (by decide)
        refine lv_iconst (v := 2) hx hb dX7_image_143 (by decide) ?_
        refine lv_iadd hx hb dX7_image_144 ?_
        refine lv_topi (fun y34 ey34 => ?_)
        obtain rfl : y34 = 2 := ey34.trans (by decide)
        refine t_aald C w hT hm_q32 ht_q32 (by decide) rfl rfl (vp_in_iff.mpr ⟨by decide, by decide⟩) rfl dX7_image_145 (fun q35 hm_q35 ht_q35 => ?_)
        refine lv_iload_n hx hb dX7_image_146 rfl (lv_at hl 0 rfl) ?_
        refine lv_aload_n hx hb dX7_image_147 rfl (lv_at hl 3 rfl) ?_
        refine t_getr C w hT hm_m_ ht_m_ (by decide) rfl cin_7 24 (by decide) rfl gw_1180 dX7_image_148 (fun q36 hm_q36 ht_q36 => ?_)
        refine lv_iload_n hx hb dX7_image_151 rfl (lv_at hl 0 rfl) ?_
        refine t_iald C w hT hm_q36 ht_q36 (by decide) (by decide) rfl (vp_in_iff.mpr ⟨by omega, (show _ < ((24 : Nat) : Int) by omega)⟩) dX7_image_152 (fun x37 hg => ?_)
        refine t_iast C w hT hm_q35 ht_q35 (by decide) (by decide) rfl (vp_in_iff.mpr ⟨by omega, (show _ < ((24 : Nat) : Int) by omega)⟩) (gof_no rfl) dX7_image_153 (fun f H locs w hT hR1 => ?_)
        have hR := hR.tr hR1
        refine lv_aload_n hx hb dX7_image_154 rfl (lv_at hl 3 rfl) ?_
        refine t_getr C w hT hm_m_ ht_m_ (by decide) rfl cin_7 54 (by decide) rfl gw_1210 dX7_image_155 (fun q38 hm_q38 ht_q38 => ?_)
        refine lv_iconst (v := 5) hx hb dX7_image_158 (by decide) ?_
        refine lv_iload_n hx hb dX7_image_159 rfl (lv_at hl 2 rfl) ?_
        refine lv_imul hx hb dX7_image_160 ?_
        refine lv_topi (fun y39 ey39 => ?_)
        obtain rfl : y39 = 0 := ey39.trans (by decide)
        refine lv_iconst (v := 3) hx hb dX7_image_161 (by decide) ?_
        refine lv_iadd hx hb dX7_image_162 ?_
        refine lv_topi (fun y40 ey40 => ?_)
        obtain rfl : y40 = 3 := ey40.trans (by decide)
        refine t_aald C w hT hm_q38 ht_q38 (by decide) rfl rfl (vp_in_iff.mpr ⟨by decide, by decide⟩) rfl dX7_image_163 (fun q41 hm_q41 ht_q41 => ?_)
        refine lv_iload_n hx hb dX7_image_164 rfl (lv_at hl 0 rfl) ?_
        refine lv_aload_n hx hb dX7_image_165 rfl (lv_at hl 3 rfl) ?_
        refine t_getr C w hT hm_m_ ht_m_ (by decide) rfl cin_7 25 (by decide) rfl gw_1181 dX7_image_166 (fun q42 hm_q42 ht_q42 => ?_)
        refine lv_iload_n hx hb dX7_image_169 rfl (lv_at hl 0 rfl) ?_
        refine t_iald C w hT hm_q42 ht_q42 (by decide) (by decide) rfl (vp_in_iff.mpr ⟨by omega, (show _ < ((24 : Nat) : Int) by omega)⟩) dX7_image_170 (fun x43 hg => ?_)
        refine t_iast C w hT hm_q41 ht_q41 (by decide) (by decide) rfl (vp_in_iff.mpr ⟨by omega, (show _ < ((24 : Nat) : Int) by omega)⟩) (gof_no rfl) dX7_image_171 (fun f H locs w hT hR1 => ?_)
        have hR := hR.tr hR1
        refine lv_aload_n hx hb dX7_image_172 rfl (lv_at hl 3 rfl) ?_
        refine t_getr C w hT hm_m_ ht_m_ (by decide) rfl cin_7 54 (by decide) rfl gw_1210 dX7_image_173 (fun q44 hm_q44 ht_q44 => ?_)
        refine lv_iconst (v := 5) hx hb dX7_image_176 (by decide) ?_
        refine lv_iload_n hx hb dX7_image_177 rfl (lv_at hl 2 rfl) ?_
        refine lv_imul hx hb dX7_image_178 ?_
        refine lv_topi (fun y45 ey45 => ?_)
        obtain rfl : y45 = 0 := ey45.trans (by decide)
        refine lv_iconst (v := 4) hx hb dX7_image_179 (by decide) ?_
        refine lv_iadd hx hb dX7_image_180 ?_
        refine lv_topi (fun y46 ey46 => ?_)
        obtain rfl : y46 = 4 := ey46.trans (by decide)
        refine t_aald C w hT hm_q44 ht_q44 (by decide) rfl rfl (vp_in_iff.mpr ⟨by decide, by decide⟩) rfl dX7_image_181 (fun q47 hm_q47 ht_q47 => ?_)
        refine lv_iload_n hx hb dX7_image_182 rfl (lv_at hl 0 rfl) ?_
        refine lv_aload_n hx hb dX7_image_183 rfl (lv_at hl 3 rfl) ?_
        refine t_getr C w hT hm_m_ ht_m_ (by decide) rfl cin_7 27 (by decide) rfl gw_1183 dX7_image_184 (fun q48 hm_q48 ht_q48 => ?_)
        refine lv_iload_n hx hb dX7_image_187 rfl (lv_at hl 0 rfl) ?_
        refine t_zald C w hT hm_q48 ht_q48 (by decide) (by decide) rfl (vp_in_iff.mpr ⟨by omega, (show _ < ((24 : Nat) : Int) by omega)⟩) dX7_image_188 (fun x49 hg => ?_)
        have n0 : (0 : Int32).toInt = 0 := by decide
        refine lv_if_eq (tgt := 196) hx hb dX7_image_189 (by decide) (fun c50 => ?_) (fun c50 => ?_)
        · have c50 := eq_toInt c50
          refine lv_iconst (v := 0) hx hb dX7_image_196 (by decide) ?_
          refine t_iast C w hT hm_q47 ht_q47 (by decide) (by decide) rfl (vp_in_iff.mpr ⟨by omega, (show _ < ((24 : Nat) : Int) by omega)⟩) (gof_no rfl) dX7_image_197 (fun f H locs w hT hR1 => ?_)
          have hR := hR.tr hR1
          refine lv_iinc (v := (nI (i15 + 1))) (lv' := [(3, .int (nI (i15 + 1))), (2, .ref q4), (1, .int 0), (0, .ref m_)]) hx hb dX7_image_198 hl (k := 0) rfl (by exact nI_1 i15) (by decide) rfl (fun ls hl => ?_)
          refine lv_goto (tgt := 96) hx hb dX7_image_201 (by decide) ?_
          exact ih15 (i15 + 1) (by omega) (by omega) _ _ _ w hT hR ls (lv_sub hl [0, 1, 2, 3] rfl)
        · have c50 := ne_toInt c50
          refine lv_iconst (v := 1) hx hb dX7_image_192 (by decide) ?_
          refine lv_goto (tgt := 197) hx hb dX7_image_193 (by decide) ?_
          refine t_iast C w hT hm_q47 ht_q47 (by decide) (by decide) rfl (vp_in_iff.mpr ⟨by omega, (show _ < ((24 : Nat) : Int) by omega)⟩) (gof_no rfl) dX7_image_197 (fun f H locs w hT hR1 => ?_)
          have hR := hR.tr hR1
          refine lv_iinc (v := (nI (i15 + 1))) (lv' := [(3, .int (nI (i15 + 1))), (2, .ref q4), (1, .int 0), (0, .ref m_)]) hx hb dX7_image_198 hl (k := 0) rfl (by exact nI_1 i15) (by decide) rfl (fun ls hl => ?_)
          refine lv_goto (tgt := 96) hx hb dX7_image_201 (by decide) ?_
          exact ih15 (i15 + 1) (by omega) (by omega) _ _ _ w hT hR ls (lv_sub hl [0, 1, 2, 3] rfl)
  exact loop15 25 0 (by decide) (by decide) _ _ _ w hT hR ls hl
