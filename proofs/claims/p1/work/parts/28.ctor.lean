theorem dX2_init_0 : decode cX2_init 0 = .ok (.aload_n 0, 1) := by decide +kernel
theorem dX2_init_1 : decode cX2_init 1 = .ok (.invokespecial 3, 3) := by decide +kernel
theorem dX2_init_4 : decode cX2_init 4 = .ok (.aload_n 0, 1) := by decide +kernel
theorem dX2_init_5 : decode cX2_init 5 = .ok (.iconst 0, 1) := by decide +kernel
theorem dX2_init_6 : decode cX2_init 6 = .ok (.putfield 9, 3) := by decide +kernel
theorem dX2_init_9 : decode cX2_init 9 = .ok (.aload_n 0, 1) := by decide +kernel
theorem dX2_init_10 : decode cX2_init 10 = .ok (.bipush 24, 2) := by decide +kernel
theorem dX2_init_12 : decode cX2_init 12 = .ok (.newarray .int, 2) := by decide +kernel
theorem dX2_init_14 : decode cX2_init 14 = .ok (.putfield 15, 3) := by decide +kernel
theorem dX2_init_17 : decode cX2_init 17 = .ok (.aload_n 0, 1) := by decide +kernel
theorem dX2_init_18 : decode cX2_init 18 = .ok (.bipush 24, 2) := by decide +kernel
theorem dX2_init_20 : decode cX2_init 20 = .ok (.newarray .int, 2) := by decide +kernel
theorem dX2_init_22 : decode cX2_init 22 = .ok (.putfield 19, 3) := by decide +kernel
theorem dX2_init_25 : decode cX2_init 25 = .ok (.aload_n 0, 1) := by decide +kernel
theorem dX2_init_26 : decode cX2_init 26 = .ok (.bipush 24, 2) := by decide +kernel
theorem dX2_init_28 : decode cX2_init 28 = .ok (.newarray .int, 2) := by decide +kernel
theorem dX2_init_30 : decode cX2_init 30 = .ok (.putfield 22, 3) := by decide +kernel
theorem dX2_init_33 : decode cX2_init 33 = .ok (.aload_n 0, 1) := by decide +kernel
theorem dX2_init_34 : decode cX2_init 34 = .ok (.bipush 24, 2) := by decide +kernel
theorem dX2_init_36 : decode cX2_init 36 = .ok (.newarray .int, 2) := by decide +kernel
theorem dX2_init_38 : decode cX2_init 38 = .ok (.putfield 25, 3) := by decide +kernel
theorem dX2_init_41 : decode cX2_init 41 = .ok (.aload_n 0, 1) := by decide +kernel
theorem dX2_init_42 : decode cX2_init 42 = .ok (.bipush 24, 2) := by decide +kernel
theorem dX2_init_44 : decode cX2_init 44 = .ok (.newarray .int, 2) := by decide +kernel
theorem dX2_init_46 : decode cX2_init 46 = .ok (.putfield 28, 3) := by decide +kernel
theorem dX2_init_49 : decode cX2_init 49 = .ok (.aload_n 0, 1) := by decide +kernel
theorem dX2_init_50 : decode cX2_init 50 = .ok (.bipush 24, 2) := by decide +kernel
theorem dX2_init_52 : decode cX2_init 52 = .ok (.newarray .int, 2) := by decide +kernel
theorem dX2_init_54 : decode cX2_init 54 = .ok (.putfield 31, 3) := by decide +kernel
theorem dX2_init_57 : decode cX2_init 57 = .ok (.aload_n 0, 1) := by decide +kernel
theorem dX2_init_58 : decode cX2_init 58 = .ok (.bipush 24, 2) := by decide +kernel
theorem dX2_init_60 : decode cX2_init 60 = .ok (.newarray .int, 2) := by decide +kernel
theorem dX2_init_62 : decode cX2_init 62 = .ok (.putfield 34, 3) := by decide +kernel
theorem dX2_init_65 : decode cX2_init 65 = .ok (.aload_n 0, 1) := by decide +kernel
theorem dX2_init_66 : decode cX2_init 66 = .ok (.bipush 64, 2) := by decide +kernel
theorem dX2_init_68 : decode cX2_init 68 = .ok (.newarray .int, 2) := by decide +kernel
theorem dX2_init_70 : decode cX2_init 70 = .ok (.putfield 37, 3) := by decide +kernel
theorem dX2_init_73 : decode cX2_init 73 = .ok (.aload_n 0, 1) := by decide +kernel
theorem dX2_init_74 : decode cX2_init 74 = .ok (.getfield 37, 3) := by decide +kernel
theorem dX2_init_77 : decode cX2_init 77 = .ok (.iconst (-1), 1) := by decide +kernel
theorem dX2_init_78 : decode cX2_init 78 = .ok (.invokestatic 40, 3) := by decide +kernel
theorem dX2_init_81 : decode cX2_init 81 = .ok (.return_, 1) := by decide +kernel
theorem dX0_init_0 : decode cX0_init 0 = .ok (.aload_n 0, 1) := by decide +kernel
theorem dX0_init_1 : decode cX0_init 1 = .ok (.invokespecial 3, 3) := by decide +kernel
theorem dX0_init_4 : decode cX0_init 4 = .ok (.aload_n 0, 1) := by decide +kernel
theorem dX0_init_5 : decode cX0_init 5 = .ok (.new 9, 3) := by decide +kernel
theorem dX0_init_8 : decode cX0_init 8 = .ok (.dup, 1) := by decide +kernel
theorem dX0_init_9 : decode cX0_init 9 = .ok (.invokespecial 11, 3) := by decide +kernel
theorem dX0_init_12 : decode cX0_init 12 = .ok (.putfield 12, 3) := by decide +kernel
theorem dX0_init_15 : decode cX0_init 15 = .ok (.aload_n 0, 1) := by decide +kernel
theorem dX0_init_16 : decode cX0_init 16 = .ok (.bipush 63, 2) := by decide +kernel
theorem dX0_init_18 : decode cX0_init 18 = .ok (.putfield 18, 3) := by decide +kernel
theorem dX0_init_21 : decode cX0_init 21 = .ok (.aload_n 0, 1) := by decide +kernel
theorem dX0_init_22 : decode cX0_init 22 = .ok (.bipush 14, 2) := by decide +kernel
theorem dX0_init_24 : decode cX0_init 24 = .ok (.putfield 22, 3) := by decide +kernel
theorem dX0_init_27 : decode cX0_init 27 = .ok (.aload_n 0, 1) := by decide +kernel
theorem dX0_init_28 : decode cX0_init 28 = .ok (.iconst 1, 1) := by decide +kernel
theorem dX0_init_29 : decode cX0_init 29 = .ok (.putfield 25, 3) := by decide +kernel
theorem dX0_init_32 : decode cX0_init 32 = .ok (.aload_n 0, 1) := by decide +kernel
theorem dX0_init_33 : decode cX0_init 33 = .ok (.iconst 0, 1) := by decide +kernel
theorem dX0_init_34 : decode cX0_init 34 = .ok (.putfield 28, 3) := by decide +kernel
theorem dX0_init_37 : decode cX0_init 37 = .ok (.aload_n 0, 1) := by decide +kernel
theorem dX0_init_38 : decode cX0_init 38 = .ok (.iconst 1, 1) := by decide +kernel
theorem dX0_init_39 : decode cX0_init 39 = .ok (.putfield 31, 3) := by decide +kernel
theorem dX0_init_42 : decode cX0_init 42 = .ok (.aload_n 0, 1) := by decide +kernel
theorem dX0_init_43 : decode cX0_init 43 = .ok (.iconst (-1), 1) := by decide +kernel
theorem dX0_init_44 : decode cX0_init 44 = .ok (.putfield 34, 3) := by decide +kernel
theorem dX0_init_47 : decode cX0_init 47 = .ok (.aload_n 0, 1) := by decide +kernel
theorem dX0_init_48 : decode cX0_init 48 = .ok (.iconst 0, 1) := by decide +kernel
theorem dX0_init_49 : decode cX0_init 49 = .ok (.putfield 37, 3) := by decide +kernel
theorem dX0_init_52 : decode cX0_init 52 = .ok (.aload_n 0, 1) := by decide +kernel
theorem dX0_init_53 : decode cX0_init 53 = .ok (.iconst 0, 1) := by decide +kernel
theorem dX0_init_54 : decode cX0_init 54 = .ok (.putfield 40, 3) := by decide +kernel
theorem dX0_init_57 : decode cX0_init 57 = .ok (.aload_n 0, 1) := by decide +kernel
theorem dX0_init_58 : decode cX0_init 58 = .ok (.iconst 0, 1) := by decide +kernel
theorem dX0_init_59 : decode cX0_init 59 = .ok (.putfield 43, 3) := by decide +kernel
theorem dX0_init_62 : decode cX0_init 62 = .ok (.aload_n 0, 1) := by decide +kernel
theorem dX0_init_63 : decode cX0_init 63 = .ok (.iconst 0, 1) := by decide +kernel
theorem dX0_init_64 : decode cX0_init 64 = .ok (.putfield 46, 3) := by decide +kernel
theorem dX0_init_67 : decode cX0_init 67 = .ok (.aload_n 0, 1) := by decide +kernel
theorem dX0_init_68 : decode cX0_init 68 = .ok (.sipush 200, 3) := by decide +kernel
theorem dX0_init_71 : decode cX0_init 71 = .ok (.anewarray 49, 3) := by decide +kernel
theorem dX0_init_74 : decode cX0_init 74 = .ok (.putfield 51, 3) := by decide +kernel
theorem dX0_init_77 : decode cX0_init 77 = .ok (.aload_n 0, 1) := by decide +kernel
theorem dX0_init_78 : decode cX0_init 78 = .ok (.iconst 0, 1) := by decide +kernel
theorem dX0_init_79 : decode cX0_init 79 = .ok (.putfield 55, 3) := by decide +kernel
theorem dX0_init_82 : decode cX0_init 82 = .ok (.return_, 1) := by decide +kernel
theorem dX3_init_0 : decode cX3_init 0 = .ok (.aload_n 0, 1) := by decide +kernel
theorem dX3_init_1 : decode cX3_init 1 = .ok (.invokespecial 3, 3) := by decide +kernel
theorem dX3_init_4 : decode cX3_init 4 = .ok (.aload_n 0, 1) := by decide +kernel
theorem dX3_init_5 : decode cX3_init 5 = .ok (.sipush 300, 3) := by decide +kernel
theorem dX3_init_8 : decode cX3_init 8 = .ok (.newarray .int, 2) := by decide +kernel
theorem dX3_init_10 : decode cX3_init 10 = .ok (.putfield 9, 3) := by decide +kernel
theorem dX3_init_13 : decode cX3_init 13 = .ok (.aload_n 0, 1) := by decide +kernel
theorem dX3_init_14 : decode cX3_init 14 = .ok (.iconst 0, 1) := by decide +kernel
theorem dX3_init_15 : decode cX3_init 15 = .ok (.putfield 15, 3) := by decide +kernel
theorem dX3_init_18 : decode cX3_init 18 = .ok (.aload_n 0, 1) := by decide +kernel
theorem dX3_init_19 : decode cX3_init 19 = .ok (.iconst 3, 1) := by decide +kernel
theorem dX3_init_20 : decode cX3_init 20 = .ok (.newarray .int, 2) := by decide +kernel
theorem dX3_init_22 : decode cX3_init 22 = .ok (.putfield 19, 3) := by decide +kernel
theorem dX3_init_25 : decode cX3_init 25 = .ok (.return_, 1) := by decide +kernel
theorem dX4_init_0 : decode cX4_init 0 = .ok (.aload_n 0, 1) := by decide +kernel
theorem dX4_init_1 : decode cX4_init 1 = .ok (.invokespecial 3, 3) := by decide +kernel
theorem dX4_init_4 : decode cX4_init 4 = .ok (.aload_n 0, 1) := by decide +kernel
theorem dX4_init_5 : decode cX4_init 5 = .ok (.sipush 300, 3) := by decide +kernel
theorem dX4_init_8 : decode cX4_init 8 = .ok (.newarray .int, 2) := by decide +kernel
theorem dX4_init_10 : decode cX4_init 10 = .ok (.putfield 9, 3) := by decide +kernel
theorem dX4_init_13 : decode cX4_init 13 = .ok (.aload_n 0, 1) := by decide +kernel
theorem dX4_init_14 : decode cX4_init 14 = .ok (.sipush 300, 3) := by decide +kernel
theorem dX4_init_17 : decode cX4_init 17 = .ok (.newarray .int, 2) := by decide +kernel
theorem dX4_init_19 : decode cX4_init 19 = .ok (.putfield 15, 3) := by decide +kernel
theorem dX4_init_22 : decode cX4_init 22 = .ok (.aload_n 0, 1) := by decide +kernel
theorem dX4_init_23 : decode cX4_init 23 = .ok (.sipush 300, 3) := by decide +kernel
theorem dX4_init_26 : decode cX4_init 26 = .ok (.newarray .int, 2) := by decide +kernel
theorem dX4_init_28 : decode cX4_init 28 = .ok (.putfield 18, 3) := by decide +kernel
theorem dX4_init_31 : decode cX4_init 31 = .ok (.aload_n 0, 1) := by decide +kernel
theorem dX4_init_32 : decode cX4_init 32 = .ok (.iconst 0, 1) := by decide +kernel
theorem dX4_init_33 : decode cX4_init 33 = .ok (.putfield 21, 3) := by decide +kernel
theorem dX4_init_36 : decode cX4_init 36 = .ok (.aload_n 0, 1) := by decide +kernel
theorem dX4_init_37 : decode cX4_init 37 = .ok (.iconst 0, 1) := by decide +kernel
theorem dX4_init_38 : decode cX4_init 38 = .ok (.putfield 25, 3) := by decide +kernel
theorem dX4_init_41 : decode cX4_init 41 = .ok (.aload_n 0, 1) := by decide +kernel
theorem dX4_init_42 : decode cX4_init 42 = .ok (.iconst 0, 1) := by decide +kernel
theorem dX4_init_43 : decode cX4_init 43 = .ok (.putfield 28, 3) := by decide +kernel
theorem dX4_init_46 : decode cX4_init 46 = .ok (.aload_n 0, 1) := by decide +kernel
theorem dX4_init_47 : decode cX4_init 47 = .ok (.sipush 300, 3) := by decide +kernel
theorem dX4_init_50 : decode cX4_init 50 = .ok (.newarray .int, 2) := by decide +kernel
theorem dX4_init_52 : decode cX4_init 52 = .ok (.putfield 31, 3) := by decide +kernel
theorem dX4_init_55 : decode cX4_init 55 = .ok (.aload_n 0, 1) := by decide +kernel
theorem dX4_init_56 : decode cX4_init 56 = .ok (.iconst 0, 1) := by decide +kernel
theorem dX4_init_57 : decode cX4_init 57 = .ok (.putfield 34, 3) := by decide +kernel
theorem dX4_init_60 : decode cX4_init 60 = .ok (.aload_n 0, 1) := by decide +kernel
theorem dX4_init_61 : decode cX4_init 61 = .ok (.iconst 0, 1) := by decide +kernel
theorem dX4_init_62 : decode cX4_init 62 = .ok (.putfield 37, 3) := by decide +kernel
theorem dX4_init_65 : decode cX4_init 65 = .ok (.aload_n 0, 1) := by decide +kernel
theorem dX4_init_66 : decode cX4_init 66 = .ok (.iconst 0, 1) := by decide +kernel
theorem dX4_init_67 : decode cX4_init 67 = .ok (.putfield 40, 3) := by decide +kernel
theorem dX4_init_70 : decode cX4_init 70 = .ok (.aload_n 0, 1) := by decide +kernel
theorem dX4_init_71 : decode cX4_init 71 = .ok (.iconst 0, 1) := by decide +kernel
theorem dX4_init_72 : decode cX4_init 72 = .ok (.putfield 44, 3) := by decide +kernel
theorem dX4_init_75 : decode cX4_init 75 = .ok (.aload_n 0, 1) := by decide +kernel
theorem dX4_init_76 : decode cX4_init 76 = .ok (.iconst (-1), 1) := by decide +kernel
theorem dX4_init_77 : decode cX4_init 77 = .ok (.putfield 47, 3) := by decide +kernel
theorem dX4_init_80 : decode cX4_init 80 = .ok (.return_, 1) := by decide +kernel
theorem dX5_init_0 : decode cX5_init 0 = .ok (.aload_n 0, 1) := by decide +kernel
theorem dX5_init_1 : decode cX5_init 1 = .ok (.invokespecial 3, 3) := by decide +kernel
theorem dX5_init_4 : decode cX5_init 4 = .ok (.aload_n 0, 1) := by decide +kernel
theorem dX5_init_5 : decode cX5_init 5 = .ok (.iconst 0, 1) := by decide +kernel
theorem dX5_init_6 : decode cX5_init 6 = .ok (.putfield 9, 3) := by decide +kernel
theorem dX5_init_9 : decode cX5_init 9 = .ok (.aload_n 0, 1) := by decide +kernel
theorem dX5_init_10 : decode cX5_init 10 = .ok (.iconst 0, 1) := by decide +kernel
theorem dX5_init_11 : decode cX5_init 11 = .ok (.putfield 15, 3) := by decide +kernel
theorem dX5_init_14 : decode cX5_init 14 = .ok (.aload_n 0, 1) := by decide +kernel
theorem dX5_init_15 : decode cX5_init 15 = .ok (.iconst (-1), 1) := by decide +kernel
theorem dX5_init_16 : decode cX5_init 16 = .ok (.putfield 18, 3) := by decide +kernel
theorem dX5_init_19 : decode cX5_init 19 = .ok (.aload_n 0, 1) := by decide +kernel
theorem dX5_init_20 : decode cX5_init 20 = .ok (.iconst 0, 1) := by decide +kernel
theorem dX5_init_21 : decode cX5_init 21 = .ok (.putfield 21, 3) := by decide +kernel
theorem dX5_init_24 : decode cX5_init 24 = .ok (.aload_n 0, 1) := by decide +kernel
theorem dX5_init_25 : decode cX5_init 25 = .ok (.iconst 0, 1) := by decide +kernel
theorem dX5_init_26 : decode cX5_init 26 = .ok (.putfield 24, 3) := by decide +kernel
theorem dX5_init_29 : decode cX5_init 29 = .ok (.aload_n 0, 1) := by decide +kernel
theorem dX5_init_30 : decode cX5_init 30 = .ok (.iconst 0, 1) := by decide +kernel
theorem dX5_init_31 : decode cX5_init 31 = .ok (.putfield 27, 3) := by decide +kernel
theorem dX5_init_34 : decode cX5_init 34 = .ok (.aload_n 0, 1) := by decide +kernel
theorem dX5_init_35 : decode cX5_init 35 = .ok (.iconst 0, 1) := by decide +kernel
theorem dX5_init_36 : decode cX5_init 36 = .ok (.putfield 30, 3) := by decide +kernel
theorem dX5_init_39 : decode cX5_init 39 = .ok (.aload_n 0, 1) := by decide +kernel
theorem dX5_init_40 : decode cX5_init 40 = .ok (.iconst 0, 1) := by decide +kernel
theorem dX5_init_41 : decode cX5_init 41 = .ok (.putfield 33, 3) := by decide +kernel
theorem dX5_init_44 : decode cX5_init 44 = .ok (.aload_n 0, 1) := by decide +kernel
theorem dX5_init_45 : decode cX5_init 45 = .ok (.iconst 0, 1) := by decide +kernel
theorem dX5_init_46 : decode cX5_init 46 = .ok (.putfield 36, 3) := by decide +kernel
theorem dX5_init_49 : decode cX5_init 49 = .ok (.aload_n 0, 1) := by decide +kernel
theorem dX5_init_50 : decode cX5_init 50 = .ok (.iconst 0, 1) := by decide +kernel
theorem dX5_init_51 : decode cX5_init 51 = .ok (.putfield 39, 3) := by decide +kernel
theorem dX5_init_54 : decode cX5_init 54 = .ok (.aload_n 0, 1) := by decide +kernel
theorem dX5_init_55 : decode cX5_init 55 = .ok (.iconst 0, 1) := by decide +kernel
theorem dX5_init_56 : decode cX5_init 56 = .ok (.putfield 42, 3) := by decide +kernel
theorem dX5_init_59 : decode cX5_init 59 = .ok (.aload_n 0, 1) := by decide +kernel
theorem dX5_init_60 : decode cX5_init 60 = .ok (.iconst 0, 1) := by decide +kernel
theorem dX5_init_61 : decode cX5_init 61 = .ok (.putfield 45, 3) := by decide +kernel
theorem dX5_init_64 : decode cX5_init 64 = .ok (.aload_n 0, 1) := by decide +kernel
theorem dX5_init_65 : decode cX5_init 65 = .ok (.iconst 0, 1) := by decide +kernel
theorem dX5_init_66 : decode cX5_init 66 = .ok (.putfield 48, 3) := by decide +kernel
theorem dX5_init_69 : decode cX5_init 69 = .ok (.aload_n 0, 1) := by decide +kernel
theorem dX5_init_70 : decode cX5_init 70 = .ok (.iconst 0, 1) := by decide +kernel
theorem dX5_init_71 : decode cX5_init 71 = .ok (.putfield 51, 3) := by decide +kernel
theorem dX5_init_74 : decode cX5_init 74 = .ok (.aload_n 0, 1) := by decide +kernel
theorem dX5_init_75 : decode cX5_init 75 = .ok (.iconst 0, 1) := by decide +kernel
theorem dX5_init_76 : decode cX5_init 76 = .ok (.putfield 54, 3) := by decide +kernel
theorem dX5_init_79 : decode cX5_init 79 = .ok (.aload_n 0, 1) := by decide +kernel
theorem dX5_init_80 : decode cX5_init 80 = .ok (.iconst 5, 1) := by decide +kernel
theorem dX5_init_81 : decode cX5_init 81 = .ok (.newarray .int, 2) := by decide +kernel
theorem dX5_init_83 : decode cX5_init 83 = .ok (.putfield 57, 3) := by decide +kernel
theorem dX5_init_86 : decode cX5_init 86 = .ok (.aload_n 0, 1) := by decide +kernel
theorem dX5_init_87 : decode cX5_init 87 = .ok (.iconst 0, 1) := by decide +kernel
theorem dX5_init_88 : decode cX5_init 88 = .ok (.putfield 61, 3) := by decide +kernel
theorem dX5_init_91 : decode cX5_init 91 = .ok (.return_, 1) := by decide +kernel
theorem dX6_init_0 : decode cX6_init 0 = .ok (.aload_n 0, 1) := by decide +kernel
theorem dX6_init_1 : decode cX6_init 1 = .ok (.invokespecial 1, 3) := by decide +kernel
theorem dX6_init_4 : decode cX6_init 4 = .ok (.aload_n 0, 1) := by decide +kernel
theorem dX6_init_5 : decode cX6_init 5 = .ok (.new 7, 3) := by decide +kernel
theorem dX6_init_8 : decode cX6_init 8 = .ok (.dup, 1) := by decide +kernel
theorem dX6_init_9 : decode cX6_init 9 = .ok (.invokespecial 9, 3) := by decide +kernel
theorem dX6_init_12 : decode cX6_init 12 = .ok (.putfield 10, 3) := by decide +kernel
theorem dX6_init_15 : decode cX6_init 15 = .ok (.aload_n 0, 1) := by decide +kernel
theorem dX6_init_16 : decode cX6_init 16 = .ok (.new 7, 3) := by decide +kernel
theorem dX6_init_19 : decode cX6_init 19 = .ok (.dup, 1) := by decide +kernel
theorem dX6_init_20 : decode cX6_init 20 = .ok (.invokespecial 9, 3) := by decide +kernel
theorem dX6_init_23 : decode cX6_init 23 = .ok (.putfield 16, 3) := by decide +kernel
theorem dX6_init_26 : decode cX6_init 26 = .ok (.aload_n 0, 1) := by decide +kernel
theorem dX6_init_27 : decode cX6_init 27 = .ok (.iconst 3, 1) := by decide +kernel
theorem dX6_init_28 : decode cX6_init 28 = .ok (.anewarray 7, 3) := by decide +kernel
theorem dX6_init_31 : decode cX6_init 31 = .ok (.dup, 1) := by decide +kernel
theorem dX6_init_32 : decode cX6_init 32 = .ok (.iconst 0, 1) := by decide +kernel
theorem dX6_init_33 : decode cX6_init 33 = .ok (.new 7, 3) := by decide +kernel
theorem dX6_init_36 : decode cX6_init 36 = .ok (.dup, 1) := by decide +kernel
theorem dX6_init_37 : decode cX6_init 37 = .ok (.invokespecial 9, 3) := by decide +kernel
theorem dX6_init_40 : decode cX6_init 40 = .ok (.aastore, 1) := by decide +kernel
theorem dX6_init_41 : decode cX6_init 41 = .ok (.dup, 1) := by decide +kernel
theorem dX6_init_42 : decode cX6_init 42 = .ok (.iconst 1, 1) := by decide +kernel
theorem dX6_init_43 : decode cX6_init 43 = .ok (.new 7, 3) := by decide +kernel
theorem dX6_init_46 : decode cX6_init 46 = .ok (.dup, 1) := by decide +kernel
theorem dX6_init_47 : decode cX6_init 47 = .ok (.invokespecial 9, 3) := by decide +kernel
theorem dX6_init_50 : decode cX6_init 50 = .ok (.aastore, 1) := by decide +kernel
theorem dX6_init_51 : decode cX6_init 51 = .ok (.dup, 1) := by decide +kernel
theorem dX6_init_52 : decode cX6_init 52 = .ok (.iconst 2, 1) := by decide +kernel
theorem dX6_init_53 : decode cX6_init 53 = .ok (.new 7, 3) := by decide +kernel
theorem dX6_init_56 : decode cX6_init 56 = .ok (.dup, 1) := by decide +kernel
theorem dX6_init_57 : decode cX6_init 57 = .ok (.invokespecial 9, 3) := by decide +kernel
theorem dX6_init_60 : decode cX6_init 60 = .ok (.aastore, 1) := by decide +kernel
theorem dX6_init_61 : decode cX6_init 61 = .ok (.putfield 19, 3) := by decide +kernel
theorem dX6_init_64 : decode cX6_init 64 = .ok (.aload_n 0, 1) := by decide +kernel
theorem dX6_init_65 : decode cX6_init 65 = .ok (.iconst 0, 1) := by decide +kernel
theorem dX6_init_66 : decode cX6_init 66 = .ok (.putfield 23, 3) := by decide +kernel
theorem dX6_init_69 : decode cX6_init 69 = .ok (.aload_n 0, 1) := by decide +kernel
theorem dX6_init_70 : decode cX6_init 70 = .ok (.bipush 6, 2) := by decide +kernel
theorem dX6_init_72 : decode cX6_init 72 = .ok (.anewarray 27, 3) := by decide +kernel
theorem dX6_init_75 : decode cX6_init 75 = .ok (.putfield 29, 3) := by decide +kernel
theorem dX6_init_78 : decode cX6_init 78 = .ok (.aload_n 0, 1) := by decide +kernel
theorem dX6_init_79 : decode cX6_init 79 = .ok (.iconst 0, 1) := by decide +kernel
theorem dX6_init_80 : decode cX6_init 80 = .ok (.putfield 33, 3) := by decide +kernel
theorem dX6_init_83 : decode cX6_init 83 = .ok (.aload_n 0, 1) := by decide +kernel
theorem dX6_init_84 : decode cX6_init 84 = .ok (.iconst 3, 1) := by decide +kernel
theorem dX6_init_85 : decode cX6_init 85 = .ok (.anewarray 27, 3) := by decide +kernel
theorem dX6_init_88 : decode cX6_init 88 = .ok (.putfield 36, 3) := by decide +kernel
theorem dX6_init_91 : decode cX6_init 91 = .ok (.aload_n 0, 1) := by decide +kernel
theorem dX6_init_92 : decode cX6_init 92 = .ok (.iconst 0, 1) := by decide +kernel
theorem dX6_init_93 : decode cX6_init 93 = .ok (.putfield 39, 3) := by decide +kernel
theorem dX6_init_96 : decode cX6_init 96 = .ok (.aload_n 0, 1) := by decide +kernel
theorem dX6_init_97 : decode cX6_init 97 = .ok (.bipush 6, 2) := by decide +kernel
theorem dX6_init_99 : decode cX6_init 99 = .ok (.newarray .int, 2) := by decide +kernel
theorem dX6_init_101 : decode cX6_init 101 = .ok (.putfield 42, 3) := by decide +kernel
theorem dX6_init_104 : decode cX6_init 104 = .ok (.aload_n 0, 1) := by decide +kernel
theorem dX6_init_105 : decode cX6_init 105 = .ok (.iconst 0, 1) := by decide +kernel
theorem dX6_init_106 : decode cX6_init 106 = .ok (.putfield 46, 3) := by decide +kernel
theorem dX6_init_109 : decode cX6_init 109 = .ok (.aload_n 0, 1) := by decide +kernel
theorem dX6_init_110 : decode cX6_init 110 = .ok (.sipush 300, 3) := by decide +kernel
theorem dX6_init_113 : decode cX6_init 113 = .ok (.newarray .int, 2) := by decide +kernel
theorem dX6_init_115 : decode cX6_init 115 = .ok (.putfield 49, 3) := by decide +kernel
theorem dX6_init_118 : decode cX6_init 118 = .ok (.aload_n 0, 1) := by decide +kernel
theorem dX6_init_119 : decode cX6_init 119 = .ok (.iconst 0, 1) := by decide +kernel
theorem dX6_init_120 : decode cX6_init 120 = .ok (.putfield 52, 3) := by decide +kernel
theorem dX6_init_123 : decode cX6_init 123 = .ok (.aload_n 0, 1) := by decide +kernel
theorem dX6_init_124 : decode cX6_init 124 = .ok (.iconst (-1), 1) := by decide +kernel
theorem dX6_init_125 : decode cX6_init 125 = .ok (.putfield 55, 3) := by decide +kernel
theorem dX6_init_128 : decode cX6_init 128 = .ok (.aload_n 0, 1) := by decide +kernel
theorem dX6_init_129 : decode cX6_init 129 = .ok (.new 58, 3) := by decide +kernel
theorem dX6_init_132 : decode cX6_init 132 = .ok (.dup, 1) := by decide +kernel
theorem dX6_init_133 : decode cX6_init 133 = .ok (.invokespecial 60, 3) := by decide +kernel
theorem dX6_init_136 : decode cX6_init 136 = .ok (.putfield 61, 3) := by decide +kernel
theorem dX6_init_139 : decode cX6_init 139 = .ok (.aload_n 0, 1) := by decide +kernel
theorem dX6_init_140 : decode cX6_init 140 = .ok (.new 65, 3) := by decide +kernel
theorem dX6_init_143 : decode cX6_init 143 = .ok (.dup, 1) := by decide +kernel
theorem dX6_init_144 : decode cX6_init 144 = .ok (.invokespecial 67, 3) := by decide +kernel
theorem dX6_init_147 : decode cX6_init 147 = .ok (.putfield 68, 3) := by decide +kernel
theorem dX6_init_150 : decode cX6_init 150 = .ok (.aload_n 0, 1) := by decide +kernel
theorem dX6_init_151 : decode cX6_init 151 = .ok (.new 72, 3) := by decide +kernel
theorem dX6_init_154 : decode cX6_init 154 = .ok (.dup, 1) := by decide +kernel
theorem dX6_init_155 : decode cX6_init 155 = .ok (.invokespecial 74, 3) := by decide +kernel
theorem dX6_init_158 : decode cX6_init 158 = .ok (.putfield 75, 3) := by decide +kernel
theorem dX6_init_161 : decode cX6_init 161 = .ok (.aload_n 0, 1) := by decide +kernel
theorem dX6_init_162 : decode cX6_init 162 = .ok (.bipush 36, 2) := by decide +kernel
theorem dX6_init_164 : decode cX6_init 164 = .ok (.newarray .int, 2) := by decide +kernel
theorem dX6_init_166 : decode cX6_init 166 = .ok (.putfield 79, 3) := by decide +kernel
theorem dX6_init_169 : decode cX6_init 169 = .ok (.aload_n 0, 1) := by decide +kernel
theorem dX6_init_170 : decode cX6_init 170 = .ok (.bipush 36, 2) := by decide +kernel
theorem dX6_init_172 : decode cX6_init 172 = .ok (.newarray .int, 2) := by decide +kernel
theorem dX6_init_174 : decode cX6_init 174 = .ok (.putfield 82, 3) := by decide +kernel
theorem dX6_init_177 : decode cX6_init 177 = .ok (.return_, 1) := by decide +kernel
set_option maxHeartbeats 4000000 in
set_option maxRecDepth 100000 in
theorem c_X2_init (l : Launch) (D : va_G) (K : Nat → ClassId) (b0 : Nat) (sa : Nat × Nat × Nat) (sz : Nat) (L : List Nat) (f0 : Nat → va_E) (Ψ : Nat → Nat) (hT : TW K (gof gX0) Ψ L f0) (x : Nat) (hm_x : x ∈ L) (ht_x : Ψ x = 9) (hf_x : f0 x = .inr (2, [.int 0, .null, .null, .null, .null, .null, .null, .null, .null])) : Met l yX2_init (.code yX2_init cX2_init 1 none :: gt) { frames := 1, cells := 8, slots := 232, locals := 23 } (va_Pc [.ref x] (hPre D K b0 sa sz L f0)) (hQ D K b0 (fun v9 u9 => ∃ (Ψ2 : Nat → Nat) (L2 : List Nat) (f2 : Nat → va_E), v9 = none ∧ u9 = ((gof gX0), Ψ2, L2, f2) ∧ TW K (gof gX0) Ψ2 L2 f2 ∧ Ex [9, 10, 11] (fun q9 => q9 = x) Ψ L f0 Ψ2 L2 f2 ∧ Ψ2 x = 2)) 8 232 (fun q => b0 ≤ q) := by
  refine t_of (own := RX2) (by decide) rfl ?_ (Nat.le_of_ble_eq_true rfl)
  intro p e s m below meth c ls C w hsz hr hlk hnm hl
  have hx := C.1
  have hb := C.2.1
  have hl : lv_has ls 1 [(0, .ref x)] := hl
  have hE : Ex [9, 10, 11] (fun q9 => q9 = x) Ψ L f0 Ψ L f0 := Ex.rf
  have hm0_x := hm_x
  have hz_x : x ∈ L → (fun q9 => q9 = x) x := fun _ => rfl
  refine lv_aload_n hx hb dX2_init_0 rfl (lv_at hl 0 rfl) ?_
  refine t_obj0 C hl.1 gw_42 gw_29 gw_30 dX2_init_1 (by decide) (Nat.le_of_ble_eq_true rfl) ?_
  refine lv_aload_n hx hb dX2_init_4 rfl (lv_at hl 0 rfl) ?_
  refine lv_iconst (v := 0) hx hb dX2_init_5 (by decide) ?_
  refine t_putR C w hT hE hm_x ht_x hf_x hz_x rfl cin_2 tyX2 tyX2_ok nmX2 0 (by decide) (Nat.le_of_ble_eq_true rfl) rfl rfl rfl (fs2 := [.int 0, .null, .null, .null, .null, .null, .null, .null, .null]) rfl gw_46 dX2_init_6 (fun f H locs w hT hE hf_x hk => ?_)
  clear hk
  refine lv_aload_n hx hb dX2_init_9 rfl (lv_at hl 0 rfl) ?_
  refine lv_bipush (v := 24) hx hb dX2_init_10 (by decide) ?_
  refine t_newI C w hT hE (by decide) (at_ := .int) (ty := .int) (ti := 0) rfl rfl (Or.inl rfl) gw_85 (N := 24) (by decide) (by decide) (by decide) (by decide) (by decide) dX2_init_12 (fun q1 Ψ2 L2 f H w hT hE hsp hm_q1 ht_q1 hf_q1 hz_q1 hnq hbk => ?_)
  have hn_x_q1 := hnq x hm_x
  have hf_x := ((hsp x hm_x).2.2 ht_x).trans hf_x
  have ht_x := (hsp x hm_x).2.1.trans ht_x
  have hm_x := (hsp x hm_x).1
  clear hsp hbk hnq
  obtain ⟨Ψ3, hT, hE, hs1, hs2, ht_q1x⟩ := t_tag (t := 10) hT hE ht_q1 hz_q1 (by decide) (t_tya (v := 0) (by decide) hf_q1 rfl rfl (fun i _ => rfl) (fun i => (gof_no rfl)))
  have ht_x := (hs2 x hn_x_q1).trans ht_x
  have ht_q1 := ht_q1x
  clear hs1 hs2 ht_q1x
  refine t_putRF C hnm w hT hE hm_x ht_x hf_x hz_x rfl cin_2 tyX2 tyX2_ok nmX2 1 (by decide) (Nat.le_of_ble_eq_true rfl) rfl rfl rfl rfl (fs2 := [.int 0, .ref q1, .null, .null, .null, .null, .null, .null, .null]) rfl gw_48 dX2_init_14 (fun f H locs w hT hE hf_x hk => ?_)
  clear hk
  refine lv_aload_n hx hb dX2_init_17 rfl (lv_at hl 0 rfl) ?_
  refine lv_bipush (v := 24) hx hb dX2_init_18 (by decide) ?_
  refine t_newI C w hT hE (by decide) (at_ := .int) (ty := .int) (ti := 0) rfl rfl (Or.inl rfl) gw_85 (N := 24) (by decide) (by decide) (by decide) (by decide) (by decide) dX2_init_20 (fun q4 Ψ5 L5 f H w hT hE hsp hm_q4 ht_q4 hf_q4 hz_q4 hnq hbk => ?_)
  have hn_x_q4 := hnq x hm_x
  have hf_x := ((hsp x hm_x).2.2 ht_x).trans hf_x
  have ht_x := (hsp x hm_x).2.1.trans ht_x
  have hm_x := (hsp x hm_x).1
  have ht_q1 := (hsp q1 hm_q1).2.1.trans ht_q1
  have hm_q1 := (hsp q1 hm_q1).1
  clear hsp hbk hnq
  obtain ⟨Ψ6, hT, hE, hs1, hs2, ht_q4x⟩ := t_tag (t := 10) hT hE ht_q4 hz_q4 (by decide) (t_tya (v := 0) (by decide) hf_q4 rfl rfl (fun i _ => rfl) (fun i => (gof_no rfl)))
  have ht_x := (hs2 x hn_x_q4).trans ht_x
  have ht_q1 := (hs1 q1 (by rw [ht_q1]; decide)).trans ht_q1
  have ht_q4 := ht_q4x
  clear hs1 hs2 ht_q4x
  refine t_putRF C hnm w hT hE hm_x ht_x hf_x hz_x rfl cin_2 tyX2 tyX2_ok nmX2 2 (by decide) (Nat.le_of_ble_eq_true rfl) rfl rfl rfl rfl (fs2 := [.int 0, .ref q1, .ref q4, .null, .null, .null, .null, .null, .null]) rfl gw_51 dX2_init_22 (fun f H locs w hT hE hf_x hk => ?_)
  clear hk
  refine lv_aload_n hx hb dX2_init_25 rfl (lv_at hl 0 rfl) ?_
  refine lv_bipush (v := 24) hx hb dX2_init_26 (by decide) ?_
  refine t_newI C w hT hE (by decide) (at_ := .int) (ty := .int) (ti := 0) rfl rfl (Or.inl rfl) gw_85 (N := 24) (by decide) (by decide) (by decide) (by decide) (by decide) dX2_init_28 (fun q7 Ψ8 L8 f H w hT hE hsp hm_q7 ht_q7 hf_q7 hz_q7 hnq hbk => ?_)
  have hn_x_q7 := hnq x hm_x
  have hf_x := ((hsp x hm_x).2.2 ht_x).trans hf_x
  have ht_x := (hsp x hm_x).2.1.trans ht_x
  have hm_x := (hsp x hm_x).1
  have ht_q1 := (hsp q1 hm_q1).2.1.trans ht_q1
  have hm_q1 := (hsp q1 hm_q1).1
  have ht_q4 := (hsp q4 hm_q4).2.1.trans ht_q4
  have hm_q4 := (hsp q4 hm_q4).1
  clear hsp hbk hnq
  obtain ⟨Ψ9, hT, hE, hs1, hs2, ht_q7x⟩ := t_tag (t := 10) hT hE ht_q7 hz_q7 (by decide) (t_tya (v := 0) (by decide) hf_q7 rfl rfl (fun i _ => rfl) (fun i => (gof_no rfl)))
  have ht_x := (hs2 x hn_x_q7).trans ht_x
  have ht_q1 := (hs1 q1 (by rw [ht_q1]; decide)).trans ht_q1
  have ht_q4 := (hs1 q4 (by rw [ht_q4]; decide)).trans ht_q4
  have ht_q7 := ht_q7x
  clear hs1 hs2 ht_q7x
  refine t_putRF C hnm w hT hE hm_x ht_x hf_x hz_x rfl cin_2 tyX2 tyX2_ok nmX2 3 (by decide) (Nat.le_of_ble_eq_true rfl) rfl rfl rfl rfl (fs2 := [.int 0, .ref q1, .ref q4, .ref q7, .null, .null, .null, .null, .null]) rfl gw_54 dX2_init_30 (fun f H locs w hT hE hf_x hk => ?_)
  clear hk
  refine lv_aload_n hx hb dX2_init_33 rfl (lv_at hl 0 rfl) ?_
  refine lv_bipush (v := 24) hx hb dX2_init_34 (by decide) ?_
  refine t_newI C w hT hE (by decide) (at_ := .int) (ty := .int) (ti := 0) rfl rfl (Or.inl rfl) gw_85 (N := 24) (by decide) (by decide) (by decide) (by decide) (by decide) dX2_init_36 (fun q10 Ψ11 L11 f H w hT hE hsp hm_q10 ht_q10 hf_q10 hz_q10 hnq hbk => ?_)
  have hn_x_q10 := hnq x hm_x
  have hf_x := ((hsp x hm_x).2.2 ht_x).trans hf_x
  have ht_x := (hsp x hm_x).2.1.trans ht_x
  have hm_x := (hsp x hm_x).1
  have ht_q1 := (hsp q1 hm_q1).2.1.trans ht_q1
  have hm_q1 := (hsp q1 hm_q1).1
  have ht_q4 := (hsp q4 hm_q4).2.1.trans ht_q4
  have hm_q4 := (hsp q4 hm_q4).1
  have ht_q7 := (hsp q7 hm_q7).2.1.trans ht_q7
  have hm_q7 := (hsp q7 hm_q7).1
  clear hsp hbk hnq
  obtain ⟨Ψ12, hT, hE, hs1, hs2, ht_q10x⟩ := t_tag (t := 10) hT hE ht_q10 hz_q10 (by decide) (t_tya (v := 0) (by decide) hf_q10 rfl rfl (fun i _ => rfl) (fun i => (gof_no rfl)))
  have ht_x := (hs2 x hn_x_q10).trans ht_x
  have ht_q1 := (hs1 q1 (by rw [ht_q1]; decide)).trans ht_q1
  have ht_q4 := (hs1 q4 (by rw [ht_q4]; decide)).trans ht_q4
  have ht_q7 := (hs1 q7 (by rw [ht_q7]; decide)).trans ht_q7
  have ht_q10 := ht_q10x
  clear hs1 hs2 ht_q10x
  refine t_putRF C hnm w hT hE hm_x ht_x hf_x hz_x rfl cin_2 tyX2 tyX2_ok nmX2 4 (by decide) (Nat.le_of_ble_eq_true rfl) rfl rfl rfl rfl (fs2 := [.int 0, .ref q1, .ref q4, .ref q7, .ref q10, .null, .null, .null, .null]) rfl gw_56 dX2_init_38 (fun f H locs w hT hE hf_x hk => ?_)
  clear hk
  refine lv_aload_n hx hb dX2_init_41 rfl (lv_at hl 0 rfl) ?_
  refine lv_bipush (v := 24) hx hb dX2_init_42 (by decide) ?_
  refine t_newI C w hT hE (by decide) (at_ := .int) (ty := .int) (ti := 0) rfl rfl (Or.inl rfl) gw_85 (N := 24) (by decide) (by decide) (by decide) (by decide) (by decide) dX2_init_44 (fun q13 Ψ14 L14 f H w hT hE hsp hm_q13 ht_q13 hf_q13 hz_q13 hnq hbk => ?_)
  have hn_x_q13 := hnq x hm_x
  have hf_x := ((hsp x hm_x).2.2 ht_x).trans hf_x
  have ht_x := (hsp x hm_x).2.1.trans ht_x
  have hm_x := (hsp x hm_x).1
  have ht_q1 := (hsp q1 hm_q1).2.1.trans ht_q1
  have hm_q1 := (hsp q1 hm_q1).1
  have ht_q4 := (hsp q4 hm_q4).2.1.trans ht_q4
  have hm_q4 := (hsp q4 hm_q4).1
  have ht_q7 := (hsp q7 hm_q7).2.1.trans ht_q7
  have hm_q7 := (hsp q7 hm_q7).1
  have ht_q10 := (hsp q10 hm_q10).2.1.trans ht_q10
  have hm_q10 := (hsp q10 hm_q10).1
  clear hsp hbk hnq
  obtain ⟨Ψ15, hT, hE, hs1, hs2, ht_q13x⟩ := t_tag (t := 10) hT hE ht_q13 hz_q13 (by decide) (t_tya (v := 0) (by decide) hf_q13 rfl rfl (fun i _ => rfl) (fun i => (gof_no rfl)))
  have ht_x := (hs2 x hn_x_q13).trans ht_x
  have ht_q1 := (hs1 q1 (by rw [ht_q1]; decide)).trans ht_q1
  have ht_q4 := (hs1 q4 (by rw [ht_q4]; decide)).trans ht_q4
  have ht_q7 := (hs1 q7 (by rw [ht_q7]; decide)).trans ht_q7
  have ht_q10 := (hs1 q10 (by rw [ht_q10]; decide)).trans ht_q10
  have ht_q13 := ht_q13x
  clear hs1 hs2 ht_q13x
  refine t_putRF C hnm w hT hE hm_x ht_x hf_x hz_x rfl cin_2 tyX2 tyX2_ok nmX2 5 (by decide) (Nat.le_of_ble_eq_true rfl) rfl rfl rfl rfl (fs2 := [.int 0, .ref q1, .ref q4, .ref q7, .ref q10, .ref q13, .null, .null, .null]) rfl gw_59 dX2_init_46 (fun f H locs w hT hE hf_x hk => ?_)
  clear hk
  refine lv_aload_n hx hb dX2_init_49 rfl (lv_at hl 0 rfl) ?_
  refine lv_bipush (v := 24) hx hb dX2_init_50 (by decide) ?_
  refine t_newI C w hT hE (by decide) (at_ := .int) (ty := .int) (ti := 0) rfl rfl (Or.inl rfl) gw_85 (N := 24) (by decide) (by decide) (by decide) (by decide) (by decide) dX2_init_52 (fun q16 Ψ17 L17 f H w hT hE hsp hm_q16 ht_q16 hf_q16 hz_q16 hnq hbk => ?_)
  have hn_x_q16 := hnq x hm_x
  have hf_x := ((hsp x hm_x).2.2 ht_x).trans hf_x
  have ht_x := (hsp x hm_x).2.1.trans ht_x
  have hm_x := (hsp x hm_x).1
  have ht_q1 := (hsp q1 hm_q1).2.1.trans ht_q1
  have hm_q1 := (hsp q1 hm_q1).1
  have ht_q4 := (hsp q4 hm_q4).2.1.trans ht_q4
  have hm_q4 := (hsp q4 hm_q4).1
  have ht_q7 := (hsp q7 hm_q7).2.1.trans ht_q7
  have hm_q7 := (hsp q7 hm_q7).1
  have ht_q10 := (hsp q10 hm_q10).2.1.trans ht_q10
  have hm_q10 := (hsp q10 hm_q10).1
  have ht_q13 := (hsp q13 hm_q13).2.1.trans ht_q13
  have hm_q13 := (hsp q13 hm_q13).1
  clear hsp hbk hnq
  obtain ⟨Ψ18, hT, hE, hs1, hs2, ht_q16x⟩ := t_tag (t := 10) hT hE ht_q16 hz_q16 (by decide) (t_tya (v := 0) (by decide) hf_q16 rfl rfl (fun i _ => rfl) (fun i => (gof_no rfl)))
  have ht_x := (hs2 x hn_x_q16).trans ht_x
  have ht_q1 := (hs1 q1 (by rw [ht_q1]; decide)).trans ht_q1
  have ht_q4 := (hs1 q4 (by rw [ht_q4]; decide)).trans ht_q4
  have ht_q7 := (hs1 q7 (by rw [ht_q7]; decide)).trans ht_q7
  have ht_q10 := (hs1 q10 (by rw [ht_q10]; decide)).trans ht_q10
  have ht_q13 := (hs1 q13 (by rw [ht_q13]; decide)).trans ht_q13
  have ht_q16 := ht_q16x
  clear hs1 hs2 ht_q16x
  refine t_putRF C hnm w hT hE hm_x ht_x hf_x hz_x rfl cin_2 tyX2 tyX2_ok nmX2 6 (by decide) (Nat.le_of_ble_eq_true rfl) rfl rfl rfl rfl (fs2 := [.int 0, .ref q1, .ref q4, .ref q7, .ref q10, .ref q13, .ref q16, .null, .null]) rfl gw_60 dX2_init_54 (fun f H locs w hT hE hf_x hk => ?_)
  clear hk
  refine lv_aload_n hx hb dX2_init_57 rfl (lv_at hl 0 rfl) ?_
  refine lv_bipush (v := 24) hx hb dX2_init_58 (by decide) ?_
  refine t_newI C w hT hE (by decide) (at_ := .int) (ty := .int) (ti := 0) rfl rfl (Or.inl rfl) gw_85 (N := 24) (by decide) (by decide) (by decide) (by decide) (by decide) dX2_init_60 (fun q19 Ψ20 L20 f H w hT hE hsp hm_q19 ht_q19 hf_q19 hz_q19 hnq hbk => ?_)
  have hn_x_q19 := hnq x hm_x
  have hf_x := ((hsp x hm_x).2.2 ht_x).trans hf_x
  have ht_x := (hsp x hm_x).2.1.trans ht_x
  have hm_x := (hsp x hm_x).1
  have ht_q1 := (hsp q1 hm_q1).2.1.trans ht_q1
  have hm_q1 := (hsp q1 hm_q1).1
  have ht_q4 := (hsp q4 hm_q4).2.1.trans ht_q4
  have hm_q4 := (hsp q4 hm_q4).1
  have ht_q7 := (hsp q7 hm_q7).2.1.trans ht_q7
  have hm_q7 := (hsp q7 hm_q7).1
  have ht_q10 := (hsp q10 hm_q10).2.1.trans ht_q10
  have hm_q10 := (hsp q10 hm_q10).1
  have ht_q13 := (hsp q13 hm_q13).2.1.trans ht_q13
  have hm_q13 := (hsp q13 hm_q13).1
  have ht_q16 := (hsp q16 hm_q16).2.1.trans ht_q16
  have hm_q16 := (hsp q16 hm_q16).1
  clear hsp hbk hnq
  obtain ⟨Ψ21, hT, hE, hs1, hs2, ht_q19x⟩ := t_tag (t := 10) hT hE ht_q19 hz_q19 (by decide) (t_tya (v := 0) (by decide) hf_q19 rfl rfl (fun i _ => rfl) (fun i => (gof_no rfl)))
  have ht_x := (hs2 x hn_x_q19).trans ht_x
  have ht_q1 := (hs1 q1 (by rw [ht_q1]; decide)).trans ht_q1
  have ht_q4 := (hs1 q4 (by rw [ht_q4]; decide)).trans ht_q4
  have ht_q7 := (hs1 q7 (by rw [ht_q7]; decide)).trans ht_q7
  have ht_q10 := (hs1 q10 (by rw [ht_q10]; decide)).trans ht_q10
  have ht_q13 := (hs1 q13 (by rw [ht_q13]; decide)).trans ht_q13
  have ht_q16 := (hs1 q16 (by rw [ht_q16]; decide)).trans ht_q16
  have ht_q19 := ht_q19x
  clear hs1 hs2 ht_q19x
  refine t_putRF C hnm w hT hE hm_x ht_x hf_x hz_x rfl cin_2 tyX2 tyX2_ok nmX2 7 (by decide) (Nat.le_of_ble_eq_true rfl) rfl rfl rfl rfl (fs2 := [.int 0, .ref q1, .ref q4, .ref q7, .ref q10, .ref q13, .ref q16, .ref q19, .null]) rfl gw_62 dX2_init_62 (fun f H locs w hT hE hf_x hk => ?_)
  clear hk
  refine lv_aload_n hx hb dX2_init_65 rfl (lv_at hl 0 rfl) ?_
  refine lv_bipush (v := 64) hx hb dX2_init_66 (by decide) ?_
  refine t_newI C w hT hE (by decide) (at_ := .int) (ty := .int) (ti := 0) rfl rfl (Or.inl rfl) gw_85 (N := 64) (by decide) (by decide) (by decide) (by decide) (by decide) dX2_init_68 (fun q22 Ψ23 L23 f H w hT hE hsp hm_q22 ht_q22 hf_q22 hz_q22 hnq hbk => ?_)
  have hn_x_q22 := hnq x hm_x
  have hf_x := ((hsp x hm_x).2.2 ht_x).trans hf_x
  have ht_x := (hsp x hm_x).2.1.trans ht_x
  have hm_x := (hsp x hm_x).1
  have ht_q1 := (hsp q1 hm_q1).2.1.trans ht_q1
  have hm_q1 := (hsp q1 hm_q1).1
  have ht_q4 := (hsp q4 hm_q4).2.1.trans ht_q4
  have hm_q4 := (hsp q4 hm_q4).1
  have ht_q7 := (hsp q7 hm_q7).2.1.trans ht_q7
  have hm_q7 := (hsp q7 hm_q7).1
  have ht_q10 := (hsp q10 hm_q10).2.1.trans ht_q10
  have hm_q10 := (hsp q10 hm_q10).1
  have ht_q13 := (hsp q13 hm_q13).2.1.trans ht_q13
  have hm_q13 := (hsp q13 hm_q13).1
  have ht_q16 := (hsp q16 hm_q16).2.1.trans ht_q16
  have hm_q16 := (hsp q16 hm_q16).1
  have ht_q19 := (hsp q19 hm_q19).2.1.trans ht_q19
  have hm_q19 := (hsp q19 hm_q19).1
  clear hsp hbk hnq
  refine t_putRF C hnm w hT hE hm_x ht_x hf_x hz_x rfl cin_2 tyX2 tyX2_ok nmX2 8 (by decide) (Nat.le_of_ble_eq_true rfl) rfl rfl rfl rfl (fs2 := [.int 0, .ref q1, .ref q4, .ref q7, .ref q10, .ref q13, .ref q16, .ref q19, .ref q22]) rfl gw_63 dX2_init_70 (fun f H locs w hT hE hf_x hk => ?_)
  have hf_q22 := (hk q22 (Ne.symm hn_x_q22)).trans hf_q22
  clear hk
  refine lv_aload_n hx hb dX2_init_73 rfl (lv_at hl 0 rfl) ?_
  refine t_getv C w hm_x hf_x rfl cin_2 8 (by decide) rfl gw_63 dX2_init_74 ?_
  refine lv_iconst (v := (-1)) hx hb dX2_init_77 (by decide) ?_
  refine t_callS (n := 2) C w (c_fillR l D K b0 sa _ L23 _ Ψ23 _ hT q22 hm_q22 ht_q22 hf_q22) gw_45 gw_43 gw_44 gw_4 ⟨by decide, by decide, by decide +kernel⟩ rfl rfl ⟨by decide, by decide⟩ rfl hl.1 rfl (Nat.le_of_ble_eq_true rfl) dX2_init_78 ⟨by decide, by decide⟩ (fun v u H locs hp w => ?_)
  obtain ⟨f2, g_q22, rfl, rfl, hT2, hf_q22, hg_q22, hk⟩ := hp
  have hE := hE.raw2 hz_q22 hk
  have hf_x := (hk x hn_x_q22).trans hf_x
  clear hT
  have hT := hT2
  clear hT2 hk
  generalize f2 = f at w hT hE hf_q22 hf_x
  obtain ⟨Ψ24, hT, hE, hs1, hs2, ht_q22x⟩ := t_tag (t := 11) hT hE ht_q22 hz_q22 (by decide) (t_tya (v := (-1)) (by decide) hf_q22 rfl rfl hg_q22 (fun i => (gof_is rfl)))
  have ht_x := (hs2 x hn_x_q22).trans ht_x
  have ht_q1 := (hs1 q1 (by rw [ht_q1]; decide)).trans ht_q1
  have ht_q4 := (hs1 q4 (by rw [ht_q4]; decide)).trans ht_q4
  have ht_q7 := (hs1 q7 (by rw [ht_q7]; decide)).trans ht_q7
  have ht_q10 := (hs1 q10 (by rw [ht_q10]; decide)).trans ht_q10
  have ht_q13 := (hs1 q13 (by rw [ht_q13]; decide)).trans ht_q13
  have ht_q16 := (hs1 q16 (by rw [ht_q16]; decide)).trans ht_q16
  have ht_q19 := (hs1 q19 (by rw [ht_q19]; decide)).trans ht_q19
  have ht_q22 := ht_q22x
  clear hs1 hs2 ht_q22x
  obtain ⟨Ψ25, hT, hE, hs1, hs2, ht_xx⟩ := t_tagX (t := 2) hT hE ht_x hm0_x rfl (t_tyo (by decide) hf_x (ds := [(0, 0), (1, 10), (1, 10), (1, 10), (1, 10), (1, 10), (1, 10), (1, 10), (1, 11)]) rfl (tyL_c (tyv_i (gof_is rfl)) (tyL_c (tyv_r hm_q1 ht_q1) (tyL_c (tyv_r hm_q4 ht_q4) (tyL_c (tyv_r hm_q7 ht_q7) (tyL_c (tyv_r hm_q10 ht_q10) (tyL_c (tyv_r hm_q13 ht_q13) (tyL_c (tyv_r hm_q16 ht_q16) (tyL_c (tyv_r hm_q19 ht_q19) (tyL_c (tyv_r hm_q22 ht_q22) trivial))))))))))
  have ht_x := ht_xx
  clear hs1 hs2 ht_xx
  exact t_vret C hr hlk w ⟨_, _, _, rfl, rfl, hT, hE, ht_x⟩ (by decide) (by decide) dX2_init_81
set_option maxHeartbeats 4000000 in
set_option maxRecDepth 100000 in
theorem c_X0_init (l : Launch) (D : va_G) (K : Nat → ClassId) (b0 : Nat) (sa : Nat × Nat × Nat) (sz : Nat) (L : List Nat) (f0 : Nat → va_E) (Ψ : Nat → Nat) (hT : TW K (gof gX0) Ψ L f0) (x : Nat) (hm_x : x ∈ L) (ht_x : Ψ x = 9) (hf_x : f0 x = .inr (0, [.null, .int 0, .int 0, .int 0, .int 0, .int 0, .int 0, .int 0, .int 0, .int 0, .int 0, .null, .int 0])) : Met l yX0_init (.code yX0_init cX0_init 1 none :: gt) { frames := 2, cells := 10, slots := 441, locals := 43 } (va_Pc [.ref x] (hPre D K b0 sa sz L f0)) (hQ D K b0 (fun v9 u9 => ∃ (Ψ2 : Nat → Nat) (L2 : List Nat) (f2 : Nat → va_E), v9 = none ∧ u9 = ((gof gX0), Ψ2, L2, f2) ∧ TW K (gof gX0) Ψ2 L2 f2 ∧ Ex [9, 2, 10, 11, 21] (fun q9 => q9 = x) Ψ L f0 Ψ2 L2 f2 ∧ Ψ2 x = 0)) 10 441 (fun q => b0 ≤ q) := by
  refine t_of (own := RX0) (by decide) rfl ?_ (Nat.le_of_ble_eq_true rfl)
  intro p e s m below meth c ls C w hsz hr hlk hnm hl
  have hx := C.1
  have hb := C.2.1
  have hl : lv_has ls 1 [(0, .ref x)] := hl
  have hE : Ex [9, 2, 10, 11, 21] (fun q9 => q9 = x) Ψ L f0 Ψ L f0 := Ex.rf
  have hm0_x := hm_x
  have hz_x : x ∈ L → (fun q9 => q9 = x) x := fun _ => rfl
  refine lv_aload_n hx hb dX0_init_0 rfl (lv_at hl 0 rfl) ?_
  refine t_obj0 C hl.1 gw_36 gw_29 gw_30 dX0_init_1 (by decide) (Nat.le_of_ble_eq_true rfl) ?_
  refine lv_aload_n hx hb dX0_init_4 rfl (lv_at hl 0 rfl) ?_
  refine t_new C w hT hE (by decide) (t := 2) rfl cin_2 tyX2 tyX2_ok gw_37 gw_38 gw_3 (fs := [.int 0, .null, .null, .null, .null, .null, .null, .null, .null]) dfl_2 (by decide) (by decide) dX0_init_5 (fun q1 Ψ2 L2 f H w hT hE hsp hm_q1 ht_q1 hf_q1 hz_q1 hnq hbk => ?_)
  have hn_x_q1 := hnq x hm_x
  have hf_x := ((hsp x hm_x).2.2 ht_x).trans hf_x
  have ht_x := (hsp x hm_x).2.1.trans ht_x
  have hm_x := (hsp x hm_x).1
  clear hsp hbk hnq
  refine lv_dup hx hb dX0_init_8 rfl ?_
  refine t_callI (n := 0) C w (c_X2_init l D K b0 sa _ L2 _ Ψ2 hT q1 hm_q1 ht_q1 hf_q1) gw_41 gw_39 rfl gw_40 gw_3 ⟨by decide, by decide, by decide +kernel⟩ rfl rfl ⟨by decide, by decide⟩ rfl hl.1 rfl (Nat.le_of_ble_eq_true rfl) dX0_init_9 ⟨by decide, by decide⟩ (fun v u H locs hp w => ?_)
  obtain ⟨Ψ3, L3, f2, rfl, rfl, hT2, hE2, ht_q1x⟩ := hp
  have hE := hE.tr hE2 (by decide) (fun b e9 h => by have e9 : b = q1 := e9; subst e9; exact hz_q1 h) (fun b e9 => by have e9 : b = q1 := e9; subst e9; rw [ht_q1x]; decide)
  have hsp := hE2.sp hm_x hn_x_q1
  have hf_x := (hsp.2.2 ht_x).trans hf_x
  have ht_x := hsp.2.1.trans ht_x
  have hm_x := hsp.1
  have hm_q1 := (hE2.1 q1 hm_q1).1
  have ht_q1 := ht_q1x
  clear hT
  have hT := hT2
  clear hT2 hE2 ht_q1x
  generalize f2 = f at w hT hE hf_x
  refine t_putRF C hnm w hT hE hm_x ht_x hf_x hz_x rfl cin_0 tyX0 tyX0_ok nmX0 0 (by decide) (Nat.le_of_ble_eq_true rfl) rfl rfl rfl rfl (fs2 := [.ref q1, .int 0, .int 0, .int 0, .int 0, .int 0, .int 0, .int 0, .int 0, .int 0, .int 0, .null, .int 0]) rfl gw_88 dX0_init_12 (fun f H locs w hT hE hf_x hk => ?_)
  clear hk
  refine lv_aload_n hx hb dX0_init_15 rfl (lv_at hl 0 rfl) ?_
  refine lv_bipush (v := 63) hx hb dX0_init_16 (by decide) ?_
  refine t_putR C w hT hE hm_x ht_x hf_x hz_x rfl cin_0 tyX0 tyX0_ok nmX0 1 (by decide) (Nat.le_of_ble_eq_true rfl) rfl rfl rfl (fs2 := [.ref q1, .int 63, .int 0, .int 0, .int 0, .int 0, .int 0, .int 0, .int 0, .int 0, .int 0, .null, .int 0]) rfl gw_91 dX0_init_18 (fun f H locs w hT hE hf_x hk => ?_)
  clear hk
  refine lv_aload_n hx hb dX0_init_21 rfl (lv_at hl 0 rfl) ?_
  refine lv_bipush (v := 14) hx hb dX0_init_22 (by decide) ?_
  refine t_putR C w hT hE hm_x ht_x hf_x hz_x rfl cin_0 tyX0 tyX0_ok nmX0 2 (by decide) (Nat.le_of_ble_eq_true rfl) rfl rfl rfl (fs2 := [.ref q1, .int 63, .int 14, .int 0, .int 0, .int 0, .int 0, .int 0, .int 0, .int 0, .int 0, .null, .int 0]) rfl gw_94 dX0_init_24 (fun f H locs w hT hE hf_x hk => ?_)
  clear hk
  refine lv_aload_n hx hb dX0_init_27 rfl (lv_at hl 0 rfl) ?_
  refine lv_iconst (v := 1) hx hb dX0_init_28 (by decide) ?_
  refine t_putR C w hT hE hm_x ht_x hf_x hz_x rfl cin_0 tyX0 tyX0_ok nmX0 3 (by decide) (Nat.le_of_ble_eq_true rfl) rfl rfl rfl (fs2 := [.ref q1, .int 63, .int 14, .int 1, .int 0, .int 0, .int 0, .int 0, .int 0, .int 0, .int 0, .null, .int 0]) rfl gw_97 dX0_init_29 (fun f H locs w hT hE hf_x hk => ?_)
  clear hk
  refine lv_aload_n hx hb dX0_init_32 rfl (lv_at hl 0 rfl) ?_
  refine lv_iconst (v := 0) hx hb dX0_init_33 (by decide) ?_
  refine t_putR C w hT hE hm_x ht_x hf_x hz_x rfl cin_0 tyX0 tyX0_ok nmX0 4 (by decide) (Nat.le_of_ble_eq_true rfl) rfl rfl rfl (fs2 := [.ref q1, .int 63, .int 14, .int 1, .int 0, .int 0, .int 0, .int 0, .int 0, .int 0, .int 0, .null, .int 0]) rfl gw_100 dX0_init_34 (fun f H locs w hT hE hf_x hk => ?_)
  clear hk
  refine lv_aload_n hx hb dX0_init_37 rfl (lv_at hl 0 rfl) ?_
  refine lv_iconst (v := 1) hx hb dX0_init_38 (by decide) ?_
  refine t_putR C w hT hE hm_x ht_x hf_x hz_x rfl cin_0 tyX0 tyX0_ok nmX0 5 (by decide) (Nat.le_of_ble_eq_true rfl) rfl rfl rfl (fs2 := [.ref q1, .int 63, .int 14, .int 1, .int 0, .int 1, .int 0, .int 0, .int 0, .int 0, .int 0, .null, .int 0]) rfl gw_103 dX0_init_39 (fun f H locs w hT hE hf_x hk => ?_)
  clear hk
  refine lv_aload_n hx hb dX0_init_42 rfl (lv_at hl 0 rfl) ?_
  refine lv_iconst (v := (-1)) hx hb dX0_init_43 (by decide) ?_
  refine t_putR C w hT hE hm_x ht_x hf_x hz_x rfl cin_0 tyX0 tyX0_ok nmX0 6 (by decide) (Nat.le_of_ble_eq_true rfl) rfl rfl rfl (fs2 := [.ref q1, .int 63, .int 14, .int 1, .int 0, .int 1, .int (-1), .int 0, .int 0, .int 0, .int 0, .null, .int 0]) rfl gw_105 dX0_init_44 (fun f H locs w hT hE hf_x hk => ?_)
  clear hk
  refine lv_aload_n hx hb dX0_init_47 rfl (lv_at hl 0 rfl) ?_
  refine lv_iconst (v := 0) hx hb dX0_init_48 (by decide) ?_
  refine t_putR C w hT hE hm_x ht_x hf_x hz_x rfl cin_0 tyX0 tyX0_ok nmX0 7 (by decide) (Nat.le_of_ble_eq_true rfl) rfl rfl rfl (fs2 := [.ref q1, .int 63, .int 14, .int 1, .int 0, .int 1, .int (-1), .int 0, .int 0, .int 0, .int 0, .null, .int 0]) rfl gw_107 dX0_init_49 (fun f H locs w hT hE hf_x hk => ?_)
  clear hk
  refine lv_aload_n hx hb dX0_init_52 rfl (lv_at hl 0 rfl) ?_
  refine lv_iconst (v := 0) hx hb dX0_init_53 (by decide) ?_
  refine t_putR C w hT hE hm_x ht_x hf_x hz_x rfl cin_0 tyX0 tyX0_ok nmX0 8 (by decide) (Nat.le_of_ble_eq_true rfl) rfl rfl rfl (fs2 := [.ref q1, .int 63, .int 14, .int 1, .int 0, .int 1, .int (-1), .int 0, .int 0, .int 0, .int 0, .null, .int 0]) rfl gw_110 dX0_init_54 (fun f H locs w hT hE hf_x hk => ?_)
  clear hk
  refine lv_aload_n hx hb dX0_init_57 rfl (lv_at hl 0 rfl) ?_
  refine lv_iconst (v := 0) hx hb dX0_init_58 (by decide) ?_
  refine t_putR C w hT hE hm_x ht_x hf_x hz_x rfl cin_0 tyX0 tyX0_ok nmX0 9 (by decide) (Nat.le_of_ble_eq_true rfl) rfl rfl rfl (fs2 := [.ref q1, .int 63, .int 14, .int 1, .int 0, .int 1, .int (-1), .int 0, .int 0, .int 0, .int 0, .null, .int 0]) rfl gw_113 dX0_init_59 (fun f H locs w hT hE hf_x hk => ?_)
  clear hk
  refine lv_aload_n hx hb dX0_init_62 rfl (lv_at hl 0 rfl) ?_
  refine lv_iconst (v := 0) hx hb dX0_init_63 (by decide) ?_
  refine t_putR C w hT hE hm_x ht_x hf_x hz_x rfl cin_0 tyX0 tyX0_ok nmX0 10 (by decide) (Nat.le_of_ble_eq_true rfl) rfl rfl rfl (fs2 := [.ref q1, .int 63, .int 14, .int 1, .int 0, .int 1, .int (-1), .int 0, .int 0, .int 0, .int 0, .null, .int 0]) rfl gw_116 dX0_init_64 (fun f H locs w hT hE hf_x hk => ?_)
  clear hk
  refine lv_aload_n hx hb dX0_init_67 rfl (lv_at hl 0 rfl) ?_
  refine lv_sipush (v := 200) hx hb dX0_init_68 (by decide) ?_
  refine t_newQ C w hT hE (by decide) (ti := 4) rfl gw_86 w.2.2.2.2.2.1.2.2.2.1.1 (N := 200) (by decide) (by decide) (by decide) (by decide) (by decide) dX0_init_71 (fun q4 Ψ5 L5 f H w hT hE hsp hm_q4 ht_q4 hf_q4 hz_q4 hnq hbk => ?_)
  have hn_x_q4 := hnq x hm_x
  have hf_x := ((hsp x hm_x).2.2 ht_x).trans hf_x
  have ht_x := (hsp x hm_x).2.1.trans ht_x
  have hm_x := (hsp x hm_x).1
  have ht_q1 := (hsp q1 hm_q1).2.1.trans ht_q1
  have hm_q1 := (hsp q1 hm_q1).1
  clear hsp hbk hnq
  obtain ⟨Ψ6, hT, hE, hs1, hs2, ht_q4x⟩ := t_tag (t := 21) hT hE ht_q4 hz_q4 (by decide) (t_tyn (by decide) hf_q4 rfl rfl)
  have ht_x := (hs2 x hn_x_q4).trans ht_x
  have ht_q1 := (hs1 q1 (by rw [ht_q1]; decide)).trans ht_q1
  have ht_q4 := ht_q4x
  clear hs1 hs2 ht_q4x
  refine t_putRF C hnm w hT hE hm_x ht_x hf_x hz_x rfl cin_0 tyX0 tyX0_ok nmX0 11 (by decide) (Nat.le_of_ble_eq_true rfl) rfl rfl rfl rfl (fs2 := [.ref q1, .int 63, .int 14, .int 1, .int 0, .int 1, .int (-1), .int 0, .int 0, .int 0, .int 0, .ref q4, .int 0]) rfl gw_119 dX0_init_74 (fun f H locs w hT hE hf_x hk => ?_)
  clear hk
  refine lv_aload_n hx hb dX0_init_77 rfl (lv_at hl 0 rfl) ?_
  refine lv_iconst (v := 0) hx hb dX0_init_78 (by decide) ?_
  refine t_putR C w hT hE hm_x ht_x hf_x hz_x rfl cin_0 tyX0 tyX0_ok nmX0 12 (by decide) (Nat.le_of_ble_eq_true rfl) rfl rfl rfl (fs2 := [.ref q1, .int 63, .int 14, .int 1, .int 0, .int 1, .int (-1), .int 0, .int 0, .int 0, .int 0, .ref q4, .int 0]) rfl gw_120 dX0_init_79 (fun f H locs w hT hE hf_x hk => ?_)
  clear hk
  obtain ⟨Ψ7, hT, hE, hs1, hs2, ht_xx⟩ := t_tagX (t := 0) hT hE ht_x hm0_x rfl (t_tyo (by decide) hf_x (ds := [(1, 2), (0, 0), (0, 0), (0, 0), (0, 0), (0, 0), (0, 0), (0, 0), (0, 0), (0, 0), (0, 0), (1, 21), (0, 0)]) rfl (tyL_c (tyv_r hm_q1 ht_q1) (tyL_c (tyv_i (gof_is rfl)) (tyL_c (tyv_i (gof_is rfl)) (tyL_c (tyv_i (gof_is rfl)) (tyL_c (tyv_i (gof_is rfl)) (tyL_c (tyv_i (gof_is rfl)) (tyL_c (tyv_i (gof_is rfl)) (tyL_c (tyv_i (gof_is rfl)) (tyL_c (tyv_i (gof_is rfl)) (tyL_c (tyv_i (gof_is rfl)) (tyL_c (tyv_i (gof_is rfl)) (tyL_c (tyv_r hm_q4 ht_q4) (tyL_c (tyv_i (gof_is rfl)) trivial))))))))))))))
  have ht_x := ht_xx
  clear hs1 hs2 ht_xx
  exact t_vret C hr hlk w ⟨_, _, _, rfl, rfl, hT, hE, ht_x⟩ (by decide) (by decide) dX0_init_82
set_option maxHeartbeats 4000000 in
set_option maxRecDepth 100000 in
theorem c_X3_init (l : Launch) (D : va_G) (K : Nat → ClassId) (b0 : Nat) (sa : Nat × Nat × Nat) (sz : Nat) (L : List Nat) (f0 : Nat → va_E) (Ψ : Nat → Nat) (hT : TW K (gof gX0) Ψ L f0) (x : Nat) (hm_x : x ∈ L) (ht_x : Ψ x = 9) (hf_x : f0 x = .inr (3, [.null, .int 0, .null])) : Met l yX3_init (.code yX3_init cX3_init 1 none :: gt) { frames := 1, cells := 2, slots := 303, locals := 12 } (va_Pc [.ref x] (hPre D K b0 sa sz L f0)) (hQ D K b0 (fun v9 u9 => ∃ (Ψ2 : Nat → Nat) (L2 : List Nat) (f2 : Nat → va_E), v9 = none ∧ u9 = ((gof gX0), Ψ2, L2, f2) ∧ TW K (gof gX0) Ψ2 L2 f2 ∧ Ex [9, 13, 14] (fun q9 => q9 = x) Ψ L f0 Ψ2 L2 f2 ∧ Ψ2 x = 3)) 2 303 (fun q => b0 ≤ q) := by
  refine t_of (own := RX3) (by decide) rfl ?_ (Nat.le_of_ble_eq_true rfl)
  intro p e s m below meth c ls C w hsz hr hlk hnm hl
  have hx := C.1
  have hb := C.2.1
  have hl : lv_has ls 1 [(0, .ref x)] := hl
  have hE : Ex [9, 13, 14] (fun q9 => q9 = x) Ψ L f0 Ψ L f0 := Ex.rf
  have hm0_x := hm_x
  have hz_x : x ∈ L → (fun q9 => q9 = x) x := fun _ => rfl
  refine lv_aload_n hx hb dX3_init_0 rfl (lv_at hl 0 rfl) ?_
  refine t_obj0 C hl.1 gw_202 gw_29 gw_30 dX3_init_1 (by decide) (Nat.le_of_ble_eq_true rfl) ?_
  refine lv_aload_n hx hb dX3_init_4 rfl (lv_at hl 0 rfl) ?_
  refine lv_sipush (v := 300) hx hb dX3_init_5 (by decide) ?_
  refine t_newI C w hT hE (by decide) (at_ := .int) (ty := .int) (ti := 0) rfl rfl (Or.inl rfl) gw_85 (N := 300) (by decide) (by decide) (by decide) (by decide) (by decide) dX3_init_8 (fun q1 Ψ2 L2 f H w hT hE hsp hm_q1 ht_q1 hf_q1 hz_q1 hnq hbk => ?_)
  have hn_x_q1 := hnq x hm_x
  have hf_x := ((hsp x hm_x).2.2 ht_x).trans hf_x
  have ht_x := (hsp x hm_x).2.1.trans ht_x
  have hm_x := (hsp x hm_x).1
  clear hsp hbk hnq
  obtain ⟨Ψ3, hT, hE, hs1, hs2, ht_q1x⟩ := t_tag (t := 13) hT hE ht_q1 hz_q1 (by decide) (t_tya (v := 0) (by decide) hf_q1 rfl rfl (fun i _ => rfl) (fun i => (gof_no rfl)))
  have ht_x := (hs2 x hn_x_q1).trans ht_x
  have ht_q1 := ht_q1x
  clear hs1 hs2 ht_q1x
  refine t_putRF C hnm w hT hE hm_x ht_x hf_x hz_x rfl cin_3 tyX3 tyX3_ok nmX3 0 (by decide) (Nat.le_of_ble_eq_true rfl) rfl rfl rfl rfl (fs2 := [.ref q1, .int 0, .null]) rfl gw_203 dX3_init_10 (fun f H locs w hT hE hf_x hk => ?_)
  clear hk
  refine lv_aload_n hx hb dX3_init_13 rfl (lv_at hl 0 rfl) ?_
  refine lv_iconst (v := 0) hx hb dX3_init_14 (by decide) ?_
  refine t_putR C w hT hE hm_x ht_x hf_x hz_x rfl cin_3 tyX3 tyX3_ok nmX3 1 (by decide) (Nat.le_of_ble_eq_true rfl) rfl rfl rfl (fs2 := [.ref q1, .int 0, .null]) rfl gw_204 dX3_init_15 (fun f H locs w hT hE hf_x hk => ?_)
  clear hk
  refine lv_aload_n hx hb dX3_init_18 rfl (lv_at hl 0 rfl) ?_
  refine lv_iconst (v := 3) hx hb dX3_init_19 (by decide) ?_
  refine t_newI C w hT hE (by decide) (at_ := .int) (ty := .int) (ti := 0) rfl rfl (Or.inl rfl) gw_85 (N := 3) (by decide) (by decide) (by decide) (by decide) (by decide) dX3_init_20 (fun q4 Ψ5 L5 f H w hT hE hsp hm_q4 ht_q4 hf_q4 hz_q4 hnq hbk => ?_)
  have hn_x_q4 := hnq x hm_x
  have hf_x := ((hsp x hm_x).2.2 ht_x).trans hf_x
  have ht_x := (hsp x hm_x).2.1.trans ht_x
  have hm_x := (hsp x hm_x).1
  have ht_q1 := (hsp q1 hm_q1).2.1.trans ht_q1
  have hm_q1 := (hsp q1 hm_q1).1
  clear hsp hbk hnq
  obtain ⟨Ψ6, hT, hE, hs1, hs2, ht_q4x⟩ := t_tag (t := 14) hT hE ht_q4 hz_q4 (by decide) (t_tya (v := 0) (by decide) hf_q4 rfl rfl (fun i _ => rfl) (fun i => (gof_is rfl)))
  have ht_x := (hs2 x hn_x_q4).trans ht_x
  have ht_q1 := (hs1 q1 (by rw [ht_q1]; decide)).trans ht_q1
  have ht_q4 := ht_q4x
  clear hs1 hs2 ht_q4x
  refine t_putRF C hnm w hT hE hm_x ht_x hf_x hz_x rfl cin_3 tyX3 tyX3_ok nmX3 2 (by decide) (Nat.le_of_ble_eq_true rfl) rfl rfl rfl rfl (fs2 := [.ref q1, .int 0, .ref q4]) rfl gw_205 dX3_init_22 (fun f H locs w hT hE hf_x hk => ?_)
  clear hk
  obtain ⟨Ψ7, hT, hE, hs1, hs2, ht_xx⟩ := t_tagX (t := 3) hT hE ht_x hm0_x rfl (t_tyo (by decide) hf_x (ds := [(1, 13), (0, 0), (1, 14)]) rfl (tyL_c (tyv_r hm_q1 ht_q1) (tyL_c (tyv_i (gof_no rfl)) (tyL_c (tyv_r hm_q4 ht_q4) trivial))))
  have ht_x := ht_xx
  clear hs1 hs2 ht_xx
  exact t_vret C hr hlk w ⟨_, _, _, rfl, rfl, hT, hE, ht_x⟩ (by decide) (by decide) dX3_init_25
set_option maxHeartbeats 4000000 in
set_option maxRecDepth 100000 in
theorem c_X4_init (l : Launch) (D : va_G) (K : Nat → ClassId) (b0 : Nat) (sa : Nat × Nat × Nat) (sz : Nat) (L : List Nat) (f0 : Nat → va_E) (Ψ : Nat → Nat) (hT : TW K (gof gX0) Ψ L f0) (x : Nat) (hm_x : x ∈ L) (ht_x : Ψ x = 9) (hf_x : f0 x = .inr (4, [.null, .null, .null, .int 0, .int 0, .int 0, .null, .int 0, .int 0, .int 0, .int 0, .int 0])) : Met l yX4_init (.code yX4_init cX4_init 1 none :: gt) { frames := 1, cells := 4, slots := 1200, locals := 12 } (va_Pc [.ref x] (hPre D K b0 sa sz L f0)) (hQ D K b0 (fun v9 u9 => ∃ (Ψ2 : Nat → Nat) (L2 : List Nat) (f2 : Nat → va_E), v9 = none ∧ u9 = ((gof gX0), Ψ2, L2, f2) ∧ TW K (gof gX0) Ψ2 L2 f2 ∧ Ex [9, 13] (fun q9 => q9 = x) Ψ L f0 Ψ2 L2 f2 ∧ Ψ2 x = 4)) 4 1200 (fun q => b0 ≤ q) := by
  refine t_of (own := RX4) (by decide) rfl ?_ (Nat.le_of_ble_eq_true rfl)
  intro p e s m below meth c ls C w hsz hr hlk hnm hl
  have hx := C.1
  have hb := C.2.1
  have hl : lv_has ls 1 [(0, .ref x)] := hl
  have hE : Ex [9, 13] (fun q9 => q9 = x) Ψ L f0 Ψ L f0 := Ex.rf
  have hm0_x := hm_x
  have hz_x : x ∈ L → (fun q9 => q9 = x) x := fun _ => rfl
  refine lv_aload_n hx hb dX4_init_0 rfl (lv_at hl 0 rfl) ?_
  refine t_obj0 C hl.1 gw_157 gw_29 gw_30 dX4_init_1 (by decide) (Nat.le_of_ble_eq_true rfl) ?_
  refine lv_aload_n hx hb dX4_init_4 rfl (lv_at hl 0 rfl) ?_
  refine lv_sipush (v := 300) hx hb dX4_init_5 (by decide) ?_
  refine t_newI C w hT hE (by decide) (at_ := .int) (ty := .int) (ti := 0) rfl rfl (Or.inl rfl) gw_85 (N := 300) (by decide) (by decide) (by decide) (by decide) (by decide) dX4_init_8 (fun q1 Ψ2 L2 f H w hT hE hsp hm_q1 ht_q1 hf_q1 hz_q1 hnq hbk => ?_)
  have hn_x_q1 := hnq x hm_x
  have hf_x := ((hsp x hm_x).2.2 ht_x).trans hf_x
  have ht_x := (hsp x hm_x).2.1.trans ht_x
  have hm_x := (hsp x hm_x).1
  clear hsp hbk hnq
  obtain ⟨Ψ3, hT, hE, hs1, hs2, ht_q1x⟩ := t_tag (t := 13) hT hE ht_q1 hz_q1 (by decide) (t_tya (v := 0) (by decide) hf_q1 rfl rfl (fun i _ => rfl) (fun i => (gof_no rfl)))
  have ht_x := (hs2 x hn_x_q1).trans ht_x
  have ht_q1 := ht_q1x
  clear hs1 hs2 ht_q1x
  refine t_putRF C hnm w hT hE hm_x ht_x hf_x hz_x rfl cin_4 tyX4 tyX4_ok nmX4 0 (by decide) (Nat.le_of_ble_eq_true rfl) rfl rfl rfl rfl (fs2 := [.ref q1, .null, .null, .int 0, .int 0, .int 0, .null, .int 0, .int 0, .int 0, .int 0, .int 0]) rfl gw_158 dX4_init_10 (fun f H locs w hT hE hf_x hk => ?_)
  clear hk
  refine lv_aload_n hx hb dX4_init_13 rfl (lv_at hl 0 rfl) ?_
  refine lv_sipush (v := 300) hx hb dX4_init_14 (by decide) ?_
  refine t_newI C w hT hE (by decide) (at_ := .int) (ty := .int) (ti := 0) rfl rfl (Or.inl rfl) gw_85 (N := 300) (by decide) (by decide) (by decide) (by decide) (by decide) dX4_init_17 (fun q4 Ψ5 L5 f H w hT hE hsp hm_q4 ht_q4 hf_q4 hz_q4 hnq hbk => ?_)
  have hn_x_q4 := hnq x hm_x
  have hf_x := ((hsp x hm_x).2.2 ht_x).trans hf_x
  have ht_x := (hsp x hm_x).2.1.trans ht_x
  have hm_x := (hsp x hm_x).1
  have ht_q1 := (hsp q1 hm_q1).2.1.trans ht_q1
  have hm_q1 := (hsp q1 hm_q1).1
  clear hsp hbk hnq
  obtain ⟨Ψ6, hT, hE, hs1, hs2, ht_q4x⟩ := t_tag (t := 13) hT hE ht_q4 hz_q4 (by decide) (t_tya (v := 0) (by decide) hf_q4 rfl rfl (fun i _ => rfl) (fun i => (gof_no rfl)))
  have ht_x := (hs2 x hn_x_q4).trans ht_x
  have ht_q1 := (hs1 q1 (by rw [ht_q1]; decide)).trans ht_q1
  have ht_q4 := ht_q4x
  clear hs1 hs2 ht_q4x
  refine t_putRF C hnm w hT hE hm_x ht_x hf_x hz_x rfl cin_4 tyX4 tyX4_ok nmX4 1 (by decide) (Nat.le_of_ble_eq_true rfl) rfl rfl rfl rfl (fs2 := [.ref q1, .ref q4, .null, .int 0, .int 0, .int 0, .null, .int 0, .int 0, .int 0, .int 0, .int 0]) rfl gw_159 dX4_init_19 (fun f H locs w hT hE hf_x hk => ?_)
  clear hk
  refine lv_aload_n hx hb dX4_init_22 rfl (lv_at hl 0 rfl) ?_
  refine lv_sipush (v := 300) hx hb dX4_init_23 (by decide) ?_
  refine t_newI C w hT hE (by decide) (at_ := .int) (ty := .int) (ti := 0) rfl rfl (Or.inl rfl) gw_85 (N := 300) (by decide) (by decide) (by decide) (by decide) (by decide) dX4_init_26 (fun q7 Ψ8 L8 f H w hT hE hsp hm_q7 ht_q7 hf_q7 hz_q7 hnq hbk => ?_)
  have hn_x_q7 := hnq x hm_x
  have hf_x := ((hsp x hm_x).2.2 ht_x).trans hf_x
  have ht_x := (hsp x hm_x).2.1.trans ht_x
  have hm_x := (hsp x hm_x).1
  have ht_q1 := (hsp q1 hm_q1).2.1.trans ht_q1
  have hm_q1 := (hsp q1 hm_q1).1
  have ht_q4 := (hsp q4 hm_q4).2.1.trans ht_q4
  have hm_q4 := (hsp q4 hm_q4).1
  clear hsp hbk hnq
  obtain ⟨Ψ9, hT, hE, hs1, hs2, ht_q7x⟩ := t_tag (t := 13) hT hE ht_q7 hz_q7 (by decide) (t_tya (v := 0) (by decide) hf_q7 rfl rfl (fun i _ => rfl) (fun i => (gof_no rfl)))
  have ht_x := (hs2 x hn_x_q7).trans ht_x
  have ht_q1 := (hs1 q1 (by rw [ht_q1]; decide)).trans ht_q1
  have ht_q4 := (hs1 q4 (by rw [ht_q4]; decide)).trans ht_q4
  have ht_q7 := ht_q7x
  clear hs1 hs2 ht_q7x
  refine t_putRF C hnm w hT hE hm_x ht_x hf_x hz_x rfl cin_4 tyX4 tyX4_ok nmX4 2 (by decide) (Nat.le_of_ble_eq_true rfl) rfl rfl rfl rfl (fs2 := [.ref q1, .ref q4, .ref q7, .int 0, .int 0, .int 0, .null, .int 0, .int 0, .int 0, .int 0, .int 0]) rfl gw_160 dX4_init_28 (fun f H locs w hT hE hf_x hk => ?_)
  clear hk
  refine lv_aload_n hx hb dX4_init_31 rfl (lv_at hl 0 rfl) ?_
  refine lv_iconst (v := 0) hx hb dX4_init_32 (by decide) ?_
  refine t_putR C w hT hE hm_x ht_x hf_x hz_x rfl cin_4 tyX4 tyX4_ok nmX4 3 (by decide) (Nat.le_of_ble_eq_true rfl) rfl rfl rfl (fs2 := [.ref q1, .ref q4, .ref q7, .int 0, .int 0, .int 0, .null, .int 0, .int 0, .int 0, .int 0, .int 0]) rfl gw_161 dX4_init_33 (fun f H locs w hT hE hf_x hk => ?_)
  clear hk
  refine lv_aload_n hx hb dX4_init_36 rfl (lv_at hl 0 rfl) ?_
  refine lv_iconst (v := 0) hx hb dX4_init_37 (by decide) ?_
  refine t_putR C w hT hE hm_x ht_x hf_x hz_x rfl cin_4 tyX4 tyX4_ok nmX4 4 (by decide) (Nat.le_of_ble_eq_true rfl) rfl rfl rfl (fs2 := [.ref q1, .ref q4, .ref q7, .int 0, .int 0, .int 0, .null, .int 0, .int 0, .int 0, .int 0, .int 0]) rfl gw_162 dX4_init_38 (fun f H locs w hT hE hf_x hk => ?_)
  clear hk
  refine lv_aload_n hx hb dX4_init_41 rfl (lv_at hl 0 rfl) ?_
  refine lv_iconst (v := 0) hx hb dX4_init_42 (by decide) ?_
  refine t_putR C w hT hE hm_x ht_x hf_x hz_x rfl cin_4 tyX4 tyX4_ok nmX4 5 (by decide) (Nat.le_of_ble_eq_true rfl) rfl rfl rfl (fs2 := [.ref q1, .ref q4, .ref q7, .int 0, .int 0, .int 0, .null, .int 0, .int 0, .int 0, .int 0, .int 0]) rfl gw_163 dX4_init_43 (fun f H locs w hT hE hf_x hk => ?_)
  clear hk
  refine lv_aload_n hx hb dX4_init_46 rfl (lv_at hl 0 rfl) ?_
  refine lv_sipush (v := 300) hx hb dX4_init_47 (by decide) ?_
  refine t_newI C w hT hE (by decide) (at_ := .int) (ty := .int) (ti := 0) rfl rfl (Or.inl rfl) gw_85 (N := 300) (by decide) (by decide) (by decide) (by decide) (by decide) dX4_init_50 (fun q10 Ψ11 L11 f H w hT hE hsp hm_q10 ht_q10 hf_q10 hz_q10 hnq hbk => ?_)
  have hn_x_q10 := hnq x hm_x
  have hf_x := ((hsp x hm_x).2.2 ht_x).trans hf_x
  have ht_x := (hsp x hm_x).2.1.trans ht_x
  have hm_x := (hsp x hm_x).1
  have ht_q1 := (hsp q1 hm_q1).2.1.trans ht_q1
  have hm_q1 := (hsp q1 hm_q1).1
  have ht_q4 := (hsp q4 hm_q4).2.1.trans ht_q4
  have hm_q4 := (hsp q4 hm_q4).1
  have ht_q7 := (hsp q7 hm_q7).2.1.trans ht_q7
  have hm_q7 := (hsp q7 hm_q7).1
  clear hsp hbk hnq
  obtain ⟨Ψ12, hT, hE, hs1, hs2, ht_q10x⟩ := t_tag (t := 13) hT hE ht_q10 hz_q10 (by decide) (t_tya (v := 0) (by decide) hf_q10 rfl rfl (fun i _ => rfl) (fun i => (gof_no rfl)))
  have ht_x := (hs2 x hn_x_q10).trans ht_x
  have ht_q1 := (hs1 q1 (by rw [ht_q1]; decide)).trans ht_q1
  have ht_q4 := (hs1 q4 (by rw [ht_q4]; decide)).trans ht_q4
  have ht_q7 := (hs1 q7 (by rw [ht_q7]; decide)).trans ht_q7
  have ht_q10 := ht_q10x
  clear hs1 hs2 ht_q10x
  refine t_putRF C hnm w hT hE hm_x ht_x hf_x hz_x rfl cin_4 tyX4 tyX4_ok nmX4 6 (by decide) (Nat.le_of_ble_eq_true rfl) rfl rfl rfl rfl (fs2 := [.ref q1, .ref q4, .ref q7, .int 0, .int 0, .int 0, .ref q10, .int 0, .int 0, .int 0, .int 0, .int 0]) rfl gw_164 dX4_init_52 (fun f H locs w hT hE hf_x hk => ?_)
  clear hk
  refine lv_aload_n hx hb dX4_init_55 rfl (lv_at hl 0 rfl) ?_
  refine lv_iconst (v := 0) hx hb dX4_init_56 (by decide) ?_
  refine t_putR C w hT hE hm_x ht_x hf_x hz_x rfl cin_4 tyX4 tyX4_ok nmX4 7 (by decide) (Nat.le_of_ble_eq_true rfl) rfl rfl rfl (fs2 := [.ref q1, .ref q4, .ref q7, .int 0, .int 0, .int 0, .ref q10, .int 0, .int 0, .int 0, .int 0, .int 0]) rfl gw_165 dX4_init_57 (fun f H locs w hT hE hf_x hk => ?_)
  clear hk
  refine lv_aload_n hx hb dX4_init_60 rfl (lv_at hl 0 rfl) ?_
  refine lv_iconst (v := 0) hx hb dX4_init_61 (by decide) ?_
  refine t_putR C w hT hE hm_x ht_x hf_x hz_x rfl cin_4 tyX4 tyX4_ok nmX4 8 (by decide) (Nat.le_of_ble_eq_true rfl) rfl rfl rfl (fs2 := [.ref q1, .ref q4, .ref q7, .int 0, .int 0, .int 0, .ref q10, .int 0, .int 0, .int 0, .int 0, .int 0]) rfl gw_166 dX4_init_62 (fun f H locs w hT hE hf_x hk => ?_)
  clear hk
  refine lv_aload_n hx hb dX4_init_65 rfl (lv_at hl 0 rfl) ?_
  refine lv_iconst (v := 0) hx hb dX4_init_66 (by decide) ?_
  refine t_putR C w hT hE hm_x ht_x hf_x hz_x rfl cin_4 tyX4 tyX4_ok nmX4 9 (by decide) (Nat.le_of_ble_eq_true rfl) rfl (by decide) rfl (fs2 := [.ref q1, .ref q4, .ref q7, .int 0, .int 0, .int 0, .ref q10, .int 0, .int 0, .int 0, .int 0, .int 0]) rfl gw_167 dX4_init_67 (fun f H locs w hT hE hf_x hk => ?_)
  clear hk
  refine lv_aload_n hx hb dX4_init_70 rfl (lv_at hl 0 rfl) ?_
  refine lv_iconst (v := 0) hx hb dX4_init_71 (by decide) ?_
  refine t_putR C w hT hE hm_x ht_x hf_x hz_x rfl cin_4 tyX4 tyX4_ok nmX4 10 (by decide) (Nat.le_of_ble_eq_true rfl) rfl rfl rfl (fs2 := [.ref q1, .ref q4, .ref q7, .int 0, .int 0, .int 0, .ref q10, .int 0, .int 0, .int 0, .int 0, .int 0]) rfl gw_168 dX4_init_72 (fun f H locs w hT hE hf_x hk => ?_)
  clear hk
  refine lv_aload_n hx hb dX4_init_75 rfl (lv_at hl 0 rfl) ?_
  refine lv_iconst (v := (-1)) hx hb dX4_init_76 (by decide) ?_
  refine t_putR C w hT hE hm_x ht_x hf_x hz_x rfl cin_4 tyX4 tyX4_ok nmX4 11 (by decide) (Nat.le_of_ble_eq_true rfl) rfl rfl rfl (fs2 := [.ref q1, .ref q4, .ref q7, .int 0, .int 0, .int 0, .ref q10, .int 0, .int 0, .int 0, .int 0, .int (-1)]) rfl gw_170 dX4_init_77 (fun f H locs w hT hE hf_x hk => ?_)
  clear hk
  obtain ⟨Ψ13, hT, hE, hs1, hs2, ht_xx⟩ := t_tagX (t := 4) hT hE ht_x hm0_x rfl (t_tyo (by decide) hf_x (ds := [(1, 13), (1, 13), (1, 13), (0, 0), (0, 0), (0, 0), (1, 13), (0, 0), (0, 0), (0, 0), (0, 0), (0, 0)]) rfl (tyL_c (tyv_r hm_q1 ht_q1) (tyL_c (tyv_r hm_q4 ht_q4) (tyL_c (tyv_r hm_q7 ht_q7) (tyL_c (tyv_i (gof_is rfl)) (tyL_c (tyv_i (gof_is rfl)) (tyL_c (tyv_i (gof_is rfl)) (tyL_c (tyv_r hm_q10 ht_q10) (tyL_c (tyv_i (gof_is rfl)) (tyL_c (tyv_i (gof_is rfl)) (tyL_c (tyv_i (gof_no rfl)) (tyL_c (tyv_i (gof_no rfl)) (tyL_c (tyv_i (gof_no rfl)) trivial)))))))))))))
  have ht_x := ht_xx
  clear hs1 hs2 ht_xx
  exact t_vret C hr hlk w ⟨_, _, _, rfl, rfl, hT, hE, ht_x⟩ (by decide) (by decide) dX4_init_80
set_option maxHeartbeats 4000000 in
set_option maxRecDepth 100000 in
theorem c_X5_init (l : Launch) (D : va_G) (K : Nat → ClassId) (b0 : Nat) (sa : Nat × Nat × Nat) (sz : Nat) (L : List Nat) (f0 : Nat → va_E) (Ψ : Nat → Nat) (hT : TW K (gof gX0) Ψ L f0) (x : Nat) (hm_x : x ∈ L) (ht_x : Ψ x = 9) (hf_x : f0 x = .inr (5, [.int 0, .int 0, .int 0, .int 0, .int 0, .int 0, .int 0, .int 0, .int 0, .int 0, .int 0, .int 0, .int 0, .int 0, .int 0, .null, .int 0])) : Met l yX5_init (.code yX5_init cX5_init 1 none :: gt) { frames := 1, cells := 1, slots := 5, locals := 12 } (va_Pc [.ref x] (hPre D K b0 sa sz L f0)) (hQ D K b0 (fun v9 u9 => ∃ (Ψ2 : Nat → Nat) (L2 : List Nat) (f2 : Nat → va_E), v9 = none ∧ u9 = ((gof gX0), Ψ2, L2, f2) ∧ TW K (gof gX0) Ψ2 L2 f2 ∧ Ex [9, 15] (fun q9 => q9 = x) Ψ L f0 Ψ2 L2 f2 ∧ Ψ2 x = 5)) 1 5 (fun q => b0 ≤ q) := by
  refine t_of (own := RX5) (by decide) rfl ?_ (Nat.le_of_ble_eq_true rfl)
  intro p e s m below meth c ls C w hsz hr hlk hnm hl
  have hx := C.1
  have hb := C.2.1
  have hl : lv_has ls 1 [(0, .ref x)] := hl
  have hE : Ex [9, 15] (fun q9 => q9 = x) Ψ L f0 Ψ L f0 := Ex.rf
  have hm0_x := hm_x
  have hz_x : x ∈ L → (fun q9 => q9 = x) x := fun _ => rfl
  refine lv_aload_n hx hb dX5_init_0 rfl (lv_at hl 0 rfl) ?_
  refine t_obj0 C hl.1 gw_218 gw_29 gw_30 dX5_init_1 (by decide) (Nat.le_of_ble_eq_true rfl) ?_
  refine lv_aload_n hx hb dX5_init_4 rfl (lv_at hl 0 rfl) ?_
  refine lv_iconst (v := 0) hx hb dX5_init_5 (by decide) ?_
  refine t_putR C w hT hE hm_x ht_x hf_x hz_x rfl cin_5 tyX5 tyX5_ok nmX5 0 (by decide) (Nat.le_of_ble_eq_true rfl) rfl rfl rfl (fs2 := [.int 0, .int 0, .int 0, .int 0, .int 0, .int 0, .int 0, .int 0, .int 0, .int 0, .int 0, .int 0, .int 0, .int 0, .int 0, .null, .int 0]) rfl gw_219 dX5_init_6 (fun f H locs w hT hE hf_x hk => ?_)
  clear hk
  refine lv_aload_n hx hb dX5_init_9 rfl (lv_at hl 0 rfl) ?_
  refine lv_iconst (v := 0) hx hb dX5_init_10 (by decide) ?_
  refine t_putR C w hT hE hm_x ht_x hf_x hz_x rfl cin_5 tyX5 tyX5_ok nmX5 1 (by decide) (Nat.le_of_ble_eq_true rfl) rfl rfl rfl (fs2 := [.int 0, .int 0, .int 0, .int 0, .int 0, .int 0, .int 0, .int 0, .int 0, .int 0, .int 0, .int 0, .int 0, .int 0, .int 0, .null, .int 0]) rfl gw_220 dX5_init_11 (fun f H locs w hT hE hf_x hk => ?_)
  clear hk
  refine lv_aload_n hx hb dX5_init_14 rfl (lv_at hl 0 rfl) ?_
  refine lv_iconst (v := (-1)) hx hb dX5_init_15 (by decide) ?_
  refine t_putR C w hT hE hm_x ht_x hf_x hz_x rfl cin_5 tyX5 tyX5_ok nmX5 2 (by decide) (Nat.le_of_ble_eq_true rfl) rfl rfl rfl (fs2 := [.int 0, .int 0, .int (-1), .int 0, .int 0, .int 0, .int 0, .int 0, .int 0, .int 0, .int 0, .int 0, .int 0, .int 0, .int 0, .null, .int 0]) rfl gw_223 dX5_init_16 (fun f H locs w hT hE hf_x hk => ?_)
  clear hk
  refine lv_aload_n hx hb dX5_init_19 rfl (lv_at hl 0 rfl) ?_
  refine lv_iconst (v := 0) hx hb dX5_init_20 (by decide) ?_
  refine t_putR C w hT hE hm_x ht_x hf_x hz_x rfl cin_5 tyX5 tyX5_ok nmX5 3 (by decide) (Nat.le_of_ble_eq_true rfl) rfl rfl rfl (fs2 := [.int 0, .int 0, .int (-1), .int 0, .int 0, .int 0, .int 0, .int 0, .int 0, .int 0, .int 0, .int 0, .int 0, .int 0, .int 0, .null, .int 0]) rfl gw_225 dX5_init_21 (fun f H locs w hT hE hf_x hk => ?_)
  clear hk
  refine lv_aload_n hx hb dX5_init_24 rfl (lv_at hl 0 rfl) ?_
  refine lv_iconst (v := 0) hx hb dX5_init_25 (by decide) ?_
  refine t_putR C w hT hE hm_x ht_x hf_x hz_x rfl cin_5 tyX5 tyX5_ok nmX5 4 (by decide) (Nat.le_of_ble_eq_true rfl) rfl rfl rfl (fs2 := [.int 0, .int 0, .int (-1), .int 0, .int 0, .int 0, .int 0, .int 0, .int 0, .int 0, .int 0, .int 0, .int 0, .int 0, .int 0, .null, .int 0]) rfl gw_227 dX5_init_26 (fun f H locs w hT hE hf_x hk => ?_)
  clear hk
  refine lv_aload_n hx hb dX5_init_29 rfl (lv_at hl 0 rfl) ?_
  refine lv_iconst (v := 0) hx hb dX5_init_30 (by decide) ?_
  refine t_putR C w hT hE hm_x ht_x hf_x hz_x rfl cin_5 tyX5 tyX5_ok nmX5 5 (by decide) (Nat.le_of_ble_eq_true rfl) rfl rfl rfl (fs2 := [.int 0, .int 0, .int (-1), .int 0, .int 0, .int 0, .int 0, .int 0, .int 0, .int 0, .int 0, .int 0, .int 0, .int 0, .int 0, .null, .int 0]) rfl gw_230 dX5_init_31 (fun f H locs w hT hE hf_x hk => ?_)
  clear hk
  refine lv_aload_n hx hb dX5_init_34 rfl (lv_at hl 0 rfl) ?_
  refine lv_iconst (v := 0) hx hb dX5_init_35 (by decide) ?_
  refine t_putR C w hT hE hm_x ht_x hf_x hz_x rfl cin_5 tyX5 tyX5_ok nmX5 6 (by decide) (Nat.le_of_ble_eq_true rfl) rfl rfl rfl (fs2 := [.int 0, .int 0, .int (-1), .int 0, .int 0, .int 0, .int 0, .int 0, .int 0, .int 0, .int 0, .int 0, .int 0, .int 0, .int 0, .null, .int 0]) rfl gw_233 dX5_init_36 (fun f H locs w hT hE hf_x hk => ?_)
  clear hk
  refine lv_aload_n hx hb dX5_init_39 rfl (lv_at hl 0 rfl) ?_
  refine lv_iconst (v := 0) hx hb dX5_init_40 (by decide) ?_
  refine t_putR C w hT hE hm_x ht_x hf_x hz_x rfl cin_5 tyX5 tyX5_ok nmX5 7 (by decide) (Nat.le_of_ble_eq_true rfl) rfl rfl rfl (fs2 := [.int 0, .int 0, .int (-1), .int 0, .int 0, .int 0, .int 0, .int 0, .int 0, .int 0, .int 0, .int 0, .int 0, .int 0, .int 0, .null, .int 0]) rfl gw_236 dX5_init_41 (fun f H locs w hT hE hf_x hk => ?_)
  clear hk
  refine lv_aload_n hx hb dX5_init_44 rfl (lv_at hl 0 rfl) ?_
  refine lv_iconst (v := 0) hx hb dX5_init_45 (by decide) ?_
  refine t_putR C w hT hE hm_x ht_x hf_x hz_x rfl cin_5 tyX5 tyX5_ok nmX5 8 (by decide) (Nat.le_of_ble_eq_true rfl) rfl rfl rfl (fs2 := [.int 0, .int 0, .int (-1), .int 0, .int 0, .int 0, .int 0, .int 0, .int 0, .int 0, .int 0, .int 0, .int 0, .int 0, .int 0, .null, .int 0]) rfl gw_238 dX5_init_46 (fun f H locs w hT hE hf_x hk => ?_)
  clear hk
  refine lv_aload_n hx hb dX5_init_49 rfl (lv_at hl 0 rfl) ?_
  refine lv_iconst (v := 0) hx hb dX5_init_50 (by decide) ?_
  refine t_putR C w hT hE hm_x ht_x hf_x hz_x rfl cin_5 tyX5 tyX5_ok nmX5 9 (by decide) (Nat.le_of_ble_eq_true rfl) rfl rfl rfl (fs2 := [.int 0, .int 0, .int (-1), .int 0, .int 0, .int 0, .int 0, .int 0, .int 0, .int 0, .int 0, .int 0, .int 0, .int 0, .int 0, .null, .int 0]) rfl gw_240 dX5_init_51 (fun f H locs w hT hE hf_x hk => ?_)
  clear hk
  refine lv_aload_n hx hb dX5_init_54 rfl (lv_at hl 0 rfl) ?_
  refine lv_iconst (v := 0) hx hb dX5_init_55 (by decide) ?_
  refine t_putR C w hT hE hm_x ht_x hf_x hz_x rfl cin_5 tyX5 tyX5_ok nmX5 10 (by decide) (Nat.le_of_ble_eq_true rfl) rfl rfl rfl (fs2 := [.int 0, .int 0, .int (-1), .int 0, .int 0, .int 0, .int 0, .int 0, .int 0, .int 0, .int 0, .int 0, .int 0, .int 0, .int 0, .null, .int 0]) rfl gw_243 dX5_init_56 (fun f H locs w hT hE hf_x hk => ?_)
  clear hk
  refine lv_aload_n hx hb dX5_init_59 rfl (lv_at hl 0 rfl) ?_
  refine lv_iconst (v := 0) hx hb dX5_init_60 (by decide) ?_
  refine t_putR C w hT hE hm_x ht_x hf_x hz_x rfl cin_5 tyX5 tyX5_ok nmX5 11 (by decide) (Nat.le_of_ble_eq_true rfl) rfl rfl rfl (fs2 := [.int 0, .int 0, .int (-1), .int 0, .int 0, .int 0, .int 0, .int 0, .int 0, .int 0, .int 0, .int 0, .int 0, .int 0, .int 0, .null, .int 0]) rfl gw_244 dX5_init_61 (fun f H locs w hT hE hf_x hk => ?_)
  clear hk
  refine lv_aload_n hx hb dX5_init_64 rfl (lv_at hl 0 rfl) ?_
  refine lv_iconst (v := 0) hx hb dX5_init_65 (by decide) ?_
  refine t_putR C w hT hE hm_x ht_x hf_x hz_x rfl cin_5 tyX5 tyX5_ok nmX5 12 (by decide) (Nat.le_of_ble_eq_true rfl) rfl rfl rfl (fs2 := [.int 0, .int 0, .int (-1), .int 0, .int 0, .int 0, .int 0, .int 0, .int 0, .int 0, .int 0, .int 0, .int 0, .int 0, .int 0, .null, .int 0]) rfl gw_245 dX5_init_66 (fun f H locs w hT hE hf_x hk => ?_)
  clear hk
  refine lv_aload_n hx hb dX5_init_69 rfl (lv_at hl 0 rfl) ?_
  refine lv_iconst (v := 0) hx hb dX5_init_70 (by decide) ?_
  refine t_putR C w hT hE hm_x ht_x hf_x hz_x rfl cin_5 tyX5 tyX5_ok nmX5 13 (by decide) (Nat.le_of_ble_eq_true rfl) rfl rfl rfl (fs2 := [.int 0, .int 0, .int (-1), .int 0, .int 0, .int 0, .int 0, .int 0, .int 0, .int 0, .int 0, .int 0, .int 0, .int 0, .int 0, .null, .int 0]) rfl gw_246 dX5_init_71 (fun f H locs w hT hE hf_x hk => ?_)
  clear hk
  refine lv_aload_n hx hb dX5_init_74 rfl (lv_at hl 0 rfl) ?_
  refine lv_iconst (v := 0) hx hb dX5_init_75 (by decide) ?_
  refine t_putR C w hT hE hm_x ht_x hf_x hz_x rfl cin_5 tyX5 tyX5_ok nmX5 14 (by decide) (Nat.le_of_ble_eq_true rfl) rfl rfl rfl (fs2 := [.int 0, .int 0, .int (-1), .int 0, .int 0, .int 0, .int 0, .int 0, .int 0, .int 0, .int 0, .int 0, .int 0, .int 0, .int 0, .null, .int 0]) rfl gw_247 dX5_init_76 (fun f H locs w hT hE hf_x hk => ?_)
  clear hk
  refine lv_aload_n hx hb dX5_init_79 rfl (lv_at hl 0 rfl) ?_
  refine lv_iconst (v := 5) hx hb dX5_init_80 (by decide) ?_
  refine t_newI C w hT hE (by decide) (at_ := .int) (ty := .int) (ti := 0) rfl rfl (Or.inl rfl) gw_85 (N := 5) (by decide) (by decide) (by decide) (by decide) (by decide) dX5_init_81 (fun q1 Ψ2 L2 f H w hT hE hsp hm_q1 ht_q1 hf_q1 hz_q1 hnq hbk => ?_)
  have hn_x_q1 := hnq x hm_x
  have hf_x := ((hsp x hm_x).2.2 ht_x).trans hf_x
  have ht_x := (hsp x hm_x).2.1.trans ht_x
  have hm_x := (hsp x hm_x).1
  clear hsp hbk hnq
  obtain ⟨Ψ3, hT, hE, hs1, hs2, ht_q1x⟩ := t_tag (t := 15) hT hE ht_q1 hz_q1 (by decide) (t_tya (v := 0) (by decide) hf_q1 rfl rfl (fun i _ => rfl) (fun i => (gof_no rfl)))
  have ht_x := (hs2 x hn_x_q1).trans ht_x
  have ht_q1 := ht_q1x
  clear hs1 hs2 ht_q1x
  refine t_putRF C hnm w hT hE hm_x ht_x hf_x hz_x rfl cin_5 tyX5 tyX5_ok nmX5 15 (by decide) (Nat.le_of_ble_eq_true rfl) rfl rfl rfl rfl (fs2 := [.int 0, .int 0, .int (-1), .int 0, .int 0, .int 0, .int 0, .int 0, .int 0, .int 0, .int 0, .int 0, .int 0, .int 0, .int 0, .ref q1, .int 0]) rfl gw_248 dX5_init_83 (fun f H locs w hT hE hf_x hk => ?_)
  clear hk
  refine lv_aload_n hx hb dX5_init_86 rfl (lv_at hl 0 rfl) ?_
  refine lv_iconst (v := 0) hx hb dX5_init_87 (by decide) ?_
  refine t_putR C w hT hE hm_x ht_x hf_x hz_x rfl cin_5 tyX5 tyX5_ok nmX5 16 (by decide) (Nat.le_of_ble_eq_true rfl) rfl rfl rfl (fs2 := [.int 0, .int 0, .int (-1), .int 0, .int 0, .int 0, .int 0, .int 0, .int 0, .int 0, .int 0, .int 0, .int 0, .int 0, .int 0, .ref q1, .int 0]) rfl gw_249 dX5_init_88 (fun f H locs w hT hE hf_x hk => ?_)
  clear hk
  obtain ⟨Ψ4, hT, hE, hs1, hs2, ht_xx⟩ := t_tagX (t := 5) hT hE ht_x hm0_x rfl (t_tyo (by decide) hf_x (ds := [(0, 0), (0, 0), (0, 0), (0, 0), (0, 0), (0, 0), (0, 0), (0, 0), (0, 0), (0, 0), (0, 0), (0, 0), (0, 0), (0, 0), (0, 0), (1, 15), (0, 0)]) rfl (tyL_c (tyv_i (gof_no rfl)) (tyL_c (tyv_i (gof_is rfl)) (tyL_c (tyv_i (gof_no rfl)) (tyL_c (tyv_i (gof_no rfl)) (tyL_c (tyv_i (gof_no rfl)) (tyL_c (tyv_i (gof_no rfl)) (tyL_c (tyv_i (gof_no rfl)) (tyL_c (tyv_i (gof_no rfl)) (tyL_c (tyv_i (gof_no rfl)) (tyL_c (tyv_i (gof_no rfl)) (tyL_c (tyv_i (gof_no rfl)) (tyL_c (tyv_i (gof_no rfl)) (tyL_c (tyv_i (gof_no rfl)) (tyL_c (tyv_i (gof_is rfl)) (tyL_c (tyv_i (gof_is rfl)) (tyL_c (tyv_r hm_q1 ht_q1) (tyL_c (tyv_i (gof_is rfl)) trivial))))))))))))))))))
  have ht_x := ht_xx
  clear hs1 hs2 ht_xx
  exact t_vret C hr hlk w ⟨_, _, _, rfl, rfl, hT, hE, ht_x⟩ (by decide) (by decide) dX5_init_91
set_option maxHeartbeats 4000000 in
set_option maxRecDepth 100000 in
theorem c_X5_init1 (l : Launch) (D : va_G) (K : Nat → ClassId) (b0 : Nat) (sa : Nat × Nat × Nat) (sz : Nat) (L : List Nat) (f0 : Nat → va_E) (Ψ : Nat → Nat) (hT : TW K (gof gX1) Ψ L f0) (x : Nat) (hm_x : x ∈ L) (ht_x : Ψ x = 9) (hf_x : f0 x = .inr (5, [.int 0, .int 0, .int 0, .int 0, .int 0, .int 0, .int 0, .int 0, .int 0, .int 0, .int 0, .int 0, .int 0, .int 0, .int 0, .null, .int 0])) : Met l yX5_init (.code yX5_init cX5_init 1 none :: gt) { frames := 1, cells := 1, slots := 5, locals := 12 } (va_Pc [.ref x] (hPre D K b0 sa sz L f0)) (hQ D K b0 (fun v9 u9 => ∃ (Ψ2 : Nat → Nat) (L2 : List Nat) (f2 : Nat → va_E), v9 = none ∧ u9 = ((gof gX1), Ψ2, L2, f2) ∧ TW K (gof gX1) Ψ2 L2 f2 ∧ Ex [9, 15] (fun q9 => q9 = x) Ψ L f0 Ψ2 L2 f2 ∧ Ψ2 x = 5)) 1 5 (fun q => b0 ≤ q) := by
  refine t_of (own := RX5) (by decide) rfl ?_ (Nat.le_of_ble_eq_true rfl)
  intro p e s m below meth c ls C w hsz hr hlk hnm hl
  have hx := C.1
  have hb := C.2.1
  have hl : lv_has ls 1 [(0, .ref x)] := hl
  have hE : Ex [9, 15] (fun q9 => q9 = x) Ψ L f0 Ψ L f0 := Ex.rf
  have hm0_x := hm_x
  have hz_x : x ∈ L → (fun q9 => q9 = x) x := fun _ => rfl
  refine lv_aload_n hx hb dX5_init_0 rfl (lv_at hl 0 rfl) ?_
  refine t_obj0 C hl.1 gw_218 gw_29 gw_30 dX5_init_1 (by decide) (Nat.le_of_ble_eq_true rfl) ?_
  refine lv_aload_n hx hb dX5_init_4 rfl (lv_at hl 0 rfl) ?_
  refine lv_iconst (v := 0) hx hb dX5_init_5 (by decide) ?_
  refine t_putR C w hT hE hm_x ht_x hf_x hz_x rfl cin_5 tyX5 tyX5_ok nmX5 0 (by decide) (Nat.le_of_ble_eq_true rfl) rfl rfl rfl (fs2 := [.int 0, .int 0, .int 0, .int 0, .int 0, .int 0, .int 0, .int 0, .int 0, .int 0, .int 0, .int 0, .int 0, .int 0, .int 0, .null, .int 0]) rfl gw_219 dX5_init_6 (fun f H locs w hT hE hf_x hk => ?_)
  clear hk
  refine lv_aload_n hx hb dX5_init_9 rfl (lv_at hl 0 rfl) ?_
  refine lv_iconst (v := 0) hx hb dX5_init_10 (by decide) ?_
  refine t_putR C w hT hE hm_x ht_x hf_x hz_x rfl cin_5 tyX5 tyX5_ok nmX5 1 (by decide) (Nat.le_of_ble_eq_true rfl) rfl rfl rfl (fs2 := [.int 0, .int 0, .int 0, .int 0, .int 0, .int 0, .int 0, .int 0, .int 0, .int 0, .int 0, .int 0, .int 0, .int 0, .int 0, .null, .int 0]) rfl gw_220 dX5_init_11 (fun f H locs w hT hE hf_x hk => ?_)
  clear hk
  refine lv_aload_n hx hb dX5_init_14 rfl (lv_at hl 0 rfl) ?_
  refine lv_iconst (v := (-1)) hx hb dX5_init_15 (by decide) ?_
  refine t_putR C w hT hE hm_x ht_x hf_x hz_x rfl cin_5 tyX5 tyX5_ok nmX5 2 (by decide) (Nat.le_of_ble_eq_true rfl) rfl rfl rfl (fs2 := [.int 0, .int 0, .int (-1), .int 0, .int 0, .int 0, .int 0, .int 0, .int 0, .int 0, .int 0, .int 0, .int 0, .int 0, .int 0, .null, .int 0]) rfl gw_223 dX5_init_16 (fun f H locs w hT hE hf_x hk => ?_)
  clear hk
  refine lv_aload_n hx hb dX5_init_19 rfl (lv_at hl 0 rfl) ?_
  refine lv_iconst (v := 0) hx hb dX5_init_20 (by decide) ?_
  refine t_putR C w hT hE hm_x ht_x hf_x hz_x rfl cin_5 tyX5 tyX5_ok nmX5 3 (by decide) (Nat.le_of_ble_eq_true rfl) rfl rfl rfl (fs2 := [.int 0, .int 0, .int (-1), .int 0, .int 0, .int 0, .int 0, .int 0, .int 0, .int 0, .int 0, .int 0, .int 0, .int 0, .int 0, .null, .int 0]) rfl gw_225 dX5_init_21 (fun f H locs w hT hE hf_x hk => ?_)
  clear hk
  refine lv_aload_n hx hb dX5_init_24 rfl (lv_at hl 0 rfl) ?_
  refine lv_iconst (v := 0) hx hb dX5_init_25 (by decide) ?_
  refine t_putR C w hT hE hm_x ht_x hf_x hz_x rfl cin_5 tyX5 tyX5_ok nmX5 4 (by decide) (Nat.le_of_ble_eq_true rfl) rfl rfl rfl (fs2 := [.int 0, .int 0, .int (-1), .int 0, .int 0, .int 0, .int 0, .int 0, .int 0, .int 0, .int 0, .int 0, .int 0, .int 0, .int 0, .null, .int 0]) rfl gw_227 dX5_init_26 (fun f H locs w hT hE hf_x hk => ?_)
  clear hk
  refine lv_aload_n hx hb dX5_init_29 rfl (lv_at hl 0 rfl) ?_
  refine lv_iconst (v := 0) hx hb dX5_init_30 (by decide) ?_
  refine t_putR C w hT hE hm_x ht_x hf_x hz_x rfl cin_5 tyX5 tyX5_ok nmX5 5 (by decide) (Nat.le_of_ble_eq_true rfl) rfl rfl rfl (fs2 := [.int 0, .int 0, .int (-1), .int 0, .int 0, .int 0, .int 0, .int 0, .int 0, .int 0, .int 0, .int 0, .int 0, .int 0, .int 0, .null, .int 0]) rfl gw_230 dX5_init_31 (fun f H locs w hT hE hf_x hk => ?_)
  clear hk
  refine lv_aload_n hx hb dX5_init_34 rfl (lv_at hl 0 rfl) ?_
  refine lv_iconst (v := 0) hx hb dX5_init_35 (by decide) ?_
  refine t_putR C w hT hE hm_x ht_x hf_x hz_x rfl cin_5 tyX5 tyX5_ok nmX5 6 (by decide) (Nat.le_of_ble_eq_true rfl) rfl rfl rfl (fs2 := [.int 0, .int 0, .int (-1), .int 0, .int 0, .int 0, .int 0, .int 0, .int 0, .int 0, .int 0, .int 0, .int 0, .int 0, .int 0, .null, .int 0]) rfl gw_233 dX5_init_36 (fun f H locs w hT hE hf_x hk => ?_)
  clear hk
  refine lv_aload_n hx hb dX5_init_39 rfl (lv_at hl 0 rfl) ?_
  refine lv_iconst (v := 0) hx hb dX5_init_40 (by decide) ?_
  refine t_putR C w hT hE hm_x ht_x hf_x hz_x rfl cin_5 tyX5 tyX5_ok nmX5 7 (by decide) (Nat.le_of_ble_eq_true rfl) rfl rfl rfl (fs2 := [.int 0, .int 0, .int (-1), .int 0, .int 0, .int 0, .int 0, .int 0, .int 0, .int 0, .int 0, .int 0, .int 0, .int 0, .int 0, .null, .int 0]) rfl gw_236 dX5_init_41 (fun f H locs w hT hE hf_x hk => ?_)
  clear hk
  refine lv_aload_n hx hb dX5_init_44 rfl (lv_at hl 0 rfl) ?_
  refine lv_iconst (v := 0) hx hb dX5_init_45 (by decide) ?_
  refine t_putR C w hT hE hm_x ht_x hf_x hz_x rfl cin_5 tyX5 tyX5_ok nmX5 8 (by decide) (Nat.le_of_ble_eq_true rfl) rfl rfl rfl (fs2 := [.int 0, .int 0, .int (-1), .int 0, .int 0, .int 0, .int 0, .int 0, .int 0, .int 0, .int 0, .int 0, .int 0, .int 0, .int 0, .null, .int 0]) rfl gw_238 dX5_init_46 (fun f H locs w hT hE hf_x hk => ?_)
  clear hk
  refine lv_aload_n hx hb dX5_init_49 rfl (lv_at hl 0 rfl) ?_
  refine lv_iconst (v := 0) hx hb dX5_init_50 (by decide) ?_
  refine t_putR C w hT hE hm_x ht_x hf_x hz_x rfl cin_5 tyX5 tyX5_ok nmX5 9 (by decide) (Nat.le_of_ble_eq_true rfl) rfl rfl rfl (fs2 := [.int 0, .int 0, .int (-1), .int 0, .int 0, .int 0, .int 0, .int 0, .int 0, .int 0, .int 0, .int 0, .int 0, .int 0, .int 0, .null, .int 0]) rfl gw_240 dX5_init_51 (fun f H locs w hT hE hf_x hk => ?_)
  clear hk
  refine lv_aload_n hx hb dX5_init_54 rfl (lv_at hl 0 rfl) ?_
  refine lv_iconst (v := 0) hx hb dX5_init_55 (by decide) ?_
  refine t_putR C w hT hE hm_x ht_x hf_x hz_x rfl cin_5 tyX5 tyX5_ok nmX5 10 (by decide) (Nat.le_of_ble_eq_true rfl) rfl rfl rfl (fs2 := [.int 0, .int 0, .int (-1), .int 0, .int 0, .int 0, .int 0, .int 0, .int 0, .int 0, .int 0, .int 0, .int 0, .int 0, .int 0, .null, .int 0]) rfl gw_243 dX5_init_56 (fun f H locs w hT hE hf_x hk => ?_)
  clear hk
  refine lv_aload_n hx hb dX5_init_59 rfl (lv_at hl 0 rfl) ?_
  refine lv_iconst (v := 0) hx hb dX5_init_60 (by decide) ?_
  refine t_putR C w hT hE hm_x ht_x hf_x hz_x rfl cin_5 tyX5 tyX5_ok nmX5 11 (by decide) (Nat.le_of_ble_eq_true rfl) rfl rfl rfl (fs2 := [.int 0, .int 0, .int (-1), .int 0, .int 0, .int 0, .int 0, .int 0, .int 0, .int 0, .int 0, .int 0, .int 0, .int 0, .int 0, .null, .int 0]) rfl gw_244 dX5_init_61 (fun f H locs w hT hE hf_x hk => ?_)
  clear hk
  refine lv_aload_n hx hb dX5_init_64 rfl (lv_at hl 0 rfl) ?_
  refine lv_iconst (v := 0) hx hb dX5_init_65 (by decide) ?_
  refine t_putR C w hT hE hm_x ht_x hf_x hz_x rfl cin_5 tyX5 tyX5_ok nmX5 12 (by decide) (Nat.le_of_ble_eq_true rfl) rfl rfl rfl (fs2 := [.int 0, .int 0, .int (-1), .int 0, .int 0, .int 0, .int 0, .int 0, .int 0, .int 0, .int 0, .int 0, .int 0, .int 0, .int 0, .null, .int 0]) rfl gw_245 dX5_init_66 (fun f H locs w hT hE hf_x hk => ?_)
  clear hk
  refine lv_aload_n hx hb dX5_init_69 rfl (lv_at hl 0 rfl) ?_
  refine lv_iconst (v := 0) hx hb dX5_init_70 (by decide) ?_
  refine t_putR C w hT hE hm_x ht_x hf_x hz_x rfl cin_5 tyX5 tyX5_ok nmX5 13 (by decide) (Nat.le_of_ble_eq_true rfl) rfl rfl rfl (fs2 := [.int 0, .int 0, .int (-1), .int 0, .int 0, .int 0, .int 0, .int 0, .int 0, .int 0, .int 0, .int 0, .int 0, .int 0, .int 0, .null, .int 0]) rfl gw_246 dX5_init_71 (fun f H locs w hT hE hf_x hk => ?_)
  clear hk
  refine lv_aload_n hx hb dX5_init_74 rfl (lv_at hl 0 rfl) ?_
  refine lv_iconst (v := 0) hx hb dX5_init_75 (by decide) ?_
  refine t_putR C w hT hE hm_x ht_x hf_x hz_x rfl cin_5 tyX5 tyX5_ok nmX5 14 (by decide) (Nat.le_of_ble_eq_true rfl) rfl rfl rfl (fs2 := [.int 0, .int 0, .int (-1), .int 0, .int 0, .int 0, .int 0, .int 0, .int 0, .int 0, .int 0, .int 0, .int 0, .int 0, .int 0, .null, .int 0]) rfl gw_247 dX5_init_76 (fun f H locs w hT hE hf_x hk => ?_)
  clear hk
  refine lv_aload_n hx hb dX5_init_79 rfl (lv_at hl 0 rfl) ?_
  refine lv_iconst (v := 5) hx hb dX5_init_80 (by decide) ?_
  refine t_newI C w hT hE (by decide) (at_ := .int) (ty := .int) (ti := 0) rfl rfl (Or.inl rfl) gw_85 (N := 5) (by decide) (by decide) (by decide) (by decide) (by decide) dX5_init_81 (fun q1 Ψ2 L2 f H w hT hE hsp hm_q1 ht_q1 hf_q1 hz_q1 hnq hbk => ?_)
  have hn_x_q1 := hnq x hm_x
  have hf_x := ((hsp x hm_x).2.2 ht_x).trans hf_x
  have ht_x := (hsp x hm_x).2.1.trans ht_x
  have hm_x := (hsp x hm_x).1
  clear hsp hbk hnq
  obtain ⟨Ψ3, hT, hE, hs1, hs2, ht_q1x⟩ := t_tag (t := 15) hT hE ht_q1 hz_q1 (by decide) (t_tya (v := 0) (by decide) hf_q1 rfl rfl (fun i _ => rfl) (fun i => (gof_no rfl)))
  have ht_x := (hs2 x hn_x_q1).trans ht_x
  have ht_q1 := ht_q1x
  clear hs1 hs2 ht_q1x
  refine t_putRF C hnm w hT hE hm_x ht_x hf_x hz_x rfl cin_5 tyX5 tyX5_ok nmX5 15 (by decide) (Nat.le_of_ble_eq_true rfl) rfl rfl rfl rfl (fs2 := [.int 0, .int 0, .int (-1), .int 0, .int 0, .int 0, .int 0, .int 0, .int 0, .int 0, .int 0, .int 0, .int 0, .int 0, .int 0, .ref q1, .int 0]) rfl gw_248 dX5_init_83 (fun f H locs w hT hE hf_x hk => ?_)
  clear hk
  refine lv_aload_n hx hb dX5_init_86 rfl (lv_at hl 0 rfl) ?_
  refine lv_iconst (v := 0) hx hb dX5_init_87 (by decide) ?_
  refine t_putR C w hT hE hm_x ht_x hf_x hz_x rfl cin_5 tyX5 tyX5_ok nmX5 16 (by decide) (Nat.le_of_ble_eq_true rfl) rfl rfl rfl (fs2 := [.int 0, .int 0, .int (-1), .int 0, .int 0, .int 0, .int 0, .int 0, .int 0, .int 0, .int 0, .int 0, .int 0, .int 0, .int 0, .ref q1, .int 0]) rfl gw_249 dX5_init_88 (fun f H locs w hT hE hf_x hk => ?_)
  clear hk
  obtain ⟨Ψ4, hT, hE, hs1, hs2, ht_xx⟩ := t_tagX (t := 5) hT hE ht_x hm0_x rfl (t_tyo (by decide) hf_x (ds := [(0, 0), (0, 0), (0, 0), (0, 0), (0, 0), (0, 0), (0, 0), (0, 0), (0, 0), (0, 0), (0, 0), (0, 0), (0, 0), (0, 0), (0, 0), (1, 15), (0, 0)]) rfl (tyL_c (tyv_i (gof_no rfl)) (tyL_c (tyv_i (gof_is rfl)) (tyL_c (tyv_i (gof_no rfl)) (tyL_c (tyv_i (gof_no rfl)) (tyL_c (tyv_i (gof_no rfl)) (tyL_c (tyv_i (gof_no rfl)) (tyL_c (tyv_i (gof_no rfl)) (tyL_c (tyv_i (gof_no rfl)) (tyL_c (tyv_i (gof_no rfl)) (tyL_c (tyv_i (gof_no rfl)) (tyL_c (tyv_i (gof_no rfl)) (tyL_c (tyv_i (gof_no rfl)) (tyL_c (tyv_i (gof_no rfl)) (tyL_c (tyv_i (gof_is rfl)) (tyL_c (tyv_i (gof_is rfl)) (tyL_c (tyv_r hm_q1 ht_q1) (tyL_c (tyv_i (gof_is rfl)) trivial))))))))))))))))))
  have ht_x := ht_xx
  clear hs1 hs2 ht_xx
  exact t_vret C hr hlk w ⟨_, _, _, rfl, rfl, hT, hE, ht_x⟩ (by decide) (by decide) dX5_init_91
set_option maxHeartbeats 4000000 in
set_option maxRecDepth 100000 in
theorem c_X6_init (l : Launch) (D : va_G) (K : Nat → ClassId) (b0 : Nat) (sa : Nat × Nat × Nat) (sz : Nat) (L : List Nat) (f0 : Nat → va_E) (Ψ : Nat → Nat) (hT : TW K (gof gX0) Ψ L f0) (x : Nat) (hm_x : x ∈ L) (ht_x : Ψ x = 9) (hf_x : f0 x = .inr (6, [.null, .null, .null, .int 0, .null, .int 0, .null, .int 0, .null, .int 0, .null, .int 0, .int 0, .null, .null, .null, .null, .null])) (hn_4 : ∀ b : Nat, b ∈ L → Ψ b ≠ 4) : Met l yX6_init (.code yX6_init cX6_init 1 none :: gt) { frames := 3, cells := 72, slots := 4200, locals := 63 } (va_Pc [.ref x] (hPre D K b0 sa sz L f0)) (hQ D K b0 (fun v9 u9 => ∃ (Ψ2 : Nat → Nat) (L2 : List Nat) (f2 : Nat → va_E), v9 = none ∧ u9 = ((gof gX0), Ψ2, L2, f2) ∧ TW K (gof gX0) Ψ2 L2 f2 ∧ Ex [9, 0, 2, 3, 4, 5, 10, 11, 12, 13, 14, 15, 16, 18, 19, 20, 21] (fun q9 => q9 = x) Ψ L f0 Ψ2 L2 f2 ∧ Ψ2 x = 6 ∧ ∃ z9 : Nat, No (fun b => b = z9) 4 Ψ2 L2)) 72 4200 (fun q => b0 ≤ q) := by
  refine t_of (own := RX6) (by decide) rfl ?_ (Nat.le_of_ble_eq_true rfl)
  intro p e s m below meth c ls C w hsz hr hlk hnm hl
  have hx := C.1
  have hb := C.2.1
  have hl : lv_has ls 1 [(0, .ref x)] := hl
  have hE : Ex [9, 0, 2, 3, 4, 5, 10, 11, 12, 13, 14, 15, 16, 18, 19, 20, 21] (fun q9 => q9 = x) Ψ L f0 Ψ L f0 := Ex.rf
  have hm0_x := hm_x
  have hz_x : x ∈ L → (fun q9 => q9 = x) x := fun _ => rfl
  have hno_4 : No (fun _ => False) 4 Ψ L := fun b h1 h2 => hn_4 b h1 h2
  refine lv_aload_n hx hb dX6_init_0 rfl (lv_at hl 0 rfl) ?_
  refine t_obj0 C hl.1 gw_28 gw_29 gw_30 dX6_init_1 (by decide) (Nat.le_of_ble_eq_true rfl) ?_
  refine lv_aload_n hx hb dX6_init_4 rfl (lv_at hl 0 rfl) ?_
  refine t_new C w hT hE (by decide) (t := 0) rfl cin_0 tyX0 tyX0_ok gw_31 gw_32 gw_2 (fs := [.null, .int 0, .int 0, .int 0, .int 0, .int 0, .int 0, .int 0, .int 0, .int 0, .int 0, .null, .int 0]) dfl_0 (by decide) (by decide) dX6_init_5 (fun q1 Ψ2 L2 f H w hT hE hsp hm_q1 ht_q1 hf_q1 hz_q1 hnq hbk => ?_)
  have hn_x_q1 := hnq x hm_x
  have hf_x := ((hsp x hm_x).2.2 ht_x).trans hf_x
  have ht_x := (hsp x hm_x).2.1.trans ht_x
  have hm_x := (hsp x hm_x).1
  have hno_4 := hno_4.grow hsp hbk ht_q1 (by decide)
  clear hsp hbk hnq
  refine lv_dup hx hb dX6_init_8 rfl ?_
  refine t_callIN (host := RX6) (n := 0) C w (c_X0_init l D K b0 sa _ L2 _ Ψ2 hT q1 hm_q1 ht_q1 hf_q1) gw_35 (List.mem_of_getElem? (i := 0) rfl) rfl gw_34 gw_2 ⟨by decide, by decide, by decide +kernel⟩ rfl rfl ⟨by decide, by decide⟩ rfl hl.1 rfl (Nat.le_of_ble_eq_true rfl) dX6_init_9 ⟨by decide, by decide⟩ (fun v u H locs hp w => ?_)
  obtain ⟨Ψ3, L3, f2, rfl, rfl, hT2, hE2, ht_q1x⟩ := hp
  have hE := hE.tr hE2 (by decide) (fun b e9 h => by have e9 : b = q1 := e9; subst e9; exact hz_q1 h) (fun b e9 => by have e9 : b = q1 := e9; subst e9; rw [ht_q1x]; decide)
  have hsp := hE2.sp hm_x hn_x_q1
  have hf_x := (hsp.2.2 ht_x).trans hf_x
  have ht_x := hsp.2.1.trans ht_x
  have hm_x := hsp.1
  have hno_4 := hno_4.call hE2 (by decide) (fun b e9 h => by have e9 : b = q1 := e9; subst e9; rw [ht_q1x] at h; exact absurd h (by decide))
  have hm_q1 := (hE2.1 q1 hm_q1).1
  have ht_q1 := ht_q1x
  clear hT
  have hT := hT2
  clear hT2 hE2 ht_q1x
  generalize f2 = f at w hT hE hf_x
  refine t_putRF C hnm w hT hE hm_x ht_x hf_x hz_x rfl cin_6 tyX6 tyX6_ok nmX6 0 (by decide) (Nat.le_of_ble_eq_true rfl) rfl rfl rfl rfl (fs2 := [.ref q1, .null, .null, .int 0, .null, .int 0, .null, .int 0, .null, .int 0, .null, .int 0, .int 0, .null, .null, .null, .null, .null]) rfl gw_287 dX6_init_12 (fun f H locs w hT hE hf_x hk => ?_)
  clear hk
  refine lv_aload_n hx hb dX6_init_15 rfl (lv_at hl 0 rfl) ?_
  refine t_new C w hT hE (by decide) (t := 0) rfl cin_0 tyX0 tyX0_ok gw_31 gw_32 gw_2 (fs := [.null, .int 0, .int 0, .int 0, .int 0, .int 0, .int 0, .int 0, .int 0, .int 0, .int 0, .null, .int 0]) dfl_0 (by decide) (by decide) dX6_init_16 (fun q4 Ψ5 L5 f H w hT hE hsp hm_q4 ht_q4 hf_q4 hz_q4 hnq hbk => ?_)
  have hn_x_q4 := hnq x hm_x
  have hf_x := ((hsp x hm_x).2.2 ht_x).trans hf_x
  have ht_x := (hsp x hm_x).2.1.trans ht_x
  have hm_x := (hsp x hm_x).1
  have ht_q1 := (hsp q1 hm_q1).2.1.trans ht_q1
  have hm_q1 := (hsp q1 hm_q1).1
  have hno_4 := hno_4.grow hsp hbk ht_q4 (by decide)
  clear hsp hbk hnq
  refine lv_dup hx hb dX6_init_19 rfl ?_
  refine t_callIN (host := RX6) (n := 0) C w (c_X0_init l D K b0 sa _ L5 _ Ψ5 hT q4 hm_q4 ht_q4 hf_q4) gw_35 (List.mem_of_getElem? (i := 0) rfl) rfl gw_34 gw_2 ⟨by decide, by decide, by decide +kernel⟩ rfl rfl ⟨by decide, by decide⟩ rfl hl.1 rfl (Nat.le_of_ble_eq_true rfl) dX6_init_20 ⟨by decide, by decide⟩ (fun v u H locs hp w => ?_)
  obtain ⟨Ψ6, L6, f2, rfl, rfl, hT2, hE2, ht_q4x⟩ := hp
  have hE := hE.tr hE2 (by decide) (fun b e9 h => by have e9 : b = q4 := e9; subst e9; exact hz_q4 h) (fun b e9 => by have e9 : b = q4 := e9; subst e9; rw [ht_q4x]; decide)
  have hsp := hE2.sp hm_x hn_x_q4
  have hf_x := (hsp.2.2 ht_x).trans hf_x
  have ht_x := hsp.2.1.trans ht_x
  have hm_x := hsp.1
  have hsp := hE2.sp hm_q1 (fun e9 => by have e9 : q1 = q4 := e9; rw [e9, ht_q4] at ht_q1; exact absurd ht_q1 (by decide))
  have ht_q1 := hsp.2.1.trans ht_q1
  have hm_q1 := hsp.1
  have hno_4 := hno_4.call hE2 (by decide) (fun b e9 h => by have e9 : b = q4 := e9; subst e9; rw [ht_q4x] at h; exact absurd h (by decide))
  have hm_q4 := (hE2.1 q4 hm_q4).1
  have ht_q4 := ht_q4x
  clear hT
  have hT := hT2
  clear hT2 hE2 ht_q4x
  generalize f2 = f at w hT hE hf_x
  refine t_putRF C hnm w hT hE hm_x ht_x hf_x hz_x rfl cin_6 tyX6 tyX6_ok nmX6 1 (by decide) (Nat.le_of_ble_eq_true rfl) rfl rfl rfl rfl (fs2 := [.ref q1, .ref q4, .null, .int 0, .null, .int 0, .null, .int 0, .null, .int 0, .null, .int 0, .int 0, .null, .null, .null, .null, .null]) rfl gw_288 dX6_init_23 (fun f H locs w hT hE hf_x hk => ?_)
  clear hk
  refine lv_aload_n hx hb dX6_init_26 rfl (lv_at hl 0 rfl) ?_
  refine lv_iconst (v := 3) hx hb dX6_init_27 (by decide) ?_
  refine t_newQ C w hT hE (by decide) (ti := 2) rfl gw_31 w.2.2.2.2.2.1.2.1 (N := 3) (by decide) (by decide) (by decide) (by decide) (by decide) dX6_init_28 (fun q7 Ψ8 L8 f H w hT hE hsp hm_q7 ht_q7 hf_q7 hz_q7 hnq hbk => ?_)
  have hn_x_q7 := hnq x hm_x
  have hf_x := ((hsp x hm_x).2.2 ht_x).trans hf_x
  have ht_x := (hsp x hm_x).2.1.trans ht_x
  have hm_x := (hsp x hm_x).1
  have ht_q1 := (hsp q1 hm_q1).2.1.trans ht_q1
  have hm_q1 := (hsp q1 hm_q1).1
  have ht_q4 := (hsp q4 hm_q4).2.1.trans ht_q4
  have hm_q4 := (hsp q4 hm_q4).1
  have hno_4 := hno_4.grow hsp hbk ht_q7 (by decide)
  clear hsp hbk hnq
  refine lv_dup hx hb dX6_init_31 rfl ?_
  refine lv_iconst (v := 0) hx hb dX6_init_32 (by decide) ?_
  refine t_new C w hT hE (by decide) (t := 0) rfl cin_0 tyX0 tyX0_ok gw_31 gw_32 gw_2 (fs := [.null, .int 0, .int 0, .int 0, .int 0, .int 0, .int 0, .int 0, .int 0, .int 0, .int 0, .null, .int 0]) dfl_0 (by decide) (by decide) dX6_init_33 (fun q9 Ψ10 L10 f H w hT hE hsp hm_q9 ht_q9 hf_q9 hz_q9 hnq hbk => ?_)
  have hn_x_q9 := hnq x hm_x
  have hn_q7_q9 := hnq q7 hm_q7
  have hf_x := ((hsp x hm_x).2.2 ht_x).trans hf_x
  have ht_x := (hsp x hm_x).2.1.trans ht_x
  have hm_x := (hsp x hm_x).1
  have hf_q7 := ((hsp q7 hm_q7).2.2 ht_q7).trans hf_q7
  have ht_q7 := (hsp q7 hm_q7).2.1.trans ht_q7
  have hm_q7 := (hsp q7 hm_q7).1
  have ht_q1 := (hsp q1 hm_q1).2.1.trans ht_q1
  have hm_q1 := (hsp q1 hm_q1).1
  have ht_q4 := (hsp q4 hm_q4).2.1.trans ht_q4
  have hm_q4 := (hsp q4 hm_q4).1
  have hno_4 := hno_4.grow hsp hbk ht_q9 (by decide)
  clear hsp hbk hnq
  refine lv_dup hx hb dX6_init_36 rfl ?_
  refine t_callIN (host := RX6) (n := 0) C w (c_X0_init l D K b0 sa _ L10 _ Ψ10 hT q9 hm_q9 ht_q9 hf_q9) gw_35 (List.mem_of_getElem? (i := 0) rfl) rfl gw_34 gw_2 ⟨by decide, by decide, by decide +kernel⟩ rfl rfl ⟨by decide, by decide⟩ rfl hl.1 rfl (Nat.le_of_ble_eq_true rfl) dX6_init_37 ⟨by decide, by decide⟩ (fun v u H locs hp w => ?_)
  obtain ⟨Ψ11, L11, f2, rfl, rfl, hT2, hE2, ht_q9x⟩ := hp
  have hE := hE.tr hE2 (by decide) (fun b e9 h => by have e9 : b = q9 := e9; subst e9; exact hz_q9 h) (fun b e9 => by have e9 : b = q9 := e9; subst e9; rw [ht_q9x]; decide)
  have hsp := hE2.sp hm_x hn_x_q9
  have hf_x := (hsp.2.2 ht_x).trans hf_x
  have ht_x := hsp.2.1.trans ht_x
  have hm_x := hsp.1
  have hsp := hE2.sp hm_q7 hn_q7_q9
  have hf_q7 := (hsp.2.2 ht_q7).trans hf_q7
  have ht_q7 := hsp.2.1.trans ht_q7
  have hm_q7 := hsp.1
  have hsp := hE2.sp hm_q1 (fun e9 => by have e9 : q1 = q9 := e9; rw [e9, ht_q9] at ht_q1; exact absurd ht_q1 (by decide))
  have ht_q1 := hsp.2.1.trans ht_q1
  have hm_q1 := hsp.1
  have hsp := hE2.sp hm_q4 (fun e9 => by have e9 : q4 = q9 := e9; rw [e9, ht_q9] at ht_q4; exact absurd ht_q4 (by decide))
  have ht_q4 := hsp.2.1.trans ht_q4
  have hm_q4 := hsp.1
  have hno_4 := hno_4.call hE2 (by decide) (fun b e9 h => by have e9 : b = q9 := e9; subst e9; rw [ht_q9x] at h; exact absurd h (by decide))
  have hm_q9 := (hE2.1 q9 hm_q9).1
  have ht_q9 := ht_q9x
  clear hT
  have hT := hT2
  clear hT2 hE2 ht_q9x
  generalize f2 = f at w hT hE hf_x hf_q7
  refine t_aastR C w hT hE hm_q7 ht_q7 hf_q7 hz_q7 hm_q9 ht_q9 (by decide) rfl rfl (vp_in_iff.mpr ⟨by decide, by decide⟩) (g2 := (va_up (fun _ => none) 0 (some q9))) rfl dX6_init_40 (fun f H locs w hT hE hf_q7 hk => ?_)
  have hf_x := (hk x hn_x_q7).trans hf_x
  clear hk
  refine lv_dup hx hb dX6_init_41 rfl ?_
  refine lv_iconst (v := 1) hx hb dX6_init_42 (by decide) ?_
  refine t_new C w hT hE (by decide) (t := 0) rfl cin_0 tyX0 tyX0_ok gw_31 gw_32 gw_2 (fs := [.null, .int 0, .int 0, .int 0, .int 0, .int 0, .int 0, .int 0, .int 0, .int 0, .int 0, .null, .int 0]) dfl_0 (by decide) (by decide) dX6_init_43 (fun q12 Ψ13 L13 f H w hT hE hsp hm_q12 ht_q12 hf_q12 hz_q12 hnq hbk => ?_)
  have hn_x_q12 := hnq x hm_x
  have hn_q7_q12 := hnq q7 hm_q7
  have hf_x := ((hsp x hm_x).2.2 ht_x).trans hf_x
  have ht_x := (hsp x hm_x).2.1.trans ht_x
  have hm_x := (hsp x hm_x).1
  have hf_q7 := ((hsp q7 hm_q7).2.2 ht_q7).trans hf_q7
  have ht_q7 := (hsp q7 hm_q7).2.1.trans ht_q7
  have hm_q7 := (hsp q7 hm_q7).1
  have ht_q1 := (hsp q1 hm_q1).2.1.trans ht_q1
  have hm_q1 := (hsp q1 hm_q1).1
  have ht_q4 := (hsp q4 hm_q4).2.1.trans ht_q4
  have hm_q4 := (hsp q4 hm_q4).1
  have ht_q9 := (hsp q9 hm_q9).2.1.trans ht_q9
  have hm_q9 := (hsp q9 hm_q9).1
  have hno_4 := hno_4.grow hsp hbk ht_q12 (by decide)
  clear hsp hbk hnq
  refine lv_dup hx hb dX6_init_46 rfl ?_
  refine t_callIN (host := RX6) (n := 0) C w (c_X0_init l D K b0 sa _ L13 _ Ψ13 hT q12 hm_q12 ht_q12 hf_q12) gw_35 (List.mem_of_getElem? (i := 0) rfl) rfl gw_34 gw_2 ⟨by decide, by decide, by decide +kernel⟩ rfl rfl ⟨by decide, by decide⟩ rfl hl.1 rfl (Nat.le_of_ble_eq_true rfl) dX6_init_47 ⟨by decide, by decide⟩ (fun v u H locs hp w => ?_)
  obtain ⟨Ψ14, L14, f2, rfl, rfl, hT2, hE2, ht_q12x⟩ := hp
  have hE := hE.tr hE2 (by decide) (fun b e9 h => by have e9 : b = q12 := e9; subst e9; exact hz_q12 h) (fun b e9 => by have e9 : b = q12 := e9; subst e9; rw [ht_q12x]; decide)
  have hsp := hE2.sp hm_x hn_x_q12
  have hf_x := (hsp.2.2 ht_x).trans hf_x
  have ht_x := hsp.2.1.trans ht_x
  have hm_x := hsp.1
  have hsp := hE2.sp hm_q7 hn_q7_q12
  have hf_q7 := (hsp.2.2 ht_q7).trans hf_q7
  have ht_q7 := hsp.2.1.trans ht_q7
  have hm_q7 := hsp.1
  have hsp := hE2.sp hm_q1 (fun e9 => by have e9 : q1 = q12 := e9; rw [e9, ht_q12] at ht_q1; exact absurd ht_q1 (by decide))
  have ht_q1 := hsp.2.1.trans ht_q1
  have hm_q1 := hsp.1
  have hsp := hE2.sp hm_q4 (fun e9 => by have e9 : q4 = q12 := e9; rw [e9, ht_q12] at ht_q4; exact absurd ht_q4 (by decide))
  have ht_q4 := hsp.2.1.trans ht_q4
  have hm_q4 := hsp.1
  have hsp := hE2.sp hm_q9 (fun e9 => by have e9 : q9 = q12 := e9; rw [e9, ht_q12] at ht_q9; exact absurd ht_q9 (by decide))
  have ht_q9 := hsp.2.1.trans ht_q9
  have hm_q9 := hsp.1
  have hno_4 := hno_4.call hE2 (by decide) (fun b e9 h => by have e9 : b = q12 := e9; subst e9; rw [ht_q12x] at h; exact absurd h (by decide))
  have hm_q12 := (hE2.1 q12 hm_q12).1
  have ht_q12 := ht_q12x
  clear hT
  have hT := hT2
  clear hT2 hE2 ht_q12x
  generalize f2 = f at w hT hE hf_x hf_q7
  refine t_aastR C w hT hE hm_q7 ht_q7 hf_q7 hz_q7 hm_q12 ht_q12 (by decide) rfl rfl (vp_in_iff.mpr ⟨by decide, by decide⟩) (g2 := (va_up (va_up (fun _ => none) 0 (some q9)) 1 (some q12))) rfl dX6_init_50 (fun f H locs w hT hE hf_q7 hk => ?_)
  have hf_x := (hk x hn_x_q7).trans hf_x
  clear hk
  refine lv_dup hx hb dX6_init_51 rfl ?_
  refine lv_iconst (v := 2) hx hb dX6_init_52 (by decide) ?_
  refine t_new C w hT hE (by decide) (t := 0) rfl cin_0 tyX0 tyX0_ok gw_31 gw_32 gw_2 (fs := [.null, .int 0, .int 0, .int 0, .int 0, .int 0, .int 0, .int 0, .int 0, .int 0, .int 0, .null, .int 0]) dfl_0 (by decide) (by decide) dX6_init_53 (fun q15 Ψ16 L16 f H w hT hE hsp hm_q15 ht_q15 hf_q15 hz_q15 hnq hbk => ?_)
  have hn_x_q15 := hnq x hm_x
  have hn_q7_q15 := hnq q7 hm_q7
  have hf_x := ((hsp x hm_x).2.2 ht_x).trans hf_x
  have ht_x := (hsp x hm_x).2.1.trans ht_x
  have hm_x := (hsp x hm_x).1
  have hf_q7 := ((hsp q7 hm_q7).2.2 ht_q7).trans hf_q7
  have ht_q7 := (hsp q7 hm_q7).2.1.trans ht_q7
  have hm_q7 := (hsp q7 hm_q7).1
  have ht_q1 := (hsp q1 hm_q1).2.1.trans ht_q1
  have hm_q1 := (hsp q1 hm_q1).1
  have ht_q4 := (hsp q4 hm_q4).2.1.trans ht_q4
  have hm_q4 := (hsp q4 hm_q4).1
  have ht_q9 := (hsp q9 hm_q9).2.1.trans ht_q9
  have hm_q9 := (hsp q9 hm_q9).1
  have ht_q12 := (hsp q12 hm_q12).2.1.trans ht_q12
  have hm_q12 := (hsp q12 hm_q12).1
  have hno_4 := hno_4.grow hsp hbk ht_q15 (by decide)
  clear hsp hbk hnq
  refine lv_dup hx hb dX6_init_56 rfl ?_
  refine t_callIN (host := RX6) (n := 0) C w (c_X0_init l D K b0 sa _ L16 _ Ψ16 hT q15 hm_q15 ht_q15 hf_q15) gw_35 (List.mem_of_getElem? (i := 0) rfl) rfl gw_34 gw_2 ⟨by decide, by decide, by decide +kernel⟩ rfl rfl ⟨by decide, by decide⟩ rfl hl.1 rfl (Nat.le_of_ble_eq_true rfl) dX6_init_57 ⟨by decide, by decide⟩ (fun v u H locs hp w => ?_)
  obtain ⟨Ψ17, L17, f2, rfl, rfl, hT2, hE2, ht_q15x⟩ := hp
  have hE := hE.tr hE2 (by decide) (fun b e9 h => by have e9 : b = q15 := e9; subst e9; exact hz_q15 h) (fun b e9 => by have e9 : b = q15 := e9; subst e9; rw [ht_q15x]; decide)
  have hsp := hE2.sp hm_x hn_x_q15
  have hf_x := (hsp.2.2 ht_x).trans hf_x
  have ht_x := hsp.2.1.trans ht_x
  have hm_x := hsp.1
  have hsp := hE2.sp hm_q7 hn_q7_q15
  have hf_q7 := (hsp.2.2 ht_q7).trans hf_q7
  have ht_q7 := hsp.2.1.trans ht_q7
  have hm_q7 := hsp.1
  have hsp := hE2.sp hm_q1 (fun e9 => by have e9 : q1 = q15 := e9; rw [e9, ht_q15] at ht_q1; exact absurd ht_q1 (by decide))
  have ht_q1 := hsp.2.1.trans ht_q1
  have hm_q1 := hsp.1
  have hsp := hE2.sp hm_q4 (fun e9 => by have e9 : q4 = q15 := e9; rw [e9, ht_q15] at ht_q4; exact absurd ht_q4 (by decide))
  have ht_q4 := hsp.2.1.trans ht_q4
  have hm_q4 := hsp.1
  have hsp := hE2.sp hm_q9 (fun e9 => by have e9 : q9 = q15 := e9; rw [e9, ht_q15] at ht_q9; exact absurd ht_q9 (by decide))
  have ht_q9 := hsp.2.1.trans ht_q9
  have hm_q9 := hsp.1
  have hsp := hE2.sp hm_q12 (fun e9 => by have e9 : q12 = q15 := e9; rw [e9, ht_q15] at ht_q12; exact absurd ht_q12 (by decide))
  have ht_q12 := hsp.2.1.trans ht_q12
  have hm_q12 := hsp.1
  have hno_4 := hno_4.call hE2 (by decide) (fun b e9 h => by have e9 : b = q15 := e9; subst e9; rw [ht_q15x] at h; exact absurd h (by decide))
  have hm_q15 := (hE2.1 q15 hm_q15).1
  have ht_q15 := ht_q15x
  clear hT
  have hT := hT2
  clear hT2 hE2 ht_q15x
  generalize f2 = f at w hT hE hf_x hf_q7
  refine t_aastR C w hT hE hm_q7 ht_q7 hf_q7 hz_q7 hm_q15 ht_q15 (by decide) rfl rfl (vp_in_iff.mpr ⟨by decide, by decide⟩) (g2 := (va_up (va_up (va_up (fun _ => none) 0 (some q9)) 1 (some q12)) 2 (some q15))) rfl dX6_init_60 (fun f H locs w hT hE hf_q7 hk => ?_)
  have hf_x := (hk x hn_x_q7).trans hf_x
  clear hk
  obtain ⟨Ψ18, hT, hE, hs1, hs2, ht_q7x⟩ := t_tag (t := 18) hT hE ht_q7 hz_q7 (by decide) (t_tyq (by decide) hf_q7 rfl rfl rfl (fun i hi => by match i, hi with | 0, _ => exact ⟨_, rfl, hm_q9, ht_q9⟩ | 1, _ => exact ⟨_, rfl, hm_q12, ht_q12⟩ | 2, _ => exact ⟨_, rfl, hm_q15, ht_q15⟩))
  have ht_x := (hs2 x hn_x_q7).trans ht_x
  have ht_q1 := (hs1 q1 (by rw [ht_q1]; decide)).trans ht_q1
  have ht_q4 := (hs1 q4 (by rw [ht_q4]; decide)).trans ht_q4
  have hno_4 := hno_4.tag hs2 ht_q7x (by decide)
  have ht_q7 := ht_q7x
  clear hs1 hs2 ht_q7x
  refine t_putRF C hnm w hT hE hm_x ht_x hf_x hz_x rfl cin_6 tyX6 tyX6_ok nmX6 2 (by decide) (Nat.le_of_ble_eq_true rfl) rfl rfl rfl rfl (fs2 := [.ref q1, .ref q4, .ref q7, .int 0, .null, .int 0, .null, .int 0, .null, .int 0, .null, .int 0, .int 0, .null, .null, .null, .null, .null]) rfl gw_289 dX6_init_61 (fun f H locs w hT hE hf_x hk => ?_)
  clear hk
  refine lv_aload_n hx hb dX6_init_64 rfl (lv_at hl 0 rfl) ?_
  refine lv_iconst (v := 0) hx hb dX6_init_65 (by decide) ?_
  refine t_putR C w hT hE hm_x ht_x hf_x hz_x rfl cin_6 tyX6 tyX6_ok nmX6 3 (by decide) (Nat.le_of_ble_eq_true rfl) rfl rfl rfl (fs2 := [.ref q1, .ref q4, .ref q7, .int 0, .null, .int 0, .null, .int 0, .null, .int 0, .null, .int 0, .int 0, .null, .null, .null, .null, .null]) rfl gw_290 dX6_init_66 (fun f H locs w hT hE hf_x hk => ?_)
  clear hk
  refine lv_aload_n hx hb dX6_init_69 rfl (lv_at hl 0 rfl) ?_
  refine lv_bipush (v := 6) hx hb dX6_init_70 (by decide) ?_
  refine t_newQ C w hT hE (by decide) (ti := 3) rfl gw_150 w.2.2.2.2.2.1.2.2.1 (N := 6) (by decide) (by decide) (by decide) (by decide) (by decide) dX6_init_72 (fun q19 Ψ20 L20 f H w hT hE hsp hm_q19 ht_q19 hf_q19 hz_q19 hnq hbk => ?_)
  have hn_x_q19 := hnq x hm_x
  have hf_x := ((hsp x hm_x).2.2 ht_x).trans hf_x
  have ht_x := (hsp x hm_x).2.1.trans ht_x
  have hm_x := (hsp x hm_x).1
  have ht_q1 := (hsp q1 hm_q1).2.1.trans ht_q1
  have hm_q1 := (hsp q1 hm_q1).1
  have ht_q4 := (hsp q4 hm_q4).2.1.trans ht_q4
  have hm_q4 := (hsp q4 hm_q4).1
  have ht_q7 := (hsp q7 hm_q7).2.1.trans ht_q7
  have hm_q7 := (hsp q7 hm_q7).1
  have hno_4 := hno_4.grow hsp hbk ht_q19 (by decide)
  clear hsp hbk hnq
  obtain ⟨Ψ21, hT, hE, hs1, hs2, ht_q19x⟩ := t_tag (t := 19) hT hE ht_q19 hz_q19 (by decide) (t_tyn (by decide) hf_q19 rfl rfl)
  have ht_x := (hs2 x hn_x_q19).trans ht_x
  have ht_q1 := (hs1 q1 (by rw [ht_q1]; decide)).trans ht_q1
  have ht_q4 := (hs1 q4 (by rw [ht_q4]; decide)).trans ht_q4
  have ht_q7 := (hs1 q7 (by rw [ht_q7]; decide)).trans ht_q7
  have hno_4 := hno_4.tag hs2 ht_q19x (by decide)
  have ht_q19 := ht_q19x
  clear hs1 hs2 ht_q19x
  refine t_putRF C hnm w hT hE hm_x ht_x hf_x hz_x rfl cin_6 tyX6 tyX6_ok nmX6 4 (by decide) (Nat.le_of_ble_eq_true rfl) rfl rfl rfl rfl (fs2 := [.ref q1, .ref q4, .ref q7, .int 0, .ref q19, .int 0, .null, .int 0, .null, .int 0, .null, .int 0, .int 0, .null, .null, .null, .null, .null]) rfl gw_291 dX6_init_75 (fun f H locs w hT hE hf_x hk => ?_)
  clear hk
  refine lv_aload_n hx hb dX6_init_78 rfl (lv_at hl 0 rfl) ?_
  refine lv_iconst (v := 0) hx hb dX6_init_79 (by decide) ?_
  refine t_putR C w hT hE hm_x ht_x hf_x hz_x rfl cin_6 tyX6 tyX6_ok nmX6 5 (by decide) (Nat.le_of_ble_eq_true rfl) rfl rfl rfl (fs2 := [.ref q1, .ref q4, .ref q7, .int 0, .ref q19, .int 0, .null, .int 0, .null, .int 0, .null, .int 0, .int 0, .null, .null, .null, .null, .null]) rfl gw_292 dX6_init_80 (fun f H locs w hT hE hf_x hk => ?_)
  clear hk
  refine lv_aload_n hx hb dX6_init_83 rfl (lv_at hl 0 rfl) ?_
  refine lv_iconst (v := 3) hx hb dX6_init_84 (by decide) ?_
  refine t_newQ C w hT hE (by decide) (ti := 3) rfl gw_150 w.2.2.2.2.2.1.2.2.1 (N := 3) (by decide) (by decide) (by decide) (by decide) (by decide) dX6_init_85 (fun q22 Ψ23 L23 f H w hT hE hsp hm_q22 ht_q22 hf_q22 hz_q22 hnq hbk => ?_)
  have hn_x_q22 := hnq x hm_x
  have hf_x := ((hsp x hm_x).2.2 ht_x).trans hf_x
  have ht_x := (hsp x hm_x).2.1.trans ht_x
  have hm_x := (hsp x hm_x).1
  have ht_q1 := (hsp q1 hm_q1).2.1.trans ht_q1
  have hm_q1 := (hsp q1 hm_q1).1
  have ht_q4 := (hsp q4 hm_q4).2.1.trans ht_q4
  have hm_q4 := (hsp q4 hm_q4).1
  have ht_q7 := (hsp q7 hm_q7).2.1.trans ht_q7
  have hm_q7 := (hsp q7 hm_q7).1
  have ht_q19 := (hsp q19 hm_q19).2.1.trans ht_q19
  have hm_q19 := (hsp q19 hm_q19).1
  have hno_4 := hno_4.grow hsp hbk ht_q22 (by decide)
  clear hsp hbk hnq
  obtain ⟨Ψ24, hT, hE, hs1, hs2, ht_q22x⟩ := t_tag (t := 20) hT hE ht_q22 hz_q22 (by decide) (t_tyn (by decide) hf_q22 rfl rfl)
  have ht_x := (hs2 x hn_x_q22).trans ht_x
  have ht_q1 := (hs1 q1 (by rw [ht_q1]; decide)).trans ht_q1
  have ht_q4 := (hs1 q4 (by rw [ht_q4]; decide)).trans ht_q4
  have ht_q7 := (hs1 q7 (by rw [ht_q7]; decide)).trans ht_q7
  have ht_q19 := (hs1 q19 (by rw [ht_q19]; decide)).trans ht_q19
  have hno_4 := hno_4.tag hs2 ht_q22x (by decide)
  have ht_q22 := ht_q22x
  clear hs1 hs2 ht_q22x
  refine t_putRF C hnm w hT hE hm_x ht_x hf_x hz_x rfl cin_6 tyX6 tyX6_ok nmX6 6 (by decide) (Nat.le_of_ble_eq_true rfl) rfl rfl rfl rfl (fs2 := [.ref q1, .ref q4, .ref q7, .int 0, .ref q19, .int 0, .ref q22, .int 0, .null, .int 0, .null, .int 0, .int 0, .null, .null, .null, .null, .null]) rfl gw_293 dX6_init_88 (fun f H locs w hT hE hf_x hk => ?_)
  clear hk
  refine lv_aload_n hx hb dX6_init_91 rfl (lv_at hl 0 rfl) ?_
  refine lv_iconst (v := 0) hx hb dX6_init_92 (by decide) ?_
  refine t_putR C w hT hE hm_x ht_x hf_x hz_x rfl cin_6 tyX6 tyX6_ok nmX6 7 (by decide) (Nat.le_of_ble_eq_true rfl) rfl rfl rfl (fs2 := [.ref q1, .ref q4, .ref q7, .int 0, .ref q19, .int 0, .ref q22, .int 0, .null, .int 0, .null, .int 0, .int 0, .null, .null, .null, .null, .null]) rfl gw_294 dX6_init_93 (fun f H locs w hT hE hf_x hk => ?_)
  clear hk
  refine lv_aload_n hx hb dX6_init_96 rfl (lv_at hl 0 rfl) ?_
  refine lv_bipush (v := 6) hx hb dX6_init_97 (by decide) ?_
  refine t_newI C w hT hE (by decide) (at_ := .int) (ty := .int) (ti := 0) rfl rfl (Or.inl rfl) gw_85 (N := 6) (by decide) (by decide) (by decide) (by decide) (by decide) dX6_init_99 (fun q25 Ψ26 L26 f H w hT hE hsp hm_q25 ht_q25 hf_q25 hz_q25 hnq hbk => ?_)
  have hn_x_q25 := hnq x hm_x
  have hf_x := ((hsp x hm_x).2.2 ht_x).trans hf_x
  have ht_x := (hsp x hm_x).2.1.trans ht_x
  have hm_x := (hsp x hm_x).1
  have ht_q1 := (hsp q1 hm_q1).2.1.trans ht_q1
  have hm_q1 := (hsp q1 hm_q1).1
  have ht_q4 := (hsp q4 hm_q4).2.1.trans ht_q4
  have hm_q4 := (hsp q4 hm_q4).1
  have ht_q7 := (hsp q7 hm_q7).2.1.trans ht_q7
  have hm_q7 := (hsp q7 hm_q7).1
  have ht_q19 := (hsp q19 hm_q19).2.1.trans ht_q19
  have hm_q19 := (hsp q19 hm_q19).1
  have ht_q22 := (hsp q22 hm_q22).2.1.trans ht_q22
  have hm_q22 := (hsp q22 hm_q22).1
  have hno_4 := hno_4.grow hsp hbk ht_q25 (by decide)
  clear hsp hbk hnq
  obtain ⟨Ψ27, hT, hE, hs1, hs2, ht_q25x⟩ := t_tag (t := 12) hT hE ht_q25 hz_q25 (by decide) (t_tya (v := 0) (by decide) hf_q25 rfl rfl (fun i _ => rfl) (fun i => (gof_no rfl)))
  have ht_x := (hs2 x hn_x_q25).trans ht_x
  have ht_q1 := (hs1 q1 (by rw [ht_q1]; decide)).trans ht_q1
  have ht_q4 := (hs1 q4 (by rw [ht_q4]; decide)).trans ht_q4
  have ht_q7 := (hs1 q7 (by rw [ht_q7]; decide)).trans ht_q7
  have ht_q19 := (hs1 q19 (by rw [ht_q19]; decide)).trans ht_q19
  have ht_q22 := (hs1 q22 (by rw [ht_q22]; decide)).trans ht_q22
  have hno_4 := hno_4.tag hs2 ht_q25x (by decide)
  have ht_q25 := ht_q25x
  clear hs1 hs2 ht_q25x
  refine t_putRF C hnm w hT hE hm_x ht_x hf_x hz_x rfl cin_6 tyX6 tyX6_ok nmX6 8 (by decide) (Nat.le_of_ble_eq_true rfl) rfl rfl rfl rfl (fs2 := [.ref q1, .ref q4, .ref q7, .int 0, .ref q19, .int 0, .ref q22, .int 0, .ref q25, .int 0, .null, .int 0, .int 0, .null, .null, .null, .null, .null]) rfl gw_295 dX6_init_101 (fun f H locs w hT hE hf_x hk => ?_)
  clear hk
  refine lv_aload_n hx hb dX6_init_104 rfl (lv_at hl 0 rfl) ?_
  refine lv_iconst (v := 0) hx hb dX6_init_105 (by decide) ?_
  refine t_putR C w hT hE hm_x ht_x hf_x hz_x rfl cin_6 tyX6 tyX6_ok nmX6 9 (by decide) (Nat.le_of_ble_eq_true rfl) rfl rfl rfl (fs2 := [.ref q1, .ref q4, .ref q7, .int 0, .ref q19, .int 0, .ref q22, .int 0, .ref q25, .int 0, .null, .int 0, .int 0, .null, .null, .null, .null, .null]) rfl gw_296 dX6_init_106 (fun f H locs w hT hE hf_x hk => ?_)
  clear hk
  refine lv_aload_n hx hb dX6_init_109 rfl (lv_at hl 0 rfl) ?_
  refine lv_sipush (v := 300) hx hb dX6_init_110 (by decide) ?_
  refine t_newI C w hT hE (by decide) (at_ := .int) (ty := .int) (ti := 0) rfl rfl (Or.inl rfl) gw_85 (N := 300) (by decide) (by decide) (by decide) (by decide) (by decide) dX6_init_113 (fun q28 Ψ29 L29 f H w hT hE hsp hm_q28 ht_q28 hf_q28 hz_q28 hnq hbk => ?_)
  have hn_x_q28 := hnq x hm_x
  have hf_x := ((hsp x hm_x).2.2 ht_x).trans hf_x
  have ht_x := (hsp x hm_x).2.1.trans ht_x
  have hm_x := (hsp x hm_x).1
  have ht_q1 := (hsp q1 hm_q1).2.1.trans ht_q1
  have hm_q1 := (hsp q1 hm_q1).1
  have ht_q4 := (hsp q4 hm_q4).2.1.trans ht_q4
  have hm_q4 := (hsp q4 hm_q4).1
  have ht_q7 := (hsp q7 hm_q7).2.1.trans ht_q7
  have hm_q7 := (hsp q7 hm_q7).1
  have ht_q19 := (hsp q19 hm_q19).2.1.trans ht_q19
  have hm_q19 := (hsp q19 hm_q19).1
  have ht_q22 := (hsp q22 hm_q22).2.1.trans ht_q22
  have hm_q22 := (hsp q22 hm_q22).1
  have ht_q25 := (hsp q25 hm_q25).2.1.trans ht_q25
  have hm_q25 := (hsp q25 hm_q25).1
  have hno_4 := hno_4.grow hsp hbk ht_q28 (by decide)
  clear hsp hbk hnq
  obtain ⟨Ψ30, hT, hE, hs1, hs2, ht_q28x⟩ := t_tag (t := 13) hT hE ht_q28 hz_q28 (by decide) (t_tya (v := 0) (by decide) hf_q28 rfl rfl (fun i _ => rfl) (fun i => (gof_no rfl)))
  have ht_x := (hs2 x hn_x_q28).trans ht_x
  have ht_q1 := (hs1 q1 (by rw [ht_q1]; decide)).trans ht_q1
  have ht_q4 := (hs1 q4 (by rw [ht_q4]; decide)).trans ht_q4
  have ht_q7 := (hs1 q7 (by rw [ht_q7]; decide)).trans ht_q7
  have ht_q19 := (hs1 q19 (by rw [ht_q19]; decide)).trans ht_q19
  have ht_q22 := (hs1 q22 (by rw [ht_q22]; decide)).trans ht_q22
  have ht_q25 := (hs1 q25 (by rw [ht_q25]; decide)).trans ht_q25
  have hno_4 := hno_4.tag hs2 ht_q28x (by decide)
  have ht_q28 := ht_q28x
  clear hs1 hs2 ht_q28x
  refine t_putRF C hnm w hT hE hm_x ht_x hf_x hz_x rfl cin_6 tyX6 tyX6_ok nmX6 10 (by decide) (Nat.le_of_ble_eq_true rfl) rfl rfl rfl rfl (fs2 := [.ref q1, .ref q4, .ref q7, .int 0, .ref q19, .int 0, .ref q22, .int 0, .ref q25, .int 0, .ref q28, .int 0, .int 0, .null, .null, .null, .null, .null]) rfl gw_297 dX6_init_115 (fun f H locs w hT hE hf_x hk => ?_)
  clear hk
  refine lv_aload_n hx hb dX6_init_118 rfl (lv_at hl 0 rfl) ?_
  refine lv_iconst (v := 0) hx hb dX6_init_119 (by decide) ?_
  refine t_putR C w hT hE hm_x ht_x hf_x hz_x rfl cin_6 tyX6 tyX6_ok nmX6 11 (by decide) (Nat.le_of_ble_eq_true rfl) rfl rfl rfl (fs2 := [.ref q1, .ref q4, .ref q7, .int 0, .ref q19, .int 0, .ref q22, .int 0, .ref q25, .int 0, .ref q28, .int 0, .int 0, .null, .null, .null, .null, .null]) rfl gw_298 dX6_init_120 (fun f H locs w hT hE hf_x hk => ?_)
  clear hk
  refine lv_aload_n hx hb dX6_init_123 rfl (lv_at hl 0 rfl) ?_
  refine lv_iconst (v := (-1)) hx hb dX6_init_124 (by decide) ?_
  refine t_putR C w hT hE hm_x ht_x hf_x hz_x rfl cin_6 tyX6 tyX6_ok nmX6 12 (by decide) (Nat.le_of_ble_eq_true rfl) rfl rfl rfl (fs2 := [.ref q1, .ref q4, .ref q7, .int 0, .ref q19, .int 0, .ref q22, .int 0, .ref q25, .int 0, .ref q28, .int 0, .int (-1), .null, .null, .null, .null, .null]) rfl gw_299 dX6_init_125 (fun f H locs w hT hE hf_x hk => ?_)
  clear hk
  refine lv_aload_n hx hb dX6_init_128 rfl (lv_at hl 0 rfl) ?_
  refine t_new C w hT hE (by decide) (t := 4) rfl cin_4 tyX4 tyX4_ok gw_152 gw_153 gw_5 (fs := [.null, .null, .null, .int 0, .int 0, .int 0, .null, .int 0, .int 0, .int 0, .int 0, .int 0]) dfl_4 (by decide) (by decide) dX6_init_129 (fun q31 Ψ32 L32 f H w hT hE hsp hm_q31 ht_q31 hf_q31 hz_q31 hnq hbk => ?_)
  have hn_x_q31 := hnq x hm_x
  have hf_x := ((hsp x hm_x).2.2 ht_x).trans hf_x
  have ht_x := (hsp x hm_x).2.1.trans ht_x
  have hm_x := (hsp x hm_x).1
  have ht_q1 := (hsp q1 hm_q1).2.1.trans ht_q1
  have hm_q1 := (hsp q1 hm_q1).1
  have ht_q4 := (hsp q4 hm_q4).2.1.trans ht_q4
  have hm_q4 := (hsp q4 hm_q4).1
  have ht_q7 := (hsp q7 hm_q7).2.1.trans ht_q7
  have hm_q7 := (hsp q7 hm_q7).1
  have ht_q19 := (hsp q19 hm_q19).2.1.trans ht_q19
  have hm_q19 := (hsp q19 hm_q19).1
  have ht_q22 := (hsp q22 hm_q22).2.1.trans ht_q22
  have hm_q22 := (hsp q22 hm_q22).1
  have ht_q25 := (hsp q25 hm_q25).2.1.trans ht_q25
  have hm_q25 := (hsp q25 hm_q25).1
  have ht_q28 := (hsp q28 hm_q28).2.1.trans ht_q28
  have hm_q28 := (hsp q28 hm_q28).1
  have hno_4 := hno_4.grow hsp hbk ht_q31 (by decide)
  clear hsp hbk hnq
  refine lv_dup hx hb dX6_init_132 rfl ?_
  refine t_callIN (host := RX6) (n := 0) C w (c_X4_init l D K b0 sa _ L32 _ Ψ32 hT q31 hm_q31 ht_q31 hf_q31) gw_156 (List.mem_of_getElem? (i := 1) rfl) rfl gw_155 gw_5 ⟨by decide, by decide, by decide +kernel⟩ rfl rfl ⟨by decide, by decide⟩ rfl hl.1 rfl (Nat.le_of_ble_eq_true rfl) dX6_init_133 ⟨by decide, by decide⟩ (fun v u H locs hp w => ?_)
  obtain ⟨Ψ33, L33, f2, rfl, rfl, hT2, hE2, ht_q31x⟩ := hp
  have hE := hE.tr hE2 (by decide) (fun b e9 h => by have e9 : b = q31 := e9; subst e9; exact hz_q31 h) (fun b e9 => by have e9 : b = q31 := e9; subst e9; rw [ht_q31x]; decide)
  have hsp := hE2.sp hm_x hn_x_q31
  have hf_x := (hsp.2.2 ht_x).trans hf_x
  have ht_x := hsp.2.1.trans ht_x
  have hm_x := hsp.1
  have hsp := hE2.sp hm_q1 (fun e9 => by have e9 : q1 = q31 := e9; rw [e9, ht_q31] at ht_q1; exact absurd ht_q1 (by decide))
  have ht_q1 := hsp.2.1.trans ht_q1
  have hm_q1 := hsp.1
  have hsp := hE2.sp hm_q4 (fun e9 => by have e9 : q4 = q31 := e9; rw [e9, ht_q31] at ht_q4; exact absurd ht_q4 (by decide))
  have ht_q4 := hsp.2.1.trans ht_q4
  have hm_q4 := hsp.1
  have hsp := hE2.sp hm_q7 (fun e9 => by have e9 : q7 = q31 := e9; rw [e9, ht_q31] at ht_q7; exact absurd ht_q7 (by decide))
  have ht_q7 := hsp.2.1.trans ht_q7
  have hm_q7 := hsp.1
  have hsp := hE2.sp hm_q19 (fun e9 => by have e9 : q19 = q31 := e9; rw [e9, ht_q31] at ht_q19; exact absurd ht_q19 (by decide))
  have ht_q19 := hsp.2.1.trans ht_q19
  have hm_q19 := hsp.1
  have hsp := hE2.sp hm_q22 (fun e9 => by have e9 : q22 = q31 := e9; rw [e9, ht_q31] at ht_q22; exact absurd ht_q22 (by decide))
  have ht_q22 := hsp.2.1.trans ht_q22
  have hm_q22 := hsp.1
  have hsp := hE2.sp hm_q25 (fun e9 => by have e9 : q25 = q31 := e9; rw [e9, ht_q31] at ht_q25; exact absurd ht_q25 (by decide))
  have ht_q25 := hsp.2.1.trans ht_q25
  have hm_q25 := hsp.1
  have hsp := hE2.sp hm_q28 (fun e9 => by have e9 : q28 = q31 := e9; rw [e9, ht_q31] at ht_q28; exact absurd ht_q28 (by decide))
  have ht_q28 := hsp.2.1.trans ht_q28
  have hm_q28 := hsp.1
  have hno_4 := No.call (No.mono hno_4 (fun b h => (h.elim : b = q31))) hE2 (by decide) (fun b e9 _ => e9)
  have hm_q31 := (hE2.1 q31 hm_q31).1
  have ht_q31 := ht_q31x
  clear hT
  have hT := hT2
  clear hT2 hE2 ht_q31x
  generalize f2 = f at w hT hE hf_x
  refine t_putRF C hnm w hT hE hm_x ht_x hf_x hz_x rfl cin_6 tyX6 tyX6_ok nmX6 13 (by decide) (Nat.le_of_ble_eq_true rfl) rfl rfl rfl rfl (fs2 := [.ref q1, .ref q4, .ref q7, .int 0, .ref q19, .int 0, .ref q22, .int 0, .ref q25, .int 0, .ref q28, .int 0, .int (-1), .ref q31, .null, .null, .null, .null]) rfl gw_300 dX6_init_136 (fun f H locs w hT hE hf_x hk => ?_)
  clear hk
  refine lv_aload_n hx hb dX6_init_139 rfl (lv_at hl 0 rfl) ?_
  refine t_new C w hT hE (by decide) (t := 3) rfl cin_3 tyX3 tyX3_ok gw_197 gw_198 gw_6 (fs := [.null, .int 0, .null]) dfl_3 (by decide) (by decide) dX6_init_140 (fun q34 Ψ35 L35 f H w hT hE hsp hm_q34 ht_q34 hf_q34 hz_q34 hnq hbk => ?_)
  have hn_x_q34 := hnq x hm_x
  have hf_x := ((hsp x hm_x).2.2 ht_x).trans hf_x
  have ht_x := (hsp x hm_x).2.1.trans ht_x
  have hm_x := (hsp x hm_x).1
  have ht_q1 := (hsp q1 hm_q1).2.1.trans ht_q1
  have hm_q1 := (hsp q1 hm_q1).1
  have ht_q4 := (hsp q4 hm_q4).2.1.trans ht_q4
  have hm_q4 := (hsp q4 hm_q4).1
  have ht_q7 := (hsp q7 hm_q7).2.1.trans ht_q7
  have hm_q7 := (hsp q7 hm_q7).1
  have ht_q19 := (hsp q19 hm_q19).2.1.trans ht_q19
  have hm_q19 := (hsp q19 hm_q19).1
  have ht_q22 := (hsp q22 hm_q22).2.1.trans ht_q22
  have hm_q22 := (hsp q22 hm_q22).1
  have ht_q25 := (hsp q25 hm_q25).2.1.trans ht_q25
  have hm_q25 := (hsp q25 hm_q25).1
  have ht_q28 := (hsp q28 hm_q28).2.1.trans ht_q28
  have hm_q28 := (hsp q28 hm_q28).1
  have ht_q31 := (hsp q31 hm_q31).2.1.trans ht_q31
  have hm_q31 := (hsp q31 hm_q31).1
  have hno_4 := hno_4.grow hsp hbk ht_q34 (by decide)
  clear hsp hbk hnq
  refine lv_dup hx hb dX6_init_143 rfl ?_
  refine t_callIN (host := RX6) (n := 0) C w (c_X3_init l D K b0 sa _ L35 _ Ψ35 hT q34 hm_q34 ht_q34 hf_q34) gw_201 (List.mem_of_getElem? (i := 2) rfl) rfl gw_200 gw_6 ⟨by decide, by decide, by decide +kernel⟩ rfl rfl ⟨by decide, by decide⟩ rfl hl.1 rfl (Nat.le_of_ble_eq_true rfl) dX6_init_144 ⟨by decide, by decide⟩ (fun v u H locs hp w => ?_)
  obtain ⟨Ψ36, L36, f2, rfl, rfl, hT2, hE2, ht_q34x⟩ := hp
  have hE := hE.tr hE2 (by decide) (fun b e9 h => by have e9 : b = q34 := e9; subst e9; exact hz_q34 h) (fun b e9 => by have e9 : b = q34 := e9; subst e9; rw [ht_q34x]; decide)
  have hsp := hE2.sp hm_x hn_x_q34
  have hf_x := (hsp.2.2 ht_x).trans hf_x
  have ht_x := hsp.2.1.trans ht_x
  have hm_x := hsp.1
  have hsp := hE2.sp hm_q1 (fun e9 => by have e9 : q1 = q34 := e9; rw [e9, ht_q34] at ht_q1; exact absurd ht_q1 (by decide))
  have ht_q1 := hsp.2.1.trans ht_q1
  have hm_q1 := hsp.1
  have hsp := hE2.sp hm_q4 (fun e9 => by have e9 : q4 = q34 := e9; rw [e9, ht_q34] at ht_q4; exact absurd ht_q4 (by decide))
  have ht_q4 := hsp.2.1.trans ht_q4
  have hm_q4 := hsp.1
  have hsp := hE2.sp hm_q7 (fun e9 => by have e9 : q7 = q34 := e9; rw [e9, ht_q34] at ht_q7; exact absurd ht_q7 (by decide))
  have ht_q7 := hsp.2.1.trans ht_q7
  have hm_q7 := hsp.1
  have hsp := hE2.sp hm_q19 (fun e9 => by have e9 : q19 = q34 := e9; rw [e9, ht_q34] at ht_q19; exact absurd ht_q19 (by decide))
  have ht_q19 := hsp.2.1.trans ht_q19
  have hm_q19 := hsp.1
  have hsp := hE2.sp hm_q22 (fun e9 => by have e9 : q22 = q34 := e9; rw [e9, ht_q34] at ht_q22; exact absurd ht_q22 (by decide))
  have ht_q22 := hsp.2.1.trans ht_q22
  have hm_q22 := hsp.1
  have hsp := hE2.sp hm_q25 (fun e9 => by have e9 : q25 = q34 := e9; rw [e9, ht_q34] at ht_q25; exact absurd ht_q25 (by decide))
  have ht_q25 := hsp.2.1.trans ht_q25
  have hm_q25 := hsp.1
  have hsp := hE2.sp hm_q28 (fun e9 => by have e9 : q28 = q34 := e9; rw [e9, ht_q34] at ht_q28; exact absurd ht_q28 (by decide))
  have ht_q28 := hsp.2.1.trans ht_q28
  have hm_q28 := hsp.1
  have hsp := hE2.sp hm_q31 (fun e9 => by have e9 : q31 = q34 := e9; rw [e9, ht_q34] at ht_q31; exact absurd ht_q31 (by decide))
  have ht_q31 := hsp.2.1.trans ht_q31
  have hm_q31 := hsp.1
  have hno_4 := hno_4.call hE2 (by decide) (fun b e9 h => by have e9 : b = q34 := e9; subst e9; rw [ht_q34x] at h; exact absurd h (by decide))
  have hm_q34 := (hE2.1 q34 hm_q34).1
  have ht_q34 := ht_q34x
  clear hT
  have hT := hT2
  clear hT2 hE2 ht_q34x
  generalize f2 = f at w hT hE hf_x
  refine t_putRF C hnm w hT hE hm_x ht_x hf_x hz_x rfl cin_6 tyX6 tyX6_ok nmX6 14 (by decide) (Nat.le_of_ble_eq_true rfl) rfl rfl rfl rfl (fs2 := [.ref q1, .ref q4, .ref q7, .int 0, .ref q19, .int 0, .ref q22, .int 0, .ref q25, .int 0, .ref q28, .int 0, .int (-1), .ref q31, .ref q34, .null, .null, .null]) rfl gw_301 dX6_init_147 (fun f H locs w hT hE hf_x hk => ?_)
  clear hk
  refine lv_aload_n hx hb dX6_init_150 rfl (lv_at hl 0 rfl) ?_
  refine t_new C w hT hE (by decide) (t := 5) rfl cin_5 tyX5 tyX5_ok gw_213 gw_214 gw_7 (fs := [.int 0, .int 0, .int 0, .int 0, .int 0, .int 0, .int 0, .int 0, .int 0, .int 0, .int 0, .int 0, .int 0, .int 0, .int 0, .null, .int 0]) dfl_5 (by decide) (by decide) dX6_init_151 (fun q37 Ψ38 L38 f H w hT hE hsp hm_q37 ht_q37 hf_q37 hz_q37 hnq hbk => ?_)
  have hn_x_q37 := hnq x hm_x
  have hf_x := ((hsp x hm_x).2.2 ht_x).trans hf_x
  have ht_x := (hsp x hm_x).2.1.trans ht_x
  have hm_x := (hsp x hm_x).1
  have ht_q1 := (hsp q1 hm_q1).2.1.trans ht_q1
  have hm_q1 := (hsp q1 hm_q1).1
  have ht_q4 := (hsp q4 hm_q4).2.1.trans ht_q4
  have hm_q4 := (hsp q4 hm_q4).1
  have ht_q7 := (hsp q7 hm_q7).2.1.trans ht_q7
  have hm_q7 := (hsp q7 hm_q7).1
  have ht_q19 := (hsp q19 hm_q19).2.1.trans ht_q19
  have hm_q19 := (hsp q19 hm_q19).1
  have ht_q22 := (hsp q22 hm_q22).2.1.trans ht_q22
  have hm_q22 := (hsp q22 hm_q22).1
  have ht_q25 := (hsp q25 hm_q25).2.1.trans ht_q25
  have hm_q25 := (hsp q25 hm_q25).1
  have ht_q28 := (hsp q28 hm_q28).2.1.trans ht_q28
  have hm_q28 := (hsp q28 hm_q28).1
  have ht_q31 := (hsp q31 hm_q31).2.1.trans ht_q31
  have hm_q31 := (hsp q31 hm_q31).1
  have ht_q34 := (hsp q34 hm_q34).2.1.trans ht_q34
  have hm_q34 := (hsp q34 hm_q34).1
  have hno_4 := hno_4.grow hsp hbk ht_q37 (by decide)
  clear hsp hbk hnq
  refine lv_dup hx hb dX6_init_154 rfl ?_
  refine t_callIN (host := RX6) (n := 0) C w (c_X5_init l D K b0 sa _ L38 _ Ψ38 hT q37 hm_q37 ht_q37 hf_q37) gw_217 (List.mem_of_getElem? (i := 3) rfl) rfl gw_216 gw_7 ⟨by decide, by decide, by decide +kernel⟩ rfl rfl ⟨by decide, by decide⟩ rfl hl.1 rfl (Nat.le_of_ble_eq_true rfl) dX6_init_155 ⟨by decide, by decide⟩ (fun v u H locs hp w => ?_)
  obtain ⟨Ψ39, L39, f2, rfl, rfl, hT2, hE2, ht_q37x⟩ := hp
  have hE := hE.tr hE2 (by decide) (fun b e9 h => by have e9 : b = q37 := e9; subst e9; exact hz_q37 h) (fun b e9 => by have e9 : b = q37 := e9; subst e9; rw [ht_q37x]; decide)
  have hsp := hE2.sp hm_x hn_x_q37
  have hf_x := (hsp.2.2 ht_x).trans hf_x
  have ht_x := hsp.2.1.trans ht_x
  have hm_x := hsp.1
  have hsp := hE2.sp hm_q1 (fun e9 => by have e9 : q1 = q37 := e9; rw [e9, ht_q37] at ht_q1; exact absurd ht_q1 (by decide))
  have ht_q1 := hsp.2.1.trans ht_q1
  have hm_q1 := hsp.1
  have hsp := hE2.sp hm_q4 (fun e9 => by have e9 : q4 = q37 := e9; rw [e9, ht_q37] at ht_q4; exact absurd ht_q4 (by decide))
  have ht_q4 := hsp.2.1.trans ht_q4
  have hm_q4 := hsp.1
  have hsp := hE2.sp hm_q7 (fun e9 => by have e9 : q7 = q37 := e9; rw [e9, ht_q37] at ht_q7; exact absurd ht_q7 (by decide))
  have ht_q7 := hsp.2.1.trans ht_q7
  have hm_q7 := hsp.1
  have hsp := hE2.sp hm_q19 (fun e9 => by have e9 : q19 = q37 := e9; rw [e9, ht_q37] at ht_q19; exact absurd ht_q19 (by decide))
  have ht_q19 := hsp.2.1.trans ht_q19
  have hm_q19 := hsp.1
  have hsp := hE2.sp hm_q22 (fun e9 => by have e9 : q22 = q37 := e9; rw [e9, ht_q37] at ht_q22; exact absurd ht_q22 (by decide))
  have ht_q22 := hsp.2.1.trans ht_q22
  have hm_q22 := hsp.1
  have hsp := hE2.sp hm_q25 (fun e9 => by have e9 : q25 = q37 := e9; rw [e9, ht_q37] at ht_q25; exact absurd ht_q25 (by decide))
  have ht_q25 := hsp.2.1.trans ht_q25
  have hm_q25 := hsp.1
  have hsp := hE2.sp hm_q28 (fun e9 => by have e9 : q28 = q37 := e9; rw [e9, ht_q37] at ht_q28; exact absurd ht_q28 (by decide))
  have ht_q28 := hsp.2.1.trans ht_q28
  have hm_q28 := hsp.1
  have hsp := hE2.sp hm_q31 (fun e9 => by have e9 : q31 = q37 := e9; rw [e9, ht_q37] at ht_q31; exact absurd ht_q31 (by decide))
  have ht_q31 := hsp.2.1.trans ht_q31
  have hm_q31 := hsp.1
  have hsp := hE2.sp hm_q34 (fun e9 => by have e9 : q34 = q37 := e9; rw [e9, ht_q37] at ht_q34; exact absurd ht_q34 (by decide))
  have ht_q34 := hsp.2.1.trans ht_q34
  have hm_q34 := hsp.1
  have hno_4 := hno_4.call hE2 (by decide) (fun b e9 h => by have e9 : b = q37 := e9; subst e9; rw [ht_q37x] at h; exact absurd h (by decide))
  have hm_q37 := (hE2.1 q37 hm_q37).1
  have ht_q37 := ht_q37x
  clear hT
  have hT := hT2
  clear hT2 hE2 ht_q37x
  generalize f2 = f at w hT hE hf_x
  refine t_putRF C hnm w hT hE hm_x ht_x hf_x hz_x rfl cin_6 tyX6 tyX6_ok nmX6 15 (by decide) (Nat.le_of_ble_eq_true rfl) rfl rfl rfl rfl (fs2 := [.ref q1, .ref q4, .ref q7, .int 0, .ref q19, .int 0, .ref q22, .int 0, .ref q25, .int 0, .ref q28, .int 0, .int (-1), .ref q31, .ref q34, .ref q37, .null, .null]) rfl gw_302 dX6_init_158 (fun f H locs w hT hE hf_x hk => ?_)
  clear hk
  refine lv_aload_n hx hb dX6_init_161 rfl (lv_at hl 0 rfl) ?_
  refine lv_bipush (v := 36) hx hb dX6_init_162 (by decide) ?_
  refine t_newI C w hT hE (by decide) (at_ := .int) (ty := .int) (ti := 0) rfl rfl (Or.inl rfl) gw_85 (N := 36) (by decide) (by decide) (by decide) (by decide) (by decide) dX6_init_164 (fun q40 Ψ41 L41 f H w hT hE hsp hm_q40 ht_q40 hf_q40 hz_q40 hnq hbk => ?_)
  have hn_x_q40 := hnq x hm_x
  have hf_x := ((hsp x hm_x).2.2 ht_x).trans hf_x
  have ht_x := (hsp x hm_x).2.1.trans ht_x
  have hm_x := (hsp x hm_x).1
  have ht_q1 := (hsp q1 hm_q1).2.1.trans ht_q1
  have hm_q1 := (hsp q1 hm_q1).1
  have ht_q4 := (hsp q4 hm_q4).2.1.trans ht_q4
  have hm_q4 := (hsp q4 hm_q4).1
  have ht_q7 := (hsp q7 hm_q7).2.1.trans ht_q7
  have hm_q7 := (hsp q7 hm_q7).1
  have ht_q19 := (hsp q19 hm_q19).2.1.trans ht_q19
  have hm_q19 := (hsp q19 hm_q19).1
  have ht_q22 := (hsp q22 hm_q22).2.1.trans ht_q22
  have hm_q22 := (hsp q22 hm_q22).1
  have ht_q25 := (hsp q25 hm_q25).2.1.trans ht_q25
  have hm_q25 := (hsp q25 hm_q25).1
  have ht_q28 := (hsp q28 hm_q28).2.1.trans ht_q28
  have hm_q28 := (hsp q28 hm_q28).1
  have ht_q31 := (hsp q31 hm_q31).2.1.trans ht_q31
  have hm_q31 := (hsp q31 hm_q31).1
  have ht_q34 := (hsp q34 hm_q34).2.1.trans ht_q34
  have hm_q34 := (hsp q34 hm_q34).1
  have ht_q37 := (hsp q37 hm_q37).2.1.trans ht_q37
  have hm_q37 := (hsp q37 hm_q37).1
  have hno_4 := hno_4.grow hsp hbk ht_q40 (by decide)
  clear hsp hbk hnq
  obtain ⟨Ψ42, hT, hE, hs1, hs2, ht_q40x⟩ := t_tag (t := 16) hT hE ht_q40 hz_q40 (by decide) (t_tya (v := 0) (by decide) hf_q40 rfl rfl (fun i _ => rfl) (fun i => (gof_no rfl)))
  have ht_x := (hs2 x hn_x_q40).trans ht_x
  have ht_q1 := (hs1 q1 (by rw [ht_q1]; decide)).trans ht_q1
  have ht_q4 := (hs1 q4 (by rw [ht_q4]; decide)).trans ht_q4
  have ht_q7 := (hs1 q7 (by rw [ht_q7]; decide)).trans ht_q7
  have ht_q19 := (hs1 q19 (by rw [ht_q19]; decide)).trans ht_q19
  have ht_q22 := (hs1 q22 (by rw [ht_q22]; decide)).trans ht_q22
  have ht_q25 := (hs1 q25 (by rw [ht_q25]; decide)).trans ht_q25
  have ht_q28 := (hs1 q28 (by rw [ht_q28]; decide)).trans ht_q28
  have ht_q31 := (hs1 q31 (by rw [ht_q31]; decide)).trans ht_q31
  have ht_q34 := (hs1 q34 (by rw [ht_q34]; decide)).trans ht_q34
  have ht_q37 := (hs1 q37 (by rw [ht_q37]; decide)).trans ht_q37
  have hno_4 := hno_4.tag hs2 ht_q40x (by decide)
  have ht_q40 := ht_q40x
  clear hs1 hs2 ht_q40x
  refine t_putRF C hnm w hT hE hm_x ht_x hf_x hz_x rfl cin_6 tyX6 tyX6_ok nmX6 16 (by decide) (Nat.le_of_ble_eq_true rfl) rfl rfl rfl rfl (fs2 := [.ref q1, .ref q4, .ref q7, .int 0, .ref q19, .int 0, .ref q22, .int 0, .ref q25, .int 0, .ref q28, .int 0, .int (-1), .ref q31, .ref q34, .ref q37, .ref q40, .null]) rfl gw_303 dX6_init_166 (fun f H locs w hT hE hf_x hk => ?_)
  clear hk
  refine lv_aload_n hx hb dX6_init_169 rfl (lv_at hl 0 rfl) ?_
  refine lv_bipush (v := 36) hx hb dX6_init_170 (by decide) ?_
  refine t_newI C w hT hE (by decide) (at_ := .int) (ty := .int) (ti := 0) rfl rfl (Or.inl rfl) gw_85 (N := 36) (by decide) (by decide) (by decide) (by decide) (by decide) dX6_init_172 (fun q43 Ψ44 L44 f H w hT hE hsp hm_q43 ht_q43 hf_q43 hz_q43 hnq hbk => ?_)
  have hn_x_q43 := hnq x hm_x
  have hf_x := ((hsp x hm_x).2.2 ht_x).trans hf_x
  have ht_x := (hsp x hm_x).2.1.trans ht_x
  have hm_x := (hsp x hm_x).1
  have ht_q1 := (hsp q1 hm_q1).2.1.trans ht_q1
  have hm_q1 := (hsp q1 hm_q1).1
  have ht_q4 := (hsp q4 hm_q4).2.1.trans ht_q4
  have hm_q4 := (hsp q4 hm_q4).1
  have ht_q7 := (hsp q7 hm_q7).2.1.trans ht_q7
  have hm_q7 := (hsp q7 hm_q7).1
  have ht_q19 := (hsp q19 hm_q19).2.1.trans ht_q19
  have hm_q19 := (hsp q19 hm_q19).1
  have ht_q22 := (hsp q22 hm_q22).2.1.trans ht_q22
  have hm_q22 := (hsp q22 hm_q22).1
  have ht_q25 := (hsp q25 hm_q25).2.1.trans ht_q25
  have hm_q25 := (hsp q25 hm_q25).1
  have ht_q28 := (hsp q28 hm_q28).2.1.trans ht_q28
  have hm_q28 := (hsp q28 hm_q28).1
  have ht_q31 := (hsp q31 hm_q31).2.1.trans ht_q31
  have hm_q31 := (hsp q31 hm_q31).1
  have ht_q34 := (hsp q34 hm_q34).2.1.trans ht_q34
  have hm_q34 := (hsp q34 hm_q34).1
  have ht_q37 := (hsp q37 hm_q37).2.1.trans ht_q37
  have hm_q37 := (hsp q37 hm_q37).1
  have ht_q40 := (hsp q40 hm_q40).2.1.trans ht_q40
  have hm_q40 := (hsp q40 hm_q40).1
  have hno_4 := hno_4.grow hsp hbk ht_q43 (by decide)
  clear hsp hbk hnq
  obtain ⟨Ψ45, hT, hE, hs1, hs2, ht_q43x⟩ := t_tag (t := 16) hT hE ht_q43 hz_q43 (by decide) (t_tya (v := 0) (by decide) hf_q43 rfl rfl (fun i _ => rfl) (fun i => (gof_no rfl)))
  have ht_x := (hs2 x hn_x_q43).trans ht_x
  have ht_q1 := (hs1 q1 (by rw [ht_q1]; decide)).trans ht_q1
  have ht_q4 := (hs1 q4 (by rw [ht_q4]; decide)).trans ht_q4
  have ht_q7 := (hs1 q7 (by rw [ht_q7]; decide)).trans ht_q7
  have ht_q19 := (hs1 q19 (by rw [ht_q19]; decide)).trans ht_q19
  have ht_q22 := (hs1 q22 (by rw [ht_q22]; decide)).trans ht_q22
  have ht_q25 := (hs1 q25 (by rw [ht_q25]; decide)).trans ht_q25
  have ht_q28 := (hs1 q28 (by rw [ht_q28]; decide)).trans ht_q28
  have ht_q31 := (hs1 q31 (by rw [ht_q31]; decide)).trans ht_q31
  have ht_q34 := (hs1 q34 (by rw [ht_q34]; decide)).trans ht_q34
  have ht_q37 := (hs1 q37 (by rw [ht_q37]; decide)).trans ht_q37
  have ht_q40 := (hs1 q40 (by rw [ht_q40]; decide)).trans ht_q40
  have hno_4 := hno_4.tag hs2 ht_q43x (by decide)
  have ht_q43 := ht_q43x
  clear hs1 hs2 ht_q43x
  refine t_putRF C hnm w hT hE hm_x ht_x hf_x hz_x rfl cin_6 tyX6 tyX6_ok nmX6 17 (by decide) (Nat.le_of_ble_eq_true rfl) rfl rfl rfl rfl (fs2 := [.ref q1, .ref q4, .ref q7, .int 0, .ref q19, .int 0, .ref q22, .int 0, .ref q25, .int 0, .ref q28, .int 0, .int (-1), .ref q31, .ref q34, .ref q37, .ref q40, .ref q43]) rfl gw_304 dX6_init_174 (fun f H locs w hT hE hf_x hk => ?_)
  clear hk
  obtain ⟨Ψ46, hT, hE, hs1, hs2, ht_xx⟩ := t_tagX (t := 6) hT hE ht_x hm0_x rfl (t_tyo (by decide) hf_x (ds := [(1, 0), (1, 0), (1, 18), (0, 0), (1, 19), (0, 0), (1, 20), (0, 0), (1, 12), (0, 0), (1, 13), (0, 0), (0, 0), (1, 4), (1, 3), (1, 5), (1, 16), (1, 16)]) rfl (tyL_c (tyv_r hm_q1 ht_q1) (tyL_c (tyv_r hm_q4 ht_q4) (tyL_c (tyv_r hm_q7 ht_q7) (tyL_c (tyv_i (gof_is rfl)) (tyL_c (tyv_r hm_q19 ht_q19) (tyL_c (tyv_i (gof_is rfl)) (tyL_c (tyv_r hm_q22 ht_q22) (tyL_c (tyv_i (gof_is rfl)) (tyL_c (tyv_r hm_q25 ht_q25) (tyL_c (tyv_i (gof_is rfl)) (tyL_c (tyv_r hm_q28 ht_q28) (tyL_c (tyv_i (gof_is rfl)) (tyL_c (tyv_i (gof_is rfl)) (tyL_c (tyv_r hm_q31 ht_q31) (tyL_c (tyv_r hm_q34 ht_q34) (tyL_c (tyv_r hm_q37 ht_q37) (tyL_c (tyv_r hm_q40 ht_q40) (tyL_c (tyv_r hm_q43 ht_q43) trivial)))))))))))))))))))
  have hno_4 := hno_4.tag hs2 ht_xx (by decide)
  have ht_x := ht_xx
  clear hs1 hs2 ht_xx
  exact t_vret C hr hlk w ⟨_, _, _, rfl, rfl, hT, hE, ht_x, ⟨_, hno_4⟩⟩ (by decide) (by decide) dX6_init_177
