theorem dX6_wire_0 : decode cX6_wire 0 = .ok (.iload_n 1, 1) := by decide +kernel
theorem dX6_wire_1 : decode cX6_wire 1 = .ok (.aload_n 0, 1) := by decide +kernel
theorem dX6_wire_2 : decode cX6_wire 2 = .ok (.getfield 10, 3) := by decide +kernel
theorem dX6_wire_5 : decode cX6_wire 5 = .ok (.getfield 100, 3) := by decide +kernel
theorem dX6_wire_8 : decode cX6_wire 8 = .ok (.getfield 110, 3) := by decide +kernel
theorem dX6_wire_11 : decode cX6_wire 11 = .ok (.invokestatic 113, 3) := by decide +kernel
theorem dX6_wire_14 : decode cX6_wire 14 = .ok (.aload_n 0, 1) := by decide +kernel
theorem dX6_wire_15 : decode cX6_wire 15 = .ok (.getfield 10, 3) := by decide +kernel
theorem dX6_wire_18 : decode cX6_wire 18 = .ok (.getfield 100, 3) := by decide +kernel
theorem dX6_wire_21 : decode cX6_wire 21 = .ok (.getfield 117, 3) := by decide +kernel
theorem dX6_wire_24 : decode cX6_wire 24 = .ok (.iload_n 1, 1) := by decide +kernel
theorem dX6_wire_25 : decode cX6_wire 25 = .ok (.iaload, 1) := by decide +kernel
theorem dX6_wire_26 : decode cX6_wire 26 = .ok (.iconst 1, 1) := by decide +kernel
theorem dX6_wire_27 : decode cX6_wire 27 = .ok (.if_icmp .ne 7, 3) := by decide +kernel
theorem dX6_wire_30 : decode cX6_wire 30 = .ok (.iconst 1, 1) := by decide +kernel
theorem dX6_wire_31 : decode cX6_wire 31 = .ok (.goto 4, 3) := by decide +kernel
theorem dX6_wire_34 : decode cX6_wire 34 = .ok (.iconst 0, 1) := by decide +kernel
theorem dX6_wire_35 : decode cX6_wire 35 = .ok (.istore_n 3, 1) := by decide +kernel
theorem dX6_wire_36 : decode cX6_wire 36 = .ok (.aload_n 0, 1) := by decide +kernel
theorem dX6_wire_37 : decode cX6_wire 37 = .ok (.getfield 10, 3) := by decide +kernel
theorem dX6_wire_40 : decode cX6_wire 40 = .ok (.getfield 100, 3) := by decide +kernel
theorem dX6_wire_43 : decode cX6_wire 43 = .ok (.getfield 117, 3) := by decide +kernel
theorem dX6_wire_46 : decode cX6_wire 46 = .ok (.iload_n 1, 1) := by decide +kernel
theorem dX6_wire_47 : decode cX6_wire 47 = .ok (.iload_n 2, 1) := by decide +kernel
theorem dX6_wire_48 : decode cX6_wire 48 = .ok (.ifCond .eq 7, 3) := by decide +kernel
theorem dX6_wire_51 : decode cX6_wire 51 = .ok (.iconst 1, 1) := by decide +kernel
theorem dX6_wire_52 : decode cX6_wire 52 = .ok (.goto 4, 3) := by decide +kernel
theorem dX6_wire_55 : decode cX6_wire 55 = .ok (.iconst 0, 1) := by decide +kernel
theorem dX6_wire_56 : decode cX6_wire 56 = .ok (.iastore, 1) := by decide +kernel
theorem dX6_wire_57 : decode cX6_wire 57 = .ok (.iload_n 3, 1) := by decide +kernel
theorem dX6_wire_58 : decode cX6_wire 58 = .ok (.ireturn, 1) := by decide +kernel
theorem dX6_key_0 : decode cX6_key 0 = .ok (.iload_n 1, 1) := by decide +kernel
theorem dX6_key_1 : decode cX6_key 1 = .ok (.aload_n 0, 1) := by decide +kernel
theorem dX6_key_2 : decode cX6_key 2 = .ok (.getfield 10, 3) := by decide +kernel
theorem dX6_key_5 : decode cX6_key 5 = .ok (.getfield 100, 3) := by decide +kernel
theorem dX6_key_8 : decode cX6_key 8 = .ok (.getfield 110, 3) := by decide +kernel
theorem dX6_key_11 : decode cX6_key 11 = .ok (.invokestatic 113, 3) := by decide +kernel
theorem dX6_key_14 : decode cX6_key 14 = .ok (.aload_n 0, 1) := by decide +kernel
theorem dX6_key_15 : decode cX6_key 15 = .ok (.getfield 10, 3) := by decide +kernel
theorem dX6_key_18 : decode cX6_key 18 = .ok (.getfield 100, 3) := by decide +kernel
theorem dX6_key_21 : decode cX6_key 21 = .ok (.getfield 120, 3) := by decide +kernel
theorem dX6_key_24 : decode cX6_key 24 = .ok (.iload_n 1, 1) := by decide +kernel
theorem dX6_key_25 : decode cX6_key 25 = .ok (.iaload, 1) := by decide +kernel
theorem dX6_key_26 : decode cX6_key 26 = .ok (.ifCond .ge 5, 3) := by decide +kernel
theorem dX6_key_29 : decode cX6_key 29 = .ok (.iconst 0, 1) := by decide +kernel
theorem dX6_key_30 : decode cX6_key 30 = .ok (.ireturn, 1) := by decide +kernel
theorem dX6_key_31 : decode cX6_key 31 = .ok (.aload_n 0, 1) := by decide +kernel
theorem dX6_key_32 : decode cX6_key 32 = .ok (.getfield 10, 3) := by decide +kernel
theorem dX6_key_35 : decode cX6_key 35 = .ok (.getfield 100, 3) := by decide +kernel
theorem dX6_key_38 : decode cX6_key 38 = .ok (.iload_n 1, 1) := by decide +kernel
theorem dX6_key_39 : decode cX6_key 39 = .ok (.bipush (-2), 2) := by decide +kernel
theorem dX6_key_41 : decode cX6_key 41 = .ok (.invokevirtual 123, 3) := by decide +kernel
theorem dX6_key_44 : decode cX6_key 44 = .ok (.iconst 1, 1) := by decide +kernel
theorem dX6_key_45 : decode cX6_key 45 = .ok (.ireturn, 1) := by decide +kernel
theorem dX6_thing_0 : decode cX6_thing 0 = .ok (.iload_n 1, 1) := by decide +kernel
theorem dX6_thing_1 : decode cX6_thing 1 = .ok (.aload_n 0, 1) := by decide +kernel
theorem dX6_thing_2 : decode cX6_thing 2 = .ok (.getfield 10, 3) := by decide +kernel
theorem dX6_thing_5 : decode cX6_thing 5 = .ok (.getfield 100, 3) := by decide +kernel
theorem dX6_thing_8 : decode cX6_thing 8 = .ok (.getfield 110, 3) := by decide +kernel
theorem dX6_thing_11 : decode cX6_thing 11 = .ok (.invokestatic 113, 3) := by decide +kernel
theorem dX6_thing_14 : decode cX6_thing 14 = .ok (.iload_n 2, 1) := by decide +kernel
theorem dX6_thing_15 : decode cX6_thing 15 = .ok (.iconst 0, 1) := by decide +kernel
theorem dX6_thing_16 : decode cX6_thing 16 = .ok (.iconst 5, 1) := by decide +kernel
theorem dX6_thing_17 : decode cX6_thing 17 = .ok (.invokestatic 92, 3) := by decide +kernel
theorem dX6_thing_20 : decode cX6_thing 20 = .ok (.invokestatic 96, 3) := by decide +kernel
theorem dX6_thing_23 : decode cX6_thing 23 = .ok (.iload_n 2, 1) := by decide +kernel
theorem dX6_thing_24 : decode cX6_thing 24 = .ok (.tableswitch 100 0 4 #[36, 49, 61, 74, 87], 36) := by decide +kernel
theorem dX6_thing_60 : decode cX6_thing 60 = .ok (.aload_n 0, 1) := by decide +kernel
theorem dX6_thing_61 : decode cX6_thing 61 = .ok (.getfield 10, 3) := by decide +kernel
theorem dX6_thing_64 : decode cX6_thing 64 = .ok (.getfield 100, 3) := by decide +kernel
theorem dX6_thing_67 : decode cX6_thing 67 = .ok (.getfield 120, 3) := by decide +kernel
theorem dX6_thing_70 : decode cX6_thing 70 = .ok (.iload_n 1, 1) := by decide +kernel
theorem dX6_thing_71 : decode cX6_thing 71 = .ok (.iaload, 1) := by decide +kernel
theorem dX6_thing_72 : decode cX6_thing 72 = .ok (.ireturn, 1) := by decide +kernel
theorem dX6_thing_73 : decode cX6_thing 73 = .ok (.aload_n 0, 1) := by decide +kernel
theorem dX6_thing_74 : decode cX6_thing 74 = .ok (.getfield 10, 3) := by decide +kernel
theorem dX6_thing_77 : decode cX6_thing 77 = .ok (.getfield 100, 3) := by decide +kernel
theorem dX6_thing_80 : decode cX6_thing 80 = .ok (.iload_n 1, 1) := by decide +kernel
theorem dX6_thing_81 : decode cX6_thing 81 = .ok (.invokevirtual 126, 3) := by decide +kernel
theorem dX6_thing_84 : decode cX6_thing 84 = .ok (.ireturn, 1) := by decide +kernel
theorem dX6_thing_85 : decode cX6_thing 85 = .ok (.aload_n 0, 1) := by decide +kernel
theorem dX6_thing_86 : decode cX6_thing 86 = .ok (.getfield 10, 3) := by decide +kernel
theorem dX6_thing_89 : decode cX6_thing 89 = .ok (.getfield 100, 3) := by decide +kernel
theorem dX6_thing_92 : decode cX6_thing 92 = .ok (.getfield 130, 3) := by decide +kernel
theorem dX6_thing_95 : decode cX6_thing 95 = .ok (.iload_n 1, 1) := by decide +kernel
theorem dX6_thing_96 : decode cX6_thing 96 = .ok (.iaload, 1) := by decide +kernel
theorem dX6_thing_97 : decode cX6_thing 97 = .ok (.ireturn, 1) := by decide +kernel
theorem dX6_thing_98 : decode cX6_thing 98 = .ok (.aload_n 0, 1) := by decide +kernel
theorem dX6_thing_99 : decode cX6_thing 99 = .ok (.getfield 10, 3) := by decide +kernel
theorem dX6_thing_102 : decode cX6_thing 102 = .ok (.getfield 100, 3) := by decide +kernel
theorem dX6_thing_105 : decode cX6_thing 105 = .ok (.getfield 133, 3) := by decide +kernel
theorem dX6_thing_108 : decode cX6_thing 108 = .ok (.iload_n 1, 1) := by decide +kernel
theorem dX6_thing_109 : decode cX6_thing 109 = .ok (.iaload, 1) := by decide +kernel
theorem dX6_thing_110 : decode cX6_thing 110 = .ok (.ireturn, 1) := by decide +kernel
theorem dX6_thing_111 : decode cX6_thing 111 = .ok (.aload_n 0, 1) := by decide +kernel
theorem dX6_thing_112 : decode cX6_thing 112 = .ok (.getfield 10, 3) := by decide +kernel
theorem dX6_thing_115 : decode cX6_thing 115 = .ok (.getfield 100, 3) := by decide +kernel
theorem dX6_thing_118 : decode cX6_thing 118 = .ok (.getfield 136, 3) := by decide +kernel
theorem dX6_thing_121 : decode cX6_thing 121 = .ok (.iload_n 1, 1) := by decide +kernel
theorem dX6_thing_122 : decode cX6_thing 122 = .ok (.iaload, 1) := by decide +kernel
theorem dX6_thing_123 : decode cX6_thing 123 = .ok (.ireturn, 1) := by decide +kernel
theorem dX6_thing_124 : decode cX6_thing 124 = .ok (.aload_n 0, 1) := by decide +kernel
theorem dX6_thing_125 : decode cX6_thing 125 = .ok (.getfield 10, 3) := by decide +kernel
theorem dX6_thing_128 : decode cX6_thing 128 = .ok (.getfield 100, 3) := by decide +kernel
theorem dX6_thing_131 : decode cX6_thing 131 = .ok (.getfield 117, 3) := by decide +kernel
theorem dX6_thing_134 : decode cX6_thing 134 = .ok (.iload_n 1, 1) := by decide +kernel
theorem dX6_thing_135 : decode cX6_thing 135 = .ok (.iaload, 1) := by decide +kernel
theorem dX6_thing_136 : decode cX6_thing 136 = .ok (.ireturn, 1) := by decide +kernel
theorem dX6_top_0 : decode cX6_top 0 = .ok (.iload_n 1, 1) := by decide +kernel
theorem dX6_top_1 : decode cX6_top 1 = .ok (.invokestatic 85, 3) := by decide +kernel
theorem dX6_top_4 : decode cX6_top 4 = .ok (.aload_n 0, 1) := by decide +kernel
theorem dX6_top_5 : decode cX6_top 5 = .ok (.getfield 10, 3) := by decide +kernel
theorem dX6_top_8 : decode cX6_top 8 = .ok (.getfield 100, 3) := by decide +kernel
theorem dX6_top_11 : decode cX6_top 11 = .ok (.getfield 139, 3) := by decide +kernel
theorem dX6_top_14 : decode cX6_top 14 = .ok (.iload_n 1, 1) := by decide +kernel
theorem dX6_top_15 : decode cX6_top 15 = .ok (.iaload, 1) := by decide +kernel
theorem dX6_top_16 : decode cX6_top 16 = .ok (.istore_n 3, 1) := by decide +kernel
theorem dX6_top_17 : decode cX6_top 17 = .ok (.iload_n 2, 1) := by decide +kernel
theorem dX6_top_18 : decode cX6_top 18 = .ok (.ifCond .eq 19, 3) := by decide +kernel
theorem dX6_top_21 : decode cX6_top 21 = .ok (.aload_n 0, 1) := by decide +kernel
theorem dX6_top_22 : decode cX6_top 22 = .ok (.getfield 10, 3) := by decide +kernel
theorem dX6_top_25 : decode cX6_top 25 = .ok (.getfield 100, 3) := by decide +kernel
theorem dX6_top_28 : decode cX6_top 28 = .ok (.iload_n 3, 1) := by decide +kernel
theorem dX6_top_29 : decode cX6_top 29 = .ok (.invokevirtual 126, 3) := by decide +kernel
theorem dX6_top_32 : decode cX6_top 32 = .ok (.iconst 1, 1) := by decide +kernel
theorem dX6_top_33 : decode cX6_top 33 = .ok (.iadd, 1) := by decide +kernel
theorem dX6_top_34 : decode cX6_top 34 = .ok (.goto 4, 3) := by decide +kernel
theorem dX6_top_37 : decode cX6_top 37 = .ok (.iload_n 3, 1) := by decide +kernel
theorem dX6_top_38 : decode cX6_top 38 = .ok (.ireturn, 1) := by decide +kernel
theorem dX6_hole_0 : decode cX6_hole 0 = .ok (.iload_n 1, 1) := by decide +kernel
theorem dX6_hole_1 : decode cX6_hole 1 = .ok (.invokestatic 85, 3) := by decide +kernel
theorem dX6_hole_4 : decode cX6_hole 4 = .ok (.aload_n 0, 1) := by decide +kernel
theorem dX6_hole_5 : decode cX6_hole 5 = .ok (.getfield 10, 3) := by decide +kernel
theorem dX6_hole_8 : decode cX6_hole 8 = .ok (.getfield 100, 3) := by decide +kernel
theorem dX6_hole_11 : decode cX6_hole 11 = .ok (.getfield 139, 3) := by decide +kernel
theorem dX6_hole_14 : decode cX6_hole 14 = .ok (.iload_n 1, 1) := by decide +kernel
theorem dX6_hole_15 : decode cX6_hole 15 = .ok (.iaload, 1) := by decide +kernel
theorem dX6_hole_16 : decode cX6_hole 16 = .ok (.iconst (-1), 1) := by decide +kernel
theorem dX6_hole_17 : decode cX6_hole 17 = .ok (.if_icmp .ne 7, 3) := by decide +kernel
theorem dX6_hole_20 : decode cX6_hole 20 = .ok (.iconst 1, 1) := by decide +kernel
theorem dX6_hole_21 : decode cX6_hole 21 = .ok (.goto 4, 3) := by decide +kernel
theorem dX6_hole_24 : decode cX6_hole 24 = .ok (.iconst 0, 1) := by decide +kernel
theorem dX6_hole_25 : decode cX6_hole 25 = .ok (.invokestatic 96, 3) := by decide +kernel
theorem dX6_hole_28 : decode cX6_hole 28 = .ok (.aload_n 0, 1) := by decide +kernel
theorem dX6_hole_29 : decode cX6_hole 29 = .ok (.getfield 10, 3) := by decide +kernel
theorem dX6_hole_32 : decode cX6_hole 32 = .ok (.getfield 89, 3) := by decide +kernel
theorem dX6_hole_35 : decode cX6_hole 35 = .ok (.istore_n 2, 1) := by decide +kernel
theorem dX6_hole_36 : decode cX6_hole 36 = .ok (.aload_n 0, 1) := by decide +kernel
theorem dX6_hole_37 : decode cX6_hole 37 = .ok (.getfield 10, 3) := by decide +kernel
theorem dX6_hole_40 : decode cX6_hole 40 = .ok (.iload_n 1, 1) := by decide +kernel
theorem dX6_hole_41 : decode cX6_hole 41 = .ok (.putfield 89, 3) := by decide +kernel
theorem dX6_hole_44 : decode cX6_hole 44 = .ok (.iload_n 2, 1) := by decide +kernel
theorem dX6_hole_45 : decode cX6_hole 45 = .ok (.ireturn, 1) := by decide +kernel
theorem dX6_set_0 : decode cX6_set 0 = .ok (.iload_n 1, 1) := by decide +kernel
theorem dX6_set_1 : decode cX6_set 1 = .ok (.iconst 0, 1) := by decide +kernel
theorem dX6_set_2 : decode cX6_set 2 = .ok (.iconst 2, 1) := by decide +kernel
theorem dX6_set_3 : decode cX6_set 3 = .ok (.invokestatic 92, 3) := by decide +kernel
theorem dX6_set_6 : decode cX6_set 6 = .ok (.invokestatic 96, 3) := by decide +kernel
theorem dX6_set_9 : decode cX6_set 9 = .ok (.iload_n 2, 1) := by decide +kernel
theorem dX6_set_10 : decode cX6_set 10 = .ok (.iconst 0, 1) := by decide +kernel
theorem dX6_set_11 : decode cX6_set 11 = .ok (.iload_n 1, 1) := by decide +kernel
theorem dX6_set_12 : decode cX6_set 12 = .ok (.ifCond .ne 8, 3) := by decide +kernel
theorem dX6_set_15 : decode cX6_set 15 = .ok (.bipush 14, 2) := by decide +kernel
theorem dX6_set_17 : decode cX6_set 17 = .ok (.goto 15, 3) := by decide +kernel
theorem dX6_set_20 : decode cX6_set 20 = .ok (.iload_n 1, 1) := by decide +kernel
theorem dX6_set_21 : decode cX6_set 21 = .ok (.iconst 1, 1) := by decide +kernel
theorem dX6_set_22 : decode cX6_set 22 = .ok (.if_icmp .ne 8, 3) := by decide +kernel
theorem dX6_set_25 : decode cX6_set 25 = .ok (.bipush 99, 2) := by decide +kernel
theorem dX6_set_27 : decode cX6_set 27 = .ok (.goto 5, 3) := by decide +kernel
theorem dX6_set_30 : decode cX6_set 30 = .ok (.bipush 23, 2) := by decide +kernel
theorem dX6_set_32 : decode cX6_set 32 = .ok (.invokestatic 92, 3) := by decide +kernel
theorem dX6_set_35 : decode cX6_set 35 = .ok (.invokestatic 96, 3) := by decide +kernel
theorem dX6_set_38 : decode cX6_set 38 = .ok (.iload_n 1, 1) := by decide +kernel
theorem dX6_set_39 : decode cX6_set 39 = .ok (.ifCond .ne 22, 3) := by decide +kernel
theorem dX6_set_42 : decode cX6_set 42 = .ok (.aload_n 0, 1) := by decide +kernel
theorem dX6_set_43 : decode cX6_set 43 = .ok (.getfield 10, 3) := by decide +kernel
theorem dX6_set_46 : decode cX6_set 46 = .ok (.getfield 142, 3) := by decide +kernel
theorem dX6_set_49 : decode cX6_set 49 = .ok (.istore_n 3, 1) := by decide +kernel
theorem dX6_set_50 : decode cX6_set 50 = .ok (.aload_n 0, 1) := by decide +kernel
theorem dX6_set_51 : decode cX6_set 51 = .ok (.getfield 10, 3) := by decide +kernel
theorem dX6_set_54 : decode cX6_set 54 = .ok (.iload_n 2, 1) := by decide +kernel
theorem dX6_set_55 : decode cX6_set 55 = .ok (.putfield 142, 3) := by decide +kernel
theorem dX6_set_58 : decode cX6_set 58 = .ok (.goto 43, 3) := by decide +kernel
theorem dX6_set_61 : decode cX6_set 61 = .ok (.iload_n 1, 1) := by decide +kernel
theorem dX6_set_62 : decode cX6_set 62 = .ok (.iconst 1, 1) := by decide +kernel
theorem dX6_set_63 : decode cX6_set 63 = .ok (.if_icmp .ne 22, 3) := by decide +kernel
theorem dX6_set_66 : decode cX6_set 66 = .ok (.aload_n 0, 1) := by decide +kernel
theorem dX6_set_67 : decode cX6_set 67 = .ok (.getfield 10, 3) := by decide +kernel
theorem dX6_set_70 : decode cX6_set 70 = .ok (.getfield 145, 3) := by decide +kernel
theorem dX6_set_73 : decode cX6_set 73 = .ok (.istore_n 3, 1) := by decide +kernel
theorem dX6_set_74 : decode cX6_set 74 = .ok (.aload_n 0, 1) := by decide +kernel
theorem dX6_set_75 : decode cX6_set 75 = .ok (.getfield 10, 3) := by decide +kernel
theorem dX6_set_78 : decode cX6_set 78 = .ok (.iload_n 2, 1) := by decide +kernel
theorem dX6_set_79 : decode cX6_set 79 = .ok (.putfield 145, 3) := by decide +kernel
theorem dX6_set_82 : decode cX6_set 82 = .ok (.goto 19, 3) := by decide +kernel
theorem dX6_set_85 : decode cX6_set 85 = .ok (.aload_n 0, 1) := by decide +kernel
theorem dX6_set_86 : decode cX6_set 86 = .ok (.getfield 10, 3) := by decide +kernel
theorem dX6_set_89 : decode cX6_set 89 = .ok (.getfield 148, 3) := by decide +kernel
theorem dX6_set_92 : decode cX6_set 92 = .ok (.istore_n 3, 1) := by decide +kernel
theorem dX6_set_93 : decode cX6_set 93 = .ok (.aload_n 0, 1) := by decide +kernel
theorem dX6_set_94 : decode cX6_set 94 = .ok (.getfield 10, 3) := by decide +kernel
theorem dX6_set_97 : decode cX6_set 97 = .ok (.iload_n 2, 1) := by decide +kernel
theorem dX6_set_98 : decode cX6_set 98 = .ok (.putfield 148, 3) := by decide +kernel
theorem dX6_set_101 : decode cX6_set 101 = .ok (.iload_n 3, 1) := by decide +kernel
theorem dX6_set_102 : decode cX6_set 102 = .ok (.ireturn, 1) := by decide +kernel
theorem dX6_seed_0 : decode cX6_seed 0 = .ok (.aload_n 0, 1) := by decide +kernel
theorem dX6_seed_1 : decode cX6_seed 1 = .ok (.getfield 10, 3) := by decide +kernel
theorem dX6_seed_4 : decode cX6_seed 4 = .ok (.getfield 151, 3) := by decide +kernel
theorem dX6_seed_7 : decode cX6_seed 7 = .ok (.istore_n 2, 1) := by decide +kernel
theorem dX6_seed_8 : decode cX6_seed 8 = .ok (.aload_n 0, 1) := by decide +kernel
theorem dX6_seed_9 : decode cX6_seed 9 = .ok (.getfield 10, 3) := by decide +kernel
theorem dX6_seed_12 : decode cX6_seed 12 = .ok (.iload_n 1, 1) := by decide +kernel
theorem dX6_seed_13 : decode cX6_seed 13 = .ok (.putfield 151, 3) := by decide +kernel
theorem dX6_seed_16 : decode cX6_seed 16 = .ok (.iload_n 2, 1) := by decide +kernel
theorem dX6_seed_17 : decode cX6_seed 17 = .ok (.ireturn, 1) := by decide +kernel
theorem dX6_fault_0 : decode cX6_fault 0 = .ok (.aload_n 0, 1) := by decide +kernel
theorem dX6_fault_1 : decode cX6_fault 1 = .ok (.getfield 55, 3) := by decide +kernel
theorem dX6_fault_4 : decode cX6_fault 4 = .ok (.ireturn, 1) := by decide +kernel
theorem dX6_force_0 : decode cX6_force 0 = .ok (.iload_n 1, 1) := by decide +kernel
theorem dX6_force_1 : decode cX6_force 1 = .ok (.iconst (-1), 1) := by decide +kernel
theorem dX6_force_2 : decode cX6_force 2 = .ok (.aload_n 0, 1) := by decide +kernel
theorem dX6_force_3 : decode cX6_force 3 = .ok (.getfield 33, 3) := by decide +kernel
theorem dX6_force_6 : decode cX6_force 6 = .ok (.iconst 1, 1) := by decide +kernel
theorem dX6_force_7 : decode cX6_force 7 = .ok (.isub, 1) := by decide +kernel
theorem dX6_force_8 : decode cX6_force 8 = .ok (.invokestatic 92, 3) := by decide +kernel
theorem dX6_force_11 : decode cX6_force 11 = .ok (.invokestatic 96, 3) := by decide +kernel
theorem dX6_force_14 : decode cX6_force 14 = .ok (.aload_n 0, 1) := by decide +kernel
theorem dX6_force_15 : decode cX6_force 15 = .ok (.getfield 10, 3) := by decide +kernel
theorem dX6_force_18 : decode cX6_force 18 = .ok (.getfield 175, 3) := by decide +kernel
theorem dX6_force_21 : decode cX6_force 21 = .ok (.istore_n 2, 1) := by decide +kernel
theorem dX6_force_22 : decode cX6_force 22 = .ok (.aload_n 0, 1) := by decide +kernel
theorem dX6_force_23 : decode cX6_force 23 = .ok (.getfield 10, 3) := by decide +kernel
theorem dX6_force_26 : decode cX6_force 26 = .ok (.iload_n 1, 1) := by decide +kernel
theorem dX6_force_27 : decode cX6_force 27 = .ok (.putfield 175, 3) := by decide +kernel
theorem dX6_force_30 : decode cX6_force 30 = .ok (.iload_n 2, 1) := by decide +kernel
theorem dX6_force_31 : decode cX6_force 31 = .ok (.ireturn, 1) := by decide +kernel
theorem dX6_tells_0 : decode cX6_tells 0 = .ok (.iload_n 1, 1) := by decide +kernel
theorem dX6_tells_1 : decode cX6_tells 1 = .ok (.iconst 0, 1) := by decide +kernel
theorem dX6_tells_2 : decode cX6_tells 2 = .ok (.iconst 2, 1) := by decide +kernel
theorem dX6_tells_3 : decode cX6_tells 3 = .ok (.invokestatic 92, 3) := by decide +kernel
theorem dX6_tells_6 : decode cX6_tells 6 = .ok (.ifCond .eq 17, 3) := by decide +kernel
theorem dX6_tells_9 : decode cX6_tells 9 = .ok (.iload_n 2, 1) := by decide +kernel
theorem dX6_tells_10 : decode cX6_tells 10 = .ok (.iconst 0, 1) := by decide +kernel
theorem dX6_tells_11 : decode cX6_tells 11 = .ok (.bipush 35, 2) := by decide +kernel
theorem dX6_tells_13 : decode cX6_tells 13 = .ok (.invokestatic 92, 3) := by decide +kernel
theorem dX6_tells_16 : decode cX6_tells 16 = .ok (.ifCond .eq 7, 3) := by decide +kernel
theorem dX6_tells_19 : decode cX6_tells 19 = .ok (.iconst 1, 1) := by decide +kernel
theorem dX6_tells_20 : decode cX6_tells 20 = .ok (.goto 4, 3) := by decide +kernel
theorem dX6_tells_23 : decode cX6_tells 23 = .ok (.iconst 0, 1) := by decide +kernel
theorem dX6_tells_24 : decode cX6_tells 24 = .ok (.invokestatic 96, 3) := by decide +kernel
theorem dX6_tells_27 : decode cX6_tells 27 = .ok (.aload_n 0, 1) := by decide +kernel
theorem dX6_tells_28 : decode cX6_tells 28 = .ok (.getfield 75, 3) := by decide +kernel
theorem dX6_tells_31 : decode cX6_tells 31 = .ok (.aload_n 0, 1) := by decide +kernel
theorem dX6_tells_32 : decode cX6_tells 32 = .ok (.getfield 10, 3) := by decide +kernel
theorem dX6_tells_35 : decode cX6_tells 35 = .ok (.invokevirtual 178, 3) := by decide +kernel
theorem dX6_tells_38 : decode cX6_tells 38 = .ok (.aload_n 0, 1) := by decide +kernel
theorem dX6_tells_39 : decode cX6_tells 39 = .ok (.getfield 68, 3) := by decide +kernel
theorem dX6_tells_42 : decode cX6_tells 42 = .ok (.aload_n 0, 1) := by decide +kernel
theorem dX6_tells_43 : decode cX6_tells 43 = .ok (.invokevirtual 182, 3) := by decide +kernel
theorem dX6_tells_46 : decode cX6_tells 46 = .ok (.aload_n 0, 1) := by decide +kernel
theorem dX6_tells_47 : decode cX6_tells 47 = .ok (.getfield 75, 3) := by decide +kernel
theorem dX6_tells_50 : decode cX6_tells 50 = .ok (.iload_n 1, 1) := by decide +kernel
theorem dX6_tells_51 : decode cX6_tells 51 = .ok (.iconst 2, 1) := by decide +kernel
theorem dX6_tells_52 : decode cX6_tells 52 = .ok (.if_icmp .ne 7, 3) := by decide +kernel
theorem dX6_tells_55 : decode cX6_tells 55 = .ok (.iconst 0, 1) := by decide +kernel
theorem dX6_tells_56 : decode cX6_tells 56 = .ok (.goto 4, 3) := by decide +kernel
theorem dX6_tells_59 : decode cX6_tells 59 = .ok (.iload_n 2, 1) := by decide +kernel
theorem dX6_tells_60 : decode cX6_tells 60 = .ok (.invokevirtual 186, 3) := by decide +kernel
theorem dX6_tells_63 : decode cX6_tells 63 = .ok (.iload_n 1, 1) := by decide +kernel
theorem dX6_tells_64 : decode cX6_tells 64 = .ok (.ifCond .ne 13, 3) := by decide +kernel
theorem dX6_tells_67 : decode cX6_tells 67 = .ok (.aload_n 0, 1) := by decide +kernel
theorem dX6_tells_68 : decode cX6_tells 68 = .ok (.getfield 68, 3) := by decide +kernel
theorem dX6_tells_71 : decode cX6_tells 71 = .ok (.invokevirtual 190, 3) := by decide +kernel
theorem dX6_tells_74 : decode cX6_tells 74 = .ok (.goto 25, 3) := by decide +kernel
theorem dX6_tells_77 : decode cX6_tells 77 = .ok (.iload_n 1, 1) := by decide +kernel
theorem dX6_tells_78 : decode cX6_tells 78 = .ok (.iconst 1, 1) := by decide +kernel
theorem dX6_tells_79 : decode cX6_tells 79 = .ok (.if_icmp .ne 13, 3) := by decide +kernel
theorem dX6_tells_82 : decode cX6_tells 82 = .ok (.aload_n 0, 1) := by decide +kernel
theorem dX6_tells_83 : decode cX6_tells 83 = .ok (.getfield 68, 3) := by decide +kernel
theorem dX6_tells_86 : decode cX6_tells 86 = .ok (.invokevirtual 193, 3) := by decide +kernel
theorem dX6_tells_89 : decode cX6_tells 89 = .ok (.goto 10, 3) := by decide +kernel
theorem dX6_tells_92 : decode cX6_tells 92 = .ok (.aload_n 0, 1) := by decide +kernel
theorem dX6_tells_93 : decode cX6_tells 93 = .ok (.getfield 68, 3) := by decide +kernel
theorem dX6_tells_96 : decode cX6_tells 96 = .ok (.invokevirtual 196, 3) := by decide +kernel
theorem dX6_tells_99 : decode cX6_tells 99 = .ok (.ireturn, 1) := by decide +kernel
theorem dX6_record_0 : decode cX6_record 0 = .ok (.iload_n 1, 1) := by decide +kernel
theorem dX6_record_1 : decode cX6_record 1 = .ok (.aload_n 0, 1) := by decide +kernel
theorem dX6_record_2 : decode cX6_record 2 = .ok (.getfield 10, 3) := by decide +kernel
theorem dX6_record_5 : decode cX6_record 5 = .ok (.getfield 199, 3) := by decide +kernel
theorem dX6_record_8 : decode cX6_record 8 = .ok (.invokestatic 113, 3) := by decide +kernel
theorem dX6_record_11 : decode cX6_record 11 = .ok (.iload_n 2, 1) := by decide +kernel
theorem dX6_record_12 : decode cX6_record 12 = .ok (.iconst 0, 1) := by decide +kernel
theorem dX6_record_13 : decode cX6_record 13 = .ok (.bipush 9, 2) := by decide +kernel
theorem dX6_record_15 : decode cX6_record 15 = .ok (.invokestatic 92, 3) := by decide +kernel
theorem dX6_record_18 : decode cX6_record 18 = .ok (.invokestatic 96, 3) := by decide +kernel
theorem dX6_record_21 : decode cX6_record 21 = .ok (.aload_n 0, 1) := by decide +kernel
theorem dX6_record_22 : decode cX6_record 22 = .ok (.getfield 10, 3) := by decide +kernel
theorem dX6_record_25 : decode cX6_record 25 = .ok (.iload_n 1, 1) := by decide +kernel
theorem dX6_record_26 : decode cX6_record 26 = .ok (.invokevirtual 205, 3) := by decide +kernel
theorem dX6_record_29 : decode cX6_record 29 = .ok (.iload_n 2, 1) := by decide +kernel
theorem dX6_record_30 : decode cX6_record 30 = .ok (.invokevirtual 209, 3) := by decide +kernel
theorem dX6_record_33 : decode cX6_record 33 = .ok (.ireturn, 1) := by decide +kernel
theorem dX6_play_0 : decode cX6_play 0 = .ok (.iload_n 1, 1) := by decide +kernel
theorem dX6_play_1 : decode cX6_play 1 = .ok (.aload_n 0, 1) := by decide +kernel
theorem dX6_play_2 : decode cX6_play 2 = .ok (.getfield 46, 3) := by decide +kernel
theorem dX6_play_5 : decode cX6_play 5 = .ok (.invokestatic 113, 3) := by decide +kernel
theorem dX6_play_8 : decode cX6_play 8 = .ok (.iload_n 2, 1) := by decide +kernel
theorem dX6_play_9 : decode cX6_play 9 = .ok (.invokestatic 85, 3) := by decide +kernel
theorem dX6_play_12 : decode cX6_play 12 = .ok (.aload_n 0, 1) := by decide +kernel
theorem dX6_play_13 : decode cX6_play 13 = .ok (.getfield 10, 3) := by decide +kernel
theorem dX6_play_16 : decode cX6_play 16 = .ok (.getfield 199, 3) := by decide +kernel
theorem dX6_play_19 : decode cX6_play 19 = .ok (.sipush 200, 3) := by decide +kernel
theorem dX6_play_22 : decode cX6_play 22 = .ok (.if_icmp .lt 5, 3) := by decide +kernel
theorem dX6_play_25 : decode cX6_play 25 = .ok (.iconst (-1), 1) := by decide +kernel
theorem dX6_play_26 : decode cX6_play 26 = .ok (.ireturn, 1) := by decide +kernel
theorem dX6_play_27 : decode cX6_play 27 = .ok (.aload_n 0, 1) := by decide +kernel
theorem dX6_play_28 : decode cX6_play 28 = .ok (.getfield 10, 3) := by decide +kernel
theorem dX6_play_31 : decode cX6_play 31 = .ok (.aload_n 0, 1) := by decide +kernel
theorem dX6_play_32 : decode cX6_play 32 = .ok (.getfield 42, 3) := by decide +kernel
theorem dX6_play_35 : decode cX6_play 35 = .ok (.iload_n 1, 1) := by decide +kernel
theorem dX6_play_36 : decode cX6_play 36 = .ok (.iaload, 1) := by decide +kernel
theorem dX6_play_37 : decode cX6_play 37 = .ok (.invokestatic 213, 3) := by decide +kernel
theorem dX6_play_40 : decode cX6_play 40 = .ok (.invokevirtual 216, 3) := by decide +kernel
theorem dX6_play_43 : decode cX6_play 43 = .ok (.istore_n 3, 1) := by decide +kernel
theorem dX6_play_44 : decode cX6_play 44 = .ok (.iconst 0, 1) := by decide +kernel
theorem dX6_play_45 : decode cX6_play 45 = .ok (.istore 4, 2) := by decide +kernel
theorem dX6_play_47 : decode cX6_play 47 = .ok (.iload 4, 2) := by decide +kernel
theorem dX6_play_49 : decode cX6_play 49 = .ok (.bipush 8, 2) := by decide +kernel
theorem dX6_play_51 : decode cX6_play 51 = .ok (.if_icmp .ge 38, 3) := by decide +kernel
theorem dX6_play_54 : decode cX6_play 54 = .ok (.iload_n 3, 1) := by decide +kernel
theorem dX6_play_55 : decode cX6_play 55 = .ok (.aload_n 0, 1) := by decide +kernel
theorem dX6_play_56 : decode cX6_play 56 = .ok (.getfield 42, 3) := by decide +kernel
theorem dX6_play_59 : decode cX6_play 59 = .ok (.iload_n 1, 1) := by decide +kernel
theorem dX6_play_60 : decode cX6_play 60 = .ok (.iaload, 1) := by decide +kernel
theorem dX6_play_61 : decode cX6_play 61 = .ok (.iload 4, 2) := by decide +kernel
theorem dX6_play_63 : decode cX6_play 63 = .ok (.invokestatic 219, 3) := by decide +kernel
theorem dX6_play_66 : decode cX6_play 66 = .ok (.if_icmp .lt 23, 3) := by decide +kernel
theorem dX6_play_69 : decode cX6_play 69 = .ok (.iload_n 3, 1) := by decide +kernel
theorem dX6_play_70 : decode cX6_play 70 = .ok (.aload_n 0, 1) := by decide +kernel
theorem dX6_play_71 : decode cX6_play 71 = .ok (.getfield 42, 3) := by decide +kernel
theorem dX6_play_74 : decode cX6_play 74 = .ok (.iload_n 1, 1) := by decide +kernel
theorem dX6_play_75 : decode cX6_play 75 = .ok (.iaload, 1) := by decide +kernel
theorem dX6_play_76 : decode cX6_play 76 = .ok (.iload 4, 2) := by decide +kernel
theorem dX6_play_78 : decode cX6_play 78 = .ok (.invokestatic 219, 3) := by decide +kernel
theorem dX6_play_81 : decode cX6_play 81 = .ok (.isub, 1) := by decide +kernel
theorem dX6_play_82 : decode cX6_play 82 = .ok (.istore_n 3, 1) := by decide +kernel
theorem dX6_play_83 : decode cX6_play 83 = .ok (.iinc 4 1, 3) := by decide +kernel
theorem dX6_play_86 : decode cX6_play 86 = .ok (.goto (-39), 3) := by decide +kernel
theorem dX6_play_89 : decode cX6_play 89 = .ok (.aload_n 0, 1) := by decide +kernel
theorem dX6_play_90 : decode cX6_play 90 = .ok (.iload_n 2, 1) := by decide +kernel
theorem dX6_play_91 : decode cX6_play 91 = .ok (.iload 4, 2) := by decide +kernel
theorem dX6_play_93 : decode cX6_play 93 = .ok (.invokestatic 223, 3) := by decide +kernel
theorem dX6_play_96 : decode cX6_play 96 = .ok (.invokevirtual 202, 3) := by decide +kernel
theorem dX6_play_99 : decode cX6_play 99 = .ok (.ireturn, 1) := by decide +kernel
theorem dX6_can_0 : decode cX6_can 0 = .ok (.aload_n 0, 1) := by decide +kernel
theorem dX6_can_1 : decode cX6_can 1 = .ok (.iload_n 1, 1) := by decide +kernel
theorem dX6_can_2 : decode cX6_can 2 = .ok (.invokevirtual 226, 3) := by decide +kernel
theorem dX6_can_5 : decode cX6_can 5 = .ok (.ireturn, 1) := by decide +kernel
theorem dX6_odds_0 : decode cX6_odds 0 = .ok (.iload_n 1, 1) := by decide +kernel
theorem dX6_odds_1 : decode cX6_odds 1 = .ok (.aload_n 0, 1) := by decide +kernel
theorem dX6_odds_2 : decode cX6_odds 2 = .ok (.getfield 46, 3) := by decide +kernel
theorem dX6_odds_5 : decode cX6_odds 5 = .ok (.invokestatic 113, 3) := by decide +kernel
theorem dX6_odds_8 : decode cX6_odds 8 = .ok (.iload_n 2, 1) := by decide +kernel
theorem dX6_odds_9 : decode cX6_odds 9 = .ok (.invokestatic 85, 3) := by decide +kernel
theorem dX6_odds_12 : decode cX6_odds 12 = .ok (.iload_n 3, 1) := by decide +kernel
theorem dX6_odds_13 : decode cX6_odds 13 = .ok (.iconst 0, 1) := by decide +kernel
theorem dX6_odds_14 : decode cX6_odds 14 = .ok (.bipush 35, 2) := by decide +kernel
theorem dX6_odds_16 : decode cX6_odds 16 = .ok (.invokestatic 92, 3) := by decide +kernel
theorem dX6_odds_19 : decode cX6_odds 19 = .ok (.invokestatic 96, 3) := by decide +kernel
theorem dX6_odds_22 : decode cX6_odds 22 = .ok (.aload_n 0, 1) := by decide +kernel
theorem dX6_odds_23 : decode cX6_odds 23 = .ok (.getfield 75, 3) := by decide +kernel
theorem dX6_odds_26 : decode cX6_odds 26 = .ok (.aload_n 0, 1) := by decide +kernel
theorem dX6_odds_27 : decode cX6_odds 27 = .ok (.getfield 10, 3) := by decide +kernel
theorem dX6_odds_30 : decode cX6_odds 30 = .ok (.invokevirtual 178, 3) := by decide +kernel
theorem dX6_odds_33 : decode cX6_odds 33 = .ok (.aload_n 0, 1) := by decide +kernel
theorem dX6_odds_34 : decode cX6_odds 34 = .ok (.getfield 68, 3) := by decide +kernel
theorem dX6_odds_37 : decode cX6_odds 37 = .ok (.aload_n 0, 1) := by decide +kernel
theorem dX6_odds_38 : decode cX6_odds 38 = .ok (.invokevirtual 182, 3) := by decide +kernel
theorem dX6_odds_41 : decode cX6_odds 41 = .ok (.aload_n 0, 1) := by decide +kernel
theorem dX6_odds_42 : decode cX6_odds 42 = .ok (.getfield 75, 3) := by decide +kernel
theorem dX6_odds_45 : decode cX6_odds 45 = .ok (.iload_n 3, 1) := by decide +kernel
theorem dX6_odds_46 : decode cX6_odds 46 = .ok (.invokevirtual 186, 3) := by decide +kernel
theorem dX6_odds_49 : decode cX6_odds 49 = .ok (.iconst 0, 1) := by decide +kernel
theorem dX6_odds_50 : decode cX6_odds 50 = .ok (.istore 4, 2) := by decide +kernel
theorem dX6_odds_52 : decode cX6_odds 52 = .ok (.iconst 0, 1) := by decide +kernel
theorem dX6_odds_53 : decode cX6_odds 53 = .ok (.istore 5, 2) := by decide +kernel
theorem dX6_odds_55 : decode cX6_odds 55 = .ok (.iload 5, 2) := by decide +kernel
theorem dX6_odds_57 : decode cX6_odds 57 = .ok (.bipush 9, 2) := by decide +kernel
theorem dX6_odds_59 : decode cX6_odds 59 = .ok (.if_icmp .ge 65, 3) := by decide +kernel
theorem dX6_odds_62 : decode cX6_odds 62 = .ok (.aload_n 0, 1) := by decide +kernel
theorem dX6_odds_63 : decode cX6_odds 63 = .ok (.getfield 42, 3) := by decide +kernel
theorem dX6_odds_66 : decode cX6_odds 66 = .ok (.iload_n 1, 1) := by decide +kernel
theorem dX6_odds_67 : decode cX6_odds 67 = .ok (.iaload, 1) := by decide +kernel
theorem dX6_odds_68 : decode cX6_odds 68 = .ok (.iload 5, 2) := by decide +kernel
theorem dX6_odds_70 : decode cX6_odds 70 = .ok (.invokestatic 219, 3) := by decide +kernel
theorem dX6_odds_73 : decode cX6_odds 73 = .ok (.istore 6, 2) := by decide +kernel
theorem dX6_odds_75 : decode cX6_odds 75 = .ok (.iload 6, 2) := by decide +kernel
theorem dX6_odds_77 : decode cX6_odds 77 = .ok (.ifCond .le 41, 3) := by decide +kernel
theorem dX6_odds_80 : decode cX6_odds 80 = .ok (.aload_n 0, 1) := by decide +kernel
theorem dX6_odds_81 : decode cX6_odds 81 = .ok (.aload_n 0, 1) := by decide +kernel
theorem dX6_odds_82 : decode cX6_odds 82 = .ok (.getfield 10, 3) := by decide +kernel
theorem dX6_odds_85 : decode cX6_odds 85 = .ok (.iload_n 2, 1) := by decide +kernel
theorem dX6_odds_86 : decode cX6_odds 86 = .ok (.iload 5, 2) := by decide +kernel
theorem dX6_odds_88 : decode cX6_odds 88 = .ok (.invokestatic 223, 3) := by decide +kernel
theorem dX6_odds_91 : decode cX6_odds 91 = .ok (.aload_n 0, 1) := by decide +kernel
theorem dX6_odds_92 : decode cX6_odds 92 = .ok (.getfield 68, 3) := by decide +kernel
theorem dX6_odds_95 : decode cX6_odds 95 = .ok (.invokevirtual 190, 3) := by decide +kernel
theorem dX6_odds_98 : decode cX6_odds 98 = .ok (.aload_n 0, 1) := by decide +kernel
theorem dX6_odds_99 : decode cX6_odds 99 = .ok (.getfield 68, 3) := by decide +kernel
theorem dX6_odds_102 : decode cX6_odds 102 = .ok (.invokevirtual 193, 3) := by decide +kernel
theorem dX6_odds_105 : decode cX6_odds 105 = .ok (.invokevirtual 230, 3) := by decide +kernel
theorem dX6_odds_108 : decode cX6_odds 108 = .ok (.ifCond .eq 10, 3) := by decide +kernel
theorem dX6_odds_111 : decode cX6_odds 111 = .ok (.iload 4, 2) := by decide +kernel
theorem dX6_odds_113 : decode cX6_odds 113 = .ok (.iload 6, 2) := by decide +kernel
theorem dX6_odds_115 : decode cX6_odds 115 = .ok (.iadd, 1) := by decide +kernel
theorem dX6_odds_116 : decode cX6_odds 116 = .ok (.istore 4, 2) := by decide +kernel
theorem dX6_odds_118 : decode cX6_odds 118 = .ok (.iinc 5 1, 3) := by decide +kernel
theorem dX6_odds_121 : decode cX6_odds 121 = .ok (.goto (-66), 3) := by decide +kernel
theorem dX6_odds_124 : decode cX6_odds 124 = .ok (.iload 4, 2) := by decide +kernel
theorem dX6_odds_126 : decode cX6_odds 126 = .ok (.ireturn, 1) := by decide +kernel
theorem dX6_weights_0 : decode cX6_weights 0 = .ok (.iload_n 1, 1) := by decide +kernel
theorem dX6_weights_1 : decode cX6_weights 1 = .ok (.aload_n 0, 1) := by decide +kernel
theorem dX6_weights_2 : decode cX6_weights 2 = .ok (.getfield 46, 3) := by decide +kernel
theorem dX6_weights_5 : decode cX6_weights 5 = .ok (.invokestatic 113, 3) := by decide +kernel
theorem dX6_weights_8 : decode cX6_weights 8 = .ok (.aload_n 0, 1) := by decide +kernel
theorem dX6_weights_9 : decode cX6_weights 9 = .ok (.getfield 42, 3) := by decide +kernel
theorem dX6_weights_12 : decode cX6_weights 12 = .ok (.iload_n 1, 1) := by decide +kernel
theorem dX6_weights_13 : decode cX6_weights 13 = .ok (.iaload, 1) := by decide +kernel
theorem dX6_weights_14 : decode cX6_weights 14 = .ok (.invokestatic 213, 3) := by decide +kernel
theorem dX6_weights_17 : decode cX6_weights 17 = .ok (.ireturn, 1) := by decide +kernel
theorem dX6_when_0 : decode cX6_when 0 = .ok (.iload_n 1, 1) := by decide +kernel
theorem dX6_when_1 : decode cX6_when 1 = .ok (.invokestatic 85, 3) := by decide +kernel
theorem dX6_when_4 : decode cX6_when 4 = .ok (.iload_n 2, 1) := by decide +kernel
theorem dX6_when_5 : decode cX6_when 5 = .ok (.iconst 0, 1) := by decide +kernel
theorem dX6_when_6 : decode cX6_when 6 = .ok (.aload_n 0, 1) := by decide +kernel
theorem dX6_when_7 : decode cX6_when 7 = .ok (.getfield 33, 3) := by decide +kernel
theorem dX6_when_10 : decode cX6_when 10 = .ok (.iconst 1, 1) := by decide +kernel
theorem dX6_when_11 : decode cX6_when 11 = .ok (.isub, 1) := by decide +kernel
theorem dX6_when_12 : decode cX6_when 12 = .ok (.invokestatic 92, 3) := by decide +kernel
theorem dX6_when_15 : decode cX6_when 15 = .ok (.invokestatic 96, 3) := by decide +kernel
theorem dX6_when_18 : decode cX6_when 18 = .ok (.aload_n 0, 1) := by decide +kernel
theorem dX6_when_19 : decode cX6_when 19 = .ok (.getfield 75, 3) := by decide +kernel
theorem dX6_when_22 : decode cX6_when 22 = .ok (.aload_n 0, 1) := by decide +kernel
theorem dX6_when_23 : decode cX6_when 23 = .ok (.getfield 10, 3) := by decide +kernel
theorem dX6_when_26 : decode cX6_when 26 = .ok (.invokevirtual 178, 3) := by decide +kernel
theorem dX6_when_29 : decode cX6_when 29 = .ok (.aload_n 0, 1) := by decide +kernel
theorem dX6_when_30 : decode cX6_when 30 = .ok (.getfield 75, 3) := by decide +kernel
theorem dX6_when_33 : decode cX6_when 33 = .ok (.aload_n 0, 1) := by decide +kernel
theorem dX6_when_34 : decode cX6_when 34 = .ok (.getfield 10, 3) := by decide +kernel
theorem dX6_when_37 : decode cX6_when 37 = .ok (.iload_n 1, 1) := by decide +kernel
theorem dX6_when_38 : decode cX6_when 38 = .ok (.invokevirtual 234, 3) := by decide +kernel
theorem dX6_when_41 : decode cX6_when 41 = .ok (.iconst 1, 1) := by decide +kernel
theorem dX6_when_42 : decode cX6_when 42 = .ok (.istore_n 3, 1) := by decide +kernel
theorem dX6_when_43 : decode cX6_when 43 = .ok (.iload_n 3, 1) := by decide +kernel
theorem dX6_when_44 : decode cX6_when 44 = .ok (.bipush 60, 2) := by decide +kernel
theorem dX6_when_46 : decode cX6_when 46 = .ok (.if_icmp .gt 106, 3) := by decide +kernel
theorem dX6_when_49 : decode cX6_when 49 = .ok (.aload_n 0, 1) := by decide +kernel
theorem dX6_when_50 : decode cX6_when 50 = .ok (.getfield 68, 3) := by decide +kernel
theorem dX6_when_53 : decode cX6_when 53 = .ok (.aload_n 0, 1) := by decide +kernel
theorem dX6_when_54 : decode cX6_when 54 = .ok (.getfield 29, 3) := by decide +kernel
theorem dX6_when_57 : decode cX6_when 57 = .ok (.iload_n 2, 1) := by decide +kernel
theorem dX6_when_58 : decode cX6_when 58 = .ok (.aaload, 1) := by decide +kernel
theorem dX6_when_59 : decode cX6_when 59 = .ok (.aload_n 0, 1) := by decide +kernel
theorem dX6_when_60 : decode cX6_when 60 = .ok (.getfield 75, 3) := by decide +kernel
theorem dX6_when_63 : decode cX6_when 63 = .ok (.iconst 0, 1) := by decide +kernel
theorem dX6_when_64 : decode cX6_when 64 = .ok (.invokevirtual 186, 3) := by decide +kernel
theorem dX6_when_67 : decode cX6_when 67 = .ok (.aload_n 0, 1) := by decide +kernel
theorem dX6_when_68 : decode cX6_when 68 = .ok (.getfield 75, 3) := by decide +kernel
theorem dX6_when_71 : decode cX6_when 71 = .ok (.aload_n 0, 1) := by decide +kernel
theorem dX6_when_72 : decode cX6_when 72 = .ok (.getfield 75, 3) := by decide +kernel
theorem dX6_when_75 : decode cX6_when 75 = .ok (.aload_n 0, 1) := by decide +kernel
theorem dX6_when_76 : decode cX6_when 76 = .ok (.getfield 68, 3) := by decide +kernel
theorem dX6_when_79 : decode cX6_when 79 = .ok (.invokevirtual 190, 3) := by decide +kernel
theorem dX6_when_82 : decode cX6_when 82 = .ok (.aload_n 0, 1) := by decide +kernel
theorem dX6_when_83 : decode cX6_when 83 = .ok (.getfield 68, 3) := by decide +kernel
theorem dX6_when_86 : decode cX6_when 86 = .ok (.invokevirtual 193, 3) := by decide +kernel
theorem dX6_when_89 : decode cX6_when 89 = .ok (.invokevirtual 238, 3) := by decide +kernel
theorem dX6_when_92 : decode cX6_when 92 = .ok (.invokevirtual 241, 3) := by decide +kernel
theorem dX6_when_95 : decode cX6_when 95 = .ok (.iconst 5, 1) := by decide +kernel
theorem dX6_when_96 : decode cX6_when 96 = .ok (.if_icmp .ne 5, 3) := by decide +kernel
theorem dX6_when_99 : decode cX6_when 99 = .ok (.iload_n 3, 1) := by decide +kernel
theorem dX6_when_100 : decode cX6_when 100 = .ok (.ireturn, 1) := by decide +kernel
theorem dX6_when_101 : decode cX6_when 101 = .ok (.aload_n 0, 1) := by decide +kernel
theorem dX6_when_102 : decode cX6_when 102 = .ok (.getfield 75, 3) := by decide +kernel
theorem dX6_when_105 : decode cX6_when 105 = .ok (.dup, 1) := by decide +kernel
theorem dX6_when_106 : decode cX6_when 106 = .ok (.getfield 244, 3) := by decide +kernel
theorem dX6_when_109 : decode cX6_when 109 = .ok (.iconst 1, 1) := by decide +kernel
theorem dX6_when_110 : decode cX6_when 110 = .ok (.iadd, 1) := by decide +kernel
theorem dX6_when_111 : decode cX6_when 111 = .ok (.putfield 244, 3) := by decide +kernel
theorem dX6_when_114 : decode cX6_when 114 = .ok (.aload_n 0, 1) := by decide +kernel
theorem dX6_when_115 : decode cX6_when 115 = .ok (.getfield 75, 3) := by decide +kernel
theorem dX6_when_118 : decode cX6_when 118 = .ok (.dup, 1) := by decide +kernel
theorem dX6_when_119 : decode cX6_when 119 = .ok (.getfield 247, 3) := by decide +kernel
theorem dX6_when_122 : decode cX6_when 122 = .ok (.iconst 1, 1) := by decide +kernel
theorem dX6_when_123 : decode cX6_when 123 = .ok (.iadd, 1) := by decide +kernel
theorem dX6_when_124 : decode cX6_when 124 = .ok (.putfield 247, 3) := by decide +kernel
theorem dX6_when_127 : decode cX6_when 127 = .ok (.aload_n 0, 1) := by decide +kernel
theorem dX6_when_128 : decode cX6_when 128 = .ok (.getfield 75, 3) := by decide +kernel
theorem dX6_when_131 : decode cX6_when 131 = .ok (.dup, 1) := by decide +kernel
theorem dX6_when_132 : decode cX6_when 132 = .ok (.getfield 250, 3) := by decide +kernel
theorem dX6_when_135 : decode cX6_when 135 = .ok (.aload_n 0, 1) := by decide +kernel
theorem dX6_when_136 : decode cX6_when 136 = .ok (.getfield 10, 3) := by decide +kernel
theorem dX6_when_139 : decode cX6_when 139 = .ok (.getfield 145, 3) := by decide +kernel
theorem dX6_when_142 : decode cX6_when 142 = .ok (.iadd, 1) := by decide +kernel
theorem dX6_when_143 : decode cX6_when 143 = .ok (.putfield 250, 3) := by decide +kernel
theorem dX6_when_146 : decode cX6_when 146 = .ok (.iinc 3 1, 3) := by decide +kernel
theorem dX6_when_149 : decode cX6_when 149 = .ok (.goto (-106), 3) := by decide +kernel
theorem dX6_when_152 : decode cX6_when 152 = .ok (.iconst (-1), 1) := by decide +kernel
theorem dX6_when_153 : decode cX6_when 153 = .ok (.ireturn, 1) := by decide +kernel
theorem dX6_fitting_0 : decode cX6_fitting 0 = .ok (.iconst 0, 1) := by decide +kernel
theorem dX6_fitting_1 : decode cX6_fitting 1 = .ok (.istore_n 1, 1) := by decide +kernel
theorem dX6_fitting_2 : decode cX6_fitting 2 = .ok (.iconst 0, 1) := by decide +kernel
theorem dX6_fitting_3 : decode cX6_fitting 3 = .ok (.istore_n 2, 1) := by decide +kernel
theorem dX6_fitting_4 : decode cX6_fitting 4 = .ok (.iload_n 2, 1) := by decide +kernel
theorem dX6_fitting_5 : decode cX6_fitting 5 = .ok (.aload_n 0, 1) := by decide +kernel
theorem dX6_fitting_6 : decode cX6_fitting 6 = .ok (.getfield 33, 3) := by decide +kernel
theorem dX6_fitting_9 : decode cX6_fitting 9 = .ok (.if_icmp .ge 29, 3) := by decide +kernel
theorem dX6_fitting_12 : decode cX6_fitting 12 = .ok (.aload_n 0, 1) := by decide +kernel
theorem dX6_fitting_13 : decode cX6_fitting 13 = .ok (.aload_n 0, 1) := by decide +kernel
theorem dX6_fitting_14 : decode cX6_fitting 14 = .ok (.getfield 29, 3) := by decide +kernel
theorem dX6_fitting_17 : decode cX6_fitting 17 = .ok (.iload_n 2, 1) := by decide +kernel
theorem dX6_fitting_18 : decode cX6_fitting 18 = .ok (.aaload, 1) := by decide +kernel
theorem dX6_fitting_19 : decode cX6_fitting 19 = .ok (.invokevirtual 253, 3) := by decide +kernel
theorem dX6_fitting_22 : decode cX6_fitting 22 = .ok (.iconst (-1), 1) := by decide +kernel
theorem dX6_fitting_23 : decode cX6_fitting 23 = .ok (.if_icmp .ne 9, 3) := by decide +kernel
theorem dX6_fitting_26 : decode cX6_fitting 26 = .ok (.iload_n 1, 1) := by decide +kernel
theorem dX6_fitting_27 : decode cX6_fitting 27 = .ok (.iconst 1, 1) := by decide +kernel
theorem dX6_fitting_28 : decode cX6_fitting 28 = .ok (.iload_n 2, 1) := by decide +kernel
theorem dX6_fitting_29 : decode cX6_fitting 29 = .ok (.ishl, 1) := by decide +kernel
theorem dX6_fitting_30 : decode cX6_fitting 30 = .ok (.ior, 1) := by decide +kernel
theorem dX6_fitting_31 : decode cX6_fitting 31 = .ok (.istore_n 1, 1) := by decide +kernel
theorem dX6_fitting_32 : decode cX6_fitting 32 = .ok (.iinc 2 1, 3) := by decide +kernel
theorem dX6_fitting_35 : decode cX6_fitting 35 = .ok (.goto (-31), 3) := by decide +kernel
theorem dX6_fitting_38 : decode cX6_fitting 38 = .ok (.iload_n 1, 1) := by decide +kernel
theorem dX6_fitting_39 : decode cX6_fitting 39 = .ok (.ireturn, 1) := by decide +kernel
theorem dX6_strange_0 : decode cX6_strange 0 = .ok (.iload_n 1, 1) := by decide +kernel
theorem dX6_strange_1 : decode cX6_strange 1 = .ok (.iconst 0, 1) := by decide +kernel
theorem dX6_strange_2 : decode cX6_strange 2 = .ok (.aload_n 0, 1) := by decide +kernel
theorem dX6_strange_3 : decode cX6_strange 3 = .ok (.getfield 33, 3) := by decide +kernel
theorem dX6_strange_6 : decode cX6_strange 6 = .ok (.iconst 1, 1) := by decide +kernel
theorem dX6_strange_7 : decode cX6_strange 7 = .ok (.isub, 1) := by decide +kernel
theorem dX6_strange_8 : decode cX6_strange 8 = .ok (.invokestatic 92, 3) := by decide +kernel
theorem dX6_strange_11 : decode cX6_strange 11 = .ok (.invokestatic 96, 3) := by decide +kernel
theorem dX6_strange_14 : decode cX6_strange 14 = .ok (.aload_n 0, 1) := by decide +kernel
theorem dX6_strange_15 : decode cX6_strange 15 = .ok (.aload_n 0, 1) := by decide +kernel
theorem dX6_strange_16 : decode cX6_strange 16 = .ok (.getfield 29, 3) := by decide +kernel
theorem dX6_strange_19 : decode cX6_strange 19 = .ok (.iload_n 1, 1) := by decide +kernel
theorem dX6_strange_20 : decode cX6_strange 20 = .ok (.aaload, 1) := by decide +kernel
theorem dX6_strange_21 : decode cX6_strange 21 = .ok (.invokevirtual 253, 3) := by decide +kernel
theorem dX6_strange_24 : decode cX6_strange 24 = .ok (.ireturn, 1) := by decide +kernel
theorem dX6_guess_0 : decode cX6_guess 0 = .ok (.iload_n 1, 1) := by decide +kernel
theorem dX6_guess_1 : decode cX6_guess 1 = .ok (.invokestatic 85, 3) := by decide +kernel
theorem dX6_guess_4 : decode cX6_guess 4 = .ok (.iconst 0, 1) := by decide +kernel
theorem dX6_guess_5 : decode cX6_guess 5 = .ok (.istore_n 2, 1) := by decide +kernel
theorem dX6_guess_6 : decode cX6_guess 6 = .ok (.iconst 0, 1) := by decide +kernel
theorem dX6_guess_7 : decode cX6_guess 7 = .ok (.istore_n 3, 1) := by decide +kernel
theorem dX6_guess_8 : decode cX6_guess 8 = .ok (.iload_n 3, 1) := by decide +kernel
theorem dX6_guess_9 : decode cX6_guess 9 = .ok (.aload_n 0, 1) := by decide +kernel
theorem dX6_guess_10 : decode cX6_guess 10 = .ok (.getfield 33, 3) := by decide +kernel
theorem dX6_guess_13 : decode cX6_guess 13 = .ok (.if_icmp .ge 86, 3) := by decide +kernel
theorem dX6_guess_16 : decode cX6_guess 16 = .ok (.aload_n 0, 1) := by decide +kernel
theorem dX6_guess_17 : decode cX6_guess 17 = .ok (.aload_n 0, 1) := by decide +kernel
theorem dX6_guess_18 : decode cX6_guess 18 = .ok (.getfield 29, 3) := by decide +kernel
theorem dX6_guess_21 : decode cX6_guess 21 = .ok (.iload_n 3, 1) := by decide +kernel
theorem dX6_guess_22 : decode cX6_guess 22 = .ok (.aaload, 1) := by decide +kernel
theorem dX6_guess_23 : decode cX6_guess 23 = .ok (.invokevirtual 253, 3) := by decide +kernel
theorem dX6_guess_26 : decode cX6_guess 26 = .ok (.iconst (-1), 1) := by decide +kernel
theorem dX6_guess_27 : decode cX6_guess 27 = .ok (.if_icmp .ne 66, 3) := by decide +kernel
theorem dX6_guess_30 : decode cX6_guess 30 = .ok (.aload_n 0, 1) := by decide +kernel
theorem dX6_guess_31 : decode cX6_guess 31 = .ok (.getfield 75, 3) := by decide +kernel
theorem dX6_guess_34 : decode cX6_guess 34 = .ok (.aload_n 0, 1) := by decide +kernel
theorem dX6_guess_35 : decode cX6_guess 35 = .ok (.getfield 10, 3) := by decide +kernel
theorem dX6_guess_38 : decode cX6_guess 38 = .ok (.invokevirtual 178, 3) := by decide +kernel
theorem dX6_guess_41 : decode cX6_guess 41 = .ok (.aload_n 0, 1) := by decide +kernel
theorem dX6_guess_42 : decode cX6_guess 42 = .ok (.getfield 68, 3) := by decide +kernel
theorem dX6_guess_45 : decode cX6_guess 45 = .ok (.aload_n 0, 1) := by decide +kernel
theorem dX6_guess_46 : decode cX6_guess 46 = .ok (.getfield 29, 3) := by decide +kernel
theorem dX6_guess_49 : decode cX6_guess 49 = .ok (.iload_n 3, 1) := by decide +kernel
theorem dX6_guess_50 : decode cX6_guess 50 = .ok (.aaload, 1) := by decide +kernel
theorem dX6_guess_51 : decode cX6_guess 51 = .ok (.aload_n 0, 1) := by decide +kernel
theorem dX6_guess_52 : decode cX6_guess 52 = .ok (.getfield 75, 3) := by decide +kernel
theorem dX6_guess_55 : decode cX6_guess 55 = .ok (.iconst 0, 1) := by decide +kernel
theorem dX6_guess_56 : decode cX6_guess 56 = .ok (.invokevirtual 186, 3) := by decide +kernel
theorem dX6_guess_59 : decode cX6_guess 59 = .ok (.iload_n 2, 1) := by decide +kernel
theorem dX6_guess_60 : decode cX6_guess 60 = .ok (.aload_n 0, 1) := by decide +kernel
theorem dX6_guess_61 : decode cX6_guess 61 = .ok (.aload_n 0, 1) := by decide +kernel
theorem dX6_guess_62 : decode cX6_guess 62 = .ok (.getfield 10, 3) := by decide +kernel
theorem dX6_guess_65 : decode cX6_guess 65 = .ok (.iload_n 1, 1) := by decide +kernel
theorem dX6_guess_66 : decode cX6_guess 66 = .ok (.aload_n 0, 1) := by decide +kernel
theorem dX6_guess_67 : decode cX6_guess 67 = .ok (.getfield 68, 3) := by decide +kernel
theorem dX6_guess_70 : decode cX6_guess 70 = .ok (.invokevirtual 190, 3) := by decide +kernel
theorem dX6_guess_73 : decode cX6_guess 73 = .ok (.aload_n 0, 1) := by decide +kernel
theorem dX6_guess_74 : decode cX6_guess 74 = .ok (.getfield 68, 3) := by decide +kernel
theorem dX6_guess_77 : decode cX6_guess 77 = .ok (.invokevirtual 193, 3) := by decide +kernel
theorem dX6_guess_80 : decode cX6_guess 80 = .ok (.invokevirtual 230, 3) := by decide +kernel
theorem dX6_guess_83 : decode cX6_guess 83 = .ok (.ifCond .eq 7, 3) := by decide +kernel
theorem dX6_guess_86 : decode cX6_guess 86 = .ok (.iconst 1, 1) := by decide +kernel
theorem dX6_guess_87 : decode cX6_guess 87 = .ok (.goto 4, 3) := by decide +kernel
theorem dX6_guess_90 : decode cX6_guess 90 = .ok (.iconst 0, 1) := by decide +kernel
theorem dX6_guess_91 : decode cX6_guess 91 = .ok (.iadd, 1) := by decide +kernel
theorem dX6_guess_92 : decode cX6_guess 92 = .ok (.istore_n 2, 1) := by decide +kernel
theorem dX6_guess_93 : decode cX6_guess 93 = .ok (.iinc 3 1, 3) := by decide +kernel
theorem dX6_guess_96 : decode cX6_guess 96 = .ok (.goto (-88), 3) := by decide +kernel
theorem dX6_guess_99 : decode cX6_guess 99 = .ok (.iload_n 2, 1) := by decide +kernel
theorem dX6_guess_100 : decode cX6_guess 100 = .ok (.ireturn, 1) := by decide +kernel
theorem dX6_settle_0 : decode cX6_settle 0 = .ok (.iload_n 1, 1) := by decide +kernel
theorem dX6_settle_1 : decode cX6_settle 1 = .ok (.aload_n 0, 1) := by decide +kernel
theorem dX6_settle_2 : decode cX6_settle 2 = .ok (.getfield 46, 3) := by decide +kernel
theorem dX6_settle_5 : decode cX6_settle 5 = .ok (.invokestatic 113, 3) := by decide +kernel
theorem dX6_settle_8 : decode cX6_settle 8 = .ok (.iload_n 2, 1) := by decide +kernel
theorem dX6_settle_9 : decode cX6_settle 9 = .ok (.invokestatic 85, 3) := by decide +kernel
theorem dX6_settle_12 : decode cX6_settle 12 = .ok (.iload_n 3, 1) := by decide +kernel
theorem dX6_settle_13 : decode cX6_settle 13 = .ok (.iconst 0, 1) := by decide +kernel
theorem dX6_settle_14 : decode cX6_settle 14 = .ok (.sipush 9999, 3) := by decide +kernel
theorem dX6_settle_17 : decode cX6_settle 17 = .ok (.invokestatic 92, 3) := by decide +kernel
theorem dX6_settle_20 : decode cX6_settle 20 = .ok (.invokestatic 96, 3) := by decide +kernel
theorem dX6_settle_23 : decode cX6_settle 23 = .ok (.aload_n 0, 1) := by decide +kernel
theorem dX6_settle_24 : decode cX6_settle 24 = .ok (.getfield 42, 3) := by decide +kernel
theorem dX6_settle_27 : decode cX6_settle 27 = .ok (.iload_n 1, 1) := by decide +kernel
theorem dX6_settle_28 : decode cX6_settle 28 = .ok (.iaload, 1) := by decide +kernel
theorem dX6_settle_29 : decode cX6_settle 29 = .ok (.iload_n 2, 1) := by decide +kernel
theorem dX6_settle_30 : decode cX6_settle 30 = .ok (.invokestatic 275, 3) := by decide +kernel
theorem dX6_settle_33 : decode cX6_settle 33 = .ok (.istore 4, 2) := by decide +kernel
theorem dX6_settle_35 : decode cX6_settle 35 = .ok (.aload_n 0, 1) := by decide +kernel
theorem dX6_settle_36 : decode cX6_settle 36 = .ok (.getfield 10, 3) := by decide +kernel
theorem dX6_settle_39 : decode cX6_settle 39 = .ok (.getfield 100, 3) := by decide +kernel
theorem dX6_settle_42 : decode cX6_settle 42 = .ok (.getfield 139, 3) := by decide +kernel
theorem dX6_settle_45 : decode cX6_settle 45 = .ok (.iload_n 2, 1) := by decide +kernel
theorem dX6_settle_46 : decode cX6_settle 46 = .ok (.iaload, 1) := by decide +kernel
theorem dX6_settle_47 : decode cX6_settle 47 = .ok (.istore 5, 2) := by decide +kernel
theorem dX6_settle_49 : decode cX6_settle 49 = .ok (.iload 4, 2) := by decide +kernel
theorem dX6_settle_51 : decode cX6_settle 51 = .ok (.ifCond .eq 9, 3) := by decide +kernel
theorem dX6_settle_54 : decode cX6_settle 54 = .ok (.iload 5, 2) := by decide +kernel
theorem dX6_settle_56 : decode cX6_settle 56 = .ok (.iconst (-1), 1) := by decide +kernel
theorem dX6_settle_57 : decode cX6_settle 57 = .ok (.if_icmp .ne 5, 3) := by decide +kernel
theorem dX6_settle_60 : decode cX6_settle 60 = .ok (.iconst (-1), 1) := by decide +kernel
theorem dX6_settle_61 : decode cX6_settle 61 = .ok (.ireturn, 1) := by decide +kernel
theorem dX6_settle_62 : decode cX6_settle 62 = .ok (.aload_n 0, 1) := by decide +kernel
theorem dX6_settle_63 : decode cX6_settle 63 = .ok (.getfield 10, 3) := by decide +kernel
theorem dX6_settle_66 : decode cX6_settle 66 = .ok (.getfield 100, 3) := by decide +kernel
theorem dX6_settle_69 : decode cX6_settle 69 = .ok (.iload 5, 2) := by decide +kernel
theorem dX6_settle_71 : decode cX6_settle 71 = .ok (.invokevirtual 278, 3) := by decide +kernel
theorem dX6_settle_74 : decode cX6_settle 74 = .ok (.iload_n 3, 1) := by decide +kernel
theorem dX6_settle_75 : decode cX6_settle 75 = .ok (.iadd, 1) := by decide +kernel
theorem dX6_settle_76 : decode cX6_settle 76 = .ok (.iload 4, 2) := by decide +kernel
theorem dX6_settle_78 : decode cX6_settle 78 = .ok (.imul, 1) := by decide +kernel
theorem dX6_settle_79 : decode cX6_settle 79 = .ok (.istore 6, 2) := by decide +kernel
theorem dX6_settle_81 : decode cX6_settle 81 = .ok (.iconst 1, 1) := by decide +kernel
theorem dX6_settle_82 : decode cX6_settle 82 = .ok (.istore 7, 2) := by decide +kernel
theorem dX6_settle_84 : decode cX6_settle 84 = .ok (.iload 7, 2) := by decide +kernel
theorem dX6_settle_86 : decode cX6_settle 86 = .ok (.sipush 200, 3) := by decide +kernel
theorem dX6_settle_89 : decode cX6_settle 89 = .ok (.if_icmp .gt 42, 3) := by decide +kernel
theorem dX6_settle_92 : decode cX6_settle 92 = .ok (.aload_n 0, 1) := by decide +kernel
theorem dX6_settle_93 : decode cX6_settle 93 = .ok (.getfield 10, 3) := by decide +kernel
theorem dX6_settle_96 : decode cX6_settle 96 = .ok (.getfield 145, 3) := by decide +kernel
theorem dX6_settle_99 : decode cX6_settle 99 = .ok (.iload 7, 2) := by decide +kernel
theorem dX6_settle_101 : decode cX6_settle 101 = .ok (.iconst 1, 1) := by decide +kernel
theorem dX6_settle_102 : decode cX6_settle 102 = .ok (.isub, 1) := by decide +kernel
theorem dX6_settle_103 : decode cX6_settle 103 = .ok (.iload 4, 2) := by decide +kernel
theorem dX6_settle_105 : decode cX6_settle 105 = .ok (.imul, 1) := by decide +kernel
theorem dX6_settle_106 : decode cX6_settle 106 = .ok (.aload_n 0, 1) := by decide +kernel
theorem dX6_settle_107 : decode cX6_settle 107 = .ok (.getfield 42, 3) := by decide +kernel
theorem dX6_settle_110 : decode cX6_settle 110 = .ok (.iload_n 1, 1) := by decide +kernel
theorem dX6_settle_111 : decode cX6_settle 111 = .ok (.iaload, 1) := by decide +kernel
theorem dX6_settle_112 : decode cX6_settle 112 = .ok (.invokestatic 213, 3) := by decide +kernel
theorem dX6_settle_115 : decode cX6_settle 115 = .ok (.iadd, 1) := by decide +kernel
theorem dX6_settle_116 : decode cX6_settle 116 = .ok (.imul, 1) := by decide +kernel
theorem dX6_settle_117 : decode cX6_settle 117 = .ok (.iload 6, 2) := by decide +kernel
theorem dX6_settle_119 : decode cX6_settle 119 = .ok (.if_icmp .lt 6, 3) := by decide +kernel
theorem dX6_settle_122 : decode cX6_settle 122 = .ok (.iload 7, 2) := by decide +kernel
theorem dX6_settle_124 : decode cX6_settle 124 = .ok (.ireturn, 1) := by decide +kernel
theorem dX6_settle_125 : decode cX6_settle 125 = .ok (.iinc 7 1, 3) := by decide +kernel
theorem dX6_settle_128 : decode cX6_settle 128 = .ok (.goto (-44), 3) := by decide +kernel
theorem dX6_settle_131 : decode cX6_settle 131 = .ok (.iconst (-1), 1) := by decide +kernel
theorem dX6_settle_132 : decode cX6_settle 132 = .ok (.ireturn, 1) := by decide +kernel
theorem dX6_back_0 : decode cX6_back 0 = .ok (.iload_n 1, 1) := by decide +kernel
theorem dX6_back_1 : decode cX6_back 1 = .ok (.aload_n 0, 1) := by decide +kernel
theorem dX6_back_2 : decode cX6_back 2 = .ok (.getfield 46, 3) := by decide +kernel
theorem dX6_back_5 : decode cX6_back 5 = .ok (.invokestatic 113, 3) := by decide +kernel
theorem dX6_back_8 : decode cX6_back 8 = .ok (.iload_n 2, 1) := by decide +kernel
theorem dX6_back_9 : decode cX6_back 9 = .ok (.invokestatic 85, 3) := by decide +kernel
theorem dX6_back_12 : decode cX6_back 12 = .ok (.aload_n 0, 1) := by decide +kernel
theorem dX6_back_13 : decode cX6_back 13 = .ok (.getfield 42, 3) := by decide +kernel
theorem dX6_back_16 : decode cX6_back 16 = .ok (.iload_n 1, 1) := by decide +kernel
theorem dX6_back_17 : decode cX6_back 17 = .ok (.iaload, 1) := by decide +kernel
theorem dX6_back_18 : decode cX6_back 18 = .ok (.iload_n 2, 1) := by decide +kernel
theorem dX6_back_19 : decode cX6_back 19 = .ok (.invokestatic 275, 3) := by decide +kernel
theorem dX6_back_22 : decode cX6_back 22 = .ok (.istore_n 3, 1) := by decide +kernel
theorem dX6_back_23 : decode cX6_back 23 = .ok (.aload_n 0, 1) := by decide +kernel
theorem dX6_back_24 : decode cX6_back 24 = .ok (.getfield 10, 3) := by decide +kernel
theorem dX6_back_27 : decode cX6_back 27 = .ok (.getfield 100, 3) := by decide +kernel
theorem dX6_back_30 : decode cX6_back 30 = .ok (.getfield 139, 3) := by decide +kernel
theorem dX6_back_33 : decode cX6_back 33 = .ok (.iload_n 2, 1) := by decide +kernel
theorem dX6_back_34 : decode cX6_back 34 = .ok (.iaload, 1) := by decide +kernel
theorem dX6_back_35 : decode cX6_back 35 = .ok (.istore 4, 2) := by decide +kernel
theorem dX6_back_37 : decode cX6_back 37 = .ok (.iload_n 3, 1) := by decide +kernel
theorem dX6_back_38 : decode cX6_back 38 = .ok (.ifCond .eq 9, 3) := by decide +kernel
theorem dX6_back_41 : decode cX6_back 41 = .ok (.iload 4, 2) := by decide +kernel
theorem dX6_back_43 : decode cX6_back 43 = .ok (.iconst (-1), 1) := by decide +kernel
theorem dX6_back_44 : decode cX6_back 44 = .ok (.if_icmp .ne 7, 3) := by decide +kernel
theorem dX6_back_47 : decode cX6_back 47 = .ok (.ldc_w 281, 3) := by decide +kernel
theorem dX6_back_50 : decode cX6_back 50 = .ok (.ireturn, 1) := by decide +kernel
theorem dX6_back_51 : decode cX6_back 51 = .ok (.aload_n 0, 1) := by decide +kernel
theorem dX6_back_52 : decode cX6_back 52 = .ok (.getfield 10, 3) := by decide +kernel
theorem dX6_back_55 : decode cX6_back 55 = .ok (.getfield 145, 3) := by decide +kernel
theorem dX6_back_58 : decode cX6_back 58 = .ok (.aload_n 0, 1) := by decide +kernel
theorem dX6_back_59 : decode cX6_back 59 = .ok (.getfield 42, 3) := by decide +kernel
theorem dX6_back_62 : decode cX6_back 62 = .ok (.iload_n 1, 1) := by decide +kernel
theorem dX6_back_63 : decode cX6_back 63 = .ok (.iaload, 1) := by decide +kernel
theorem dX6_back_64 : decode cX6_back 64 = .ok (.invokestatic 213, 3) := by decide +kernel
theorem dX6_back_67 : decode cX6_back 67 = .ok (.imul, 1) := by decide +kernel
theorem dX6_back_68 : decode cX6_back 68 = .ok (.iload_n 3, 1) := by decide +kernel
theorem dX6_back_69 : decode cX6_back 69 = .ok (.invokestatic 282, 3) := by decide +kernel
theorem dX6_back_72 : decode cX6_back 72 = .ok (.aload_n 0, 1) := by decide +kernel
theorem dX6_back_73 : decode cX6_back 73 = .ok (.getfield 10, 3) := by decide +kernel
theorem dX6_back_76 : decode cX6_back 76 = .ok (.getfield 100, 3) := by decide +kernel
theorem dX6_back_79 : decode cX6_back 79 = .ok (.iload 4, 2) := by decide +kernel
theorem dX6_back_81 : decode cX6_back 81 = .ok (.invokevirtual 278, 3) := by decide +kernel
theorem dX6_back_84 : decode cX6_back 84 = .ok (.isub, 1) := by decide +kernel
theorem dX6_back_85 : decode cX6_back 85 = .ok (.ireturn, 1) := by decide +kernel
theorem dX6_broken_0 : decode cX6_broken 0 = .ok (.iload_n 1, 1) := by decide +kernel
theorem dX6_broken_1 : decode cX6_broken 1 = .ok (.aload_n 0, 1) := by decide +kernel
theorem dX6_broken_2 : decode cX6_broken 2 = .ok (.getfield 39, 3) := by decide +kernel
theorem dX6_broken_5 : decode cX6_broken 5 = .ok (.invokestatic 113, 3) := by decide +kernel
theorem dX6_broken_8 : decode cX6_broken 8 = .ok (.iconst 0, 1) := by decide +kernel
theorem dX6_broken_9 : decode cX6_broken 9 = .ok (.istore_n 2, 1) := by decide +kernel
theorem dX6_broken_10 : decode cX6_broken 10 = .ok (.iload_n 2, 1) := by decide +kernel
theorem dX6_broken_11 : decode cX6_broken 11 = .ok (.aload_n 0, 1) := by decide +kernel
theorem dX6_broken_12 : decode cX6_broken 12 = .ok (.getfield 10, 3) := by decide +kernel
theorem dX6_broken_15 : decode cX6_broken 15 = .ok (.getfield 199, 3) := by decide +kernel
theorem dX6_broken_18 : decode cX6_broken 18 = .ok (.if_icmp .ge 35, 3) := by decide +kernel
theorem dX6_broken_21 : decode cX6_broken 21 = .ok (.aload_n 0, 1) := by decide +kernel
theorem dX6_broken_22 : decode cX6_broken 22 = .ok (.getfield 68, 3) := by decide +kernel
theorem dX6_broken_25 : decode cX6_broken 25 = .ok (.aload_n 0, 1) := by decide +kernel
theorem dX6_broken_26 : decode cX6_broken 26 = .ok (.getfield 36, 3) := by decide +kernel
theorem dX6_broken_29 : decode cX6_broken 29 = .ok (.iload_n 1, 1) := by decide +kernel
theorem dX6_broken_30 : decode cX6_broken 30 = .ok (.aaload, 1) := by decide +kernel
theorem dX6_broken_31 : decode cX6_broken 31 = .ok (.aload_n 0, 1) := by decide +kernel
theorem dX6_broken_32 : decode cX6_broken 32 = .ok (.getfield 10, 3) := by decide +kernel
theorem dX6_broken_35 : decode cX6_broken 35 = .ok (.iload_n 2, 1) := by decide +kernel
theorem dX6_broken_36 : decode cX6_broken 36 = .ok (.invokevirtual 205, 3) := by decide +kernel
theorem dX6_broken_39 : decode cX6_broken 39 = .ok (.invokevirtual 287, 3) := by decide +kernel
theorem dX6_broken_42 : decode cX6_broken 42 = .ok (.ifCond .ne 5, 3) := by decide +kernel
theorem dX6_broken_45 : decode cX6_broken 45 = .ok (.iload_n 2, 1) := by decide +kernel
theorem dX6_broken_46 : decode cX6_broken 46 = .ok (.ireturn, 1) := by decide +kernel
theorem dX6_broken_47 : decode cX6_broken 47 = .ok (.iinc 2 1, 3) := by decide +kernel
theorem dX6_broken_50 : decode cX6_broken 50 = .ok (.goto (-40), 3) := by decide +kernel
theorem dX6_broken_53 : decode cX6_broken 53 = .ok (.aload_n 0, 1) := by decide +kernel
theorem dX6_broken_54 : decode cX6_broken 54 = .ok (.iconst 0, 1) := by decide +kernel
theorem dX6_broken_55 : decode cX6_broken 55 = .ok (.invokevirtual 226, 3) := by decide +kernel
theorem dX6_broken_58 : decode cX6_broken 58 = .ok (.iconst (-1), 1) := by decide +kernel
theorem dX6_broken_59 : decode cX6_broken 59 = .ok (.if_icmp .ne 7, 3) := by decide +kernel
theorem dX6_broken_62 : decode cX6_broken 62 = .ok (.iconst 0, 1) := by decide +kernel
theorem dX6_broken_63 : decode cX6_broken 63 = .ok (.goto 4, 3) := by decide +kernel
theorem dX6_broken_66 : decode cX6_broken 66 = .ok (.iconst 1, 1) := by decide +kernel
theorem dX6_broken_67 : decode cX6_broken 67 = .ok (.istore_n 2, 1) := by decide +kernel
theorem dX6_broken_68 : decode cX6_broken 68 = .ok (.aload_n 0, 1) := by decide +kernel
theorem dX6_broken_69 : decode cX6_broken 69 = .ok (.getfield 75, 3) := by decide +kernel
theorem dX6_broken_72 : decode cX6_broken 72 = .ok (.aload_n 0, 1) := by decide +kernel
theorem dX6_broken_73 : decode cX6_broken 73 = .ok (.getfield 10, 3) := by decide +kernel
theorem dX6_broken_76 : decode cX6_broken 76 = .ok (.invokevirtual 178, 3) := by decide +kernel
theorem dX6_broken_79 : decode cX6_broken 79 = .ok (.aload_n 0, 1) := by decide +kernel
theorem dX6_broken_80 : decode cX6_broken 80 = .ok (.getfield 75, 3) := by decide +kernel
theorem dX6_broken_83 : decode cX6_broken 83 = .ok (.iload_n 2, 1) := by decide +kernel
theorem dX6_broken_84 : decode cX6_broken 84 = .ok (.putfield 291, 3) := by decide +kernel
theorem dX6_broken_87 : decode cX6_broken 87 = .ok (.aload_n 0, 1) := by decide +kernel
theorem dX6_broken_88 : decode cX6_broken 88 = .ok (.getfield 68, 3) := by decide +kernel
theorem dX6_broken_91 : decode cX6_broken 91 = .ok (.aload_n 0, 1) := by decide +kernel
theorem dX6_broken_92 : decode cX6_broken 92 = .ok (.getfield 36, 3) := by decide +kernel
theorem dX6_broken_95 : decode cX6_broken 95 = .ok (.iload_n 1, 1) := by decide +kernel
theorem dX6_broken_96 : decode cX6_broken 96 = .ok (.aaload, 1) := by decide +kernel
theorem dX6_broken_97 : decode cX6_broken 97 = .ok (.aload_n 0, 1) := by decide +kernel
theorem dX6_broken_98 : decode cX6_broken 98 = .ok (.getfield 75, 3) := by decide +kernel
theorem dX6_broken_101 : decode cX6_broken 101 = .ok (.invokevirtual 287, 3) := by decide +kernel
theorem dX6_broken_104 : decode cX6_broken 104 = .ok (.ifCond .eq 7, 3) := by decide +kernel
theorem dX6_broken_107 : decode cX6_broken 107 = .ok (.iconst (-1), 1) := by decide +kernel
theorem dX6_broken_108 : decode cX6_broken 108 = .ok (.goto 10, 3) := by decide +kernel
theorem dX6_broken_111 : decode cX6_broken 111 = .ok (.aload_n 0, 1) := by decide +kernel
theorem dX6_broken_112 : decode cX6_broken 112 = .ok (.getfield 10, 3) := by decide +kernel
theorem dX6_broken_115 : decode cX6_broken 115 = .ok (.getfield 199, 3) := by decide +kernel
theorem dX6_broken_118 : decode cX6_broken 118 = .ok (.ireturn, 1) := by decide +kernel
theorem dX6_cut_0 : decode cX6_cut 0 = .ok (.iload_n 1, 1) := by decide +kernel
theorem dX6_cut_1 : decode cX6_cut 1 = .ok (.aload_n 0, 1) := by decide +kernel
theorem dX6_cut_2 : decode cX6_cut 2 = .ok (.getfield 46, 3) := by decide +kernel
theorem dX6_cut_5 : decode cX6_cut 5 = .ok (.invokestatic 113, 3) := by decide +kernel
theorem dX6_cut_8 : decode cX6_cut 8 = .ok (.iload_n 2, 1) := by decide +kernel
theorem dX6_cut_9 : decode cX6_cut 9 = .ok (.iconst 0, 1) := by decide +kernel
theorem dX6_cut_10 : decode cX6_cut 10 = .ok (.bipush 99, 2) := by decide +kernel
theorem dX6_cut_12 : decode cX6_cut 12 = .ok (.invokestatic 92, 3) := by decide +kernel
theorem dX6_cut_15 : decode cX6_cut 15 = .ok (.ifCond .eq 17, 3) := by decide +kernel
theorem dX6_cut_18 : decode cX6_cut 18 = .ok (.iload_n 3, 1) := by decide +kernel
theorem dX6_cut_19 : decode cX6_cut 19 = .ok (.iconst 0, 1) := by decide +kernel
theorem dX6_cut_20 : decode cX6_cut 20 = .ok (.bipush 99, 2) := by decide +kernel
theorem dX6_cut_22 : decode cX6_cut 22 = .ok (.invokestatic 92, 3) := by decide +kernel
theorem dX6_cut_25 : decode cX6_cut 25 = .ok (.ifCond .eq 7, 3) := by decide +kernel
theorem dX6_cut_28 : decode cX6_cut 28 = .ok (.iconst 1, 1) := by decide +kernel
theorem dX6_cut_29 : decode cX6_cut 29 = .ok (.goto 4, 3) := by decide +kernel
theorem dX6_cut_32 : decode cX6_cut 32 = .ok (.iconst 0, 1) := by decide +kernel
theorem dX6_cut_33 : decode cX6_cut 33 = .ok (.invokestatic 96, 3) := by decide +kernel
theorem dX6_cut_36 : decode cX6_cut 36 = .ok (.iload 4, 2) := by decide +kernel
theorem dX6_cut_38 : decode cX6_cut 38 = .ok (.iconst 0, 1) := by decide +kernel
theorem dX6_cut_39 : decode cX6_cut 39 = .ok (.bipush 9, 2) := by decide +kernel
theorem dX6_cut_41 : decode cX6_cut 41 = .ok (.invokestatic 92, 3) := by decide +kernel
theorem dX6_cut_44 : decode cX6_cut 44 = .ok (.ifCond .eq 19, 3) := by decide +kernel
theorem dX6_cut_47 : decode cX6_cut 47 = .ok (.iload 5, 2) := by decide +kernel
theorem dX6_cut_49 : decode cX6_cut 49 = .ok (.iconst 0, 1) := by decide +kernel
theorem dX6_cut_50 : decode cX6_cut 50 = .ok (.sipush 999, 3) := by decide +kernel
theorem dX6_cut_53 : decode cX6_cut 53 = .ok (.invokestatic 92, 3) := by decide +kernel
theorem dX6_cut_56 : decode cX6_cut 56 = .ok (.ifCond .eq 7, 3) := by decide +kernel
theorem dX6_cut_59 : decode cX6_cut 59 = .ok (.iconst 1, 1) := by decide +kernel
theorem dX6_cut_60 : decode cX6_cut 60 = .ok (.goto 4, 3) := by decide +kernel
theorem dX6_cut_63 : decode cX6_cut 63 = .ok (.iconst 0, 1) := by decide +kernel
theorem dX6_cut_64 : decode cX6_cut 64 = .ok (.invokestatic 96, 3) := by decide +kernel
theorem dX6_cut_67 : decode cX6_cut 67 = .ok (.aload_n 0, 1) := by decide +kernel
theorem dX6_cut_68 : decode cX6_cut 68 = .ok (.getfield 10, 3) := by decide +kernel
theorem dX6_cut_71 : decode cX6_cut 71 = .ok (.getfield 261, 3) := by decide +kernel
theorem dX6_cut_74 : decode cX6_cut 74 = .ok (.iconst 1, 1) := by decide +kernel
theorem dX6_cut_75 : decode cX6_cut 75 = .ok (.iadd, 1) := by decide +kernel
theorem dX6_cut_76 : decode cX6_cut 76 = .ok (.iload 5, 2) := by decide +kernel
theorem dX6_cut_78 : decode cX6_cut 78 = .ok (.if_icmp .lt 7, 3) := by decide +kernel
theorem dX6_cut_81 : decode cX6_cut 81 = .ok (.iconst 0, 1) := by decide +kernel
theorem dX6_cut_82 : decode cX6_cut 82 = .ok (.goto 5, 3) := by decide +kernel
theorem dX6_cut_85 : decode cX6_cut 85 = .ok (.iload 4, 2) := by decide +kernel
theorem dX6_cut_87 : decode cX6_cut 87 = .ok (.istore 6, 2) := by decide +kernel
theorem dX6_cut_89 : decode cX6_cut 89 = .ok (.iconst 0, 1) := by decide +kernel
theorem dX6_cut_90 : decode cX6_cut 90 = .ok (.istore 7, 2) := by decide +kernel
theorem dX6_cut_92 : decode cX6_cut 92 = .ok (.iconst 0, 1) := by decide +kernel
theorem dX6_cut_93 : decode cX6_cut 93 = .ok (.istore 8, 2) := by decide +kernel
theorem dX6_cut_95 : decode cX6_cut 95 = .ok (.iload 8, 2) := by decide +kernel
theorem dX6_cut_97 : decode cX6_cut 97 = .ok (.bipush 9, 2) := by decide +kernel
theorem dX6_cut_99 : decode cX6_cut 99 = .ok (.if_icmp .ge 53, 3) := by decide +kernel
theorem dX6_cut_102 : decode cX6_cut 102 = .ok (.iload_n 2, 1) := by decide +kernel
theorem dX6_cut_103 : decode cX6_cut 103 = .ok (.iload 8, 2) := by decide +kernel
theorem dX6_cut_105 : decode cX6_cut 105 = .ok (.iconst 3, 1) := by decide +kernel
theorem dX6_cut_106 : decode cX6_cut 106 = .ok (.irem, 1) := by decide +kernel
theorem dX6_cut_107 : decode cX6_cut 107 = .ok (.iadd, 1) := by decide +kernel
theorem dX6_cut_108 : decode cX6_cut 108 = .ok (.iconst 1, 1) := by decide +kernel
theorem dX6_cut_109 : decode cX6_cut 109 = .ok (.isub, 1) := by decide +kernel
theorem dX6_cut_110 : decode cX6_cut 110 = .ok (.iload 6, 2) := by decide +kernel
theorem dX6_cut_112 : decode cX6_cut 112 = .ok (.iadd, 1) := by decide +kernel
theorem dX6_cut_113 : decode cX6_cut 113 = .ok (.bipush 100, 2) := by decide +kernel
theorem dX6_cut_115 : decode cX6_cut 115 = .ok (.invokestatic 294, 3) := by decide +kernel
theorem dX6_cut_118 : decode cX6_cut 118 = .ok (.istore 9, 2) := by decide +kernel
theorem dX6_cut_120 : decode cX6_cut 120 = .ok (.iload 7, 2) := by decide +kernel
theorem dX6_cut_122 : decode cX6_cut 122 = .ok (.iload 9, 2) := by decide +kernel
theorem dX6_cut_124 : decode cX6_cut 124 = .ok (.iload_n 3, 1) := by decide +kernel
theorem dX6_cut_125 : decode cX6_cut 125 = .ok (.if_icmp .ne 17, 3) := by decide +kernel
theorem dX6_cut_128 : decode cX6_cut 128 = .ok (.aload_n 0, 1) := by decide +kernel
theorem dX6_cut_129 : decode cX6_cut 129 = .ok (.getfield 42, 3) := by decide +kernel
theorem dX6_cut_132 : decode cX6_cut 132 = .ok (.iload_n 1, 1) := by decide +kernel
theorem dX6_cut_133 : decode cX6_cut 133 = .ok (.iaload, 1) := by decide +kernel
theorem dX6_cut_134 : decode cX6_cut 134 = .ok (.iload 8, 2) := by decide +kernel
theorem dX6_cut_136 : decode cX6_cut 136 = .ok (.invokestatic 219, 3) := by decide +kernel
theorem dX6_cut_139 : decode cX6_cut 139 = .ok (.goto 4, 3) := by decide +kernel
theorem dX6_cut_142 : decode cX6_cut 142 = .ok (.iconst 0, 1) := by decide +kernel
theorem dX6_cut_143 : decode cX6_cut 143 = .ok (.iadd, 1) := by decide +kernel
theorem dX6_cut_144 : decode cX6_cut 144 = .ok (.istore 7, 2) := by decide +kernel
theorem dX6_cut_146 : decode cX6_cut 146 = .ok (.iinc 8 1, 3) := by decide +kernel
theorem dX6_cut_149 : decode cX6_cut 149 = .ok (.goto (-54), 3) := by decide +kernel
theorem dX6_cut_152 : decode cX6_cut 152 = .ok (.iload 7, 2) := by decide +kernel
theorem dX6_cut_154 : decode cX6_cut 154 = .ok (.ireturn, 1) := by decide +kernel
theorem dX6_restore_0 : decode cX6_restore 0 = .ok (.aload_n 0, 1) := by decide +kernel
theorem dX6_restore_1 : decode cX6_restore 1 = .ok (.getfield 23, 3) := by decide +kernel
theorem dX6_restore_4 : decode cX6_restore 4 = .ok (.ifCond .gt 5, 3) := by decide +kernel
theorem dX6_restore_7 : decode cX6_restore 7 = .ok (.iconst (-1), 1) := by decide +kernel
theorem dX6_restore_8 : decode cX6_restore 8 = .ok (.ireturn, 1) := by decide +kernel
theorem dX6_restore_9 : decode cX6_restore 9 = .ok (.aload_n 0, 1) := by decide +kernel
theorem dX6_restore_10 : decode cX6_restore 10 = .ok (.dup, 1) := by decide +kernel
theorem dX6_restore_11 : decode cX6_restore 11 = .ok (.getfield 23, 3) := by decide +kernel
theorem dX6_restore_14 : decode cX6_restore 14 = .ok (.iconst 1, 1) := by decide +kernel
theorem dX6_restore_15 : decode cX6_restore 15 = .ok (.isub, 1) := by decide +kernel
theorem dX6_restore_16 : decode cX6_restore 16 = .ok (.putfield 23, 3) := by decide +kernel
theorem dX6_restore_19 : decode cX6_restore 19 = .ok (.aload_n 0, 1) := by decide +kernel
theorem dX6_restore_20 : decode cX6_restore 20 = .ok (.getfield 10, 3) := by decide +kernel
theorem dX6_restore_23 : decode cX6_restore 23 = .ok (.aload_n 0, 1) := by decide +kernel
theorem dX6_restore_24 : decode cX6_restore 24 = .ok (.getfield 19, 3) := by decide +kernel
theorem dX6_restore_27 : decode cX6_restore 27 = .ok (.aload_n 0, 1) := by decide +kernel
theorem dX6_restore_28 : decode cX6_restore 28 = .ok (.getfield 23, 3) := by decide +kernel
theorem dX6_restore_31 : decode cX6_restore 31 = .ok (.aaload, 1) := by decide +kernel
theorem dX6_restore_32 : decode cX6_restore 32 = .ok (.invokevirtual 266, 3) := by decide +kernel
theorem dX6_restore_35 : decode cX6_restore 35 = .ok (.aload_n 0, 1) := by decide +kernel
theorem dX6_restore_36 : decode cX6_restore 36 = .ok (.getfield 23, 3) := by decide +kernel
theorem dX6_restore_39 : decode cX6_restore 39 = .ok (.ireturn, 1) := by decide +kernel
set_option maxHeartbeats 4000000 in
set_option maxRecDepth 100000 in
theorem c_X6_wire (l : Launch) (hls : l.stackTraces = false) (D : va_G) (K : Nat → ClassId) (b0 : Nat) (sa : Nat × Nat × Nat) (sz : Nat) (L : List Nat) (f0 : Nat → va_E) (Ψ : Nat → Nat) (hT : TW K (gof gX1) Ψ L f0) (x : Nat) (hm_x : x ∈ L) (ht_x : Ψ x = 6) (th : Int32) (is_ : Int32) (hl_is_ : 0 ≤ is_.toInt) (hh_is_ : is_.toInt ≤ 1) : vx_Met l yX6_wire (.code yX6_wire cX6_wire 4 (some .boolean) :: gt) { frames := 7, cells := 1, slots := 6, locals := 103 } (va_Pc [.ref x, .int th, .int is_] (hPre D K b0 sa sz L f0)) (hQ D K b0 (fun v9 u9 => ∃ (r : Int32) (f2 : Nat → va_E), v9 = some (.int r) ∧ u9 = ((gof gX1), Ψ, L, f2) ∧ TW K (gof gX1) Ψ L f2 ∧ rawk Ψ L f0 f2 ∧ (r = 0 ∧ (False)))) (hX D K b0 (fun E u9 => ∃ f2 : Nat → va_E, u9 = ((gof gX1), Ψ, L, f2) ∧ TW K (gof gX1) Ψ L f2 ∧ rawk Ψ L f0 f2 ∧ (E = "java/util/NoSuchElementException"))) 1 6 (fun q => b0 ≤ q) := by
  refine t_xof (own := RX6) (by decide) rfl ?_ (Nat.le_of_ble_eq_true rfl)
  intro p e s m below meth c ls C w hsz hr hlk htb hl
  have hx := C.1
  have hb := C.2.1
  have hl : lv_has ls 4 [(0, .ref x), (1, .int th), (2, .int is_)] := hl
  have hb_th := ti_bd th
  have hb_is_ := ti_bd is_
  have hR : rawk Ψ L f0 f0 := rawk.rf
  refine lv_iload_n hx hb dX6_wire_0 rfl (lv_at hl 1 rfl) ?_
  refine lv_aload_n hx hb dX6_wire_1 rfl (lv_at hl 0 rfl) ?_
  refine t_getr C w hT hm_x ht_x (by decide) rfl cin_6 0 (by decide) rfl gw_287 dX6_wire_2 (fun q1 hm_q1 ht_q1 => ?_)
  refine t_getr C w hT hm_q1 ht_q1 (by decide) rfl cin_0 0 (by decide) rfl gw_89 dX6_wire_5 (fun q2 hm_q2 ht_q2 => ?_)
  refine t_geti C w hT hm_q2 ht_q2 (by decide) rfl cin_2 0 (by decide) rfl rfl gw_47 dX6_wire_8 (fun x3 hg => ?_)
  obtain rfl : x3 = 0 := gof_at rfl hg
  have n0 : (0 : Int32).toInt = 0 := by decide
  refine t_xcallS (n := 2) C w (c_X6_needElement l hls D K b0 sa _ L _ Ψ (gof gX1) hT th) gw_656 gw_654 gw_655 gw_1 ⟨by decide, by decide, by decide +kernel⟩ rfl rfl ⟨by decide, by decide⟩ rfl hl.1 rfl (Nat.le_of_ble_eq_true rfl) dX6_wire_11 ⟨by decide, by decide⟩ (fun E ce q9 u H locs hp w hcell hv0 hcl => ?_) (fun v u H locs hp w => ?_)
  · obtain ⟨f2, rfl, hT2, hR1, hpx⟩ := hp
    have hR := hR.tr hR1
    obtain rfl := hpx
    exact t_xout w htb hlk hcell hv0 hcl ⟨_, rfl, hT2, hR, rfl⟩ (by decide) (by decide)
  ·
    obtain ⟨rfl, rfl, hpv0⟩ := hp
    exact hpv0.elim
set_option maxHeartbeats 4000000 in
set_option maxRecDepth 100000 in
theorem c_X6_key (l : Launch) (hls : l.stackTraces = false) (D : va_G) (K : Nat → ClassId) (b0 : Nat) (sa : Nat × Nat × Nat) (sz : Nat) (L : List Nat) (f0 : Nat → va_E) (Ψ : Nat → Nat) (hT : TW K (gof gX1) Ψ L f0) (x : Nat) (hm_x : x ∈ L) (ht_x : Ψ x = 6) (th : Int32) : vx_Met l yX6_key (.code yX6_key cX6_key 2 (some .int) :: gt) { frames := 7, cells := 1, slots := 6, locals := 103 } (va_Pc [.ref x, .int th] (hPre D K b0 sa sz L f0)) (hQ D K b0 (fun v9 u9 => ∃ (r : Int32) (f2 : Nat → va_E), v9 = some (.int r) ∧ u9 = ((gof gX1), Ψ, L, f2) ∧ TW K (gof gX1) Ψ L f2 ∧ rawk Ψ L f0 f2 ∧ (r = 0 ∧ (False)))) (hX D K b0 (fun E u9 => ∃ f2 : Nat → va_E, u9 = ((gof gX1), Ψ, L, f2) ∧ TW K (gof gX1) Ψ L f2 ∧ rawk Ψ L f0 f2 ∧ (E = "java/util/NoSuchElementException"))) 1 6 (fun q => b0 ≤ q) := by
  refine t_xof (own := RX6) (by decide) rfl ?_ (Nat.le_of_ble_eq_true rfl)
  intro p e s m below meth c ls C w hsz hr hlk htb hl
  have hx := C.1
  have hb := C.2.1
  have hl : lv_has ls 2 [(0, .ref x), (1, .int th)] := hl
  have hb_th := ti_bd th
  have hR : rawk Ψ L f0 f0 := rawk.rf
  refine lv_iload_n hx hb dX6_key_0 rfl (lv_at hl 1 rfl) ?_
  refine lv_aload_n hx hb dX6_key_1 rfl (lv_at hl 0 rfl) ?_
  refine t_getr C w hT hm_x ht_x (by decide) rfl cin_6 0 (by decide) rfl gw_287 dX6_key_2 (fun q1 hm_q1 ht_q1 => ?_)
  refine t_getr C w hT hm_q1 ht_q1 (by decide) rfl cin_0 0 (by decide) rfl gw_89 dX6_key_5 (fun q2 hm_q2 ht_q2 => ?_)
  refine t_geti C w hT hm_q2 ht_q2 (by decide) rfl cin_2 0 (by decide) rfl rfl gw_47 dX6_key_8 (fun x3 hg => ?_)
  obtain rfl : x3 = 0 := gof_at rfl hg
  have n0 : (0 : Int32).toInt = 0 := by decide
  refine t_xcallS (n := 2) C w (c_X6_needElement l hls D K b0 sa _ L _ Ψ (gof gX1) hT th) gw_656 gw_654 gw_655 gw_1 ⟨by decide, by decide, by decide +kernel⟩ rfl rfl ⟨by decide, by decide⟩ rfl hl.1 rfl (Nat.le_of_ble_eq_true rfl) dX6_key_11 ⟨by decide, by decide⟩ (fun E ce q9 u H locs hp w hcell hv0 hcl => ?_) (fun v u H locs hp w => ?_)
  · obtain ⟨f2, rfl, hT2, hR1, hpx⟩ := hp
    have hR := hR.tr hR1
    obtain rfl := hpx
    exact t_xout w htb hlk hcell hv0 hcl ⟨_, rfl, hT2, hR, rfl⟩ (by decide) (by decide)
  ·
    obtain ⟨rfl, rfl, hpv0⟩ := hp
    exact hpv0.elim
set_option maxHeartbeats 4000000 in
set_option maxRecDepth 100000 in
theorem c_X6_thing (l : Launch) (hls : l.stackTraces = false) (D : va_G) (K : Nat → ClassId) (b0 : Nat) (sa : Nat × Nat × Nat) (sz : Nat) (L : List Nat) (f0 : Nat → va_E) (Ψ : Nat → Nat) (hT : TW K (gof gX1) Ψ L f0) (x : Nat) (hm_x : x ∈ L) (ht_x : Ψ x = 6) (th : Int32) (wh : Int32) : vx_Met l yX6_thing (.code yX6_thing cX6_thing 3 (some .int) :: gt) { frames := 7, cells := 1, slots := 6, locals := 103 } (va_Pc [.ref x, .int th, .int wh] (hPre D K b0 sa sz L f0)) (hQ D K b0 (fun v9 u9 => ∃ (r : Int32) (f2 : Nat → va_E), v9 = some (.int r) ∧ u9 = ((gof gX1), Ψ, L, f2) ∧ TW K (gof gX1) Ψ L f2 ∧ rawk Ψ L f0 f2 ∧ (r = 0 ∧ (False)))) (hX D K b0 (fun E u9 => ∃ f2 : Nat → va_E, u9 = ((gof gX1), Ψ, L, f2) ∧ TW K (gof gX1) Ψ L f2 ∧ rawk Ψ L f0 f2 ∧ (E = "java/util/NoSuchElementException"))) 1 6 (fun q => b0 ≤ q) := by
  refine t_xof (own := RX6) (by decide) rfl ?_ (Nat.le_of_ble_eq_true rfl)
  intro p e s m below meth c ls C w hsz hr hlk htb hl
  have hx := C.1
  have hb := C.2.1
  have hl : lv_has ls 3 [(0, .ref x), (1, .int th), (2, .int wh)] := hl
  have hb_th := ti_bd th
  have hb_wh := ti_bd wh
  have hR : rawk Ψ L f0 f0 := rawk.rf
  refine lv_iload_n hx hb dX6_thing_0 rfl (lv_at hl 1 rfl) ?_
  refine lv_aload_n hx hb dX6_thing_1 rfl (lv_at hl 0 rfl) ?_
  refine t_getr C w hT hm_x ht_x (by decide) rfl cin_6 0 (by decide) rfl gw_287 dX6_thing_2 (fun q1 hm_q1 ht_q1 => ?_)
  refine t_getr C w hT hm_q1 ht_q1 (by decide) rfl cin_0 0 (by decide) rfl gw_89 dX6_thing_5 (fun q2 hm_q2 ht_q2 => ?_)
  refine t_geti C w hT hm_q2 ht_q2 (by decide) rfl cin_2 0 (by decide) rfl rfl gw_47 dX6_thing_8 (fun x3 hg => ?_)
  obtain rfl : x3 = 0 := gof_at rfl hg
  have n0 : (0 : Int32).toInt = 0 := by decide
  refine t_xcallS (n := 2) C w (c_X6_needElement l hls D K b0 sa _ L _ Ψ (gof gX1) hT th) gw_656 gw_654 gw_655 gw_1 ⟨by decide, by decide, by decide +kernel⟩ rfl rfl ⟨by decide, by decide⟩ rfl hl.1 rfl (Nat.le_of_ble_eq_true rfl) dX6_thing_11 ⟨by decide, by decide⟩ (fun E ce q9 u H locs hp w hcell hv0 hcl => ?_) (fun v u H locs hp w => ?_)
  · obtain ⟨f2, rfl, hT2, hR1, hpx⟩ := hp
    have hR := hR.tr hR1
    obtain rfl := hpx
    exact t_xout w htb hlk hcell hv0 hcl ⟨_, rfl, hT2, hR, rfl⟩ (by decide) (by decide)
  ·
    obtain ⟨rfl, rfl, hpv0⟩ := hp
    exact hpv0.elim
set_option maxHeartbeats 4000000 in
set_option maxRecDepth 100000 in
theorem c_X6_top (l : Launch) (hls : l.stackTraces = false) (D : va_G) (K : Nat → ClassId) (b0 : Nat) (sa : Nat × Nat × Nat) (sz : Nat) (L : List Nat) (f0 : Nat → va_E) (Ψ : Nat → Nat) (hT : TW K (gof gX1) Ψ L f0) (x : Nat) (hm_x : x ∈ L) (ht_x : Ψ x = 6) (ce : Int32) (he : Int32) (hl_he : 0 ≤ he.toInt) (hh_he : he.toInt ≤ 1) : vx_Met l yX6_top (.code yX6_top cX6_top 4 (some .int) :: gt) { frames := 7, cells := 1, slots := 6, locals := 102 } (va_Pc [.ref x, .int ce, .int he] (hPre D K b0 sa sz L f0)) (hQ D K b0 (fun v9 u9 => ∃ (r : Int32) (f2 : Nat → va_E), v9 = some (.int r) ∧ u9 = ((gof gX1), Ψ, L, f2) ∧ TW K (gof gX1) Ψ L f2 ∧ rawk Ψ L f0 f2 ∧ ((r = 0 ∧ (0 ≤ ce.toInt) ∧ (ce.toInt ≤ 63) ∧ (he.toInt = 1)) ∨ (r = (-1) ∧ (0 ≤ ce.toInt) ∧ (ce.toInt ≤ 63) ∧ (he.toInt = 0))))) (hX D K b0 (fun E u9 => ∃ f2 : Nat → va_E, u9 = ((gof gX1), Ψ, L, f2) ∧ TW K (gof gX1) Ψ L f2 ∧ rawk Ψ L f0 f2 ∧ (E = "java/lang/IndexOutOfBoundsException" ∧ (¬ (0 ≤ ce.toInt ∧ ce.toInt ≤ 63))))) 1 6 (fun q => b0 ≤ q) := by
  refine t_xof (own := RX6) (by decide) rfl ?_ (Nat.le_of_ble_eq_true rfl)
  intro p e s m below meth c ls C w hsz hr hlk htb hl
  have hx := C.1
  have hb := C.2.1
  have hl : lv_has ls 4 [(0, .ref x), (1, .int ce), (2, .int he)] := hl
  have hb_ce := ti_bd ce
  have hb_he := ti_bd he
  have hR : rawk Ψ L f0 f0 := rawk.rf
  refine lv_iload_n hx hb dX6_top_0 rfl (lv_at hl 1 rfl) ?_
  refine t_xcallS (n := 1) C w (c_X6_needCell l hls D K b0 sa _ L _ Ψ (gof gX1) hT ce) gw_554 gw_552 gw_553 gw_1 ⟨by decide, by decide, by decide +kernel⟩ rfl rfl ⟨by decide, by decide⟩ rfl hl.1 rfl (Nat.le_of_ble_eq_true rfl) dX6_top_1 ⟨by decide, by decide⟩ (fun E ce q9 u H locs hp w hcell hv0 hcl => ?_) (fun v u H locs hp w => ?_)
  · obtain ⟨f2, rfl, hT2, hR1, hpx⟩ := hp
    have hR := hR.tr hR1
    obtain ⟨rfl, hx0⟩ := hpx
    exact t_xout w htb hlk hcell hv0 hcl ⟨_, rfl, hT2, hR, ⟨rfl, (by omega)⟩⟩ (by decide) (by decide)
  ·
    obtain ⟨rfl, rfl, hpv0, hpv1⟩ := hp
    refine lv_aload_n hx hb dX6_top_4 rfl (lv_at hl 0 rfl) ?_
    refine t_getr C w hT hm_x ht_x (by decide) rfl cin_6 0 (by decide) rfl gw_287 dX6_top_5 (fun q1 hm_q1 ht_q1 => ?_)
    refine t_getr C w hT hm_q1 ht_q1 (by decide) rfl cin_0 0 (by decide) rfl gw_89 dX6_top_8 (fun q2 hm_q2 ht_q2 => ?_)
    refine t_getr C w hT hm_q2 ht_q2 (by decide) rfl cin_2 8 (by decide) rfl gw_65 dX6_top_11 (fun q3 hm_q3 ht_q3 => ?_)
    refine lv_iload_n hx hb dX6_top_14 rfl (lv_at hl 1 rfl) ?_
    refine t_iald C w hT hm_q3 ht_q3 (by decide) (by decide) rfl (vp_in_iff.mpr ⟨by omega, (show _ < ((64 : Nat) : Int) by omega)⟩) dX6_top_15 (fun x4 hg => ?_)
    obtain rfl : x4 = (-1) := gof_at rfl hg
    refine lv_istore_n (lv' := [(3, .int (-1)), (0, .ref x), (1, .int ce), (2, .int he)]) hx hb dX6_top_16 rfl hl (by decide) rfl (fun ls hl => ?_)
    refine lv_iload_n hx hb dX6_top_17 rfl (lv_at hl 3 rfl) ?_
    have n0 : (0 : Int32).toInt = 0 := by decide
    refine lv_if_eq (tgt := 37) hx hb dX6_top_18 (by decide) (fun c5 => ?_) (fun c5 => ?_)
    · have c5 := eq_toInt c5
      refine lv_iload_n hx hb dX6_top_37 rfl (lv_at hl 0 rfl) ?_
      have nm1 : ((-1) : Int32).toInt = -1 := by decide
      refine vx_ret ?_
      exact t_iret C hr hlk w ⟨_, _, rfl, rfl, hT, hR, Or.inr (⟨rfl, (by omega), (by omega), (by omega)⟩)⟩ (by decide) (by decide) dX6_top_38
    · have c5 := ne_toInt c5
      refine lv_aload_n hx hb dX6_top_21 rfl (lv_at hl 1 rfl) ?_
      refine t_getr C w hT hm_x ht_x (by decide) rfl cin_6 0 (by decide) rfl gw_287 dX6_top_22 (fun q6 hm_q6 ht_q6 => ?_)
      refine t_getr C w hT hm_q6 ht_q6 (by decide) rfl cin_0 0 (by decide) rfl gw_89 dX6_top_25 (fun q7 hm_q7 ht_q7 => ?_)
      refine lv_iload_n hx hb dX6_top_28 rfl (lv_at hl 0 rfl) ?_
      have nm1 : ((-1) : Int32).toInt = -1 := by decide
      refine t_callV (n := 1) C w hT hm_q7 ht_q7 (by decide) rfl rfl (c_X2_levelOf l D K b0 sa _ L _ Ψ hT q7 hm_q7 ht_q7 (-1)) gw_438 gw_695 gw_436 gw_437 gw_3 ⟨by decide, by decide, by decide +kernel⟩ rfl rfl ⟨by decide, by decide⟩ rfl hl.1 rfl (Nat.le_of_ble_eq_true rfl) dX6_top_29 ⟨by decide, by decide⟩ (fun v u H locs hp w => ?_)
      obtain ⟨r8, rfl, rfl, hrr8⟩ := hp
      obtain rfl := hrr8
      refine lv_iconst (v := 1) hx hb dX6_top_32 (by decide) ?_
      refine lv_iadd hx hb dX6_top_33 ?_
      refine lv_topi (fun y9 ey9 => ?_)
      obtain rfl : y9 = 0 := ey9.trans (by decide)
      refine lv_goto (tgt := 38) hx hb dX6_top_34 (by decide) ?_
      refine vx_ret ?_
      exact t_iret C hr hlk w ⟨_, _, rfl, rfl, hT, hR, Or.inl ⟨rfl, (by omega), (by omega), (by omega)⟩⟩ (by decide) (by decide) dX6_top_38
set_option maxHeartbeats 4000000 in
set_option maxRecDepth 100000 in
theorem c_X6_hole (l : Launch) (hls : l.stackTraces = false) (D : va_G) (K : Nat → ClassId) (b0 : Nat) (sa : Nat × Nat × Nat) (sz : Nat) (L : List Nat) (f0 : Nat → va_E) (Ψ : Nat → Nat) (hT : TW K (gof gX1) Ψ L f0) (x : Nat) (hm_x : x ∈ L) (ht_x : Ψ x = 6) (ce : Int32) : vx_Met l yX6_hole (.code yX6_hole cX6_hole 3 (some .int) :: gt) { frames := 7, cells := 2, slots := 12, locals := 102 } (va_Pc [.ref x, .int ce] (hPre D K b0 sa sz L f0)) (hQ D K b0 (fun v9 u9 => ∃ (r : Int32) (f2 : Nat → va_E), v9 = some (.int r) ∧ u9 = ((gof gM0), Ψ, L, f2) ∧ TW K (gof gM0) Ψ L f2 ∧ rawk Ψ L f0 f2 ∧ (r = 63 ∧ (0 ≤ ce.toInt) ∧ (ce.toInt ≤ 63)))) (hX D K b0 (fun E u9 => ∃ f2 : Nat → va_E, u9 = ((gof gM0), Ψ, L, f2) ∧ TW K (gof gM0) Ψ L f2 ∧ rawk Ψ L f0 f2 ∧ (E = "java/lang/IndexOutOfBoundsException" ∧ (¬ (0 ≤ ce.toInt ∧ ce.toInt ≤ 63))))) 2 12 (fun q => b0 ≤ q) := by
  refine t_xof (own := RX6) (by decide) rfl ?_ (Nat.le_of_ble_eq_true rfl)
  intro p e s m below meth c ls C w hsz hr hlk htb hl
  have hx := C.1
  have hb := C.2.1
  have hl : lv_has ls 3 [(0, .ref x), (1, .int ce)] := hl
  have hb_ce := ti_bd ce
  have hR : rawk Ψ L f0 f0 := rawk.rf
  refine lv_iload_n hx hb dX6_hole_0 rfl (lv_at hl 1 rfl) ?_
  refine t_xcallS (n := 1) C w (c_X6_needCell l hls D K b0 sa _ L _ Ψ (gof gX1) hT ce) gw_554 gw_552 gw_553 gw_1 ⟨by decide, by decide, by decide +kernel⟩ rfl rfl ⟨by decide, by decide⟩ rfl hl.1 rfl (Nat.le_of_ble_eq_true rfl) dX6_hole_1 ⟨by decide, by decide⟩ (fun E ce q9 u H locs hp w hcell hv0 hcl => ?_) (fun v u H locs hp w => ?_)
  · obtain ⟨f2, rfl, hT2, hR1, hpx⟩ := hp
    have hR := hR.tr hR1
    obtain ⟨rfl, hx0⟩ := hpx
    exact t_xout w htb hlk hcell hv0 hcl ⟨_, rfl, (hT2.mono (gof_sub rfl)), hR, ⟨rfl, (by omega)⟩⟩ (by decide) (by decide)
  ·
    obtain ⟨rfl, rfl, hpv0, hpv1⟩ := hp
    refine lv_aload_n hx hb dX6_hole_4 rfl (lv_at hl 0 rfl) ?_
    refine t_getr C w hT hm_x ht_x (by decide) rfl cin_6 0 (by decide) rfl gw_287 dX6_hole_5 (fun q1 hm_q1 ht_q1 => ?_)
    refine t_getr C w hT hm_q1 ht_q1 (by decide) rfl cin_0 0 (by decide) rfl gw_89 dX6_hole_8 (fun q2 hm_q2 ht_q2 => ?_)
    refine t_getr C w hT hm_q2 ht_q2 (by decide) rfl cin_2 8 (by decide) rfl gw_65 dX6_hole_11 (fun q3 hm_q3 ht_q3 => ?_)
    refine lv_iload_n hx hb dX6_hole_14 rfl (lv_at hl 1 rfl) ?_
    refine t_iald C w hT hm_q3 ht_q3 (by decide) (by decide) rfl (vp_in_iff.mpr ⟨by omega, (show _ < ((64 : Nat) : Int) by omega)⟩) dX6_hole_15 (fun x4 hg => ?_)
    obtain rfl : x4 = (-1) := gof_at rfl hg
    refine lv_iconst (v := (-1)) hx hb dX6_hole_16 (by decide) ?_
    refine lv_icmp_ne (tgt := 24) hx hb dX6_hole_17 (by decide) (fun c0 => absurd c0 (by decide)) (fun _ => ?_)
    refine lv_iconst (v := 1) hx hb dX6_hole_20 (by decide) ?_
    refine lv_goto (tgt := 25) hx hb dX6_hole_21 (by decide) ?_
    have n1 : (1 : Int32).toInt = 1 := by decide
    refine t_xcallS (n := 1) C w (c_X6_need l hls D K b0 sa _ L _ Ψ (gof gX1) hT 1) gw_625 gw_623 gw_624 gw_1 ⟨by decide, by decide, by decide +kernel⟩ rfl rfl ⟨by decide, by decide⟩ rfl hl.1 rfl (Nat.le_of_ble_eq_true rfl) dX6_hole_25 ⟨by decide, by decide⟩ (fun E ce q9 u H locs hp w hcell hv0 hcl => ?_) (fun v u H locs hp w => ?_)
    · obtain ⟨f2, rfl, hT2, hR1, hpx⟩ := hp
      have hR := hR.tr hR1
      obtain ⟨rfl, hx0⟩ := hpx
      exfalso; omega
    ·
      obtain ⟨rfl, rfl, hpv0⟩ := hp
      refine lv_aload_n hx hb dX6_hole_28 rfl (lv_at hl 0 rfl) ?_
      refine t_getr C w hT hm_x ht_x (by decide) rfl cin_6 0 (by decide) rfl gw_287 dX6_hole_29 (fun q5 hm_q5 ht_q5 => ?_)
      refine t_geti C w hT hm_q5 ht_q5 (by decide) rfl cin_0 1 (by decide) rfl rfl gw_92 dX6_hole_32 (fun x6 hg => ?_)
      obtain rfl : x6 = 63 := gof_at rfl hg
      refine lv_istore_n (lv' := [(2, .int 63), (0, .ref x), (1, .int ce)]) hx hb dX6_hole_35 rfl hl (by decide) rfl (fun ls hl => ?_)
      refine lv_aload_n hx hb dX6_hole_36 rfl (lv_at hl 1 rfl) ?_
      refine t_getr C w hT hm_x ht_x (by decide) rfl cin_6 0 (by decide) rfl gw_287 dX6_hole_37 (fun q7 hm_q7 ht_q7 => ?_)
      refine lv_iload_n hx hb dX6_hole_40 rfl (lv_at hl 2 rfl) ?_
      have hT := hT.mono (gof_sub (l2 := (gdrop 1 gX1)) rfl)
      refine t_puti C w hT hm_q7 ht_q7 (by decide) rfl cin_0 tyX0 tyX0_ok nmX0 1 (by decide) rfl rfl rfl rfl rfl (gof_no rfl) gw_92 dX6_hole_41 (fun f H locs w hT hR1 => ?_)
      have hR := hR.tr hR1
      refine lv_iload_n hx hb dX6_hole_44 rfl (lv_at hl 0 rfl) ?_
      have n63 : (63 : Int32).toInt = 63 := by decide
      refine vx_ret ?_
      exact t_iret C hr hlk w ⟨_, _, rfl, rfl, (hT.mono (gof_sub rfl)), hR, ⟨rfl, (by omega), (by omega)⟩⟩ (by decide) (by decide) dX6_hole_45
set_option maxHeartbeats 4000000 in
set_option maxRecDepth 100000 in
theorem c_X6_set (l : Launch) (hls : l.stackTraces = false) (D : va_G) (K : Nat → ClassId) (b0 : Nat) (sa : Nat × Nat × Nat) (sz : Nat) (L : List Nat) (f0 : Nat → va_E) (Ψ : Nat → Nat) (hT : TW K (gof gX1) Ψ L f0) (x : Nat) (hm_x : x ∈ L) (ht_x : Ψ x = 6) (wh : Int32) (va : Int32) : vx_Met l yX6_set (.code yX6_set cX6_set 4 (some .int) :: gt) { frames := 7, cells := 2, slots := 12, locals := 102 } (va_Pc [.ref x, .int wh, .int va] (hPre D K b0 sa sz L f0)) (hQ D K b0 (fun v9 u9 => ∃ (r : Int32) (f2 : Nat → va_E), v9 = some (.int r) ∧ u9 = ((gof gM0), Ψ, L, f2) ∧ TW K (gof gM0) Ψ L f2 ∧ rawk Ψ L f0 f2 ∧ ((r = 14 ∧ (wh.toInt = 0) ∧ (0 ≤ va.toInt ∧ va.toInt ≤ 14)) ∨ (r = 1 ∧ (wh.toInt = 1) ∧ (0 ≤ va.toInt ∧ va.toInt ≤ 99)) ∨ (r = 0 ∧ (wh.toInt = 2) ∧ (0 ≤ va.toInt ∧ va.toInt ≤ 23))))) (hX D K b0 (fun E u9 => ∃ f2 : Nat → va_E, u9 = ((gof gM0), Ψ, L, f2) ∧ TW K (gof gM0) Ψ L f2 ∧ rawk Ψ L f0 f2 ∧ (E = "java/lang/IllegalArgumentException" ∧ (¬ ((wh.toInt = 0 ∧ 0 ≤ va.toInt ∧ va.toInt ≤ 14) ∨ (wh.toInt = 1 ∧ 0 ≤ va.toInt ∧ va.toInt ≤ 99) ∨ (wh.toInt = 2 ∧ 0 ≤ va.toInt ∧ va.toInt ≤ 23)))))) 2 12 (fun q => b0 ≤ q) := by
  refine t_xof (own := RX6) (by decide) rfl ?_ (Nat.le_of_ble_eq_true rfl)
  intro p e s m below meth c ls C w hsz hr hlk htb hl
  have hx := C.1
  have hb := C.2.1
  have hl : lv_has ls 4 [(0, .ref x), (1, .int wh), (2, .int va)] := hl
  have hb_wh := ti_bd wh
  have hb_va := ti_bd va
  have hR : rawk Ψ L f0 f0 := rawk.rf
  refine lv_iload_n hx hb dX6_set_0 rfl (lv_at hl 1 rfl) ?_
  refine lv_iconst (v := 0) hx hb dX6_set_1 (by decide) ?_
  refine lv_iconst (v := 2) hx hb dX6_set_2 (by decide) ?_
  have n0 : (0 : Int32).toInt = 0 := by decide
  have n2 : (2 : Int32).toInt = 2 := by decide
  refine t_callS (n := 3) C w (c_X6_within l D K b0 sa _ L _ Ψ (gof gX1) hT wh 0 2) gw_376 gw_374 gw_375 gw_1 ⟨by decide, by decide, by decide +kernel⟩ rfl rfl ⟨by decide, by decide⟩ rfl hl.1 rfl (Nat.le_of_ble_eq_true rfl) dX6_set_3 ⟨by decide, by decide⟩ (fun v u H locs hp w => ?_)
  obtain ⟨r1, rfl, rfl, hrr1⟩ := hp
  rcases hrr1 with ⟨rfl, hf0_r1, hf1_r1⟩ | ⟨rfl, hf0_r1⟩
  ·
    have n1 : (1 : Int32).toInt = 1 := by decide
    refine t_xcallS (n := 1) C w (c_X6_need l hls D K b0 sa _ L _ Ψ (gof gX1) hT 1) gw_625 gw_623 gw_624 gw_1 ⟨by decide, by decide, by decide +kernel⟩ rfl rfl ⟨by decide, by decide⟩ rfl hl.1 rfl (Nat.le_of_ble_eq_true rfl) dX6_set_6 ⟨by decide, by decide⟩ (fun E ce q9 u H locs hp w hcell hv0 hcl => ?_) (fun v u H locs hp w => ?_)
    · obtain ⟨f2, rfl, hT2, hR1, hpx⟩ := hp
      have hR := hR.tr hR1
      obtain ⟨rfl, hx0⟩ := hpx
      exfalso; omega
    ·
      obtain ⟨rfl, rfl, hpv0⟩ := hp
      refine lv_iload_n hx hb dX6_set_9 rfl (lv_at hl 2 rfl) ?_
      refine lv_iconst (v := 0) hx hb dX6_set_10 (by decide) ?_
      refine lv_iload_n hx hb dX6_set_11 rfl (lv_at hl 1 rfl) ?_
      refine lv_if_ne (tgt := 20) hx hb dX6_set_12 (by decide) (fun c2 => ?_) (fun c2 => ?_)
      · have c2 := ne_toInt c2
        refine lv_iload_n hx hb dX6_set_20 rfl (lv_at hl 1 rfl) ?_
        refine lv_iconst (v := 1) hx hb dX6_set_21 (by decide) ?_
        refine lv_icmp_ne (tgt := 30) hx hb dX6_set_22 (by decide) (fun c3 => ?_) (fun c3 => ?_)
        · have c3 := ne_toInt c3
          refine lv_bipush (v := 23) hx hb dX6_set_30 (by decide) ?_
          have n23 : (23 : Int32).toInt = 23 := by decide
          refine t_callS (n := 3) C w (c_X6_within l D K b0 sa _ L _ Ψ (gof gX1) hT va 0 23) gw_376 gw_374 gw_375 gw_1 ⟨by decide, by decide, by decide +kernel⟩ rfl rfl ⟨by decide, by decide⟩ rfl hl.1 rfl (Nat.le_of_ble_eq_true rfl) dX6_set_32 ⟨by decide, by decide⟩ (fun v u H locs hp w => ?_)
          obtain ⟨r4, rfl, rfl, hrr4⟩ := hp
          rcases hrr4 with ⟨rfl, hf0_r4, hf1_r4⟩ | ⟨rfl, hf0_r4⟩
          ·
            refine t_xcallS (n := 1) C w (c_X6_need l hls D K b0 sa _ L _ Ψ (gof gX1) hT 1) gw_625 gw_623 gw_624 gw_1 ⟨by decide, by decide, by decide +kernel⟩ rfl rfl ⟨by decide, by decide⟩ rfl hl.1 rfl (Nat.le_of_ble_eq_true rfl) dX6_set_35 ⟨by decide, by decide⟩ (fun E ce q9 u H locs hp w hcell hv0 hcl => ?_) (fun v u H locs hp w => ?_)
            · obtain ⟨f2, rfl, hT2, hR1, hpx⟩ := hp
              have hR := hR.tr hR1
              obtain ⟨rfl, hx0⟩ := hpx
              exfalso; omega
            ·
              obtain ⟨rfl, rfl, hpv0⟩ := hp
              refine lv_iload_n hx hb dX6_set_38 rfl (lv_at hl 1 rfl) ?_
              refine lv_if_ne (tgt := 61) hx hb dX6_set_39 (by decide) (fun c5 => ?_) (fun c5 => ?_)
              · have c5 := ne_toInt c5
                refine lv_iload_n hx hb dX6_set_61 rfl (lv_at hl 1 rfl) ?_
                refine lv_iconst (v := 1) hx hb dX6_set_62 (by decide) ?_
                refine lv_icmp_ne (tgt := 85) hx hb dX6_set_63 (by decide) (fun c6 => ?_) (fun c6 => ?_)
                · have c6 := ne_toInt c6
                  refine lv_aload_n hx hb dX6_set_85 rfl (lv_at hl 0 rfl) ?_
                  refine t_getr C w hT hm_x ht_x (by decide) rfl cin_6 0 (by decide) rfl gw_287 dX6_set_86 (fun q7 hm_q7 ht_q7 => ?_)
                  refine t_geti C w hT hm_q7 ht_q7 (by decide) rfl cin_0 4 (by decide) rfl rfl gw_102 dX6_set_89 (fun x8 hg => ?_)
                  obtain rfl : x8 = 0 := gof_at rfl hg
                  refine lv_istore_n (lv' := [(3, .int 0), (0, .ref x), (1, .int wh), (2, .int va)]) hx hb dX6_set_92 rfl hl (by decide) rfl (fun ls hl => ?_)
                  refine lv_aload_n hx hb dX6_set_93 rfl (lv_at hl 1 rfl) ?_
                  refine t_getr C w hT hm_x ht_x (by decide) rfl cin_6 0 (by decide) rfl gw_287 dX6_set_94 (fun q9 hm_q9 ht_q9 => ?_)
                  refine lv_iload_n hx hb dX6_set_97 rfl (lv_at hl 3 rfl) ?_
                  have hT := hT.mono (gof_sub (l2 := (gdrop 4 gX1)) rfl)
                  refine t_puti C w hT hm_q9 ht_q9 (by decide) rfl cin_0 tyX0 tyX0_ok nmX0 4 (by decide) rfl rfl rfl rfl rfl (gof_no rfl) gw_102 dX6_set_98 (fun f H locs w hT hR1 => ?_)
                  have hR := hR.tr hR1
                  refine lv_iload_n hx hb dX6_set_101 rfl (lv_at hl 0 rfl) ?_
                  refine vx_ret ?_
                  exact t_iret C hr hlk w ⟨_, _, rfl, rfl, (hT.mono (gof_sub rfl)), hR, Or.inr (Or.inr (⟨rfl, (by omega), (by omega)⟩))⟩ (by decide) (by decide) dX6_set_102
                · exact absurd (eq_toInt c6) (by omega)
              · exact absurd (eq_toInt c5) (by omega)
          ·
            refine t_xcallS (n := 1) C w (c_X6_need l hls D K b0 sa _ L _ Ψ (gof gX1) hT 0) gw_625 gw_623 gw_624 gw_1 ⟨by decide, by decide, by decide +kernel⟩ rfl rfl ⟨by decide, by decide⟩ rfl hl.1 rfl (Nat.le_of_ble_eq_true rfl) dX6_set_35 ⟨by decide, by decide⟩ (fun E ce q9 u H locs hp w hcell hv0 hcl => ?_) (fun v u H locs hp w => ?_)
            · obtain ⟨f2, rfl, hT2, hR1, hpx⟩ := hp
              have hR := hR.tr hR1
              obtain ⟨rfl, hx0⟩ := hpx
              exact t_xout w htb hlk hcell hv0 hcl ⟨_, rfl, (hT2.mono (gof_sub rfl)), hR, ⟨rfl, (by omega)⟩⟩ (by decide) (by decide)
            ·
              obtain ⟨rfl, rfl, hpv0⟩ := hp
              exfalso; omega
        · have c3 := eq_toInt c3
          refine lv_bipush (v := 99) hx hb dX6_set_25 (by decide) ?_
          refine lv_goto (tgt := 32) hx hb dX6_set_27 (by decide) ?_
          have n99 : (99 : Int32).toInt = 99 := by decide
          refine t_callS (n := 3) C w (c_X6_within l D K b0 sa _ L _ Ψ (gof gX1) hT va 0 99) gw_376 gw_374 gw_375 gw_1 ⟨by decide, by decide, by decide +kernel⟩ rfl rfl ⟨by decide, by decide⟩ rfl hl.1 rfl (Nat.le_of_ble_eq_true rfl) dX6_set_32 ⟨by decide, by decide⟩ (fun v u H locs hp w => ?_)
          obtain ⟨r10, rfl, rfl, hrr10⟩ := hp
          rcases hrr10 with ⟨rfl, hf0_r10, hf1_r10⟩ | ⟨rfl, hf0_r10⟩
          ·
            refine t_xcallS (n := 1) C w (c_X6_need l hls D K b0 sa _ L _ Ψ (gof gX1) hT 1) gw_625 gw_623 gw_624 gw_1 ⟨by decide, by decide, by decide +kernel⟩ rfl rfl ⟨by decide, by decide⟩ rfl hl.1 rfl (Nat.le_of_ble_eq_true rfl) dX6_set_35 ⟨by decide, by decide⟩ (fun E ce q9 u H locs hp w hcell hv0 hcl => ?_) (fun v u H locs hp w => ?_)
            · obtain ⟨f2, rfl, hT2, hR1, hpx⟩ := hp
              have hR := hR.tr hR1
              obtain ⟨rfl, hx0⟩ := hpx
              exfalso; omega
            ·
              obtain ⟨rfl, rfl, hpv0⟩ := hp
              refine lv_iload_n hx hb dX6_set_38 rfl (lv_at hl 1 rfl) ?_
              refine lv_if_ne (tgt := 61) hx hb dX6_set_39 (by decide) (fun c11 => ?_) (fun c11 => ?_)
              · have c11 := ne_toInt c11
                refine lv_iload_n hx hb dX6_set_61 rfl (lv_at hl 1 rfl) ?_
                refine lv_iconst (v := 1) hx hb dX6_set_62 (by decide) ?_
                refine lv_icmp_ne (tgt := 85) hx hb dX6_set_63 (by decide) (fun c12 => ?_) (fun c12 => ?_)
                · exact absurd (ne_toInt c12) (by omega)
                · have c12 := eq_toInt c12
                  refine lv_aload_n hx hb dX6_set_66 rfl (lv_at hl 0 rfl) ?_
                  refine t_getr C w hT hm_x ht_x (by decide) rfl cin_6 0 (by decide) rfl gw_287 dX6_set_67 (fun q13 hm_q13 ht_q13 => ?_)
                  refine t_geti C w hT hm_q13 ht_q13 (by decide) rfl cin_0 3 (by decide) rfl rfl gw_99 dX6_set_70 (fun x14 hg => ?_)
                  obtain rfl : x14 = 1 := gof_at rfl hg
                  refine lv_istore_n (lv' := [(3, .int 1), (0, .ref x), (1, .int wh), (2, .int va)]) hx hb dX6_set_73 rfl hl (by decide) rfl (fun ls hl => ?_)
                  refine lv_aload_n hx hb dX6_set_74 rfl (lv_at hl 1 rfl) ?_
                  refine t_getr C w hT hm_x ht_x (by decide) rfl cin_6 0 (by decide) rfl gw_287 dX6_set_75 (fun q15 hm_q15 ht_q15 => ?_)
                  refine lv_iload_n hx hb dX6_set_78 rfl (lv_at hl 3 rfl) ?_
                  have hT := hT.mono (gof_sub (l2 := (gdrop 3 gX1)) rfl)
                  refine t_puti C w hT hm_q15 ht_q15 (by decide) rfl cin_0 tyX0 tyX0_ok nmX0 3 (by decide) rfl rfl rfl rfl rfl (gof_no rfl) gw_99 dX6_set_79 (fun f H locs w hT hR1 => ?_)
                  have hR := hR.tr hR1
                  refine lv_goto (tgt := 101) hx hb dX6_set_82 (by decide) ?_
                  refine lv_iload_n hx hb dX6_set_101 rfl (lv_at hl 0 rfl) ?_
                  refine vx_ret ?_
                  exact t_iret C hr hlk w ⟨_, _, rfl, rfl, (hT.mono (gof_sub rfl)), hR, Or.inr (Or.inl ⟨rfl, (by omega), (by omega)⟩)⟩ (by decide) (by decide) dX6_set_102
              · exact absurd (eq_toInt c11) (by omega)
          ·
            refine t_xcallS (n := 1) C w (c_X6_need l hls D K b0 sa _ L _ Ψ (gof gX1) hT 0) gw_625 gw_623 gw_624 gw_1 ⟨by decide, by decide, by decide +kernel⟩ rfl rfl ⟨by decide, by decide⟩ rfl hl.1 rfl (Nat.le_of_ble_eq_true rfl) dX6_set_35 ⟨by decide, by decide⟩ (fun E ce q9 u H locs hp w hcell hv0 hcl => ?_) (fun v u H locs hp w => ?_)
            · obtain ⟨f2, rfl, hT2, hR1, hpx⟩ := hp
              have hR := hR.tr hR1
              obtain ⟨rfl, hx0⟩ := hpx
              exact t_xout w htb hlk hcell hv0 hcl ⟨_, rfl, (hT2.mono (gof_sub rfl)), hR, ⟨rfl, (by omega)⟩⟩ (by decide) (by decide)
            ·
              obtain ⟨rfl, rfl, hpv0⟩ := hp
              exfalso; omega
      · have c2 := eq_toInt c2
        refine lv_bipush (v := 14) hx hb dX6_set_15 (by decide) ?_
        refine lv_goto (tgt := 32) hx hb dX6_set_17 (by decide) ?_
        have n14 : (14 : Int32).toInt = 14 := by decide
        refine t_callS (n := 3) C w (c_X6_within l D K b0 sa _ L _ Ψ (gof gX1) hT va 0 14) gw_376 gw_374 gw_375 gw_1 ⟨by decide, by decide, by decide +kernel⟩ rfl rfl ⟨by decide, by decide⟩ rfl hl.1 rfl (Nat.le_of_ble_eq_true rfl) dX6_set_32 ⟨by decide, by decide⟩ (fun v u H locs hp w => ?_)
        obtain ⟨r16, rfl, rfl, hrr16⟩ := hp
        rcases hrr16 with ⟨rfl, hf0_r16, hf1_r16⟩ | ⟨rfl, hf0_r16⟩
        ·
          refine t_xcallS (n := 1) C w (c_X6_need l hls D K b0 sa _ L _ Ψ (gof gX1) hT 1) gw_625 gw_623 gw_624 gw_1 ⟨by decide, by decide, by decide +kernel⟩ rfl rfl ⟨by decide, by decide⟩ rfl hl.1 rfl (Nat.le_of_ble_eq_true rfl) dX6_set_35 ⟨by decide, by decide⟩ (fun E ce q9 u H locs hp w hcell hv0 hcl => ?_) (fun v u H locs hp w => ?_)
          · obtain ⟨f2, rfl, hT2, hR1, hpx⟩ := hp
            have hR := hR.tr hR1
            obtain ⟨rfl, hx0⟩ := hpx
            exfalso; omega
          ·
            obtain ⟨rfl, rfl, hpv0⟩ := hp
            refine lv_iload_n hx hb dX6_set_38 rfl (lv_at hl 1 rfl) ?_
            refine lv_if_ne (tgt := 61) hx hb dX6_set_39 (by decide) (fun c17 => ?_) (fun c17 => ?_)
            · exact absurd (ne_toInt c17) (by omega)
            · have c17 := eq_toInt c17
              refine lv_aload_n hx hb dX6_set_42 rfl (lv_at hl 0 rfl) ?_
              refine t_getr C w hT hm_x ht_x (by decide) rfl cin_6 0 (by decide) rfl gw_287 dX6_set_43 (fun q18 hm_q18 ht_q18 => ?_)
              refine t_geti C w hT hm_q18 ht_q18 (by decide) rfl cin_0 2 (by decide) rfl rfl gw_96 dX6_set_46 (fun x19 hg => ?_)
              obtain rfl : x19 = 14 := gof_at rfl hg
              refine lv_istore_n (lv' := [(3, .int 14), (0, .ref x), (1, .int wh), (2, .int va)]) hx hb dX6_set_49 rfl hl (by decide) rfl (fun ls hl => ?_)
              refine lv_aload_n hx hb dX6_set_50 rfl (lv_at hl 1 rfl) ?_
              refine t_getr C w hT hm_x ht_x (by decide) rfl cin_6 0 (by decide) rfl gw_287 dX6_set_51 (fun q20 hm_q20 ht_q20 => ?_)
              refine lv_iload_n hx hb dX6_set_54 rfl (lv_at hl 3 rfl) ?_
              have hT := hT.mono (gof_sub (l2 := (gdrop 2 gX1)) rfl)
              refine t_puti C w hT hm_q20 ht_q20 (by decide) rfl cin_0 tyX0 tyX0_ok nmX0 2 (by decide) rfl rfl rfl rfl rfl (gof_no rfl) gw_96 dX6_set_55 (fun f H locs w hT hR1 => ?_)
              have hR := hR.tr hR1
              refine lv_goto (tgt := 101) hx hb dX6_set_58 (by decide) ?_
              refine lv_iload_n hx hb dX6_set_101 rfl (lv_at hl 0 rfl) ?_
              refine vx_ret ?_
              exact t_iret C hr hlk w ⟨_, _, rfl, rfl, (hT.mono (gof_sub rfl)), hR, Or.inl ⟨rfl, (by omega), (by omega)⟩⟩ (by decide) (by decide) dX6_set_102
        ·
          refine t_xcallS (n := 1) C w (c_X6_need l hls D K b0 sa _ L _ Ψ (gof gX1) hT 0) gw_625 gw_623 gw_624 gw_1 ⟨by decide, by decide, by decide +kernel⟩ rfl rfl ⟨by decide, by decide⟩ rfl hl.1 rfl (Nat.le_of_ble_eq_true rfl) dX6_set_35 ⟨by decide, by decide⟩ (fun E ce q9 u H locs hp w hcell hv0 hcl => ?_) (fun v u H locs hp w => ?_)
          · obtain ⟨f2, rfl, hT2, hR1, hpx⟩ := hp
            have hR := hR.tr hR1
            obtain ⟨rfl, hx0⟩ := hpx
            exact t_xout w htb hlk hcell hv0 hcl ⟨_, rfl, (hT2.mono (gof_sub rfl)), hR, ⟨rfl, (by omega)⟩⟩ (by decide) (by decide)
          ·
            obtain ⟨rfl, rfl, hpv0⟩ := hp
            exfalso; omega
  ·
    refine t_xcallS (n := 1) C w (c_X6_need l hls D K b0 sa _ L _ Ψ (gof gX1) hT 0) gw_625 gw_623 gw_624 gw_1 ⟨by decide, by decide, by decide +kernel⟩ rfl rfl ⟨by decide, by decide⟩ rfl hl.1 rfl (Nat.le_of_ble_eq_true rfl) dX6_set_6 ⟨by decide, by decide⟩ (fun E ce q9 u H locs hp w hcell hv0 hcl => ?_) (fun v u H locs hp w => ?_)
    · obtain ⟨f2, rfl, hT2, hR1, hpx⟩ := hp
      have hR := hR.tr hR1
      obtain ⟨rfl, hx0⟩ := hpx
      exact t_xout w htb hlk hcell hv0 hcl ⟨_, rfl, (hT2.mono (gof_sub rfl)), hR, ⟨rfl, (by omega)⟩⟩ (by decide) (by decide)
    ·
      obtain ⟨rfl, rfl, hpv0⟩ := hp
      exfalso; omega
set_option maxHeartbeats 4000000 in
set_option maxRecDepth 100000 in
theorem c_X6_seed (l : Launch) (D : va_G) (K : Nat → ClassId) (b0 : Nat) (sa : Nat × Nat × Nat) (sz : Nat) (L : List Nat) (f0 : Nat → va_E) (Ψ : Nat → Nat) (hT : TW K (gof gX1) Ψ L f0) (x : Nat) (hm_x : x ∈ L) (ht_x : Ψ x = 6) (va : Int32) : Met l yX6_seed (.code yX6_seed cX6_seed 3 (some .int) :: gt) { frames := 0, cells := 0, slots := 0, locals := 0 } (va_Pc [.ref x, .int va] (hPre D K b0 sa sz L f0)) (hQ D K b0 (fun v9 u9 => ∃ (r : Int32) (f2 : Nat → va_E), v9 = some (.int r) ∧ u9 = ((gof gM0), Ψ, L, f2) ∧ TW K (gof gM0) Ψ L f2 ∧ rawk Ψ L f0 f2 ∧ (r = 1))) 0 0 (fun q => b0 ≤ q) := by
  refine t_of (own := RX6) (by decide) rfl ?_ (Nat.le_of_ble_eq_true rfl)
  intro p e s m below meth c ls C w hsz hr hlk hnm hl
  have hx := C.1
  have hb := C.2.1
  have hl : lv_has ls 3 [(0, .ref x), (1, .int va)] := hl
  have hb_va := ti_bd va
  have hR : rawk Ψ L f0 f0 := rawk.rf
  refine lv_aload_n hx hb dX6_seed_0 rfl (lv_at hl 0 rfl) ?_
  refine t_getr C w hT hm_x ht_x (by decide) rfl cin_6 0 (by decide) rfl gw_287 dX6_seed_1 (fun q1 hm_q1 ht_q1 => ?_)
  refine t_geti C w hT hm_q1 ht_q1 (by decide) rfl cin_0 5 (by decide) rfl rfl gw_104 dX6_seed_4 (fun x2 hg => ?_)
  obtain rfl : x2 = 1 := gof_at rfl hg
  refine lv_istore_n (lv' := [(2, .int 1), (0, .ref x), (1, .int va)]) hx hb dX6_seed_7 rfl hl (by decide) rfl (fun ls hl => ?_)
  refine lv_aload_n hx hb dX6_seed_8 rfl (lv_at hl 1 rfl) ?_
  refine t_getr C w hT hm_x ht_x (by decide) rfl cin_6 0 (by decide) rfl gw_287 dX6_seed_9 (fun q3 hm_q3 ht_q3 => ?_)
  refine lv_iload_n hx hb dX6_seed_12 rfl (lv_at hl 2 rfl) ?_
  have hT := hT.mono (gof_sub (l2 := (gdrop 5 gX1)) rfl)
  refine t_puti C w hT hm_q3 ht_q3 (by decide) rfl cin_0 tyX0 tyX0_ok nmX0 5 (by decide) rfl rfl rfl rfl rfl (gof_no rfl) gw_104 dX6_seed_13 (fun f H locs w hT hR1 => ?_)
  have hR := hR.tr hR1
  refine lv_iload_n hx hb dX6_seed_16 rfl (lv_at hl 0 rfl) ?_
  have n1 : (1 : Int32).toInt = 1 := by decide
  exact t_iret C hr hlk w ⟨_, _, rfl, rfl, (hT.mono (gof_sub rfl)), hR, rfl⟩ (by decide) (by decide) dX6_seed_17
set_option maxHeartbeats 4000000 in
set_option maxRecDepth 100000 in
theorem c_X6_fault (l : Launch) (D : va_G) (K : Nat → ClassId) (b0 : Nat) (sa : Nat × Nat × Nat) (sz : Nat) (L : List Nat) (f0 : Nat → va_E) (Ψ : Nat → Nat) (hT : TW K (gof gX1) Ψ L f0) (x : Nat) (hm_x : x ∈ L) (ht_x : Ψ x = 6) : Met l yX6_fault (.code yX6_fault cX6_fault 1 (some .int) :: gt) { frames := 0, cells := 0, slots := 0, locals := 0 } (va_Pc [.ref x] (hPre D K b0 sa sz L f0)) (hQ D K b0 (fun v9 u9 => ∃ r : Int32, v9 = some (.int r) ∧ u9 = ((gof gX1), Ψ, L, f0) ∧ (r = (-1)))) 0 0 (fun q => b0 ≤ q) := by
  refine t_of (own := RX6) (by decide) rfl ?_ (Nat.le_of_ble_eq_true rfl)
  intro p e s m below meth c ls C w hsz hr hlk hnm hl
  have hx := C.1
  have hb := C.2.1
  have hl : lv_has ls 1 [(0, .ref x)] := hl
  have hR : rawk Ψ L f0 f0 := rawk.rf
  refine lv_aload_n hx hb dX6_fault_0 rfl (lv_at hl 0 rfl) ?_
  refine t_geti C w hT hm_x ht_x (by decide) rfl cin_6 12 (by decide) rfl rfl gw_299 dX6_fault_1 (fun x1 hg => ?_)
  obtain rfl : x1 = (-1) := gof_at rfl hg
  have nm1 : ((-1) : Int32).toInt = -1 := by decide
  exact t_iret C hr hlk w ⟨_, rfl, rfl, rfl⟩ (by decide) (by decide) dX6_fault_4
set_option maxHeartbeats 4000000 in
set_option maxRecDepth 100000 in
theorem c_X6_force (l : Launch) (hls : l.stackTraces = false) (D : va_G) (K : Nat → ClassId) (b0 : Nat) (sa : Nat × Nat × Nat) (sz : Nat) (L : List Nat) (f0 : Nat → va_E) (Ψ : Nat → Nat) (hT : TW K (gof gX1) Ψ L f0) (x : Nat) (hm_x : x ∈ L) (ht_x : Ψ x = 6) (pr : Int32) : vx_Met l yX6_force (.code yX6_force cX6_force 3 (some .int) :: gt) { frames := 7, cells := 1, slots := 6, locals := 102 } (va_Pc [.ref x, .int pr] (hPre D K b0 sa sz L f0)) (hQ D K b0 (fun v9 u9 => ∃ (r : Int32) (f2 : Nat → va_E), v9 = some (.int r) ∧ u9 = ((gof gM0), Ψ, L, f2) ∧ TW K (gof gM0) Ψ L f2 ∧ rawk Ψ L f0 f2 ∧ (r = (-1) ∧ (pr.toInt = -1)))) (hX D K b0 (fun E u9 => ∃ f2 : Nat → va_E, u9 = ((gof gM0), Ψ, L, f2) ∧ TW K (gof gM0) Ψ L f2 ∧ rawk Ψ L f0 f2 ∧ (E = "java/lang/IllegalArgumentException" ∧ (¬ pr.toInt = -1)))) 1 6 (fun q => b0 ≤ q) := by
  refine t_xof (own := RX6) (by decide) rfl ?_ (Nat.le_of_ble_eq_true rfl)
  intro p e s m below meth c ls C w hsz hr hlk htb hl
  have hx := C.1
  have hb := C.2.1
  have hl : lv_has ls 3 [(0, .ref x), (1, .int pr)] := hl
  have hb_pr := ti_bd pr
  have hR : rawk Ψ L f0 f0 := rawk.rf
  refine lv_iload_n hx hb dX6_force_0 rfl (lv_at hl 1 rfl) ?_
  refine lv_iconst (v := (-1)) hx hb dX6_force_1 (by decide) ?_
  refine lv_aload_n hx hb dX6_force_2 rfl (lv_at hl 0 rfl) ?_
  refine t_geti C w hT hm_x ht_x (by decide) rfl cin_6 5 (by decide) rfl rfl gw_292 dX6_force_3 (fun x1 hg => ?_)
  obtain rfl : x1 = 0 := gof_at rfl hg
  refine lv_iconst (v := 1) hx hb dX6_force_6 (by decide) ?_
  refine lv_isub hx hb dX6_force_7 ?_
  refine lv_topi (fun y2 ey2 => ?_)
  obtain rfl : y2 = (-1) := ey2.trans (by decide)
  have nm1 : ((-1) : Int32).toInt = -1 := by decide
  refine t_callS (n := 3) C w (c_X6_within l D K b0 sa _ L _ Ψ (gof gX1) hT pr (-1) (-1)) gw_376 gw_374 gw_375 gw_1 ⟨by decide, by decide, by decide +kernel⟩ rfl rfl ⟨by decide, by decide⟩ rfl hl.1 rfl (Nat.le_of_ble_eq_true rfl) dX6_force_8 ⟨by decide, by decide⟩ (fun v u H locs hp w => ?_)
  obtain ⟨r3, rfl, rfl, hrr3⟩ := hp
  rcases hrr3 with ⟨rfl, hf0_r3, hf1_r3⟩ | ⟨rfl, hf0_r3⟩
  ·
    have n1 : (1 : Int32).toInt = 1 := by decide
    refine t_xcallS (n := 1) C w (c_X6_need l hls D K b0 sa _ L _ Ψ (gof gX1) hT 1) gw_625 gw_623 gw_624 gw_1 ⟨by decide, by decide, by decide +kernel⟩ rfl rfl ⟨by decide, by decide⟩ rfl hl.1 rfl (Nat.le_of_ble_eq_true rfl) dX6_force_11 ⟨by decide, by decide⟩ (fun E ce q9 u H locs hp w hcell hv0 hcl => ?_) (fun v u H locs hp w => ?_)
    · obtain ⟨f2, rfl, hT2, hR1, hpx⟩ := hp
      have hR := hR.tr hR1
      obtain ⟨rfl, hx0⟩ := hpx
      exfalso; omega
    ·
      obtain ⟨rfl, rfl, hpv0⟩ := hp
      refine lv_aload_n hx hb dX6_force_14 rfl (lv_at hl 0 rfl) ?_
      refine t_getr C w hT hm_x ht_x (by decide) rfl cin_6 0 (by decide) rfl gw_287 dX6_force_15 (fun q4 hm_q4 ht_q4 => ?_)
      refine t_geti C w hT hm_q4 ht_q4 (by decide) rfl cin_0 6 (by decide) rfl rfl gw_106 dX6_force_18 (fun x5 hg => ?_)
      obtain rfl : x5 = (-1) := gof_at rfl hg
      refine lv_istore_n (lv' := [(2, .int (-1)), (0, .ref x), (1, .int pr)]) hx hb dX6_force_21 rfl hl (by decide) rfl (fun ls hl => ?_)
      refine lv_aload_n hx hb dX6_force_22 rfl (lv_at hl 1 rfl) ?_
      refine t_getr C w hT hm_x ht_x (by decide) rfl cin_6 0 (by decide) rfl gw_287 dX6_force_23 (fun q6 hm_q6 ht_q6 => ?_)
      refine lv_iload_n hx hb dX6_force_26 rfl (lv_at hl 2 rfl) ?_
      have hT := hT.mono (gof_sub (l2 := (gdrop 6 gX1)) rfl)
      refine t_puti C w hT hm_q6 ht_q6 (by decide) rfl cin_0 tyX0 tyX0_ok nmX0 6 (by decide) rfl rfl rfl rfl rfl (gof_no rfl) gw_106 dX6_force_27 (fun f H locs w hT hR1 => ?_)
      have hR := hR.tr hR1
      refine lv_iload_n hx hb dX6_force_30 rfl (lv_at hl 0 rfl) ?_
      refine vx_ret ?_
      exact t_iret C hr hlk w ⟨_, _, rfl, rfl, (hT.mono (gof_sub rfl)), hR, ⟨rfl, (by omega)⟩⟩ (by decide) (by decide) dX6_force_31
  ·
    have n0 : (0 : Int32).toInt = 0 := by decide
    refine t_xcallS (n := 1) C w (c_X6_need l hls D K b0 sa _ L _ Ψ (gof gX1) hT 0) gw_625 gw_623 gw_624 gw_1 ⟨by decide, by decide, by decide +kernel⟩ rfl rfl ⟨by decide, by decide⟩ rfl hl.1 rfl (Nat.le_of_ble_eq_true rfl) dX6_force_11 ⟨by decide, by decide⟩ (fun E ce q9 u H locs hp w hcell hv0 hcl => ?_) (fun v u H locs hp w => ?_)
    · obtain ⟨f2, rfl, hT2, hR1, hpx⟩ := hp
      have hR := hR.tr hR1
      obtain ⟨rfl, hx0⟩ := hpx
      exact t_xout w htb hlk hcell hv0 hcl ⟨_, rfl, (hT2.mono (gof_sub rfl)), hR, ⟨rfl, (by omega)⟩⟩ (by decide) (by decide)
    ·
      obtain ⟨rfl, rfl, hpv0⟩ := hp
      exfalso; omega
set_option maxHeartbeats 4000000 in
set_option maxRecDepth 100000 in
theorem c_X6_tells (l : Launch) (hls : l.stackTraces = false) (D : va_G) (K : Nat → ClassId) (b0 : Nat) (sa : Nat × Nat × Nat) (sz : Nat) (L : List Nat) (f0 : Nat → va_E) (Ψ : Nat → Nat) (hT : TW K (gof gX1) Ψ L f0) (x : Nat) (hm_x : x ∈ L) (ht_x : Ψ x = 6) (wh : Int32) (lo_ : Int32) : vx_Met l yX6_tells (.code yX6_tells cX6_tells 3 (some .int) :: gt) { frames := 7, cells := 1, slots := 6, locals := 102 } (va_Pc [.ref x, .int wh, .int lo_] (hPre D K b0 sa sz L f0)) (hQ D K b0 (fun v9 u9 => ∃ (r : Int32) (f2 : Nat → va_E), v9 = some (.int r) ∧ u9 = ((gof gX1), Ψ, L, f2) ∧ TW K (gof gX1) Ψ L f2 ∧ rawk Ψ L f0 f2 ∧ ((r = 0 ∧ ((0 ≤ wh.toInt ∧ wh.toInt ≤ 1) ∧ 0 ≤ lo_.toInt ∧ lo_.toInt ≤ 35)) ∨ (r = 1 ∧ (wh.toInt = 2 ∧ 0 ≤ lo_.toInt ∧ lo_.toInt ≤ 35))))) (hX D K b0 (fun E u9 => ∃ f2 : Nat → va_E, u9 = ((gof gX1), Ψ, L, f2) ∧ TW K (gof gX1) Ψ L f2 ∧ rawk Ψ L f0 f2 ∧ (E = "java/lang/IllegalArgumentException" ∧ (¬ (0 ≤ wh.toInt ∧ wh.toInt ≤ 2 ∧ 0 ≤ lo_.toInt ∧ lo_.toInt ≤ 35))))) 1 6 (fun q => b0 ≤ q) := by
  refine t_xof (own := RX6) (by decide) rfl ?_ (Nat.le_of_ble_eq_true rfl)
  intro p e s m below meth c ls C w hsz hr hlk htb hl
  have hx := C.1
  have hb := C.2.1
  have hl : lv_has ls 3 [(0, .ref x), (1, .int wh), (2, .int lo_)] := hl
  have hb_wh := ti_bd wh
  have hb_lo_ := ti_bd lo_
  have hR : rawk Ψ L f0 f0 := rawk.rf
  refine lv_iload_n hx hb dX6_tells_0 rfl (lv_at hl 1 rfl) ?_
  refine lv_iconst (v := 0) hx hb dX6_tells_1 (by decide) ?_
  refine lv_iconst (v := 2) hx hb dX6_tells_2 (by decide) ?_
  have n0 : (0 : Int32).toInt = 0 := by decide
  have n2 : (2 : Int32).toInt = 2 := by decide
  refine t_callS (n := 3) C w (c_X6_within l D K b0 sa _ L _ Ψ (gof gX1) hT wh 0 2) gw_376 gw_374 gw_375 gw_1 ⟨by decide, by decide, by decide +kernel⟩ rfl rfl ⟨by decide, by decide⟩ rfl hl.1 rfl (Nat.le_of_ble_eq_true rfl) dX6_tells_3 ⟨by decide, by decide⟩ (fun v u H locs hp w => ?_)
  obtain ⟨r1, rfl, rfl, hrr1⟩ := hp
  rcases hrr1 with ⟨rfl, hf0_r1, hf1_r1⟩ | ⟨rfl, hf0_r1⟩
  ·
    refine lv_if_eq (tgt := 23) hx hb dX6_tells_6 (by decide) (fun c0 => absurd c0 (by decide)) (fun _ => ?_)
    refine lv_iload_n hx hb dX6_tells_9 rfl (lv_at hl 2 rfl) ?_
    refine lv_iconst (v := 0) hx hb dX6_tells_10 (by decide) ?_
    refine lv_bipush (v := 35) hx hb dX6_tells_11 (by decide) ?_
    have n35 : (35 : Int32).toInt = 35 := by decide
    refine t_callS (n := 3) C w (c_X6_within l D K b0 sa _ L _ Ψ (gof gX1) hT lo_ 0 35) gw_376 gw_374 gw_375 gw_1 ⟨by decide, by decide, by decide +kernel⟩ rfl rfl ⟨by decide, by decide⟩ rfl hl.1 rfl (Nat.le_of_ble_eq_true rfl) dX6_tells_13 ⟨by decide, by decide⟩ (fun v u H locs hp w => ?_)
    obtain ⟨r2, rfl, rfl, hrr2⟩ := hp
    rcases hrr2 with ⟨rfl, hf0_r2, hf1_r2⟩ | ⟨rfl, hf0_r2⟩
    ·
      refine lv_if_eq (tgt := 23) hx hb dX6_tells_16 (by decide) (fun c0 => absurd c0 (by decide)) (fun _ => ?_)
      refine lv_iconst (v := 1) hx hb dX6_tells_19 (by decide) ?_
      refine lv_goto (tgt := 24) hx hb dX6_tells_20 (by decide) ?_
      have n1 : (1 : Int32).toInt = 1 := by decide
      refine t_xcallS (n := 1) C w (c_X6_need l hls D K b0 sa _ L _ Ψ (gof gX1) hT 1) gw_625 gw_623 gw_624 gw_1 ⟨by decide, by decide, by decide +kernel⟩ rfl rfl ⟨by decide, by decide⟩ rfl hl.1 rfl (Nat.le_of_ble_eq_true rfl) dX6_tells_24 ⟨by decide, by decide⟩ (fun E ce q9 u H locs hp w hcell hv0 hcl => ?_) (fun v u H locs hp w => ?_)
      · obtain ⟨f2, rfl, hT2, hR1, hpx⟩ := hp
        have hR := hR.tr hR1
        obtain ⟨rfl, hx0⟩ := hpx
        exfalso; omega
      ·
        obtain ⟨rfl, rfl, hpv0⟩ := hp
        refine lv_aload_n hx hb dX6_tells_27 rfl (lv_at hl 0 rfl) ?_
        refine t_getr C w hT hm_x ht_x (by decide) rfl cin_6 15 (by decide) rfl gw_302 dX6_tells_28 (fun q3 hm_q3 ht_q3 => ?_)
        refine lv_aload_n hx hb dX6_tells_31 rfl (lv_at hl 0 rfl) ?_
        refine t_getr C w hT hm_x ht_x (by decide) rfl cin_6 0 (by decide) rfl gw_287 dX6_tells_32 (fun q4 hm_q4 ht_q4 => ?_)
        refine t_callV (n := 1) C w hT hm_q3 ht_q3 (by decide) rfl rfl (c_X5_nameNext l D K b0 sa _ L _ Ψ hT q3 hm_q3 ht_q3 q4 hm_q4 ht_q4) gw_380 gw_377 gw_378 gw_379 gw_7 ⟨by decide, by decide, by decide +kernel⟩ rfl rfl ⟨by decide, by decide⟩ rfl hl.1 rfl (Nat.le_of_ble_eq_true rfl) dX6_tells_35 ⟨by decide, by decide⟩ (fun v u H locs hp w => ?_)
        obtain ⟨f2, rfl, rfl, hT2, hR1⟩ := hp
        have hR := hR.tr hR1
        clear hT
        have hT := hT2
        clear hT2
        generalize f2 = f at w hT hR
        refine lv_aload_n hx hb dX6_tells_38 rfl (lv_at hl 0 rfl) ?_
        refine t_getr C w hT hm_x ht_x (by decide) rfl cin_6 14 (by decide) rfl gw_301 dX6_tells_39 (fun q5 hm_q5 ht_q5 => ?_)
        refine lv_aload_n hx hb dX6_tells_42 rfl (lv_at hl 0 rfl) ?_
        refine t_callV (n := 0) C w hT hm_x ht_x (by decide) rfl rfl (c_X6_codeInForce l D K b0 sa _ L _ Ψ hT x hm_x ht_x) gw_373 gw_370 gw_372 gs_3 gw_1 ⟨by decide, by decide, by decide +kernel⟩ rfl rfl ⟨by decide, by decide⟩ rfl hl.1 rfl (Nat.le_of_ble_eq_true rfl) dX6_tells_43 ⟨by decide, by decide⟩ (fun v u H locs hp w => ?_)
        obtain ⟨r6, rfl, rfl, hrr6⟩ := hp
        subst hrr6
        refine lv_aload_n hx hb dX6_tells_46 rfl (lv_at hl 0 rfl) ?_
        refine t_getr C w hT hm_x ht_x (by decide) rfl cin_6 15 (by decide) rfl gw_302 dX6_tells_47 (fun q7 hm_q7 ht_q7 => ?_)
        refine lv_iload_n hx hb dX6_tells_50 rfl (lv_at hl 1 rfl) ?_
        refine lv_iconst (v := 2) hx hb dX6_tells_51 (by decide) ?_
        refine lv_icmp_ne (tgt := 59) hx hb dX6_tells_52 (by decide) (fun c8 => ?_) (fun c8 => ?_)
        · have c8 := ne_toInt c8
          refine lv_iload_n hx hb dX6_tells_59 rfl (lv_at hl 2 rfl) ?_
          refine t_callV (n := 3) C w hT hm_q5 ht_q5 (by decide) rfl rfl (c_X3_run l D K b0 sa _ L _ Ψ hT q5 hm_q5 ht_q5 q7 hm_q7 ht_q7 lo_) gw_384 gw_381 gw_382 gw_383 gw_6 ⟨by decide, by decide, by decide +kernel⟩ rfl rfl ⟨by decide, by decide⟩ rfl hl.1 rfl (Nat.le_of_ble_eq_true rfl) dX6_tells_60 ⟨by decide, by decide⟩ (fun v u H locs hp w => ?_)
          obtain ⟨f2, rfl, rfl, hT2, hR1⟩ := hp
          have hR := hR.tr hR1
          clear hT
          have hT := hT2
          clear hT2
          generalize f2 = f at w hT hR
          refine lv_iload_n hx hb dX6_tells_63 rfl (lv_at hl 1 rfl) ?_
          refine lv_if_ne (tgt := 77) hx hb dX6_tells_64 (by decide) (fun c9 => ?_) (fun c9 => ?_)
          · have c9 := ne_toInt c9
            refine lv_iload_n hx hb dX6_tells_77 rfl (lv_at hl 1 rfl) ?_
            refine lv_iconst (v := 1) hx hb dX6_tells_78 (by decide) ?_
            refine lv_icmp_ne (tgt := 92) hx hb dX6_tells_79 (by decide) (fun c10 => ?_) (fun c10 => ?_)
            · exact absurd (ne_toInt c10) (by omega)
            · have c10 := eq_toInt c10
              refine lv_aload_n hx hb dX6_tells_82 rfl (lv_at hl 0 rfl) ?_
              refine t_getr C w hT hm_x ht_x (by decide) rfl cin_6 14 (by decide) rfl gw_301 dX6_tells_83 (fun q11 hm_q11 ht_q11 => ?_)
              refine t_callV (n := 0) C w hT hm_q11 ht_q11 (by decide) rfl rfl (c_X3_slip l D K b0 sa _ L _ Ψ hT q11 hm_q11 ht_q11) gw_425 gw_422 gw_423 gw_424 gw_6 ⟨by decide, by decide, by decide +kernel⟩ rfl rfl ⟨by decide, by decide⟩ rfl hl.1 rfl (Nat.le_of_ble_eq_true rfl) dX6_tells_86 ⟨by decide, by decide⟩ (fun v u H locs hp w => ?_)
              obtain ⟨r12, rfl, rfl, hrr12⟩ := hp
              obtain rfl := hrr12
              refine lv_goto (tgt := 99) hx hb dX6_tells_89 (by decide) ?_
              refine vx_ret ?_
              exact t_iret C hr hlk w ⟨_, _, rfl, rfl, hT, hR, Or.inl ⟨rfl, (by omega)⟩⟩ (by decide) (by decide) dX6_tells_99
          · have c9 := eq_toInt c9
            refine lv_aload_n hx hb dX6_tells_67 rfl (lv_at hl 0 rfl) ?_
            refine t_getr C w hT hm_x ht_x (by decide) rfl cin_6 14 (by decide) rfl gw_301 dX6_tells_68 (fun q13 hm_q13 ht_q13 => ?_)
            refine t_callV (n := 0) C w hT hm_q13 ht_q13 (by decide) rfl rfl (c_X3_grip l D K b0 sa _ L _ Ψ hT q13 hm_q13 ht_q13) gw_421 gw_418 gw_419 gw_420 gw_6 ⟨by decide, by decide, by decide +kernel⟩ rfl rfl ⟨by decide, by decide⟩ rfl hl.1 rfl (Nat.le_of_ble_eq_true rfl) dX6_tells_71 ⟨by decide, by decide⟩ (fun v u H locs hp w => ?_)
            obtain ⟨r14, rfl, rfl, hrr14⟩ := hp
            obtain rfl := hrr14
            refine lv_goto (tgt := 99) hx hb dX6_tells_74 (by decide) ?_
            refine vx_ret ?_
            exact t_iret C hr hlk w ⟨_, _, rfl, rfl, hT, hR, Or.inl ⟨rfl, (by omega)⟩⟩ (by decide) (by decide) dX6_tells_99
        · have c8 := eq_toInt c8
          refine lv_iconst (v := 0) hx hb dX6_tells_55 (by decide) ?_
          refine lv_goto (tgt := 60) hx hb dX6_tells_56 (by decide) ?_
          refine t_callV (n := 3) C w hT hm_q5 ht_q5 (by decide) rfl rfl (c_X3_run l D K b0 sa _ L _ Ψ hT q5 hm_q5 ht_q5 q7 hm_q7 ht_q7 0) gw_384 gw_381 gw_382 gw_383 gw_6 ⟨by decide, by decide, by decide +kernel⟩ rfl rfl ⟨by decide, by decide⟩ rfl hl.1 rfl (Nat.le_of_ble_eq_true rfl) dX6_tells_60 ⟨by decide, by decide⟩ (fun v u H locs hp w => ?_)
          obtain ⟨f2, rfl, rfl, hT2, hR1⟩ := hp
          have hR := hR.tr hR1
          clear hT
          have hT := hT2
          clear hT2
          generalize f2 = f at w hT hR
          refine lv_iload_n hx hb dX6_tells_63 rfl (lv_at hl 1 rfl) ?_
          refine lv_if_ne (tgt := 77) hx hb dX6_tells_64 (by decide) (fun c15 => ?_) (fun c15 => ?_)
          · have c15 := ne_toInt c15
            refine lv_iload_n hx hb dX6_tells_77 rfl (lv_at hl 1 rfl) ?_
            refine lv_iconst (v := 1) hx hb dX6_tells_78 (by decide) ?_
            refine lv_icmp_ne (tgt := 92) hx hb dX6_tells_79 (by decide) (fun c16 => ?_) (fun c16 => ?_)
            · have c16 := ne_toInt c16
              refine lv_aload_n hx hb dX6_tells_92 rfl (lv_at hl 0 rfl) ?_
              refine t_getr C w hT hm_x ht_x (by decide) rfl cin_6 14 (by decide) rfl gw_301 dX6_tells_93 (fun q17 hm_q17 ht_q17 => ?_)
              refine t_callV (n := 0) C w hT hm_q17 ht_q17 (by decide) rfl rfl (c_X3_lots l D K b0 sa _ L _ Ψ hT q17 hm_q17 ht_q17) gw_417 gw_414 gw_415 gw_416 gw_6 ⟨by decide, by decide, by decide +kernel⟩ rfl rfl ⟨by decide, by decide⟩ rfl hl.1 rfl (Nat.le_of_ble_eq_true rfl) dX6_tells_96 ⟨by decide, by decide⟩ (fun v u H locs hp w => ?_)
              obtain ⟨r18, rfl, rfl, hrr18⟩ := hp
              obtain rfl := hrr18
              refine vx_ret ?_
              exact t_iret C hr hlk w ⟨_, _, rfl, rfl, hT, hR, Or.inr (⟨rfl, (by omega)⟩)⟩ (by decide) (by decide) dX6_tells_99
            · exact absurd (eq_toInt c16) (by omega)
          · exact absurd (eq_toInt c15) (by omega)
    ·
      refine lv_if_eq (tgt := 23) hx hb dX6_tells_16 (by decide) (fun _ => ?_) (fun c0 => absurd c0 (by decide))
      refine lv_iconst (v := 0) hx hb dX6_tells_23 (by decide) ?_
      refine t_xcallS (n := 1) C w (c_X6_need l hls D K b0 sa _ L _ Ψ (gof gX1) hT 0) gw_625 gw_623 gw_624 gw_1 ⟨by decide, by decide, by decide +kernel⟩ rfl rfl ⟨by decide, by decide⟩ rfl hl.1 rfl (Nat.le_of_ble_eq_true rfl) dX6_tells_24 ⟨by decide, by decide⟩ (fun E ce q9 u H locs hp w hcell hv0 hcl => ?_) (fun v u H locs hp w => ?_)
      · obtain ⟨f2, rfl, hT2, hR1, hpx⟩ := hp
        have hR := hR.tr hR1
        obtain ⟨rfl, hx0⟩ := hpx
        exact t_xout w htb hlk hcell hv0 hcl ⟨_, rfl, hT2, hR, ⟨rfl, (by omega)⟩⟩ (by decide) (by decide)
      ·
        obtain ⟨rfl, rfl, hpv0⟩ := hp
        exfalso; omega
  ·
    refine lv_if_eq (tgt := 23) hx hb dX6_tells_6 (by decide) (fun _ => ?_) (fun c0 => absurd c0 (by decide))
    refine lv_iconst (v := 0) hx hb dX6_tells_23 (by decide) ?_
    refine t_xcallS (n := 1) C w (c_X6_need l hls D K b0 sa _ L _ Ψ (gof gX1) hT 0) gw_625 gw_623 gw_624 gw_1 ⟨by decide, by decide, by decide +kernel⟩ rfl rfl ⟨by decide, by decide⟩ rfl hl.1 rfl (Nat.le_of_ble_eq_true rfl) dX6_tells_24 ⟨by decide, by decide⟩ (fun E ce q9 u H locs hp w hcell hv0 hcl => ?_) (fun v u H locs hp w => ?_)
    · obtain ⟨f2, rfl, hT2, hR1, hpx⟩ := hp
      have hR := hR.tr hR1
      obtain ⟨rfl, hx0⟩ := hpx
      exact t_xout w htb hlk hcell hv0 hcl ⟨_, rfl, hT2, hR, ⟨rfl, (by omega)⟩⟩ (by decide) (by decide)
    ·
      obtain ⟨rfl, rfl, hpv0⟩ := hp
      exfalso; omega
set_option maxHeartbeats 4000000 in
set_option maxRecDepth 100000 in
theorem c_X6_record (l : Launch) (hls : l.stackTraces = false) (D : va_G) (K : Nat → ClassId) (b0 : Nat) (sa : Nat × Nat × Nat) (sz : Nat) (L : List Nat) (f0 : Nat → va_E) (Ψ : Nat → Nat) (hT : TW K (gof gX1) Ψ L f0) (x : Nat) (hm_x : x ∈ L) (ht_x : Ψ x = 6) (k_ : Int32) (wh : Int32) : vx_Met l yX6_record (.code yX6_record cX6_record 3 (some .int) :: gt) { frames := 7, cells := 1, slots := 6, locals := 103 } (va_Pc [.ref x, .int k_, .int wh] (hPre D K b0 sa sz L f0)) (hQ D K b0 (fun v9 u9 => ∃ (r : Int32) (f2 : Nat → va_E), v9 = some (.int r) ∧ u9 = ((gof gX1), Ψ, L, f2) ∧ TW K (gof gX1) Ψ L f2 ∧ rawk Ψ L f0 f2 ∧ (r = 0 ∧ (False)))) (hX D K b0 (fun E u9 => ∃ f2 : Nat → va_E, u9 = ((gof gX1), Ψ, L, f2) ∧ TW K (gof gX1) Ψ L f2 ∧ rawk Ψ L f0 f2 ∧ (E = "java/util/NoSuchElementException"))) 1 6 (fun q => b0 ≤ q) := by
  refine t_xof (own := RX6) (by decide) rfl ?_ (Nat.le_of_ble_eq_true rfl)
  intro p e s m below meth c ls C w hsz hr hlk htb hl
  have hx := C.1
  have hb := C.2.1
  have hl : lv_has ls 3 [(0, .ref x), (1, .int k_), (2, .int wh)] := hl
  have hb_k_ := ti_bd k_
  have hb_wh := ti_bd wh
  have hR : rawk Ψ L f0 f0 := rawk.rf
  refine lv_iload_n hx hb dX6_record_0 rfl (lv_at hl 1 rfl) ?_
  refine lv_aload_n hx hb dX6_record_1 rfl (lv_at hl 0 rfl) ?_
  refine t_getr C w hT hm_x ht_x (by decide) rfl cin_6 0 (by decide) rfl gw_287 dX6_record_2 (fun q1 hm_q1 ht_q1 => ?_)
  refine t_geti C w hT hm_q1 ht_q1 (by decide) rfl cin_0 12 (by decide) rfl rfl gw_121 dX6_record_5 (fun x2 hg => ?_)
  obtain rfl : x2 = 0 := gof_at rfl hg
  have n0 : (0 : Int32).toInt = 0 := by decide
  refine t_xcallS (n := 2) C w (c_X6_needElement l hls D K b0 sa _ L _ Ψ (gof gX1) hT k_) gw_656 gw_654 gw_655 gw_1 ⟨by decide, by decide, by decide +kernel⟩ rfl rfl ⟨by decide, by decide⟩ rfl hl.1 rfl (Nat.le_of_ble_eq_true rfl) dX6_record_8 ⟨by decide, by decide⟩ (fun E ce q9 u H locs hp w hcell hv0 hcl => ?_) (fun v u H locs hp w => ?_)
  · obtain ⟨f2, rfl, hT2, hR1, hpx⟩ := hp
    have hR := hR.tr hR1
    obtain rfl := hpx
    exact t_xout w htb hlk hcell hv0 hcl ⟨_, rfl, hT2, hR, rfl⟩ (by decide) (by decide)
  ·
    obtain ⟨rfl, rfl, hpv0⟩ := hp
    exact hpv0.elim
set_option maxHeartbeats 4000000 in
set_option maxRecDepth 100000 in
theorem c_X6_play (l : Launch) (hls : l.stackTraces = false) (D : va_G) (K : Nat → ClassId) (b0 : Nat) (sa : Nat × Nat × Nat) (sz : Nat) (L : List Nat) (f0 : Nat → va_E) (Ψ : Nat → Nat) (hT : TW K (gof gX1) Ψ L f0) (x : Nat) (hm_x : x ∈ L) (ht_x : Ψ x = 6) (ha : Int32) (ai : Int32) : vx_Met l yX6_play (.code yX6_play cX6_play 5 (some .int) :: gt) { frames := 7, cells := 1, slots := 6, locals := 103 } (va_Pc [.ref x, .int ha, .int ai] (hPre D K b0 sa sz L f0)) (hQ D K b0 (fun v9 u9 => ∃ (r : Int32) (f2 : Nat → va_E), v9 = some (.int r) ∧ u9 = ((gof gX1), Ψ, L, f2) ∧ TW K (gof gX1) Ψ L f2 ∧ rawk Ψ L f0 f2 ∧ (r = 0 ∧ (False)))) (hX D K b0 (fun E u9 => ∃ f2 : Nat → va_E, u9 = ((gof gX1), Ψ, L, f2) ∧ TW K (gof gX1) Ψ L f2 ∧ rawk Ψ L f0 f2 ∧ (E = "java/util/NoSuchElementException"))) 1 6 (fun q => b0 ≤ q) := by
  refine t_xof (own := RX6) (by decide) rfl ?_ (Nat.le_of_ble_eq_true rfl)
  intro p e s m below meth c ls C w hsz hr hlk htb hl
  have hx := C.1
  have hb := C.2.1
  have hl : lv_has ls 5 [(0, .ref x), (1, .int ha), (2, .int ai)] := hl
  have hb_ha := ti_bd ha
  have hb_ai := ti_bd ai
  have hR : rawk Ψ L f0 f0 := rawk.rf
  refine lv_iload_n hx hb dX6_play_0 rfl (lv_at hl 1 rfl) ?_
  refine lv_aload_n hx hb dX6_play_1 rfl (lv_at hl 0 rfl) ?_
  refine t_geti C w hT hm_x ht_x (by decide) rfl cin_6 9 (by decide) rfl rfl gw_296 dX6_play_2 (fun x1 hg => ?_)
  obtain rfl : x1 = 0 := gof_at rfl hg
  have n0 : (0 : Int32).toInt = 0 := by decide
  refine t_xcallS (n := 2) C w (c_X6_needElement l hls D K b0 sa _ L _ Ψ (gof gX1) hT ha) gw_656 gw_654 gw_655 gw_1 ⟨by decide, by decide, by decide +kernel⟩ rfl rfl ⟨by decide, by decide⟩ rfl hl.1 rfl (Nat.le_of_ble_eq_true rfl) dX6_play_5 ⟨by decide, by decide⟩ (fun E ce q9 u H locs hp w hcell hv0 hcl => ?_) (fun v u H locs hp w => ?_)
  · obtain ⟨f2, rfl, hT2, hR1, hpx⟩ := hp
    have hR := hR.tr hR1
    obtain rfl := hpx
    exact t_xout w htb hlk hcell hv0 hcl ⟨_, rfl, hT2, hR, rfl⟩ (by decide) (by decide)
  ·
    obtain ⟨rfl, rfl, hpv0⟩ := hp
    exact hpv0.elim
set_option maxHeartbeats 4000000 in
set_option maxRecDepth 100000 in
theorem c_X6_can (l : Launch) (D : va_G) (K : Nat → ClassId) (b0 : Nat) (sa : Nat × Nat × Nat) (sz : Nat) (L : List Nat) (f0 : Nat → va_E) (Ψ : Nat → Nat) (hT : TW K (gof gX1) Ψ L f0) (x : Nat) (hm_x : x ∈ L) (ht_x : Ψ x = 6) (al : Int32) : Met l yX6_can (.code yX6_can cX6_can 2 (some .int) :: gt) { frames := 4, cells := 0, slots := 0, locals := 94 } (va_Pc [.ref x, .int al] (hPre D K b0 sa sz L f0)) (hQ D K b0 (fun v9 u9 => ∃ (r : Int32) (f2 : Nat → va_E), v9 = some (.int r) ∧ u9 = ((gof gX1), Ψ, L, f2) ∧ TW K (gof gX1) Ψ L f2 ∧ rawk Ψ L f0 f2 ∧ (r = (-1)))) 0 0 (fun q => b0 ≤ q) := by
  refine t_of (own := RX6) (by decide) rfl ?_ (Nat.le_of_ble_eq_true rfl)
  intro p e s m below meth c ls C w hsz hr hlk hnm hl
  have hx := C.1
  have hb := C.2.1
  have hl : lv_has ls 2 [(0, .ref x), (1, .int al)] := hl
  have hb_al := ti_bd al
  have hR : rawk Ψ L f0 f0 := rawk.rf
  refine lv_aload_n hx hb dX6_can_0 rfl (lv_at hl 0 rfl) ?_
  refine lv_iload_n hx hb dX6_can_1 rfl (lv_at hl 1 rfl) ?_
  refine t_callV (n := 1) C w hT hm_x ht_x (by decide) rfl rfl (c_X6_leastPaying l D K b0 sa _ L _ Ψ hT x hm_x ht_x al) gw_365 gw_362 gw_364 gs_1 gw_1 ⟨by decide, by decide, by decide +kernel⟩ rfl rfl ⟨by decide, by decide⟩ rfl hl.1 rfl (Nat.le_of_ble_eq_true rfl) dX6_can_2 ⟨by decide, by decide⟩ (fun v u H locs hp w => ?_)
  obtain ⟨r1, f2, rfl, rfl, hT2, hR1, hrr1⟩ := hp
  have hR := hR.tr hR1
  clear hT
  have hT := hT2
  clear hT2
  generalize f2 = f at w hT hR
  obtain rfl := hrr1
  have nm1 : ((-1) : Int32).toInt = -1 := by decide
  exact t_iret C hr hlk w ⟨_, _, rfl, rfl, hT, hR, rfl⟩ (by decide) (by decide) dX6_can_5
set_option maxHeartbeats 4000000 in
set_option maxRecDepth 100000 in
theorem c_X6_odds (l : Launch) (hls : l.stackTraces = false) (D : va_G) (K : Nat → ClassId) (b0 : Nat) (sa : Nat × Nat × Nat) (sz : Nat) (L : List Nat) (f0 : Nat → va_E) (Ψ : Nat → Nat) (hT : TW K (gof gX1) Ψ L f0) (x : Nat) (hm_x : x ∈ L) (ht_x : Ψ x = 6) (ha : Int32) (ai : Int32) (lo_ : Int32) : vx_Met l yX6_odds (.code yX6_odds cX6_odds 7 (some .int) :: gt) { frames := 7, cells := 1, slots := 6, locals := 103 } (va_Pc [.ref x, .int ha, .int ai, .int lo_] (hPre D K b0 sa sz L f0)) (hQ D K b0 (fun v9 u9 => ∃ (r : Int32) (f2 : Nat → va_E), v9 = some (.int r) ∧ u9 = ((gof gX1), Ψ, L, f2) ∧ TW K (gof gX1) Ψ L f2 ∧ rawk Ψ L f0 f2 ∧ (r = 0 ∧ (False)))) (hX D K b0 (fun E u9 => ∃ f2 : Nat → va_E, u9 = ((gof gX1), Ψ, L, f2) ∧ TW K (gof gX1) Ψ L f2 ∧ rawk Ψ L f0 f2 ∧ (E = "java/util/NoSuchElementException"))) 1 6 (fun q => b0 ≤ q) := by
  refine t_xof (own := RX6) (by decide) rfl ?_ (Nat.le_of_ble_eq_true rfl)
  intro p e s m below meth c ls C w hsz hr hlk htb hl
  have hx := C.1
  have hb := C.2.1
  have hl : lv_has ls 7 [(0, .ref x), (1, .int ha), (2, .int ai), (3, .int lo_)] := hl
  have hb_ha := ti_bd ha
  have hb_ai := ti_bd ai
  have hb_lo_ := ti_bd lo_
  have hR : rawk Ψ L f0 f0 := rawk.rf
  refine lv_iload_n hx hb dX6_odds_0 rfl (lv_at hl 1 rfl) ?_
  refine lv_aload_n hx hb dX6_odds_1 rfl (lv_at hl 0 rfl) ?_
  refine t_geti C w hT hm_x ht_x (by decide) rfl cin_6 9 (by decide) rfl rfl gw_296 dX6_odds_2 (fun x1 hg => ?_)
  obtain rfl : x1 = 0 := gof_at rfl hg
  have n0 : (0 : Int32).toInt = 0 := by decide
  refine t_xcallS (n := 2) C w (c_X6_needElement l hls D K b0 sa _ L _ Ψ (gof gX1) hT ha) gw_656 gw_654 gw_655 gw_1 ⟨by decide, by decide, by decide +kernel⟩ rfl rfl ⟨by decide, by decide⟩ rfl hl.1 rfl (Nat.le_of_ble_eq_true rfl) dX6_odds_5 ⟨by decide, by decide⟩ (fun E ce q9 u H locs hp w hcell hv0 hcl => ?_) (fun v u H locs hp w => ?_)
  · obtain ⟨f2, rfl, hT2, hR1, hpx⟩ := hp
    have hR := hR.tr hR1
    obtain rfl := hpx
    exact t_xout w htb hlk hcell hv0 hcl ⟨_, rfl, hT2, hR, rfl⟩ (by decide) (by decide)
  ·
    obtain ⟨rfl, rfl, hpv0⟩ := hp
    exact hpv0.elim
set_option maxHeartbeats 4000000 in
set_option maxRecDepth 100000 in
theorem c_X6_weights (l : Launch) (hls : l.stackTraces = false) (D : va_G) (K : Nat → ClassId) (b0 : Nat) (sa : Nat × Nat × Nat) (sz : Nat) (L : List Nat) (f0 : Nat → va_E) (Ψ : Nat → Nat) (hT : TW K (gof gX1) Ψ L f0) (x : Nat) (hm_x : x ∈ L) (ht_x : Ψ x = 6) (ha : Int32) : vx_Met l yX6_weights (.code yX6_weights cX6_weights 2 (some .int) :: gt) { frames := 7, cells := 1, slots := 6, locals := 103 } (va_Pc [.ref x, .int ha] (hPre D K b0 sa sz L f0)) (hQ D K b0 (fun v9 u9 => ∃ (r : Int32) (f2 : Nat → va_E), v9 = some (.int r) ∧ u9 = ((gof gX1), Ψ, L, f2) ∧ TW K (gof gX1) Ψ L f2 ∧ rawk Ψ L f0 f2 ∧ (r = 0 ∧ (False)))) (hX D K b0 (fun E u9 => ∃ f2 : Nat → va_E, u9 = ((gof gX1), Ψ, L, f2) ∧ TW K (gof gX1) Ψ L f2 ∧ rawk Ψ L f0 f2 ∧ (E = "java/util/NoSuchElementException"))) 1 6 (fun q => b0 ≤ q) := by
  refine t_xof (own := RX6) (by decide) rfl ?_ (Nat.le_of_ble_eq_true rfl)
  intro p e s m below meth c ls C w hsz hr hlk htb hl
  have hx := C.1
  have hb := C.2.1
  have hl : lv_has ls 2 [(0, .ref x), (1, .int ha)] := hl
  have hb_ha := ti_bd ha
  have hR : rawk Ψ L f0 f0 := rawk.rf
  refine lv_iload_n hx hb dX6_weights_0 rfl (lv_at hl 1 rfl) ?_
  refine lv_aload_n hx hb dX6_weights_1 rfl (lv_at hl 0 rfl) ?_
  refine t_geti C w hT hm_x ht_x (by decide) rfl cin_6 9 (by decide) rfl rfl gw_296 dX6_weights_2 (fun x1 hg => ?_)
  obtain rfl : x1 = 0 := gof_at rfl hg
  have n0 : (0 : Int32).toInt = 0 := by decide
  refine t_xcallS (n := 2) C w (c_X6_needElement l hls D K b0 sa _ L _ Ψ (gof gX1) hT ha) gw_656 gw_654 gw_655 gw_1 ⟨by decide, by decide, by decide +kernel⟩ rfl rfl ⟨by decide, by decide⟩ rfl hl.1 rfl (Nat.le_of_ble_eq_true rfl) dX6_weights_5 ⟨by decide, by decide⟩ (fun E ce q9 u H locs hp w hcell hv0 hcl => ?_) (fun v u H locs hp w => ?_)
  · obtain ⟨f2, rfl, hT2, hR1, hpx⟩ := hp
    have hR := hR.tr hR1
    obtain rfl := hpx
    exact t_xout w htb hlk hcell hv0 hcl ⟨_, rfl, hT2, hR, rfl⟩ (by decide) (by decide)
  ·
    obtain ⟨rfl, rfl, hpv0⟩ := hp
    exact hpv0.elim
set_option maxHeartbeats 4000000 in
set_option maxRecDepth 100000 in
theorem c_X6_when (l : Launch) (hls : l.stackTraces = false) (D : va_G) (K : Nat → ClassId) (b0 : Nat) (sa : Nat × Nat × Nat) (sz : Nat) (L : List Nat) (f0 : Nat → va_E) (Ψ : Nat → Nat) (hT : TW K (gof gX1) Ψ L f0) (x : Nat) (hm_x : x ∈ L) (ht_x : Ψ x = 6) (ce : Int32) (pr : Int32) : vx_Met l yX6_when (.code yX6_when cX6_when 4 (some .int) :: gt) { frames := 7, cells := 2, slots := 12, locals := 102 } (va_Pc [.ref x, .int ce, .int pr] (hPre D K b0 sa sz L f0)) (hQ D K b0 (fun v9 u9 => ∃ (r : Int32) (f2 : Nat → va_E), v9 = some (.int r) ∧ u9 = ((gof gX1), Ψ, L, f2) ∧ TW K (gof gX1) Ψ L f2 ∧ rawk Ψ L f0 f2 ∧ (r = 0 ∧ (False)))) (hX D K b0 (fun E u9 => ∃ f2 : Nat → va_E, u9 = ((gof gX1), Ψ, L, f2) ∧ TW K (gof gX1) Ψ L f2 ∧ rawk Ψ L f0 f2 ∧ ((E = "java/lang/IndexOutOfBoundsException" ∧ (¬ (0 ≤ ce.toInt ∧ ce.toInt ≤ 63))) ∨ (E = "java/lang/IllegalArgumentException" ∧ (0 ≤ ce.toInt) ∧ (ce.toInt ≤ 63))))) 2 12 (fun q => b0 ≤ q) := by
  refine t_xof (own := RX6) (by decide) rfl ?_ (Nat.le_of_ble_eq_true rfl)
  intro p e s m below meth c ls C w hsz hr hlk htb hl
  have hx := C.1
  have hb := C.2.1
  have hl : lv_has ls 4 [(0, .ref x), (1, .int ce), (2, .int pr)] := hl
  have hb_ce := ti_bd ce
  have hb_pr := ti_bd pr
  have hR : rawk Ψ L f0 f0 := rawk.rf
  refine lv_iload_n hx hb dX6_when_0 rfl (lv_at hl 1 rfl) ?_
  refine t_xcallS (n := 1) C w (c_X6_needCell l hls D K b0 sa _ L _ Ψ (gof gX1) hT ce) gw_554 gw_552 gw_553 gw_1 ⟨by decide, by decide, by decide +kernel⟩ rfl rfl ⟨by decide, by decide⟩ rfl hl.1 rfl (Nat.le_of_ble_eq_true rfl) dX6_when_1 ⟨by decide, by decide⟩ (fun E ce q9 u H locs hp w hcell hv0 hcl => ?_) (fun v u H locs hp w => ?_)
  · obtain ⟨f2, rfl, hT2, hR1, hpx⟩ := hp
    have hR := hR.tr hR1
    obtain ⟨rfl, hx0⟩ := hpx
    exact t_xout w htb hlk hcell hv0 hcl ⟨_, rfl, hT2, hR, Or.inl ⟨rfl, (by omega)⟩⟩ (by decide) (by decide)
  ·
    obtain ⟨rfl, rfl, hpv0, hpv1⟩ := hp
    refine lv_iload_n hx hb dX6_when_4 rfl (lv_at hl 2 rfl) ?_
    refine lv_iconst (v := 0) hx hb dX6_when_5 (by decide) ?_
    refine lv_aload_n hx hb dX6_when_6 rfl (lv_at hl 0 rfl) ?_
    refine t_geti C w hT hm_x ht_x (by decide) rfl cin_6 5 (by decide) rfl rfl gw_292 dX6_when_7 (fun x1 hg => ?_)
    obtain rfl : x1 = 0 := gof_at rfl hg
    refine lv_iconst (v := 1) hx hb dX6_when_10 (by decide) ?_
    refine lv_isub hx hb dX6_when_11 ?_
    refine lv_topi (fun y2 ey2 => ?_)
    obtain rfl : y2 = (-1) := ey2.trans (by decide)
    have n0 : (0 : Int32).toInt = 0 := by decide
    have nm1 : ((-1) : Int32).toInt = -1 := by decide
    refine t_callS (n := 3) C w (c_X6_within l D K b0 sa _ L _ Ψ (gof gX1) hT pr 0 (-1)) gw_376 gw_374 gw_375 gw_1 ⟨by decide, by decide, by decide +kernel⟩ rfl rfl ⟨by decide, by decide⟩ rfl hl.1 rfl (Nat.le_of_ble_eq_true rfl) dX6_when_12 ⟨by decide, by decide⟩ (fun v u H locs hp w => ?_)
    obtain ⟨r3, rfl, rfl, hrr3⟩ := hp
    rcases hrr3 with ⟨rfl, hf0_r3, hf1_r3⟩ | ⟨rfl, hf0_r3⟩
    · exfalso; omega
    ·
      refine t_xcallS (n := 1) C w (c_X6_need l hls D K b0 sa _ L _ Ψ (gof gX1) hT 0) gw_625 gw_623 gw_624 gw_1 ⟨by decide, by decide, by decide +kernel⟩ rfl rfl ⟨by decide, by decide⟩ rfl hl.1 rfl (Nat.le_of_ble_eq_true rfl) dX6_when_15 ⟨by decide, by decide⟩ (fun E ce q9 u H locs hp w hcell hv0 hcl => ?_) (fun v u H locs hp w => ?_)
      · obtain ⟨f2, rfl, hT2, hR1, hpx⟩ := hp
        have hR := hR.tr hR1
        obtain ⟨rfl, hx0⟩ := hpx
        exact t_xout w htb hlk hcell hv0 hcl ⟨_, rfl, hT2, hR, Or.inr (⟨rfl, (by omega), (by omega)⟩)⟩ (by decide) (by decide)
      ·
        obtain ⟨rfl, rfl, hpv0⟩ := hp
        exfalso; omega
set_option maxHeartbeats 4000000 in
set_option maxRecDepth 100000 in
theorem c_X6_fitting (l : Launch) (D : va_G) (K : Nat → ClassId) (b0 : Nat) (sa : Nat × Nat × Nat) (sz : Nat) (L : List Nat) (f0 : Nat → va_E) (Ψ : Nat → Nat) (hT : TW K (gof gX1) Ψ L f0) (x : Nat) (hm_x : x ∈ L) (ht_x : Ψ x = 6) : Met l yX6_fitting (.code yX6_fitting cX6_fitting 3 (some .int) :: gt) { frames := 0, cells := 0, slots := 0, locals := 0 } (va_Pc [.ref x] (hPre D K b0 sa sz L f0)) (hQ D K b0 (fun v9 u9 => ∃ r : Int32, v9 = some (.int r) ∧ u9 = ((gof gX1), Ψ, L, f0) ∧ (r = 0))) 0 0 (fun q => b0 ≤ q) := by
  refine t_of (own := RX6) (by decide) rfl ?_ (Nat.le_of_ble_eq_true rfl)
  intro p e s m below meth c ls C w hsz hr hlk hnm hl
  have hx := C.1
  have hb := C.2.1
  have hl : lv_has ls 3 [(0, .ref x)] := hl
  have hR : rawk Ψ L f0 f0 := rawk.rf
  refine lv_iconst (v := 0) hx hb dX6_fitting_0 (by decide) ?_
  refine lv_istore_n (lv' := [(1, .int 0), (0, .ref x)]) hx hb dX6_fitting_1 rfl hl (by decide) rfl (fun ls hl => ?_)
  refine lv_iconst (v := 0) hx hb dX6_fitting_2 (by decide) ?_
  refine lv_istore_n (lv' := [(2, .int 0), (1, .int 0), (0, .ref x)]) hx hb dX6_fitting_3 rfl hl (by decide) rfl (fun ls hl => ?_)
  refine lv_iload_n hx hb dX6_fitting_4 rfl (lv_at hl 0 rfl) ?_
  refine lv_aload_n hx hb dX6_fitting_5 rfl (lv_at hl 2 rfl) ?_
  refine t_geti C w hT hm_x ht_x (by decide) rfl cin_6 5 (by decide) rfl rfl gw_292 dX6_fitting_6 (fun x1 hg => ?_)
  obtain rfl : x1 = 0 := gof_at rfl hg
  refine lv_icmp_ge (tgt := 38) hx hb dX6_fitting_9 (by decide) (fun _ => ?_) (fun c0 => absurd c0 (by decide))
  refine lv_iload_n hx hb dX6_fitting_38 rfl (lv_at hl 1 rfl) ?_
  have n0 : (0 : Int32).toInt = 0 := by decide
  exact t_iret C hr hlk w ⟨_, rfl, rfl, rfl⟩ (by decide) (by decide) dX6_fitting_39
set_option maxHeartbeats 4000000 in
set_option maxRecDepth 100000 in
theorem c_X6_strange (l : Launch) (hls : l.stackTraces = false) (D : va_G) (K : Nat → ClassId) (b0 : Nat) (sa : Nat × Nat × Nat) (sz : Nat) (L : List Nat) (f0 : Nat → va_E) (Ψ : Nat → Nat) (hT : TW K (gof gX1) Ψ L f0) (x : Nat) (hm_x : x ∈ L) (ht_x : Ψ x = 6) (pr : Int32) : vx_Met l yX6_strange (.code yX6_strange cX6_strange 2 (some .int) :: gt) { frames := 7, cells := 1, slots := 6, locals := 102 } (va_Pc [.ref x, .int pr] (hPre D K b0 sa sz L f0)) (hQ D K b0 (fun v9 u9 => ∃ (r : Int32) (f2 : Nat → va_E), v9 = some (.int r) ∧ u9 = ((gof gX1), Ψ, L, f2) ∧ TW K (gof gX1) Ψ L f2 ∧ rawk Ψ L f0 f2 ∧ (r = 0 ∧ (False)))) (hX D K b0 (fun E u9 => ∃ f2 : Nat → va_E, u9 = ((gof gX1), Ψ, L, f2) ∧ TW K (gof gX1) Ψ L f2 ∧ rawk Ψ L f0 f2 ∧ (E = "java/lang/IllegalArgumentException"))) 1 6 (fun q => b0 ≤ q) := by
  refine t_xof (own := RX6) (by decide) rfl ?_ (Nat.le_of_ble_eq_true rfl)
  intro p e s m below meth c ls C w hsz hr hlk htb hl
  have hx := C.1
  have hb := C.2.1
  have hl : lv_has ls 2 [(0, .ref x), (1, .int pr)] := hl
  have hb_pr := ti_bd pr
  have hR : rawk Ψ L f0 f0 := rawk.rf
  refine lv_iload_n hx hb dX6_strange_0 rfl (lv_at hl 1 rfl) ?_
  refine lv_iconst (v := 0) hx hb dX6_strange_1 (by decide) ?_
  refine lv_aload_n hx hb dX6_strange_2 rfl (lv_at hl 0 rfl) ?_
  refine t_geti C w hT hm_x ht_x (by decide) rfl cin_6 5 (by decide) rfl rfl gw_292 dX6_strange_3 (fun x1 hg => ?_)
  obtain rfl : x1 = 0 := gof_at rfl hg
  refine lv_iconst (v := 1) hx hb dX6_strange_6 (by decide) ?_
  refine lv_isub hx hb dX6_strange_7 ?_
  refine lv_topi (fun y2 ey2 => ?_)
  obtain rfl : y2 = (-1) := ey2.trans (by decide)
  have n0 : (0 : Int32).toInt = 0 := by decide
  have nm1 : ((-1) : Int32).toInt = -1 := by decide
  refine t_callS (n := 3) C w (c_X6_within l D K b0 sa _ L _ Ψ (gof gX1) hT pr 0 (-1)) gw_376 gw_374 gw_375 gw_1 ⟨by decide, by decide, by decide +kernel⟩ rfl rfl ⟨by decide, by decide⟩ rfl hl.1 rfl (Nat.le_of_ble_eq_true rfl) dX6_strange_8 ⟨by decide, by decide⟩ (fun v u H locs hp w => ?_)
  obtain ⟨r3, rfl, rfl, hrr3⟩ := hp
  rcases hrr3 with ⟨rfl, hf0_r3, hf1_r3⟩ | ⟨rfl, hf0_r3⟩
  · exfalso; omega
  ·
    refine t_xcallS (n := 1) C w (c_X6_need l hls D K b0 sa _ L _ Ψ (gof gX1) hT 0) gw_625 gw_623 gw_624 gw_1 ⟨by decide, by decide, by decide +kernel⟩ rfl rfl ⟨by decide, by decide⟩ rfl hl.1 rfl (Nat.le_of_ble_eq_true rfl) dX6_strange_11 ⟨by decide, by decide⟩ (fun E ce q9 u H locs hp w hcell hv0 hcl => ?_) (fun v u H locs hp w => ?_)
    · obtain ⟨f2, rfl, hT2, hR1, hpx⟩ := hp
      have hR := hR.tr hR1
      obtain ⟨rfl, hx0⟩ := hpx
      exact t_xout w htb hlk hcell hv0 hcl ⟨_, rfl, hT2, hR, rfl⟩ (by decide) (by decide)
    ·
      obtain ⟨rfl, rfl, hpv0⟩ := hp
      exfalso; omega
set_option maxHeartbeats 4000000 in
set_option maxRecDepth 100000 in
theorem c_X6_guess (l : Launch) (hls : l.stackTraces = false) (D : va_G) (K : Nat → ClassId) (b0 : Nat) (sa : Nat × Nat × Nat) (sz : Nat) (L : List Nat) (f0 : Nat → va_E) (Ψ : Nat → Nat) (hT : TW K (gof gX1) Ψ L f0) (x : Nat) (hm_x : x ∈ L) (ht_x : Ψ x = 6) (ce : Int32) : vx_Met l yX6_guess (.code yX6_guess cX6_guess 4 (some .int) :: gt) { frames := 7, cells := 1, slots := 6, locals := 102 } (va_Pc [.ref x, .int ce] (hPre D K b0 sa sz L f0)) (hQ D K b0 (fun v9 u9 => ∃ (r : Int32) (f2 : Nat → va_E), v9 = some (.int r) ∧ u9 = ((gof gX1), Ψ, L, f2) ∧ TW K (gof gX1) Ψ L f2 ∧ rawk Ψ L f0 f2 ∧ (r = 0 ∧ (0 ≤ ce.toInt) ∧ (ce.toInt ≤ 63)))) (hX D K b0 (fun E u9 => ∃ f2 : Nat → va_E, u9 = ((gof gX1), Ψ, L, f2) ∧ TW K (gof gX1) Ψ L f2 ∧ rawk Ψ L f0 f2 ∧ (E = "java/lang/IndexOutOfBoundsException" ∧ (¬ (0 ≤ ce.toInt ∧ ce.toInt ≤ 63))))) 1 6 (fun q => b0 ≤ q) := by
  refine t_xof (own := RX6) (by decide) rfl ?_ (Nat.le_of_ble_eq_true rfl)
  intro p e s m below meth c ls C w hsz hr hlk htb hl
  have hx := C.1
  have hb := C.2.1
  have hl : lv_has ls 4 [(0, .ref x), (1, .int ce)] := hl
  have hb_ce := ti_bd ce
  have hR : rawk Ψ L f0 f0 := rawk.rf
  refine lv_iload_n hx hb dX6_guess_0 rfl (lv_at hl 1 rfl) ?_
  refine t_xcallS (n := 1) C w (c_X6_needCell l hls D K b0 sa _ L _ Ψ (gof gX1) hT ce) gw_554 gw_552 gw_553 gw_1 ⟨by decide, by decide, by decide +kernel⟩ rfl rfl ⟨by decide, by decide⟩ rfl hl.1 rfl (Nat.le_of_ble_eq_true rfl) dX6_guess_1 ⟨by decide, by decide⟩ (fun E ce q9 u H locs hp w hcell hv0 hcl => ?_) (fun v u H locs hp w => ?_)
  · obtain ⟨f2, rfl, hT2, hR1, hpx⟩ := hp
    have hR := hR.tr hR1
    obtain ⟨rfl, hx0⟩ := hpx
    exact t_xout w htb hlk hcell hv0 hcl ⟨_, rfl, hT2, hR, ⟨rfl, (by omega)⟩⟩ (by decide) (by decide)
  ·
    obtain ⟨rfl, rfl, hpv0, hpv1⟩ := hp
    refine lv_iconst (v := 0) hx hb dX6_guess_4 (by decide) ?_
    refine lv_istore_n (lv' := [(2, .int 0), (0, .ref x), (1, .int ce)]) hx hb dX6_guess_5 rfl hl (by decide) rfl (fun ls hl => ?_)
    refine lv_iconst (v := 0) hx hb dX6_guess_6 (by decide) ?_
    refine lv_istore_n (lv' := [(3, .int 0), (2, .int 0), (0, .ref x), (1, .int ce)]) hx hb dX6_guess_7 rfl hl (by decide) rfl (fun ls hl => ?_)
    refine lv_iload_n hx hb dX6_guess_8 rfl (lv_at hl 0 rfl) ?_
    refine lv_aload_n hx hb dX6_guess_9 rfl (lv_at hl 2 rfl) ?_
    refine t_geti C w hT hm_x ht_x (by decide) rfl cin_6 5 (by decide) rfl rfl gw_292 dX6_guess_10 (fun x1 hg => ?_)
    obtain rfl : x1 = 0 := gof_at rfl hg
    refine lv_icmp_ge (tgt := 99) hx hb dX6_guess_13 (by decide) (fun _ => ?_) (fun c0 => absurd c0 (by decide))
    refine lv_iload_n hx hb dX6_guess_99 rfl (lv_at hl 1 rfl) ?_
    have n0 : (0 : Int32).toInt = 0 := by decide
    refine vx_ret ?_
    exact t_iret C hr hlk w ⟨_, _, rfl, rfl, hT, hR, ⟨rfl, (by omega), (by omega)⟩⟩ (by decide) (by decide) dX6_guess_100
set_option maxHeartbeats 4000000 in
set_option maxRecDepth 100000 in
theorem c_X6_settle (l : Launch) (hls : l.stackTraces = false) (D : va_G) (K : Nat → ClassId) (b0 : Nat) (sa : Nat × Nat × Nat) (sz : Nat) (L : List Nat) (f0 : Nat → va_E) (Ψ : Nat → Nat) (hT : TW K (gof gX1) Ψ L f0) (x : Nat) (hm_x : x ∈ L) (ht_x : Ψ x = 6) (ha : Int32) (ce : Int32) (le_ : Int32) : vx_Met l yX6_settle (.code yX6_settle cX6_settle 8 (some .int) :: gt) { frames := 7, cells := 1, slots := 6, locals := 103 } (va_Pc [.ref x, .int ha, .int ce, .int le_] (hPre D K b0 sa sz L f0)) (hQ D K b0 (fun v9 u9 => ∃ (r : Int32) (f2 : Nat → va_E), v9 = some (.int r) ∧ u9 = ((gof gX1), Ψ, L, f2) ∧ TW K (gof gX1) Ψ L f2 ∧ rawk Ψ L f0 f2 ∧ (r = 0 ∧ (False)))) (hX D K b0 (fun E u9 => ∃ f2 : Nat → va_E, u9 = ((gof gX1), Ψ, L, f2) ∧ TW K (gof gX1) Ψ L f2 ∧ rawk Ψ L f0 f2 ∧ (E = "java/util/NoSuchElementException"))) 1 6 (fun q => b0 ≤ q) := by
  refine t_xof (own := RX6) (by decide) rfl ?_ (Nat.le_of_ble_eq_true rfl)
  intro p e s m below meth c ls C w hsz hr hlk htb hl
  have hx := C.1
  have hb := C.2.1
  have hl : lv_has ls 8 [(0, .ref x), (1, .int ha), (2, .int ce), (3, .int le_)] := hl
  have hb_ha := ti_bd ha
  have hb_ce := ti_bd ce
  have hb_le_ := ti_bd le_
  have hR : rawk Ψ L f0 f0 := rawk.rf
  refine lv_iload_n hx hb dX6_settle_0 rfl (lv_at hl 1 rfl) ?_
  refine lv_aload_n hx hb dX6_settle_1 rfl (lv_at hl 0 rfl) ?_
  refine t_geti C w hT hm_x ht_x (by decide) rfl cin_6 9 (by decide) rfl rfl gw_296 dX6_settle_2 (fun x1 hg => ?_)
  obtain rfl : x1 = 0 := gof_at rfl hg
  have n0 : (0 : Int32).toInt = 0 := by decide
  refine t_xcallS (n := 2) C w (c_X6_needElement l hls D K b0 sa _ L _ Ψ (gof gX1) hT ha) gw_656 gw_654 gw_655 gw_1 ⟨by decide, by decide, by decide +kernel⟩ rfl rfl ⟨by decide, by decide⟩ rfl hl.1 rfl (Nat.le_of_ble_eq_true rfl) dX6_settle_5 ⟨by decide, by decide⟩ (fun E ce q9 u H locs hp w hcell hv0 hcl => ?_) (fun v u H locs hp w => ?_)
  · obtain ⟨f2, rfl, hT2, hR1, hpx⟩ := hp
    have hR := hR.tr hR1
    obtain rfl := hpx
    exact t_xout w htb hlk hcell hv0 hcl ⟨_, rfl, hT2, hR, rfl⟩ (by decide) (by decide)
  ·
    obtain ⟨rfl, rfl, hpv0⟩ := hp
    exact hpv0.elim
set_option maxHeartbeats 4000000 in
set_option maxRecDepth 100000 in
theorem c_X6_back (l : Launch) (hls : l.stackTraces = false) (D : va_G) (K : Nat → ClassId) (b0 : Nat) (sa : Nat × Nat × Nat) (sz : Nat) (L : List Nat) (f0 : Nat → va_E) (Ψ : Nat → Nat) (hT : TW K (gof gX1) Ψ L f0) (x : Nat) (hm_x : x ∈ L) (ht_x : Ψ x = 6) (ha : Int32) (ce : Int32) : vx_Met l yX6_back (.code yX6_back cX6_back 5 (some .int) :: gt) { frames := 7, cells := 1, slots := 6, locals := 103 } (va_Pc [.ref x, .int ha, .int ce] (hPre D K b0 sa sz L f0)) (hQ D K b0 (fun v9 u9 => ∃ (r : Int32) (f2 : Nat → va_E), v9 = some (.int r) ∧ u9 = ((gof gX1), Ψ, L, f2) ∧ TW K (gof gX1) Ψ L f2 ∧ rawk Ψ L f0 f2 ∧ (r = 0 ∧ (False)))) (hX D K b0 (fun E u9 => ∃ f2 : Nat → va_E, u9 = ((gof gX1), Ψ, L, f2) ∧ TW K (gof gX1) Ψ L f2 ∧ rawk Ψ L f0 f2 ∧ (E = "java/util/NoSuchElementException"))) 1 6 (fun q => b0 ≤ q) := by
  refine t_xof (own := RX6) (by decide) rfl ?_ (Nat.le_of_ble_eq_true rfl)
  intro p e s m below meth c ls C w hsz hr hlk htb hl
  have hx := C.1
  have hb := C.2.1
  have hl : lv_has ls 5 [(0, .ref x), (1, .int ha), (2, .int ce)] := hl
  have hb_ha := ti_bd ha
  have hb_ce := ti_bd ce
  have hR : rawk Ψ L f0 f0 := rawk.rf
  refine lv_iload_n hx hb dX6_back_0 rfl (lv_at hl 1 rfl) ?_
  refine lv_aload_n hx hb dX6_back_1 rfl (lv_at hl 0 rfl) ?_
  refine t_geti C w hT hm_x ht_x (by decide) rfl cin_6 9 (by decide) rfl rfl gw_296 dX6_back_2 (fun x1 hg => ?_)
  obtain rfl : x1 = 0 := gof_at rfl hg
  have n0 : (0 : Int32).toInt = 0 := by decide
  refine t_xcallS (n := 2) C w (c_X6_needElement l hls D K b0 sa _ L _ Ψ (gof gX1) hT ha) gw_656 gw_654 gw_655 gw_1 ⟨by decide, by decide, by decide +kernel⟩ rfl rfl ⟨by decide, by decide⟩ rfl hl.1 rfl (Nat.le_of_ble_eq_true rfl) dX6_back_5 ⟨by decide, by decide⟩ (fun E ce q9 u H locs hp w hcell hv0 hcl => ?_) (fun v u H locs hp w => ?_)
  · obtain ⟨f2, rfl, hT2, hR1, hpx⟩ := hp
    have hR := hR.tr hR1
    obtain rfl := hpx
    exact t_xout w htb hlk hcell hv0 hcl ⟨_, rfl, hT2, hR, rfl⟩ (by decide) (by decide)
  ·
    obtain ⟨rfl, rfl, hpv0⟩ := hp
    exact hpv0.elim
set_option maxHeartbeats 4000000 in
set_option maxRecDepth 100000 in
theorem c_X6_broken (l : Launch) (hls : l.stackTraces = false) (D : va_G) (K : Nat → ClassId) (b0 : Nat) (sa : Nat × Nat × Nat) (sz : Nat) (L : List Nat) (f0 : Nat → va_E) (Ψ : Nat → Nat) (hT : TW K (gof gX1) Ψ L f0) (x : Nat) (hm_x : x ∈ L) (ht_x : Ψ x = 6) (la : Int32) : vx_Met l yX6_broken (.code yX6_broken cX6_broken 3 (some .int) :: gt) { frames := 7, cells := 1, slots := 6, locals := 103 } (va_Pc [.ref x, .int la] (hPre D K b0 sa sz L f0)) (hQ D K b0 (fun v9 u9 => ∃ (r : Int32) (f2 : Nat → va_E), v9 = some (.int r) ∧ u9 = ((gof gX1), Ψ, L, f2) ∧ TW K (gof gX1) Ψ L f2 ∧ rawk Ψ L f0 f2 ∧ (r = 0 ∧ (False)))) (hX D K b0 (fun E u9 => ∃ f2 : Nat → va_E, u9 = ((gof gX1), Ψ, L, f2) ∧ TW K (gof gX1) Ψ L f2 ∧ rawk Ψ L f0 f2 ∧ (E = "java/util/NoSuchElementException"))) 1 6 (fun q => b0 ≤ q) := by
  refine t_xof (own := RX6) (by decide) rfl ?_ (Nat.le_of_ble_eq_true rfl)
  intro p e s m below meth c ls C w hsz hr hlk htb hl
  have hx := C.1
  have hb := C.2.1
  have hl : lv_has ls 3 [(0, .ref x), (1, .int la)] := hl
  have hb_la := ti_bd la
  have hR : rawk Ψ L f0 f0 := rawk.rf
  refine lv_iload_n hx hb dX6_broken_0 rfl (lv_at hl 1 rfl) ?_
  refine lv_aload_n hx hb dX6_broken_1 rfl (lv_at hl 0 rfl) ?_
  refine t_geti C w hT hm_x ht_x (by decide) rfl cin_6 7 (by decide) rfl rfl gw_294 dX6_broken_2 (fun x1 hg => ?_)
  obtain rfl : x1 = 0 := gof_at rfl hg
  have n0 : (0 : Int32).toInt = 0 := by decide
  refine t_xcallS (n := 2) C w (c_X6_needElement l hls D K b0 sa _ L _ Ψ (gof gX1) hT la) gw_656 gw_654 gw_655 gw_1 ⟨by decide, by decide, by decide +kernel⟩ rfl rfl ⟨by decide, by decide⟩ rfl hl.1 rfl (Nat.le_of_ble_eq_true rfl) dX6_broken_5 ⟨by decide, by decide⟩ (fun E ce q9 u H locs hp w hcell hv0 hcl => ?_) (fun v u H locs hp w => ?_)
  · obtain ⟨f2, rfl, hT2, hR1, hpx⟩ := hp
    have hR := hR.tr hR1
    obtain rfl := hpx
    exact t_xout w htb hlk hcell hv0 hcl ⟨_, rfl, hT2, hR, rfl⟩ (by decide) (by decide)
  ·
    obtain ⟨rfl, rfl, hpv0⟩ := hp
    exact hpv0.elim
set_option maxHeartbeats 4000000 in
set_option maxRecDepth 100000 in
theorem c_X6_cut (l : Launch) (hls : l.stackTraces = false) (D : va_G) (K : Nat → ClassId) (b0 : Nat) (sa : Nat × Nat × Nat) (sz : Nat) (L : List Nat) (f0 : Nat → va_E) (Ψ : Nat → Nat) (hT : TW K (gof gX1) Ψ L f0) (x : Nat) (hm_x : x ∈ L) (ht_x : Ψ x = 6) (ha : Int32) (ai : Int32) (sg : Int32) (ru : Int32) (ow : Int32) : vx_Met l yX6_cut (.code yX6_cut cX6_cut 10 (some .int) :: gt) { frames := 7, cells := 1, slots := 6, locals := 103 } (va_Pc [.ref x, .int ha, .int ai, .int sg, .int ru, .int ow] (hPre D K b0 sa sz L f0)) (hQ D K b0 (fun v9 u9 => ∃ (r : Int32) (f2 : Nat → va_E), v9 = some (.int r) ∧ u9 = ((gof gX1), Ψ, L, f2) ∧ TW K (gof gX1) Ψ L f2 ∧ rawk Ψ L f0 f2 ∧ (r = 0 ∧ (False)))) (hX D K b0 (fun E u9 => ∃ f2 : Nat → va_E, u9 = ((gof gX1), Ψ, L, f2) ∧ TW K (gof gX1) Ψ L f2 ∧ rawk Ψ L f0 f2 ∧ (E = "java/util/NoSuchElementException"))) 1 6 (fun q => b0 ≤ q) := by
  refine t_xof (own := RX6) (by decide) rfl ?_ (Nat.le_of_ble_eq_true rfl)
  intro p e s m below meth c ls C w hsz hr hlk htb hl
  have hx := C.1
  have hb := C.2.1
  have hl : lv_has ls 10 [(0, .ref x), (1, .int ha), (2, .int ai), (3, .int sg), (4, .int ru), (5, .int ow)] := hl
  have hb_ha := ti_bd ha
  have hb_ai := ti_bd ai
  have hb_sg := ti_bd sg
  have hb_ru := ti_bd ru
  have hb_ow := ti_bd ow
  have hR : rawk Ψ L f0 f0 := rawk.rf
  refine lv_iload_n hx hb dX6_cut_0 rfl (lv_at hl 1 rfl) ?_
  refine lv_aload_n hx hb dX6_cut_1 rfl (lv_at hl 0 rfl) ?_
  refine t_geti C w hT hm_x ht_x (by decide) rfl cin_6 9 (by decide) rfl rfl gw_296 dX6_cut_2 (fun x1 hg => ?_)
  obtain rfl : x1 = 0 := gof_at rfl hg
  have n0 : (0 : Int32).toInt = 0 := by decide
  refine t_xcallS (n := 2) C w (c_X6_needElement l hls D K b0 sa _ L _ Ψ (gof gX1) hT ha) gw_656 gw_654 gw_655 gw_1 ⟨by decide, by decide, by decide +kernel⟩ rfl rfl ⟨by decide, by decide⟩ rfl hl.1 rfl (Nat.le_of_ble_eq_true rfl) dX6_cut_5 ⟨by decide, by decide⟩ (fun E ce q9 u H locs hp w hcell hv0 hcl => ?_) (fun v u H locs hp w => ?_)
  · obtain ⟨f2, rfl, hT2, hR1, hpx⟩ := hp
    have hR := hR.tr hR1
    obtain rfl := hpx
    exact t_xout w htb hlk hcell hv0 hcl ⟨_, rfl, hT2, hR, rfl⟩ (by decide) (by decide)
  ·
    obtain ⟨rfl, rfl, hpv0⟩ := hp
    exact hpv0.elim
set_option maxHeartbeats 4000000 in
set_option maxRecDepth 100000 in
theorem c_X6_restore (l : Launch) (D : va_G) (K : Nat → ClassId) (b0 : Nat) (sa : Nat × Nat × Nat) (sz : Nat) (L : List Nat) (f0 : Nat → va_E) (Ψ : Nat → Nat) (hT : TW K (gof gX1) Ψ L f0) (x : Nat) (hm_x : x ∈ L) (ht_x : Ψ x = 6) : Met l yX6_restore (.code yX6_restore cX6_restore 1 (some .int) :: gt) { frames := 0, cells := 0, slots := 0, locals := 0 } (va_Pc [.ref x] (hPre D K b0 sa sz L f0)) (hQ D K b0 (fun v9 u9 => ∃ r : Int32, v9 = some (.int r) ∧ u9 = ((gof gX1), Ψ, L, f0) ∧ (r = (-1)))) 0 0 (fun q => b0 ≤ q) := by
  refine t_of (own := RX6) (by decide) rfl ?_ (Nat.le_of_ble_eq_true rfl)
  intro p e s m below meth c ls C w hsz hr hlk hnm hl
  have hx := C.1
  have hb := C.2.1
  have hl : lv_has ls 1 [(0, .ref x)] := hl
  have hR : rawk Ψ L f0 f0 := rawk.rf
  refine lv_aload_n hx hb dX6_restore_0 rfl (lv_at hl 0 rfl) ?_
  refine t_geti C w hT hm_x ht_x (by decide) rfl cin_6 3 (by decide) rfl rfl gw_290 dX6_restore_1 (fun x1 hg => ?_)
  obtain rfl : x1 = 0 := gof_at rfl hg
  refine lv_if_gt (tgt := 9) hx hb dX6_restore_4 (by decide) (fun c0 => absurd c0 (by decide)) (fun _ => ?_)
  refine lv_iconst (v := (-1)) hx hb dX6_restore_7 (by decide) ?_
  have nm1 : ((-1) : Int32).toInt = -1 := by decide
  exact t_iret C hr hlk w ⟨_, rfl, rfl, rfl⟩ (by decide) (by decide) dX6_restore_8
