theorem dX7_isHand_0 : decode cX7_isHand 0 = .ok (.iload_n 1, 1) := by decide +kernel
theorem dX7_isHand_1 : decode cX7_isHand 1 = .ok (.iconst 0, 1) := by decide +kernel
theorem dX7_isHand_2 : decode cX7_isHand 2 = .ok (.aload_n 0, 1) := by decide +kernel
theorem dX7_isHand_3 : decode cX7_isHand 3 = .ok (.getfield 330, 3) := by decide +kernel
theorem dX7_isHand_6 : decode cX7_isHand 6 = .ok (.iconst 1, 1) := by decide +kernel
theorem dX7_isHand_7 : decode cX7_isHand 7 = .ok (.isub, 1) := by decide +kernel
theorem dX7_isHand_8 : decode cX7_isHand 8 = .ok (.invokestatic 100, 3) := by decide +kernel
theorem dX7_isHand_11 : decode cX7_isHand 11 = .ok (.ireturn, 1) := by decide +kernel
theorem dX7_topOf_0 : decode cX7_topOf 0 = .ok (.aload_n 0, 1) := by decide +kernel
theorem dX7_topOf_1 : decode cX7_topOf 1 = .ok (.getfield 55, 3) := by decide +kernel
theorem dX7_topOf_4 : decode cX7_topOf 4 = .ok (.iload_n 1, 1) := by decide +kernel
theorem dX7_topOf_5 : decode cX7_topOf 5 = .ok (.iaload, 1) := by decide +kernel
theorem dX7_topOf_6 : decode cX7_topOf 6 = .ok (.ifCond .ne 7, 3) := by decide +kernel
theorem dX7_topOf_9 : decode cX7_topOf 9 = .ok (.iconst (-1), 1) := by decide +kernel
theorem dX7_topOf_10 : decode cX7_topOf 10 = .ok (.goto 18, 3) := by decide +kernel
theorem dX7_topOf_13 : decode cX7_topOf 13 = .ok (.aload_n 0, 1) := by decide +kernel
theorem dX7_topOf_14 : decode cX7_topOf 14 = .ok (.getfield 52, 3) := by decide +kernel
theorem dX7_topOf_17 : decode cX7_topOf 17 = .ok (.iload_n 1, 1) := by decide +kernel
theorem dX7_topOf_18 : decode cX7_topOf 18 = .ok (.aaload, 1) := by decide +kernel
theorem dX7_topOf_19 : decode cX7_topOf 19 = .ok (.aload_n 0, 1) := by decide +kernel
theorem dX7_topOf_20 : decode cX7_topOf 20 = .ok (.getfield 55, 3) := by decide +kernel
theorem dX7_topOf_23 : decode cX7_topOf 23 = .ok (.iload_n 1, 1) := by decide +kernel
theorem dX7_topOf_24 : decode cX7_topOf 24 = .ok (.iaload, 1) := by decide +kernel
theorem dX7_topOf_25 : decode cX7_topOf 25 = .ok (.iconst 1, 1) := by decide +kernel
theorem dX7_topOf_26 : decode cX7_topOf 26 = .ok (.isub, 1) := by decide +kernel
theorem dX7_topOf_27 : decode cX7_topOf 27 = .ok (.iaload, 1) := by decide +kernel
theorem dX7_topOf_28 : decode cX7_topOf 28 = .ok (.ireturn, 1) := by decide +kernel
theorem dX7_thrown_0 : decode cX7_thrown 0 = .ok (.aload_n 0, 1) := by decide +kernel
theorem dX7_thrown_1 : decode cX7_thrown 1 = .ok (.getfield 97, 3) := by decide +kernel
theorem dX7_thrown_4 : decode cX7_thrown 4 = .ok (.ireturn, 1) := by decide +kernel
theorem dX7_wire_0 : decode cX7_wire 0 = .ok (.aload_n 0, 1) := by decide +kernel
theorem dX7_wire_1 : decode cX7_wire 1 = .ok (.iconst 0, 1) := by decide +kernel
theorem dX7_wire_2 : decode cX7_wire 2 = .ok (.putfield 97, 3) := by decide +kernel
theorem dX7_wire_5 : decode cX7_wire 5 = .ok (.aload_n 0, 1) := by decide +kernel
theorem dX7_wire_6 : decode cX7_wire 6 = .ok (.iload_n 1, 1) := by decide +kernel
theorem dX7_wire_7 : decode cX7_wire 7 = .ok (.iconst 0, 1) := by decide +kernel
theorem dX7_wire_8 : decode cX7_wire 8 = .ok (.aload_n 0, 1) := by decide +kernel
theorem dX7_wire_9 : decode cX7_wire 9 = .ok (.getfield 256, 3) := by decide +kernel
theorem dX7_wire_12 : decode cX7_wire 12 = .ok (.iconst 1, 1) := by decide +kernel
theorem dX7_wire_13 : decode cX7_wire 13 = .ok (.isub, 1) := by decide +kernel
theorem dX7_wire_14 : decode cX7_wire 14 = .ok (.invokestatic 100, 3) := by decide +kernel
theorem dX7_wire_17 : decode cX7_wire 17 = .ok (.ifCond .ne 7, 3) := by decide +kernel
theorem dX7_wire_20 : decode cX7_wire 20 = .ok (.iconst 1, 1) := by decide +kernel
theorem dX7_wire_21 : decode cX7_wire 21 = .ok (.goto 4, 3) := by decide +kernel
theorem dX7_wire_24 : decode cX7_wire 24 = .ok (.iconst 0, 1) := by decide +kernel
theorem dX7_wire_25 : decode cX7_wire 25 = .ok (.iconst 1, 1) := by decide +kernel
theorem dX7_wire_26 : decode cX7_wire 26 = .ok (.invokevirtual 206, 3) := by decide +kernel
theorem dX7_wire_29 : decode cX7_wire 29 = .ok (.ifCond .eq 5, 3) := by decide +kernel
theorem dX7_wire_32 : decode cX7_wire 32 = .ok (.iconst 0, 1) := by decide +kernel
theorem dX7_wire_33 : decode cX7_wire 33 = .ok (.ireturn, 1) := by decide +kernel
theorem dX7_wire_34 : decode cX7_wire 34 = .ok (.aload_n 0, 1) := by decide +kernel
theorem dX7_wire_35 : decode cX7_wire 35 = .ok (.getfield 48, 3) := by decide +kernel
theorem dX7_wire_38 : decode cX7_wire 38 = .ok (.iload_n 1, 1) := by decide +kernel
theorem dX7_wire_39 : decode cX7_wire 39 = .ok (.baload, 1) := by decide +kernel
theorem dX7_wire_40 : decode cX7_wire 40 = .ok (.istore_n 3, 1) := by decide +kernel
theorem dX7_wire_41 : decode cX7_wire 41 = .ok (.aload_n 0, 1) := by decide +kernel
theorem dX7_wire_42 : decode cX7_wire 42 = .ok (.getfield 48, 3) := by decide +kernel
theorem dX7_wire_45 : decode cX7_wire 45 = .ok (.iload_n 1, 1) := by decide +kernel
theorem dX7_wire_46 : decode cX7_wire 46 = .ok (.iload_n 2, 1) := by decide +kernel
theorem dX7_wire_47 : decode cX7_wire 47 = .ok (.bastore, 1) := by decide +kernel
theorem dX7_wire_48 : decode cX7_wire 48 = .ok (.iload_n 3, 1) := by decide +kernel
theorem dX7_wire_49 : decode cX7_wire 49 = .ok (.ireturn, 1) := by decide +kernel
theorem dX7_key_0 : decode cX7_key 0 = .ok (.aload_n 0, 1) := by decide +kernel
theorem dX7_key_1 : decode cX7_key 1 = .ok (.iconst 0, 1) := by decide +kernel
theorem dX7_key_2 : decode cX7_key 2 = .ok (.putfield 97, 3) := by decide +kernel
theorem dX7_key_5 : decode cX7_key 5 = .ok (.aload_n 0, 1) := by decide +kernel
theorem dX7_key_6 : decode cX7_key 6 = .ok (.iload_n 1, 1) := by decide +kernel
theorem dX7_key_7 : decode cX7_key 7 = .ok (.iconst 0, 1) := by decide +kernel
theorem dX7_key_8 : decode cX7_key 8 = .ok (.aload_n 0, 1) := by decide +kernel
theorem dX7_key_9 : decode cX7_key 9 = .ok (.getfield 256, 3) := by decide +kernel
theorem dX7_key_12 : decode cX7_key 12 = .ok (.iconst 1, 1) := by decide +kernel
theorem dX7_key_13 : decode cX7_key 13 = .ok (.isub, 1) := by decide +kernel
theorem dX7_key_14 : decode cX7_key 14 = .ok (.invokestatic 100, 3) := by decide +kernel
theorem dX7_key_17 : decode cX7_key 17 = .ok (.ifCond .ne 7, 3) := by decide +kernel
theorem dX7_key_20 : decode cX7_key 20 = .ok (.iconst 1, 1) := by decide +kernel
theorem dX7_key_21 : decode cX7_key 21 = .ok (.goto 4, 3) := by decide +kernel
theorem dX7_key_24 : decode cX7_key 24 = .ok (.iconst 0, 1) := by decide +kernel
theorem dX7_key_25 : decode cX7_key 25 = .ok (.iconst 1, 1) := by decide +kernel
theorem dX7_key_26 : decode cX7_key 26 = .ok (.invokevirtual 206, 3) := by decide +kernel
theorem dX7_key_29 : decode cX7_key 29 = .ok (.ifCond .eq 5, 3) := by decide +kernel
theorem dX7_key_32 : decode cX7_key 32 = .ok (.iconst 0, 1) := by decide +kernel
theorem dX7_key_33 : decode cX7_key 33 = .ok (.ireturn, 1) := by decide +kernel
theorem dX7_key_34 : decode cX7_key 34 = .ok (.aload_n 0, 1) := by decide +kernel
theorem dX7_key_35 : decode cX7_key 35 = .ok (.getfield 45, 3) := by decide +kernel
theorem dX7_key_38 : decode cX7_key 38 = .ok (.iload_n 1, 1) := by decide +kernel
theorem dX7_key_39 : decode cX7_key 39 = .ok (.iaload, 1) := by decide +kernel
theorem dX7_key_40 : decode cX7_key 40 = .ok (.ifCond .ge 5, 3) := by decide +kernel
theorem dX7_key_43 : decode cX7_key 43 = .ok (.iconst 0, 1) := by decide +kernel
theorem dX7_key_44 : decode cX7_key 44 = .ok (.ireturn, 1) := by decide +kernel
theorem dX7_key_45 : decode cX7_key 45 = .ok (.aload_n 0, 1) := by decide +kernel
theorem dX7_key_46 : decode cX7_key 46 = .ok (.iload_n 1, 1) := by decide +kernel
theorem dX7_key_47 : decode cX7_key 47 = .ok (.bipush (-2), 2) := by decide +kernel
theorem dX7_key_49 : decode cX7_key 49 = .ok (.invokevirtual 265, 3) := by decide +kernel
theorem dX7_key_52 : decode cX7_key 52 = .ok (.iconst 1, 1) := by decide +kernel
theorem dX7_key_53 : decode cX7_key 53 = .ok (.ireturn, 1) := by decide +kernel
theorem dX7_thing_0 : decode cX7_thing 0 = .ok (.aload_n 0, 1) := by decide +kernel
theorem dX7_thing_1 : decode cX7_thing 1 = .ok (.iconst 0, 1) := by decide +kernel
theorem dX7_thing_2 : decode cX7_thing 2 = .ok (.putfield 97, 3) := by decide +kernel
theorem dX7_thing_5 : decode cX7_thing 5 = .ok (.aload_n 0, 1) := by decide +kernel
theorem dX7_thing_6 : decode cX7_thing 6 = .ok (.iload_n 1, 1) := by decide +kernel
theorem dX7_thing_7 : decode cX7_thing 7 = .ok (.iconst 0, 1) := by decide +kernel
theorem dX7_thing_8 : decode cX7_thing 8 = .ok (.aload_n 0, 1) := by decide +kernel
theorem dX7_thing_9 : decode cX7_thing 9 = .ok (.getfield 256, 3) := by decide +kernel
theorem dX7_thing_12 : decode cX7_thing 12 = .ok (.iconst 1, 1) := by decide +kernel
theorem dX7_thing_13 : decode cX7_thing 13 = .ok (.isub, 1) := by decide +kernel
theorem dX7_thing_14 : decode cX7_thing 14 = .ok (.invokestatic 100, 3) := by decide +kernel
theorem dX7_thing_17 : decode cX7_thing 17 = .ok (.ifCond .ne 7, 3) := by decide +kernel
theorem dX7_thing_20 : decode cX7_thing 20 = .ok (.iconst 1, 1) := by decide +kernel
theorem dX7_thing_21 : decode cX7_thing 21 = .ok (.goto 4, 3) := by decide +kernel
theorem dX7_thing_24 : decode cX7_thing 24 = .ok (.iconst 0, 1) := by decide +kernel
theorem dX7_thing_25 : decode cX7_thing 25 = .ok (.iconst 1, 1) := by decide +kernel
theorem dX7_thing_26 : decode cX7_thing 26 = .ok (.invokevirtual 206, 3) := by decide +kernel
theorem dX7_thing_29 : decode cX7_thing 29 = .ok (.ifCond .ne 25, 3) := by decide +kernel
theorem dX7_thing_32 : decode cX7_thing 32 = .ok (.aload_n 0, 1) := by decide +kernel
theorem dX7_thing_33 : decode cX7_thing 33 = .ok (.iload_n 2, 1) := by decide +kernel
theorem dX7_thing_34 : decode cX7_thing 34 = .ok (.iconst 0, 1) := by decide +kernel
theorem dX7_thing_35 : decode cX7_thing 35 = .ok (.iconst 5, 1) := by decide +kernel
theorem dX7_thing_36 : decode cX7_thing 36 = .ok (.invokestatic 100, 3) := by decide +kernel
theorem dX7_thing_39 : decode cX7_thing 39 = .ok (.ifCond .ne 7, 3) := by decide +kernel
theorem dX7_thing_42 : decode cX7_thing 42 = .ok (.iconst 1, 1) := by decide +kernel
theorem dX7_thing_43 : decode cX7_thing 43 = .ok (.goto 4, 3) := by decide +kernel
theorem dX7_thing_46 : decode cX7_thing 46 = .ok (.iconst 0, 1) := by decide +kernel
theorem dX7_thing_47 : decode cX7_thing 47 = .ok (.iconst 2, 1) := by decide +kernel
theorem dX7_thing_48 : decode cX7_thing 48 = .ok (.invokevirtual 206, 3) := by decide +kernel
theorem dX7_thing_51 : decode cX7_thing 51 = .ok (.ifCond .eq 5, 3) := by decide +kernel
theorem dX7_thing_54 : decode cX7_thing 54 = .ok (.iconst 0, 1) := by decide +kernel
theorem dX7_thing_55 : decode cX7_thing 55 = .ok (.ireturn, 1) := by decide +kernel
theorem dX7_thing_56 : decode cX7_thing 56 = .ok (.iload_n 2, 1) := by decide +kernel
theorem dX7_thing_57 : decode cX7_thing 57 = .ok (.tableswitch 82 0 4 #[35, 42, 61, 68, 75], 35) := by decide +kernel
theorem dX7_thing_92 : decode cX7_thing 92 = .ok (.aload_n 0, 1) := by decide +kernel
theorem dX7_thing_93 : decode cX7_thing 93 = .ok (.getfield 45, 3) := by decide +kernel
theorem dX7_thing_96 : decode cX7_thing 96 = .ok (.iload_n 1, 1) := by decide +kernel
theorem dX7_thing_97 : decode cX7_thing 97 = .ok (.iaload, 1) := by decide +kernel
theorem dX7_thing_98 : decode cX7_thing 98 = .ok (.ireturn, 1) := by decide +kernel
theorem dX7_thing_99 : decode cX7_thing 99 = .ok (.aload_n 0, 1) := by decide +kernel
theorem dX7_thing_100 : decode cX7_thing 100 = .ok (.getfield 45, 3) := by decide +kernel
theorem dX7_thing_103 : decode cX7_thing 103 = .ok (.iload_n 1, 1) := by decide +kernel
theorem dX7_thing_104 : decode cX7_thing 104 = .ok (.iaload, 1) := by decide +kernel
theorem dX7_thing_105 : decode cX7_thing 105 = .ok (.ifCond .ge 7, 3) := by decide +kernel
theorem dX7_thing_108 : decode cX7_thing 108 = .ok (.iconst (-1), 1) := by decide +kernel
theorem dX7_thing_109 : decode cX7_thing 109 = .ok (.goto 8, 3) := by decide +kernel
theorem dX7_thing_112 : decode cX7_thing 112 = .ok (.aload_n 0, 1) := by decide +kernel
theorem dX7_thing_113 : decode cX7_thing 113 = .ok (.iload_n 1, 1) := by decide +kernel
theorem dX7_thing_114 : decode cX7_thing 114 = .ok (.invokevirtual 262, 3) := by decide +kernel
theorem dX7_thing_117 : decode cX7_thing 117 = .ok (.ireturn, 1) := by decide +kernel
theorem dX7_thing_118 : decode cX7_thing 118 = .ok (.aload_n 0, 1) := by decide +kernel
theorem dX7_thing_119 : decode cX7_thing 119 = .ok (.getfield 33, 3) := by decide +kernel
theorem dX7_thing_122 : decode cX7_thing 122 = .ok (.iload_n 1, 1) := by decide +kernel
theorem dX7_thing_123 : decode cX7_thing 123 = .ok (.iaload, 1) := by decide +kernel
theorem dX7_thing_124 : decode cX7_thing 124 = .ok (.ireturn, 1) := by decide +kernel
theorem dX7_thing_125 : decode cX7_thing 125 = .ok (.aload_n 0, 1) := by decide +kernel
theorem dX7_thing_126 : decode cX7_thing 126 = .ok (.getfield 36, 3) := by decide +kernel
theorem dX7_thing_129 : decode cX7_thing 129 = .ok (.iload_n 1, 1) := by decide +kernel
theorem dX7_thing_130 : decode cX7_thing 130 = .ok (.iaload, 1) := by decide +kernel
theorem dX7_thing_131 : decode cX7_thing 131 = .ok (.ireturn, 1) := by decide +kernel
theorem dX7_thing_132 : decode cX7_thing 132 = .ok (.aload_n 0, 1) := by decide +kernel
theorem dX7_thing_133 : decode cX7_thing 133 = .ok (.getfield 39, 3) := by decide +kernel
theorem dX7_thing_136 : decode cX7_thing 136 = .ok (.iload_n 1, 1) := by decide +kernel
theorem dX7_thing_137 : decode cX7_thing 137 = .ok (.iaload, 1) := by decide +kernel
theorem dX7_thing_138 : decode cX7_thing 138 = .ok (.ireturn, 1) := by decide +kernel
theorem dX7_thing_139 : decode cX7_thing 139 = .ok (.aload_n 0, 1) := by decide +kernel
theorem dX7_thing_140 : decode cX7_thing 140 = .ok (.getfield 48, 3) := by decide +kernel
theorem dX7_thing_143 : decode cX7_thing 143 = .ok (.iload_n 1, 1) := by decide +kernel
theorem dX7_thing_144 : decode cX7_thing 144 = .ok (.baload, 1) := by decide +kernel
theorem dX7_thing_145 : decode cX7_thing 145 = .ok (.ifCond .eq 7, 3) := by decide +kernel
theorem dX7_thing_148 : decode cX7_thing 148 = .ok (.iconst 1, 1) := by decide +kernel
theorem dX7_thing_149 : decode cX7_thing 149 = .ok (.goto 4, 3) := by decide +kernel
theorem dX7_thing_152 : decode cX7_thing 152 = .ok (.iconst 0, 1) := by decide +kernel
theorem dX7_thing_153 : decode cX7_thing 153 = .ok (.ireturn, 1) := by decide +kernel
theorem dX7_record_0 : decode cX7_record 0 = .ok (.aload_n 0, 1) := by decide +kernel
theorem dX7_record_1 : decode cX7_record 1 = .ok (.iconst 0, 1) := by decide +kernel
theorem dX7_record_2 : decode cX7_record 2 = .ok (.putfield 97, 3) := by decide +kernel
theorem dX7_record_5 : decode cX7_record 5 = .ok (.aload_n 0, 1) := by decide +kernel
theorem dX7_record_6 : decode cX7_record 6 = .ok (.iload_n 1, 1) := by decide +kernel
theorem dX7_record_7 : decode cX7_record 7 = .ok (.iconst 0, 1) := by decide +kernel
theorem dX7_record_8 : decode cX7_record 8 = .ok (.aload_n 0, 1) := by decide +kernel
theorem dX7_record_9 : decode cX7_record 9 = .ok (.getfield 313, 3) := by decide +kernel
theorem dX7_record_12 : decode cX7_record 12 = .ok (.iconst 1, 1) := by decide +kernel
theorem dX7_record_13 : decode cX7_record 13 = .ok (.isub, 1) := by decide +kernel
theorem dX7_record_14 : decode cX7_record 14 = .ok (.invokestatic 100, 3) := by decide +kernel
theorem dX7_record_17 : decode cX7_record 17 = .ok (.ifCond .ne 7, 3) := by decide +kernel
theorem dX7_record_20 : decode cX7_record 20 = .ok (.iconst 1, 1) := by decide +kernel
theorem dX7_record_21 : decode cX7_record 21 = .ok (.goto 4, 3) := by decide +kernel
theorem dX7_record_24 : decode cX7_record 24 = .ok (.iconst 0, 1) := by decide +kernel
theorem dX7_record_25 : decode cX7_record 25 = .ok (.iconst 1, 1) := by decide +kernel
theorem dX7_record_26 : decode cX7_record 26 = .ok (.invokevirtual 206, 3) := by decide +kernel
theorem dX7_record_29 : decode cX7_record 29 = .ok (.ifCond .ne 26, 3) := by decide +kernel
theorem dX7_record_32 : decode cX7_record 32 = .ok (.aload_n 0, 1) := by decide +kernel
theorem dX7_record_33 : decode cX7_record 33 = .ok (.iload_n 2, 1) := by decide +kernel
theorem dX7_record_34 : decode cX7_record 34 = .ok (.iconst 0, 1) := by decide +kernel
theorem dX7_record_35 : decode cX7_record 35 = .ok (.bipush 9, 2) := by decide +kernel
theorem dX7_record_37 : decode cX7_record 37 = .ok (.invokestatic 100, 3) := by decide +kernel
theorem dX7_record_40 : decode cX7_record 40 = .ok (.ifCond .ne 7, 3) := by decide +kernel
theorem dX7_record_43 : decode cX7_record 43 = .ok (.iconst 1, 1) := by decide +kernel
theorem dX7_record_44 : decode cX7_record 44 = .ok (.goto 4, 3) := by decide +kernel
theorem dX7_record_47 : decode cX7_record 47 = .ok (.iconst 0, 1) := by decide +kernel
theorem dX7_record_48 : decode cX7_record 48 = .ok (.iconst 2, 1) := by decide +kernel
theorem dX7_record_49 : decode cX7_record 49 = .ok (.invokevirtual 206, 3) := by decide +kernel
theorem dX7_record_52 : decode cX7_record 52 = .ok (.ifCond .eq 5, 3) := by decide +kernel
theorem dX7_record_55 : decode cX7_record 55 = .ok (.iconst 0, 1) := by decide +kernel
theorem dX7_record_56 : decode cX7_record 56 = .ok (.ireturn, 1) := by decide +kernel
theorem dX7_record_57 : decode cX7_record 57 = .ok (.aload_n 0, 1) := by decide +kernel
theorem dX7_record_58 : decode cX7_record 58 = .ok (.getfield 73, 3) := by decide +kernel
theorem dX7_record_61 : decode cX7_record 61 = .ok (.iload_n 1, 1) := by decide +kernel
theorem dX7_record_62 : decode cX7_record 62 = .ok (.aaload, 1) := by decide +kernel
theorem dX7_record_63 : decode cX7_record 63 = .ok (.iload_n 2, 1) := by decide +kernel
theorem dX7_record_64 : decode cX7_record 64 = .ok (.iaload, 1) := by decide +kernel
theorem dX7_record_65 : decode cX7_record 65 = .ok (.ireturn, 1) := by decide +kernel
theorem dX7_play_0 : decode cX7_play 0 = .ok (.aload_n 0, 1) := by decide +kernel
theorem dX7_play_1 : decode cX7_play 1 = .ok (.iconst 0, 1) := by decide +kernel
theorem dX7_play_2 : decode cX7_play 2 = .ok (.putfield 97, 3) := by decide +kernel
theorem dX7_play_5 : decode cX7_play 5 = .ok (.aload_n 0, 1) := by decide +kernel
theorem dX7_play_6 : decode cX7_play 6 = .ok (.aload_n 0, 1) := by decide +kernel
theorem dX7_play_7 : decode cX7_play 7 = .ok (.iload_n 1, 1) := by decide +kernel
theorem dX7_play_8 : decode cX7_play 8 = .ok (.invokevirtual 333, 3) := by decide +kernel
theorem dX7_play_11 : decode cX7_play 11 = .ok (.ifCond .ne 7, 3) := by decide +kernel
theorem dX7_play_14 : decode cX7_play 14 = .ok (.iconst 1, 1) := by decide +kernel
theorem dX7_play_15 : decode cX7_play 15 = .ok (.goto 4, 3) := by decide +kernel
theorem dX7_play_18 : decode cX7_play 18 = .ok (.iconst 0, 1) := by decide +kernel
theorem dX7_play_19 : decode cX7_play 19 = .ok (.iconst 1, 1) := by decide +kernel
theorem dX7_play_20 : decode cX7_play 20 = .ok (.invokevirtual 206, 3) := by decide +kernel
theorem dX7_play_23 : decode cX7_play 23 = .ok (.ifCond .ne 23, 3) := by decide +kernel
theorem dX7_play_26 : decode cX7_play 26 = .ok (.aload_n 0, 1) := by decide +kernel
theorem dX7_play_27 : decode cX7_play 27 = .ok (.iload_n 2, 1) := by decide +kernel
theorem dX7_play_28 : decode cX7_play 28 = .ok (.invokestatic 253, 3) := by decide +kernel
theorem dX7_play_31 : decode cX7_play 31 = .ok (.ifCond .ne 7, 3) := by decide +kernel
theorem dX7_play_34 : decode cX7_play 34 = .ok (.iconst 1, 1) := by decide +kernel
theorem dX7_play_35 : decode cX7_play 35 = .ok (.goto 4, 3) := by decide +kernel
theorem dX7_play_38 : decode cX7_play 38 = .ok (.iconst 0, 1) := by decide +kernel
theorem dX7_play_39 : decode cX7_play 39 = .ok (.iconst 2, 1) := by decide +kernel
theorem dX7_play_40 : decode cX7_play 40 = .ok (.invokevirtual 206, 3) := by decide +kernel
theorem dX7_play_43 : decode cX7_play 43 = .ok (.ifCond .eq 5, 3) := by decide +kernel
theorem dX7_play_46 : decode cX7_play 46 = .ok (.iconst 0, 1) := by decide +kernel
theorem dX7_play_47 : decode cX7_play 47 = .ok (.ireturn, 1) := by decide +kernel
theorem dX7_play_48 : decode cX7_play 48 = .ok (.aload_n 0, 1) := by decide +kernel
theorem dX7_play_49 : decode cX7_play 49 = .ok (.getfield 313, 3) := by decide +kernel
theorem dX7_play_52 : decode cX7_play 52 = .ok (.sipush 200, 3) := by decide +kernel
theorem dX7_play_55 : decode cX7_play 55 = .ok (.if_icmp .ne 5, 3) := by decide +kernel
theorem dX7_play_58 : decode cX7_play 58 = .ok (.iconst (-1), 1) := by decide +kernel
theorem dX7_play_59 : decode cX7_play 59 = .ok (.ireturn, 1) := by decide +kernel
theorem dX7_play_60 : decode cX7_play 60 = .ok (.aload_n 0, 1) := by decide +kernel
theorem dX7_play_61 : decode cX7_play 61 = .ok (.aload_n 0, 1) := by decide +kernel
theorem dX7_play_62 : decode cX7_play 62 = .ok (.iload_n 1, 1) := by decide +kernel
theorem dX7_play_63 : decode cX7_play 63 = .ok (.invokevirtual 336, 3) := by decide +kernel
theorem dX7_play_66 : decode cX7_play 66 = .ok (.invokevirtual 320, 3) := by decide +kernel
theorem dX7_play_69 : decode cX7_play 69 = .ok (.istore_n 3, 1) := by decide +kernel
theorem dX7_play_70 : decode cX7_play 70 = .ok (.iconst 0, 1) := by decide +kernel
theorem dX7_play_71 : decode cX7_play 71 = .ok (.istore 4, 2) := by decide +kernel
theorem dX7_play_73 : decode cX7_play 73 = .ok (.iload_n 3, 1) := by decide +kernel
theorem dX7_play_74 : decode cX7_play 74 = .ok (.aload_n 0, 1) := by decide +kernel
theorem dX7_play_75 : decode cX7_play 75 = .ok (.getfield 76, 3) := by decide +kernel
theorem dX7_play_78 : decode cX7_play 78 = .ok (.iload_n 1, 1) := by decide +kernel
theorem dX7_play_79 : decode cX7_play 79 = .ok (.aaload, 1) := by decide +kernel
theorem dX7_play_80 : decode cX7_play 80 = .ok (.iload 4, 2) := by decide +kernel
theorem dX7_play_82 : decode cX7_play 82 = .ok (.iaload, 1) := by decide +kernel
theorem dX7_play_83 : decode cX7_play 83 = .ok (.if_icmp .lt 21, 3) := by decide +kernel
theorem dX7_play_86 : decode cX7_play 86 = .ok (.iload_n 3, 1) := by decide +kernel
theorem dX7_play_87 : decode cX7_play 87 = .ok (.aload_n 0, 1) := by decide +kernel
theorem dX7_play_88 : decode cX7_play 88 = .ok (.getfield 76, 3) := by decide +kernel
theorem dX7_play_91 : decode cX7_play 91 = .ok (.iload_n 1, 1) := by decide +kernel
theorem dX7_play_92 : decode cX7_play 92 = .ok (.aaload, 1) := by decide +kernel
theorem dX7_play_93 : decode cX7_play 93 = .ok (.iload 4, 2) := by decide +kernel
theorem dX7_play_95 : decode cX7_play 95 = .ok (.iaload, 1) := by decide +kernel
theorem dX7_play_96 : decode cX7_play 96 = .ok (.isub, 1) := by decide +kernel
theorem dX7_play_97 : decode cX7_play 97 = .ok (.istore_n 3, 1) := by decide +kernel
theorem dX7_play_98 : decode cX7_play 98 = .ok (.iinc 4 1, 3) := by decide +kernel
theorem dX7_play_101 : decode cX7_play 101 = .ok (.goto (-28), 3) := by decide +kernel
theorem dX7_play_104 : decode cX7_play 104 = .ok (.aload_n 0, 1) := by decide +kernel
theorem dX7_play_105 : decode cX7_play 105 = .ok (.iload_n 2, 1) := by decide +kernel
theorem dX7_play_106 : decode cX7_play 106 = .ok (.iload 4, 2) := by decide +kernel
theorem dX7_play_108 : decode cX7_play 108 = .ok (.invokestatic 339, 3) := by decide +kernel
theorem dX7_play_111 : decode cX7_play 111 = .ok (.invokevirtual 326, 3) := by decide +kernel
theorem dX7_play_114 : decode cX7_play 114 = .ok (.ireturn, 1) := by decide +kernel
theorem dX7_odds_0 : decode cX7_odds 0 = .ok (.aload_n 0, 1) := by decide +kernel
theorem dX7_odds_1 : decode cX7_odds 1 = .ok (.iconst 0, 1) := by decide +kernel
theorem dX7_odds_2 : decode cX7_odds 2 = .ok (.putfield 97, 3) := by decide +kernel
theorem dX7_odds_5 : decode cX7_odds 5 = .ok (.aload_n 0, 1) := by decide +kernel
theorem dX7_odds_6 : decode cX7_odds 6 = .ok (.aload_n 0, 1) := by decide +kernel
theorem dX7_odds_7 : decode cX7_odds 7 = .ok (.iload_n 1, 1) := by decide +kernel
theorem dX7_odds_8 : decode cX7_odds 8 = .ok (.invokevirtual 333, 3) := by decide +kernel
theorem dX7_odds_11 : decode cX7_odds 11 = .ok (.ifCond .ne 7, 3) := by decide +kernel
theorem dX7_odds_14 : decode cX7_odds 14 = .ok (.iconst 1, 1) := by decide +kernel
theorem dX7_odds_15 : decode cX7_odds 15 = .ok (.goto 4, 3) := by decide +kernel
theorem dX7_odds_18 : decode cX7_odds 18 = .ok (.iconst 0, 1) := by decide +kernel
theorem dX7_odds_19 : decode cX7_odds 19 = .ok (.iconst 1, 1) := by decide +kernel
theorem dX7_odds_20 : decode cX7_odds 20 = .ok (.invokevirtual 206, 3) := by decide +kernel
theorem dX7_odds_23 : decode cX7_odds 23 = .ok (.ifCond .ne 46, 3) := by decide +kernel
theorem dX7_odds_26 : decode cX7_odds 26 = .ok (.aload_n 0, 1) := by decide +kernel
theorem dX7_odds_27 : decode cX7_odds 27 = .ok (.iload_n 2, 1) := by decide +kernel
theorem dX7_odds_28 : decode cX7_odds 28 = .ok (.invokestatic 253, 3) := by decide +kernel
theorem dX7_odds_31 : decode cX7_odds 31 = .ok (.ifCond .ne 7, 3) := by decide +kernel
theorem dX7_odds_34 : decode cX7_odds 34 = .ok (.iconst 1, 1) := by decide +kernel
theorem dX7_odds_35 : decode cX7_odds 35 = .ok (.goto 4, 3) := by decide +kernel
theorem dX7_odds_38 : decode cX7_odds 38 = .ok (.iconst 0, 1) := by decide +kernel
theorem dX7_odds_39 : decode cX7_odds 39 = .ok (.iconst 2, 1) := by decide +kernel
theorem dX7_odds_40 : decode cX7_odds 40 = .ok (.invokevirtual 206, 3) := by decide +kernel
theorem dX7_odds_43 : decode cX7_odds 43 = .ok (.ifCond .ne 26, 3) := by decide +kernel
theorem dX7_odds_46 : decode cX7_odds 46 = .ok (.aload_n 0, 1) := by decide +kernel
theorem dX7_odds_47 : decode cX7_odds 47 = .ok (.iload_n 3, 1) := by decide +kernel
theorem dX7_odds_48 : decode cX7_odds 48 = .ok (.iconst 0, 1) := by decide +kernel
theorem dX7_odds_49 : decode cX7_odds 49 = .ok (.bipush 35, 2) := by decide +kernel
theorem dX7_odds_51 : decode cX7_odds 51 = .ok (.invokestatic 100, 3) := by decide +kernel
theorem dX7_odds_54 : decode cX7_odds 54 = .ok (.ifCond .ne 7, 3) := by decide +kernel
theorem dX7_odds_57 : decode cX7_odds 57 = .ok (.iconst 1, 1) := by decide +kernel
theorem dX7_odds_58 : decode cX7_odds 58 = .ok (.goto 4, 3) := by decide +kernel
theorem dX7_odds_61 : decode cX7_odds 61 = .ok (.iconst 0, 1) := by decide +kernel
theorem dX7_odds_62 : decode cX7_odds 62 = .ok (.iconst 3, 1) := by decide +kernel
theorem dX7_odds_63 : decode cX7_odds 63 = .ok (.invokevirtual 206, 3) := by decide +kernel
theorem dX7_odds_66 : decode cX7_odds 66 = .ok (.ifCond .eq 5, 3) := by decide +kernel
theorem dX7_odds_69 : decode cX7_odds 69 = .ok (.iconst 0, 1) := by decide +kernel
theorem dX7_odds_70 : decode cX7_odds 70 = .ok (.ireturn, 1) := by decide +kernel
theorem dX7_odds_71 : decode cX7_odds 71 = .ok (.iconst 0, 1) := by decide +kernel
theorem dX7_odds_72 : decode cX7_odds 72 = .ok (.istore 4, 2) := by decide +kernel
theorem dX7_odds_74 : decode cX7_odds 74 = .ok (.aload_n 0, 1) := by decide +kernel
theorem dX7_odds_75 : decode cX7_odds 75 = .ok (.iconst 1, 1) := by decide +kernel
theorem dX7_odds_76 : decode cX7_odds 76 = .ok (.invokevirtual 247, 3) := by decide +kernel
theorem dX7_odds_79 : decode cX7_odds 79 = .ok (.iconst 0, 1) := by decide +kernel
theorem dX7_odds_80 : decode cX7_odds 80 = .ok (.istore 5, 2) := by decide +kernel
theorem dX7_odds_82 : decode cX7_odds 82 = .ok (.iload 5, 2) := by decide +kernel
theorem dX7_odds_84 : decode cX7_odds 84 = .ok (.bipush 9, 2) := by decide +kernel
theorem dX7_odds_86 : decode cX7_odds 86 = .ok (.if_icmp .ge 45, 3) := by decide +kernel
theorem dX7_odds_89 : decode cX7_odds 89 = .ok (.iload 4, 2) := by decide +kernel
theorem dX7_odds_91 : decode cX7_odds 91 = .ok (.aload_n 0, 1) := by decide +kernel
theorem dX7_odds_92 : decode cX7_odds 92 = .ok (.iload_n 2, 1) := by decide +kernel
theorem dX7_odds_93 : decode cX7_odds 93 = .ok (.iload 5, 2) := by decide +kernel
theorem dX7_odds_95 : decode cX7_odds 95 = .ok (.invokestatic 339, 3) := by decide +kernel
theorem dX7_odds_98 : decode cX7_odds 98 = .ok (.aload_n 0, 1) := by decide +kernel
theorem dX7_odds_99 : decode cX7_odds 99 = .ok (.getfield 27, 3) := by decide +kernel
theorem dX7_odds_102 : decode cX7_odds 102 = .ok (.iload_n 3, 1) := by decide +kernel
theorem dX7_odds_103 : decode cX7_odds 103 = .ok (.invokevirtual 342, 3) := by decide +kernel
theorem dX7_odds_106 : decode cX7_odds 106 = .ok (.ifCond .eq 15, 3) := by decide +kernel
theorem dX7_odds_109 : decode cX7_odds 109 = .ok (.aload_n 0, 1) := by decide +kernel
theorem dX7_odds_110 : decode cX7_odds 110 = .ok (.getfield 76, 3) := by decide +kernel
theorem dX7_odds_113 : decode cX7_odds 113 = .ok (.iload_n 1, 1) := by decide +kernel
theorem dX7_odds_114 : decode cX7_odds 114 = .ok (.aaload, 1) := by decide +kernel
theorem dX7_odds_115 : decode cX7_odds 115 = .ok (.iload 5, 2) := by decide +kernel
theorem dX7_odds_117 : decode cX7_odds 117 = .ok (.iaload, 1) := by decide +kernel
theorem dX7_odds_118 : decode cX7_odds 118 = .ok (.goto 4, 3) := by decide +kernel
theorem dX7_odds_121 : decode cX7_odds 121 = .ok (.iconst 0, 1) := by decide +kernel
theorem dX7_odds_122 : decode cX7_odds 122 = .ok (.iadd, 1) := by decide +kernel
theorem dX7_odds_123 : decode cX7_odds 123 = .ok (.istore 4, 2) := by decide +kernel
theorem dX7_odds_125 : decode cX7_odds 125 = .ok (.iinc 5 1, 3) := by decide +kernel
theorem dX7_odds_128 : decode cX7_odds 128 = .ok (.goto (-46), 3) := by decide +kernel
theorem dX7_odds_131 : decode cX7_odds 131 = .ok (.iload 4, 2) := by decide +kernel
theorem dX7_odds_133 : decode cX7_odds 133 = .ok (.ireturn, 1) := by decide +kernel
theorem dX7_weights_0 : decode cX7_weights 0 = .ok (.aload_n 0, 1) := by decide +kernel
theorem dX7_weights_1 : decode cX7_weights 1 = .ok (.iconst 0, 1) := by decide +kernel
theorem dX7_weights_2 : decode cX7_weights 2 = .ok (.putfield 97, 3) := by decide +kernel
theorem dX7_weights_5 : decode cX7_weights 5 = .ok (.aload_n 0, 1) := by decide +kernel
theorem dX7_weights_6 : decode cX7_weights 6 = .ok (.aload_n 0, 1) := by decide +kernel
theorem dX7_weights_7 : decode cX7_weights 7 = .ok (.iload_n 1, 1) := by decide +kernel
theorem dX7_weights_8 : decode cX7_weights 8 = .ok (.invokevirtual 333, 3) := by decide +kernel
theorem dX7_weights_11 : decode cX7_weights 11 = .ok (.ifCond .ne 7, 3) := by decide +kernel
theorem dX7_weights_14 : decode cX7_weights 14 = .ok (.iconst 1, 1) := by decide +kernel
theorem dX7_weights_15 : decode cX7_weights 15 = .ok (.goto 4, 3) := by decide +kernel
theorem dX7_weights_18 : decode cX7_weights 18 = .ok (.iconst 0, 1) := by decide +kernel
theorem dX7_weights_19 : decode cX7_weights 19 = .ok (.iconst 1, 1) := by decide +kernel
theorem dX7_weights_20 : decode cX7_weights 20 = .ok (.invokevirtual 206, 3) := by decide +kernel
theorem dX7_weights_23 : decode cX7_weights 23 = .ok (.ifCond .eq 5, 3) := by decide +kernel
theorem dX7_weights_26 : decode cX7_weights 26 = .ok (.iconst 0, 1) := by decide +kernel
theorem dX7_weights_27 : decode cX7_weights 27 = .ok (.ireturn, 1) := by decide +kernel
theorem dX7_weights_28 : decode cX7_weights 28 = .ok (.aload_n 0, 1) := by decide +kernel
theorem dX7_weights_29 : decode cX7_weights 29 = .ok (.iload_n 1, 1) := by decide +kernel
theorem dX7_weights_30 : decode cX7_weights 30 = .ok (.invokevirtual 336, 3) := by decide +kernel
theorem dX7_weights_33 : decode cX7_weights 33 = .ok (.ireturn, 1) := by decide +kernel
theorem dX7_settle_0 : decode cX7_settle 0 = .ok (.aload_n 0, 1) := by decide +kernel
theorem dX7_settle_1 : decode cX7_settle 1 = .ok (.iconst 0, 1) := by decide +kernel
theorem dX7_settle_2 : decode cX7_settle 2 = .ok (.putfield 97, 3) := by decide +kernel
theorem dX7_settle_5 : decode cX7_settle 5 = .ok (.aload_n 0, 1) := by decide +kernel
theorem dX7_settle_6 : decode cX7_settle 6 = .ok (.aload_n 0, 1) := by decide +kernel
theorem dX7_settle_7 : decode cX7_settle 7 = .ok (.iload_n 1, 1) := by decide +kernel
theorem dX7_settle_8 : decode cX7_settle 8 = .ok (.invokevirtual 333, 3) := by decide +kernel
theorem dX7_settle_11 : decode cX7_settle 11 = .ok (.ifCond .ne 7, 3) := by decide +kernel
theorem dX7_settle_14 : decode cX7_settle 14 = .ok (.iconst 1, 1) := by decide +kernel
theorem dX7_settle_15 : decode cX7_settle 15 = .ok (.goto 4, 3) := by decide +kernel
theorem dX7_settle_18 : decode cX7_settle 18 = .ok (.iconst 0, 1) := by decide +kernel
theorem dX7_settle_19 : decode cX7_settle 19 = .ok (.iconst 1, 1) := by decide +kernel
theorem dX7_settle_20 : decode cX7_settle 20 = .ok (.invokevirtual 206, 3) := by decide +kernel
theorem dX7_settle_23 : decode cX7_settle 23 = .ok (.ifCond .ne 47, 3) := by decide +kernel
theorem dX7_settle_26 : decode cX7_settle 26 = .ok (.aload_n 0, 1) := by decide +kernel
theorem dX7_settle_27 : decode cX7_settle 27 = .ok (.iload_n 2, 1) := by decide +kernel
theorem dX7_settle_28 : decode cX7_settle 28 = .ok (.invokestatic 253, 3) := by decide +kernel
theorem dX7_settle_31 : decode cX7_settle 31 = .ok (.ifCond .ne 7, 3) := by decide +kernel
theorem dX7_settle_34 : decode cX7_settle 34 = .ok (.iconst 1, 1) := by decide +kernel
theorem dX7_settle_35 : decode cX7_settle 35 = .ok (.goto 4, 3) := by decide +kernel
theorem dX7_settle_38 : decode cX7_settle 38 = .ok (.iconst 0, 1) := by decide +kernel
theorem dX7_settle_39 : decode cX7_settle 39 = .ok (.iconst 2, 1) := by decide +kernel
theorem dX7_settle_40 : decode cX7_settle 40 = .ok (.invokevirtual 206, 3) := by decide +kernel
theorem dX7_settle_43 : decode cX7_settle 43 = .ok (.ifCond .ne 27, 3) := by decide +kernel
theorem dX7_settle_46 : decode cX7_settle 46 = .ok (.aload_n 0, 1) := by decide +kernel
theorem dX7_settle_47 : decode cX7_settle 47 = .ok (.iload_n 3, 1) := by decide +kernel
theorem dX7_settle_48 : decode cX7_settle 48 = .ok (.iconst 0, 1) := by decide +kernel
theorem dX7_settle_49 : decode cX7_settle 49 = .ok (.sipush 9999, 3) := by decide +kernel
theorem dX7_settle_52 : decode cX7_settle 52 = .ok (.invokestatic 100, 3) := by decide +kernel
theorem dX7_settle_55 : decode cX7_settle 55 = .ok (.ifCond .ne 7, 3) := by decide +kernel
theorem dX7_settle_58 : decode cX7_settle 58 = .ok (.iconst 1, 1) := by decide +kernel
theorem dX7_settle_59 : decode cX7_settle 59 = .ok (.goto 4, 3) := by decide +kernel
theorem dX7_settle_62 : decode cX7_settle 62 = .ok (.iconst 0, 1) := by decide +kernel
theorem dX7_settle_63 : decode cX7_settle 63 = .ok (.iconst 3, 1) := by decide +kernel
theorem dX7_settle_64 : decode cX7_settle 64 = .ok (.invokevirtual 206, 3) := by decide +kernel
theorem dX7_settle_67 : decode cX7_settle 67 = .ok (.ifCond .eq 5, 3) := by decide +kernel
theorem dX7_settle_70 : decode cX7_settle 70 = .ok (.iconst 0, 1) := by decide +kernel
theorem dX7_settle_71 : decode cX7_settle 71 = .ok (.ireturn, 1) := by decide +kernel
theorem dX7_settle_72 : decode cX7_settle 72 = .ok (.aload_n 0, 1) := by decide +kernel
theorem dX7_settle_73 : decode cX7_settle 73 = .ok (.iload_n 2, 1) := by decide +kernel
theorem dX7_settle_74 : decode cX7_settle 74 = .ok (.invokevirtual 268, 3) := by decide +kernel
theorem dX7_settle_77 : decode cX7_settle 77 = .ok (.istore 4, 2) := by decide +kernel
theorem dX7_settle_79 : decode cX7_settle 79 = .ok (.aload_n 0, 1) := by decide +kernel
theorem dX7_settle_80 : decode cX7_settle 80 = .ok (.iload_n 1, 1) := by decide +kernel
theorem dX7_settle_81 : decode cX7_settle 81 = .ok (.iload_n 2, 1) := by decide +kernel
theorem dX7_settle_82 : decode cX7_settle 82 = .ok (.invokevirtual 361, 3) := by decide +kernel
theorem dX7_settle_85 : decode cX7_settle 85 = .ok (.istore 5, 2) := by decide +kernel
theorem dX7_settle_87 : decode cX7_settle 87 = .ok (.iload 4, 2) := by decide +kernel
theorem dX7_settle_89 : decode cX7_settle 89 = .ok (.iconst (-1), 1) := by decide +kernel
theorem dX7_settle_90 : decode cX7_settle 90 = .ok (.if_icmp .eq 8, 3) := by decide +kernel
theorem dX7_settle_93 : decode cX7_settle 93 = .ok (.iload 5, 2) := by decide +kernel
theorem dX7_settle_95 : decode cX7_settle 95 = .ok (.ifCond .ne 5, 3) := by decide +kernel
theorem dX7_settle_98 : decode cX7_settle 98 = .ok (.iconst (-1), 1) := by decide +kernel
theorem dX7_settle_99 : decode cX7_settle 99 = .ok (.ireturn, 1) := by decide +kernel
theorem dX7_settle_100 : decode cX7_settle 100 = .ok (.iconst 1, 1) := by decide +kernel
theorem dX7_settle_101 : decode cX7_settle 101 = .ok (.istore 6, 2) := by decide +kernel
theorem dX7_settle_103 : decode cX7_settle 103 = .ok (.iload 6, 2) := by decide +kernel
theorem dX7_settle_105 : decode cX7_settle 105 = .ok (.sipush 200, 3) := by decide +kernel
theorem dX7_settle_108 : decode cX7_settle 108 = .ok (.if_icmp .gt 45, 3) := by decide +kernel
theorem dX7_settle_111 : decode cX7_settle 111 = .ok (.aload_n 0, 1) := by decide +kernel
theorem dX7_settle_112 : decode cX7_settle 112 = .ok (.getfield 64, 3) := by decide +kernel
theorem dX7_settle_115 : decode cX7_settle 115 = .ok (.iload 6, 2) := by decide +kernel
theorem dX7_settle_117 : decode cX7_settle 117 = .ok (.iconst 1, 1) := by decide +kernel
theorem dX7_settle_118 : decode cX7_settle 118 = .ok (.isub, 1) := by decide +kernel
theorem dX7_settle_119 : decode cX7_settle 119 = .ok (.iload 5, 2) := by decide +kernel
theorem dX7_settle_121 : decode cX7_settle 121 = .ok (.imul, 1) := by decide +kernel
theorem dX7_settle_122 : decode cX7_settle 122 = .ok (.aload_n 0, 1) := by decide +kernel
theorem dX7_settle_123 : decode cX7_settle 123 = .ok (.iload_n 1, 1) := by decide +kernel
theorem dX7_settle_124 : decode cX7_settle 124 = .ok (.invokevirtual 336, 3) := by decide +kernel
theorem dX7_settle_127 : decode cX7_settle 127 = .ok (.iadd, 1) := by decide +kernel
theorem dX7_settle_128 : decode cX7_settle 128 = .ok (.imul, 1) := by decide +kernel
theorem dX7_settle_129 : decode cX7_settle 129 = .ok (.aload_n 0, 1) := by decide +kernel
theorem dX7_settle_130 : decode cX7_settle 130 = .ok (.getfield 39, 3) := by decide +kernel
theorem dX7_settle_133 : decode cX7_settle 133 = .ok (.iload 4, 2) := by decide +kernel
theorem dX7_settle_135 : decode cX7_settle 135 = .ok (.iaload, 1) := by decide +kernel
theorem dX7_settle_136 : decode cX7_settle 136 = .ok (.iload_n 3, 1) := by decide +kernel
theorem dX7_settle_137 : decode cX7_settle 137 = .ok (.iadd, 1) := by decide +kernel
theorem dX7_settle_138 : decode cX7_settle 138 = .ok (.iload 5, 2) := by decide +kernel
theorem dX7_settle_140 : decode cX7_settle 140 = .ok (.imul, 1) := by decide +kernel
theorem dX7_settle_141 : decode cX7_settle 141 = .ok (.if_icmp .lt 6, 3) := by decide +kernel
theorem dX7_settle_144 : decode cX7_settle 144 = .ok (.iload 6, 2) := by decide +kernel
theorem dX7_settle_146 : decode cX7_settle 146 = .ok (.ireturn, 1) := by decide +kernel
theorem dX7_settle_147 : decode cX7_settle 147 = .ok (.iinc 6 1, 3) := by decide +kernel
theorem dX7_settle_150 : decode cX7_settle 150 = .ok (.goto (-47), 3) := by decide +kernel
theorem dX7_settle_153 : decode cX7_settle 153 = .ok (.iconst (-1), 1) := by decide +kernel
theorem dX7_settle_154 : decode cX7_settle 154 = .ok (.ireturn, 1) := by decide +kernel
theorem dX7_back_0 : decode cX7_back 0 = .ok (.aload_n 0, 1) := by decide +kernel
theorem dX7_back_1 : decode cX7_back 1 = .ok (.iconst 0, 1) := by decide +kernel
theorem dX7_back_2 : decode cX7_back 2 = .ok (.putfield 97, 3) := by decide +kernel
theorem dX7_back_5 : decode cX7_back 5 = .ok (.aload_n 0, 1) := by decide +kernel
theorem dX7_back_6 : decode cX7_back 6 = .ok (.aload_n 0, 1) := by decide +kernel
theorem dX7_back_7 : decode cX7_back 7 = .ok (.iload_n 1, 1) := by decide +kernel
theorem dX7_back_8 : decode cX7_back 8 = .ok (.invokevirtual 333, 3) := by decide +kernel
theorem dX7_back_11 : decode cX7_back 11 = .ok (.ifCond .ne 7, 3) := by decide +kernel
theorem dX7_back_14 : decode cX7_back 14 = .ok (.iconst 1, 1) := by decide +kernel
theorem dX7_back_15 : decode cX7_back 15 = .ok (.goto 4, 3) := by decide +kernel
theorem dX7_back_18 : decode cX7_back 18 = .ok (.iconst 0, 1) := by decide +kernel
theorem dX7_back_19 : decode cX7_back 19 = .ok (.iconst 1, 1) := by decide +kernel
theorem dX7_back_20 : decode cX7_back 20 = .ok (.invokevirtual 206, 3) := by decide +kernel
theorem dX7_back_23 : decode cX7_back 23 = .ok (.ifCond .ne 23, 3) := by decide +kernel
theorem dX7_back_26 : decode cX7_back 26 = .ok (.aload_n 0, 1) := by decide +kernel
theorem dX7_back_27 : decode cX7_back 27 = .ok (.iload_n 2, 1) := by decide +kernel
theorem dX7_back_28 : decode cX7_back 28 = .ok (.invokestatic 253, 3) := by decide +kernel
theorem dX7_back_31 : decode cX7_back 31 = .ok (.ifCond .ne 7, 3) := by decide +kernel
theorem dX7_back_34 : decode cX7_back 34 = .ok (.iconst 1, 1) := by decide +kernel
theorem dX7_back_35 : decode cX7_back 35 = .ok (.goto 4, 3) := by decide +kernel
theorem dX7_back_38 : decode cX7_back 38 = .ok (.iconst 0, 1) := by decide +kernel
theorem dX7_back_39 : decode cX7_back 39 = .ok (.iconst 2, 1) := by decide +kernel
theorem dX7_back_40 : decode cX7_back 40 = .ok (.invokevirtual 206, 3) := by decide +kernel
theorem dX7_back_43 : decode cX7_back 43 = .ok (.ifCond .eq 5, 3) := by decide +kernel
theorem dX7_back_46 : decode cX7_back 46 = .ok (.iconst 0, 1) := by decide +kernel
theorem dX7_back_47 : decode cX7_back 47 = .ok (.ireturn, 1) := by decide +kernel
theorem dX7_back_48 : decode cX7_back 48 = .ok (.aload_n 0, 1) := by decide +kernel
theorem dX7_back_49 : decode cX7_back 49 = .ok (.iload_n 2, 1) := by decide +kernel
theorem dX7_back_50 : decode cX7_back 50 = .ok (.invokevirtual 268, 3) := by decide +kernel
theorem dX7_back_53 : decode cX7_back 53 = .ok (.istore_n 3, 1) := by decide +kernel
theorem dX7_back_54 : decode cX7_back 54 = .ok (.aload_n 0, 1) := by decide +kernel
theorem dX7_back_55 : decode cX7_back 55 = .ok (.iload_n 1, 1) := by decide +kernel
theorem dX7_back_56 : decode cX7_back 56 = .ok (.iload_n 2, 1) := by decide +kernel
theorem dX7_back_57 : decode cX7_back 57 = .ok (.invokevirtual 361, 3) := by decide +kernel
theorem dX7_back_60 : decode cX7_back 60 = .ok (.istore 4, 2) := by decide +kernel
theorem dX7_back_62 : decode cX7_back 62 = .ok (.iload_n 3, 1) := by decide +kernel
theorem dX7_back_63 : decode cX7_back 63 = .ok (.iconst (-1), 1) := by decide +kernel
theorem dX7_back_64 : decode cX7_back 64 = .ok (.if_icmp .eq 8, 3) := by decide +kernel
theorem dX7_back_67 : decode cX7_back 67 = .ok (.iload 4, 2) := by decide +kernel
theorem dX7_back_69 : decode cX7_back 69 = .ok (.ifCond .ne 7, 3) := by decide +kernel
theorem dX7_back_72 : decode cX7_back 72 = .ok (.ldc_w 364, 3) := by decide +kernel
theorem dX7_back_75 : decode cX7_back 75 = .ok (.ireturn, 1) := by decide +kernel
theorem dX7_back_76 : decode cX7_back 76 = .ok (.aload_n 0, 1) := by decide +kernel
theorem dX7_back_77 : decode cX7_back 77 = .ok (.getfield 64, 3) := by decide +kernel
theorem dX7_back_80 : decode cX7_back 80 = .ok (.aload_n 0, 1) := by decide +kernel
theorem dX7_back_81 : decode cX7_back 81 = .ok (.iload_n 1, 1) := by decide +kernel
theorem dX7_back_82 : decode cX7_back 82 = .ok (.invokevirtual 336, 3) := by decide +kernel
theorem dX7_back_85 : decode cX7_back 85 = .ok (.imul, 1) := by decide +kernel
theorem dX7_back_86 : decode cX7_back 86 = .ok (.aload_n 0, 1) := by decide +kernel
theorem dX7_back_87 : decode cX7_back 87 = .ok (.getfield 39, 3) := by decide +kernel
theorem dX7_back_90 : decode cX7_back 90 = .ok (.iload_n 3, 1) := by decide +kernel
theorem dX7_back_91 : decode cX7_back 91 = .ok (.iaload, 1) := by decide +kernel
theorem dX7_back_92 : decode cX7_back 92 = .ok (.iload 4, 2) := by decide +kernel
theorem dX7_back_94 : decode cX7_back 94 = .ok (.imul, 1) := by decide +kernel
theorem dX7_back_95 : decode cX7_back 95 = .ok (.isub, 1) := by decide +kernel
theorem dX7_back_96 : decode cX7_back 96 = .ok (.istore 5, 2) := by decide +kernel
theorem dX7_back_98 : decode cX7_back 98 = .ok (.iload 5, 2) := by decide +kernel
theorem dX7_back_100 : decode cX7_back 100 = .ok (.ifCond .lt 11, 3) := by decide +kernel
theorem dX7_back_103 : decode cX7_back 103 = .ok (.iload 5, 2) := by decide +kernel
theorem dX7_back_105 : decode cX7_back 105 = .ok (.iload 4, 2) := by decide +kernel
theorem dX7_back_107 : decode cX7_back 107 = .ok (.idiv, 1) := by decide +kernel
theorem dX7_back_108 : decode cX7_back 108 = .ok (.goto 15, 3) := by decide +kernel
theorem dX7_back_111 : decode cX7_back 111 = .ok (.iload 5, 2) := by decide +kernel
theorem dX7_back_113 : decode cX7_back 113 = .ok (.ineg, 1) := by decide +kernel
theorem dX7_back_114 : decode cX7_back 114 = .ok (.iload 4, 2) := by decide +kernel
theorem dX7_back_116 : decode cX7_back 116 = .ok (.iadd, 1) := by decide +kernel
theorem dX7_back_117 : decode cX7_back 117 = .ok (.iconst 1, 1) := by decide +kernel
theorem dX7_back_118 : decode cX7_back 118 = .ok (.isub, 1) := by decide +kernel
theorem dX7_back_119 : decode cX7_back 119 = .ok (.iload 4, 2) := by decide +kernel
theorem dX7_back_121 : decode cX7_back 121 = .ok (.idiv, 1) := by decide +kernel
theorem dX7_back_122 : decode cX7_back 122 = .ok (.ineg, 1) := by decide +kernel
theorem dX7_back_123 : decode cX7_back 123 = .ok (.ireturn, 1) := by decide +kernel
theorem dX7_broken_0 : decode cX7_broken 0 = .ok (.aload_n 0, 1) := by decide +kernel
theorem dX7_broken_1 : decode cX7_broken 1 = .ok (.iconst 0, 1) := by decide +kernel
theorem dX7_broken_2 : decode cX7_broken 2 = .ok (.putfield 97, 3) := by decide +kernel
theorem dX7_broken_5 : decode cX7_broken 5 = .ok (.aload_n 0, 1) := by decide +kernel
theorem dX7_broken_6 : decode cX7_broken 6 = .ok (.iload_n 1, 1) := by decide +kernel
theorem dX7_broken_7 : decode cX7_broken 7 = .ok (.iconst 0, 1) := by decide +kernel
theorem dX7_broken_8 : decode cX7_broken 8 = .ok (.aload_n 0, 1) := by decide +kernel
theorem dX7_broken_9 : decode cX7_broken 9 = .ok (.getfield 210, 3) := by decide +kernel
theorem dX7_broken_12 : decode cX7_broken 12 = .ok (.iconst 1, 1) := by decide +kernel
theorem dX7_broken_13 : decode cX7_broken 13 = .ok (.isub, 1) := by decide +kernel
theorem dX7_broken_14 : decode cX7_broken 14 = .ok (.invokestatic 100, 3) := by decide +kernel
theorem dX7_broken_17 : decode cX7_broken 17 = .ok (.ifCond .ne 7, 3) := by decide +kernel
theorem dX7_broken_20 : decode cX7_broken 20 = .ok (.iconst 1, 1) := by decide +kernel
theorem dX7_broken_21 : decode cX7_broken 21 = .ok (.goto 4, 3) := by decide +kernel
theorem dX7_broken_24 : decode cX7_broken 24 = .ok (.iconst 0, 1) := by decide +kernel
theorem dX7_broken_25 : decode cX7_broken 25 = .ok (.iconst 1, 1) := by decide +kernel
theorem dX7_broken_26 : decode cX7_broken 26 = .ok (.invokevirtual 206, 3) := by decide +kernel
theorem dX7_broken_29 : decode cX7_broken 29 = .ok (.ifCond .eq 5, 3) := by decide +kernel
theorem dX7_broken_32 : decode cX7_broken 32 = .ok (.iconst 0, 1) := by decide +kernel
theorem dX7_broken_33 : decode cX7_broken 33 = .ok (.ireturn, 1) := by decide +kernel
theorem dX7_broken_34 : decode cX7_broken 34 = .ok (.iconst 0, 1) := by decide +kernel
theorem dX7_broken_35 : decode cX7_broken 35 = .ok (.istore_n 2, 1) := by decide +kernel
theorem dX7_broken_36 : decode cX7_broken 36 = .ok (.iload_n 2, 1) := by decide +kernel
theorem dX7_broken_37 : decode cX7_broken 37 = .ok (.aload_n 0, 1) := by decide +kernel
theorem dX7_broken_38 : decode cX7_broken 38 = .ok (.getfield 313, 3) := by decide +kernel
theorem dX7_broken_41 : decode cX7_broken 41 = .ok (.if_icmp .gt 115, 3) := by decide +kernel
theorem dX7_broken_44 : decode cX7_broken 44 = .ok (.iload_n 2, 1) := by decide +kernel
theorem dX7_broken_45 : decode cX7_broken 45 = .ok (.aload_n 0, 1) := by decide +kernel
theorem dX7_broken_46 : decode cX7_broken 46 = .ok (.getfield 313, 3) := by decide +kernel
theorem dX7_broken_49 : decode cX7_broken 49 = .ok (.if_icmp .ge 15, 3) := by decide +kernel
theorem dX7_broken_52 : decode cX7_broken 52 = .ok (.aload_n 0, 1) := by decide +kernel
theorem dX7_broken_53 : decode cX7_broken 53 = .ok (.getfield 73, 3) := by decide +kernel
theorem dX7_broken_56 : decode cX7_broken 56 = .ok (.iload_n 2, 1) := by decide +kernel
theorem dX7_broken_57 : decode cX7_broken 57 = .ok (.aaload, 1) := by decide +kernel
theorem dX7_broken_58 : decode cX7_broken 58 = .ok (.bipush 9, 2) := by decide +kernel
theorem dX7_broken_60 : decode cX7_broken 60 = .ok (.iaload, 1) := by decide +kernel
theorem dX7_broken_61 : decode cX7_broken 61 = .ok (.goto 17, 3) := by decide +kernel
theorem dX7_broken_64 : decode cX7_broken 64 = .ok (.aload_n 0, 1) := by decide +kernel
theorem dX7_broken_65 : decode cX7_broken 65 = .ok (.iconst 0, 1) := by decide +kernel
theorem dX7_broken_66 : decode cX7_broken 66 = .ok (.invokevirtual 316, 3) := by decide +kernel
theorem dX7_broken_69 : decode cX7_broken 69 = .ok (.iconst (-1), 1) := by decide +kernel
theorem dX7_broken_70 : decode cX7_broken 70 = .ok (.if_icmp .ne 7, 3) := by decide +kernel
theorem dX7_broken_73 : decode cX7_broken 73 = .ok (.iconst 0, 1) := by decide +kernel
theorem dX7_broken_74 : decode cX7_broken 74 = .ok (.goto 4, 3) := by decide +kernel
theorem dX7_broken_77 : decode cX7_broken 77 = .ok (.iconst 1, 1) := by decide +kernel
theorem dX7_broken_78 : decode cX7_broken 78 = .ok (.istore_n 3, 1) := by decide +kernel
theorem dX7_broken_79 : decode cX7_broken 79 = .ok (.aload_n 0, 1) := by decide +kernel
theorem dX7_broken_80 : decode cX7_broken 80 = .ok (.iconst 1, 1) := by decide +kernel
theorem dX7_broken_81 : decode cX7_broken 81 = .ok (.invokevirtual 247, 3) := by decide +kernel
theorem dX7_broken_84 : decode cX7_broken 84 = .ok (.iconst 0, 1) := by decide +kernel
theorem dX7_broken_85 : decode cX7_broken 85 = .ok (.istore 4, 2) := by decide +kernel
theorem dX7_broken_87 : decode cX7_broken 87 = .ok (.iload 4, 2) := by decide +kernel
theorem dX7_broken_89 : decode cX7_broken 89 = .ok (.iconst 5, 1) := by decide +kernel
theorem dX7_broken_90 : decode cX7_broken 90 = .ok (.if_icmp .ge 35, 3) := by decide +kernel
theorem dX7_broken_93 : decode cX7_broken 93 = .ok (.iload_n 2, 1) := by decide +kernel
theorem dX7_broken_94 : decode cX7_broken 94 = .ok (.aload_n 0, 1) := by decide +kernel
theorem dX7_broken_95 : decode cX7_broken 95 = .ok (.getfield 313, 3) := by decide +kernel
theorem dX7_broken_98 : decode cX7_broken 98 = .ok (.if_icmp .ge 27, 3) := by decide +kernel
theorem dX7_broken_101 : decode cX7_broken 101 = .ok (.aload_n 0, 1) := by decide +kernel
theorem dX7_broken_102 : decode cX7_broken 102 = .ok (.getfield 30, 3) := by decide +kernel
theorem dX7_broken_105 : decode cX7_broken 105 = .ok (.iload 4, 2) := by decide +kernel
theorem dX7_broken_107 : decode cX7_broken 107 = .ok (.aload_n 0, 1) := by decide +kernel
theorem dX7_broken_108 : decode cX7_broken 108 = .ok (.getfield 73, 3) := by decide +kernel
theorem dX7_broken_111 : decode cX7_broken 111 = .ok (.iload_n 2, 1) := by decide +kernel
theorem dX7_broken_112 : decode cX7_broken 112 = .ok (.aaload, 1) := by decide +kernel
theorem dX7_broken_113 : decode cX7_broken 113 = .ok (.iconst 4, 1) := by decide +kernel
theorem dX7_broken_114 : decode cX7_broken 114 = .ok (.iload 4, 2) := by decide +kernel
theorem dX7_broken_116 : decode cX7_broken 116 = .ok (.iadd, 1) := by decide +kernel
theorem dX7_broken_117 : decode cX7_broken 117 = .ok (.iaload, 1) := by decide +kernel
theorem dX7_broken_118 : decode cX7_broken 118 = .ok (.iastore, 1) := by decide +kernel
theorem dX7_broken_119 : decode cX7_broken 119 = .ok (.iinc 4 1, 3) := by decide +kernel
theorem dX7_broken_122 : decode cX7_broken 122 = .ok (.goto (-35), 3) := by decide +kernel
theorem dX7_broken_125 : decode cX7_broken 125 = .ok (.aload_n 0, 1) := by decide +kernel
theorem dX7_broken_126 : decode cX7_broken 126 = .ok (.getfield 30, 3) := by decide +kernel
theorem dX7_broken_129 : decode cX7_broken 129 = .ok (.bipush 6, 2) := by decide +kernel
theorem dX7_broken_131 : decode cX7_broken 131 = .ok (.iload_n 3, 1) := by decide +kernel
theorem dX7_broken_132 : decode cX7_broken 132 = .ok (.iastore, 1) := by decide +kernel
theorem dX7_broken_133 : decode cX7_broken 133 = .ok (.aload_n 0, 1) := by decide +kernel
theorem dX7_broken_134 : decode cX7_broken 134 = .ok (.bipush 6, 2) := by decide +kernel
theorem dX7_broken_136 : decode cX7_broken 136 = .ok (.iload_n 1, 1) := by decide +kernel
theorem dX7_broken_137 : decode cX7_broken 137 = .ok (.iadd, 1) := by decide +kernel
theorem dX7_broken_138 : decode cX7_broken 138 = .ok (.invokevirtual 237, 3) := by decide +kernel
theorem dX7_broken_141 : decode cX7_broken 141 = .ok (.aload_n 0, 1) := by decide +kernel
theorem dX7_broken_142 : decode cX7_broken 142 = .ok (.invokevirtual 216, 3) := by decide +kernel
theorem dX7_broken_145 : decode cX7_broken 145 = .ok (.ifCond .ne 5, 3) := by decide +kernel
theorem dX7_broken_148 : decode cX7_broken 148 = .ok (.iload_n 2, 1) := by decide +kernel
theorem dX7_broken_149 : decode cX7_broken 149 = .ok (.ireturn, 1) := by decide +kernel
theorem dX7_broken_150 : decode cX7_broken 150 = .ok (.iinc 2 1, 3) := by decide +kernel
theorem dX7_broken_153 : decode cX7_broken 153 = .ok (.goto (-117), 3) := by decide +kernel
theorem dX7_broken_156 : decode cX7_broken 156 = .ok (.iconst (-1), 1) := by decide +kernel
theorem dX7_broken_157 : decode cX7_broken 157 = .ok (.ireturn, 1) := by decide +kernel
theorem dX7_cut_0 : decode cX7_cut 0 = .ok (.aload_n 0, 1) := by decide +kernel
theorem dX7_cut_1 : decode cX7_cut 1 = .ok (.iconst 0, 1) := by decide +kernel
theorem dX7_cut_2 : decode cX7_cut 2 = .ok (.putfield 97, 3) := by decide +kernel
theorem dX7_cut_5 : decode cX7_cut 5 = .ok (.aload_n 0, 1) := by decide +kernel
theorem dX7_cut_6 : decode cX7_cut 6 = .ok (.aload_n 0, 1) := by decide +kernel
theorem dX7_cut_7 : decode cX7_cut 7 = .ok (.iload_n 1, 1) := by decide +kernel
theorem dX7_cut_8 : decode cX7_cut 8 = .ok (.invokevirtual 333, 3) := by decide +kernel
theorem dX7_cut_11 : decode cX7_cut 11 = .ok (.ifCond .ne 7, 3) := by decide +kernel
theorem dX7_cut_14 : decode cX7_cut 14 = .ok (.iconst 1, 1) := by decide +kernel
theorem dX7_cut_15 : decode cX7_cut 15 = .ok (.goto 4, 3) := by decide +kernel
theorem dX7_cut_18 : decode cX7_cut 18 = .ok (.iconst 0, 1) := by decide +kernel
theorem dX7_cut_19 : decode cX7_cut 19 = .ok (.iconst 1, 1) := by decide +kernel
theorem dX7_cut_20 : decode cX7_cut 20 = .ok (.invokevirtual 206, 3) := by decide +kernel
theorem dX7_cut_23 : decode cX7_cut 23 = .ok (.ifCond .ne 59, 3) := by decide +kernel
theorem dX7_cut_26 : decode cX7_cut 26 = .ok (.aload_n 0, 1) := by decide +kernel
theorem dX7_cut_27 : decode cX7_cut 27 = .ok (.iload_n 2, 1) := by decide +kernel
theorem dX7_cut_28 : decode cX7_cut 28 = .ok (.iconst 0, 1) := by decide +kernel
theorem dX7_cut_29 : decode cX7_cut 29 = .ok (.bipush 99, 2) := by decide +kernel
theorem dX7_cut_31 : decode cX7_cut 31 = .ok (.invokestatic 100, 3) := by decide +kernel
theorem dX7_cut_34 : decode cX7_cut 34 = .ok (.ifCond .eq 36, 3) := by decide +kernel
theorem dX7_cut_37 : decode cX7_cut 37 = .ok (.iload_n 3, 1) := by decide +kernel
theorem dX7_cut_38 : decode cX7_cut 38 = .ok (.iconst 0, 1) := by decide +kernel
theorem dX7_cut_39 : decode cX7_cut 39 = .ok (.bipush 99, 2) := by decide +kernel
theorem dX7_cut_41 : decode cX7_cut 41 = .ok (.invokestatic 100, 3) := by decide +kernel
theorem dX7_cut_44 : decode cX7_cut 44 = .ok (.ifCond .eq 26, 3) := by decide +kernel
theorem dX7_cut_47 : decode cX7_cut 47 = .ok (.iload 4, 2) := by decide +kernel
theorem dX7_cut_49 : decode cX7_cut 49 = .ok (.iconst 0, 1) := by decide +kernel
theorem dX7_cut_50 : decode cX7_cut 50 = .ok (.bipush 9, 2) := by decide +kernel
theorem dX7_cut_52 : decode cX7_cut 52 = .ok (.invokestatic 100, 3) := by decide +kernel
theorem dX7_cut_55 : decode cX7_cut 55 = .ok (.ifCond .eq 15, 3) := by decide +kernel
theorem dX7_cut_58 : decode cX7_cut 58 = .ok (.iload 5, 2) := by decide +kernel
theorem dX7_cut_60 : decode cX7_cut 60 = .ok (.iconst 0, 1) := by decide +kernel
theorem dX7_cut_61 : decode cX7_cut 61 = .ok (.sipush 999, 3) := by decide +kernel
theorem dX7_cut_64 : decode cX7_cut 64 = .ok (.invokestatic 100, 3) := by decide +kernel
theorem dX7_cut_67 : decode cX7_cut 67 = .ok (.ifCond .ne 7, 3) := by decide +kernel
theorem dX7_cut_70 : decode cX7_cut 70 = .ok (.iconst 1, 1) := by decide +kernel
theorem dX7_cut_71 : decode cX7_cut 71 = .ok (.goto 4, 3) := by decide +kernel
theorem dX7_cut_74 : decode cX7_cut 74 = .ok (.iconst 0, 1) := by decide +kernel
theorem dX7_cut_75 : decode cX7_cut 75 = .ok (.iconst 2, 1) := by decide +kernel
theorem dX7_cut_76 : decode cX7_cut 76 = .ok (.invokevirtual 206, 3) := by decide +kernel
theorem dX7_cut_79 : decode cX7_cut 79 = .ok (.ifCond .eq 5, 3) := by decide +kernel
theorem dX7_cut_82 : decode cX7_cut 82 = .ok (.iconst 0, 1) := by decide +kernel
theorem dX7_cut_83 : decode cX7_cut 83 = .ok (.ireturn, 1) := by decide +kernel
theorem dX7_cut_84 : decode cX7_cut 84 = .ok (.iconst 0, 1) := by decide +kernel
theorem dX7_cut_85 : decode cX7_cut 85 = .ok (.istore 6, 2) := by decide +kernel
theorem dX7_cut_87 : decode cX7_cut 87 = .ok (.aload_n 0, 1) := by decide +kernel
theorem dX7_cut_88 : decode cX7_cut 88 = .ok (.getfield 225, 3) := by decide +kernel
theorem dX7_cut_91 : decode cX7_cut 91 = .ok (.iconst 1, 1) := by decide +kernel
theorem dX7_cut_92 : decode cX7_cut 92 = .ok (.iadd, 1) := by decide +kernel
theorem dX7_cut_93 : decode cX7_cut 93 = .ok (.iload 5, 2) := by decide +kernel
theorem dX7_cut_95 : decode cX7_cut 95 = .ok (.if_icmp .lt 7, 3) := by decide +kernel
theorem dX7_cut_98 : decode cX7_cut 98 = .ok (.iconst 0, 1) := by decide +kernel
theorem dX7_cut_99 : decode cX7_cut 99 = .ok (.goto 5, 3) := by decide +kernel
theorem dX7_cut_102 : decode cX7_cut 102 = .ok (.iload 4, 2) := by decide +kernel
theorem dX7_cut_104 : decode cX7_cut 104 = .ok (.istore 7, 2) := by decide +kernel
theorem dX7_cut_106 : decode cX7_cut 106 = .ok (.iconst 0, 1) := by decide +kernel
theorem dX7_cut_107 : decode cX7_cut 107 = .ok (.istore 8, 2) := by decide +kernel
theorem dX7_cut_109 : decode cX7_cut 109 = .ok (.iload 8, 2) := by decide +kernel
theorem dX7_cut_111 : decode cX7_cut 111 = .ok (.bipush 9, 2) := by decide +kernel
theorem dX7_cut_113 : decode cX7_cut 113 = .ok (.if_icmp .ge 48, 3) := by decide +kernel
theorem dX7_cut_116 : decode cX7_cut 116 = .ok (.iload 6, 2) := by decide +kernel
theorem dX7_cut_118 : decode cX7_cut 118 = .ok (.iload_n 2, 1) := by decide +kernel
theorem dX7_cut_119 : decode cX7_cut 119 = .ok (.iload 8, 2) := by decide +kernel
theorem dX7_cut_121 : decode cX7_cut 121 = .ok (.iconst 3, 1) := by decide +kernel
theorem dX7_cut_122 : decode cX7_cut 122 = .ok (.irem, 1) := by decide +kernel
theorem dX7_cut_123 : decode cX7_cut 123 = .ok (.iadd, 1) := by decide +kernel
theorem dX7_cut_124 : decode cX7_cut 124 = .ok (.iconst 1, 1) := by decide +kernel
theorem dX7_cut_125 : decode cX7_cut 125 = .ok (.isub, 1) := by decide +kernel
theorem dX7_cut_126 : decode cX7_cut 126 = .ok (.iload 7, 2) := by decide +kernel
theorem dX7_cut_128 : decode cX7_cut 128 = .ok (.iadd, 1) := by decide +kernel
theorem dX7_cut_129 : decode cX7_cut 129 = .ok (.bipush 100, 2) := by decide +kernel
theorem dX7_cut_131 : decode cX7_cut 131 = .ok (.iadd, 1) := by decide +kernel
theorem dX7_cut_132 : decode cX7_cut 132 = .ok (.bipush 100, 2) := by decide +kernel
theorem dX7_cut_134 : decode cX7_cut 134 = .ok (.irem, 1) := by decide +kernel
theorem dX7_cut_135 : decode cX7_cut 135 = .ok (.iload_n 3, 1) := by decide +kernel
theorem dX7_cut_136 : decode cX7_cut 136 = .ok (.if_icmp .ne 15, 3) := by decide +kernel
theorem dX7_cut_139 : decode cX7_cut 139 = .ok (.aload_n 0, 1) := by decide +kernel
theorem dX7_cut_140 : decode cX7_cut 140 = .ok (.getfield 76, 3) := by decide +kernel
theorem dX7_cut_143 : decode cX7_cut 143 = .ok (.iload_n 1, 1) := by decide +kernel
theorem dX7_cut_144 : decode cX7_cut 144 = .ok (.aaload, 1) := by decide +kernel
theorem dX7_cut_145 : decode cX7_cut 145 = .ok (.iload 8, 2) := by decide +kernel
theorem dX7_cut_147 : decode cX7_cut 147 = .ok (.iaload, 1) := by decide +kernel
theorem dX7_cut_148 : decode cX7_cut 148 = .ok (.goto 4, 3) := by decide +kernel
theorem dX7_cut_151 : decode cX7_cut 151 = .ok (.iconst 0, 1) := by decide +kernel
theorem dX7_cut_152 : decode cX7_cut 152 = .ok (.iadd, 1) := by decide +kernel
theorem dX7_cut_153 : decode cX7_cut 153 = .ok (.istore 6, 2) := by decide +kernel
theorem dX7_cut_155 : decode cX7_cut 155 = .ok (.iinc 8 1, 3) := by decide +kernel
theorem dX7_cut_158 : decode cX7_cut 158 = .ok (.goto (-49), 3) := by decide +kernel
theorem dX7_cut_161 : decode cX7_cut 161 = .ok (.iload 6, 2) := by decide +kernel
theorem dX7_cut_163 : decode cX7_cut 163 = .ok (.ireturn, 1) := by decide +kernel
theorem dX7_strange_0 : decode cX7_strange 0 = .ok (.aload_n 0, 1) := by decide +kernel
theorem dX7_strange_1 : decode cX7_strange 1 = .ok (.iconst 0, 1) := by decide +kernel
theorem dX7_strange_2 : decode cX7_strange 2 = .ok (.putfield 97, 3) := by decide +kernel
theorem dX7_strange_5 : decode cX7_strange 5 = .ok (.aload_n 0, 1) := by decide +kernel
theorem dX7_strange_6 : decode cX7_strange 6 = .ok (.iload_n 1, 1) := by decide +kernel
theorem dX7_strange_7 : decode cX7_strange 7 = .ok (.iconst 0, 1) := by decide +kernel
theorem dX7_strange_8 : decode cX7_strange 8 = .ok (.aload_n 0, 1) := by decide +kernel
theorem dX7_strange_9 : decode cX7_strange 9 = .ok (.getfield 213, 3) := by decide +kernel
theorem dX7_strange_12 : decode cX7_strange 12 = .ok (.iconst 1, 1) := by decide +kernel
theorem dX7_strange_13 : decode cX7_strange 13 = .ok (.isub, 1) := by decide +kernel
theorem dX7_strange_14 : decode cX7_strange 14 = .ok (.invokestatic 100, 3) := by decide +kernel
theorem dX7_strange_17 : decode cX7_strange 17 = .ok (.ifCond .ne 7, 3) := by decide +kernel
theorem dX7_strange_20 : decode cX7_strange 20 = .ok (.iconst 1, 1) := by decide +kernel
theorem dX7_strange_21 : decode cX7_strange 21 = .ok (.goto 4, 3) := by decide +kernel
theorem dX7_strange_24 : decode cX7_strange 24 = .ok (.iconst 0, 1) := by decide +kernel
theorem dX7_strange_25 : decode cX7_strange 25 = .ok (.iconst 1, 1) := by decide +kernel
theorem dX7_strange_26 : decode cX7_strange 26 = .ok (.invokevirtual 206, 3) := by decide +kernel
theorem dX7_strange_29 : decode cX7_strange 29 = .ok (.ifCond .eq 5, 3) := by decide +kernel
theorem dX7_strange_32 : decode cX7_strange 32 = .ok (.iconst 0, 1) := by decide +kernel
theorem dX7_strange_33 : decode cX7_strange 33 = .ok (.ireturn, 1) := by decide +kernel
theorem dX7_strange_34 : decode cX7_strange 34 = .ok (.aload_n 0, 1) := by decide +kernel
theorem dX7_strange_35 : decode cX7_strange 35 = .ok (.iload_n 1, 1) := by decide +kernel
theorem dX7_strange_36 : decode cX7_strange 36 = .ok (.invokevirtual 349, 3) := by decide +kernel
theorem dX7_strange_39 : decode cX7_strange 39 = .ok (.ireturn, 1) := by decide +kernel
theorem dX7_seed_0 : decode cX7_seed 0 = .ok (.aload_n 0, 1) := by decide +kernel
theorem dX7_seed_1 : decode cX7_seed 1 = .ok (.iconst 0, 1) := by decide +kernel
theorem dX7_seed_2 : decode cX7_seed 2 = .ok (.putfield 97, 3) := by decide +kernel
theorem dX7_seed_5 : decode cX7_seed 5 = .ok (.aload_n 0, 1) := by decide +kernel
theorem dX7_seed_6 : decode cX7_seed 6 = .ok (.getfield 67, 3) := by decide +kernel
theorem dX7_seed_9 : decode cX7_seed 9 = .ok (.istore_n 2, 1) := by decide +kernel
theorem dX7_seed_10 : decode cX7_seed 10 = .ok (.aload_n 0, 1) := by decide +kernel
theorem dX7_seed_11 : decode cX7_seed 11 = .ok (.iload_n 1, 1) := by decide +kernel
theorem dX7_seed_12 : decode cX7_seed 12 = .ok (.putfield 67, 3) := by decide +kernel
theorem dX7_seed_15 : decode cX7_seed 15 = .ok (.iload_n 2, 1) := by decide +kernel
theorem dX7_seed_16 : decode cX7_seed 16 = .ok (.ireturn, 1) := by decide +kernel
theorem dX7_hole_0 : decode cX7_hole 0 = .ok (.aload_n 0, 1) := by decide +kernel
theorem dX7_hole_1 : decode cX7_hole 1 = .ok (.iconst 0, 1) := by decide +kernel
theorem dX7_hole_2 : decode cX7_hole 2 = .ok (.putfield 97, 3) := by decide +kernel
theorem dX7_hole_5 : decode cX7_hole 5 = .ok (.aload_n 0, 1) := by decide +kernel
theorem dX7_hole_6 : decode cX7_hole 6 = .ok (.iload_n 1, 1) := by decide +kernel
theorem dX7_hole_7 : decode cX7_hole 7 = .ok (.invokestatic 253, 3) := by decide +kernel
theorem dX7_hole_10 : decode cX7_hole 10 = .ok (.ifCond .ne 7, 3) := by decide +kernel
theorem dX7_hole_13 : decode cX7_hole 13 = .ok (.iconst 1, 1) := by decide +kernel
theorem dX7_hole_14 : decode cX7_hole 14 = .ok (.goto 4, 3) := by decide +kernel
theorem dX7_hole_17 : decode cX7_hole 17 = .ok (.iconst 0, 1) := by decide +kernel
theorem dX7_hole_18 : decode cX7_hole 18 = .ok (.iconst 1, 1) := by decide +kernel
theorem dX7_hole_19 : decode cX7_hole 19 = .ok (.invokevirtual 206, 3) := by decide +kernel
theorem dX7_hole_22 : decode cX7_hole 22 = .ok (.ifCond .ne 25, 3) := by decide +kernel
theorem dX7_hole_25 : decode cX7_hole 25 = .ok (.aload_n 0, 1) := by decide +kernel
theorem dX7_hole_26 : decode cX7_hole 26 = .ok (.aload_n 0, 1) := by decide +kernel
theorem dX7_hole_27 : decode cX7_hole 27 = .ok (.getfield 55, 3) := by decide +kernel
theorem dX7_hole_30 : decode cX7_hole 30 = .ok (.iload_n 1, 1) := by decide +kernel
theorem dX7_hole_31 : decode cX7_hole 31 = .ok (.iaload, 1) := by decide +kernel
theorem dX7_hole_32 : decode cX7_hole 32 = .ok (.ifCond .le 7, 3) := by decide +kernel
theorem dX7_hole_35 : decode cX7_hole 35 = .ok (.iconst 1, 1) := by decide +kernel
theorem dX7_hole_36 : decode cX7_hole 36 = .ok (.goto 4, 3) := by decide +kernel
theorem dX7_hole_39 : decode cX7_hole 39 = .ok (.iconst 0, 1) := by decide +kernel
theorem dX7_hole_40 : decode cX7_hole 40 = .ok (.iconst 2, 1) := by decide +kernel
theorem dX7_hole_41 : decode cX7_hole 41 = .ok (.invokevirtual 206, 3) := by decide +kernel
theorem dX7_hole_44 : decode cX7_hole 44 = .ok (.ifCond .eq 5, 3) := by decide +kernel
theorem dX7_hole_47 : decode cX7_hole 47 = .ok (.iconst 0, 1) := by decide +kernel
theorem dX7_hole_48 : decode cX7_hole 48 = .ok (.ireturn, 1) := by decide +kernel
theorem dX7_hole_49 : decode cX7_hole 49 = .ok (.aload_n 0, 1) := by decide +kernel
theorem dX7_hole_50 : decode cX7_hole 50 = .ok (.getfield 58, 3) := by decide +kernel
theorem dX7_hole_53 : decode cX7_hole 53 = .ok (.istore_n 2, 1) := by decide +kernel
theorem dX7_hole_54 : decode cX7_hole 54 = .ok (.aload_n 0, 1) := by decide +kernel
theorem dX7_hole_55 : decode cX7_hole 55 = .ok (.iload_n 1, 1) := by decide +kernel
theorem dX7_hole_56 : decode cX7_hole 56 = .ok (.putfield 58, 3) := by decide +kernel
theorem dX7_hole_59 : decode cX7_hole 59 = .ok (.iload_n 2, 1) := by decide +kernel
theorem dX7_hole_60 : decode cX7_hole 60 = .ok (.ireturn, 1) := by decide +kernel
theorem dX7_set_0 : decode cX7_set 0 = .ok (.aload_n 0, 1) := by decide +kernel
theorem dX7_set_1 : decode cX7_set 1 = .ok (.iconst 0, 1) := by decide +kernel
theorem dX7_set_2 : decode cX7_set 2 = .ok (.putfield 97, 3) := by decide +kernel
theorem dX7_set_5 : decode cX7_set 5 = .ok (.aload_n 0, 1) := by decide +kernel
theorem dX7_set_6 : decode cX7_set 6 = .ok (.iload_n 1, 1) := by decide +kernel
theorem dX7_set_7 : decode cX7_set 7 = .ok (.iconst 0, 1) := by decide +kernel
theorem dX7_set_8 : decode cX7_set 8 = .ok (.iconst 2, 1) := by decide +kernel
theorem dX7_set_9 : decode cX7_set 9 = .ok (.invokestatic 100, 3) := by decide +kernel
theorem dX7_set_12 : decode cX7_set 12 = .ok (.ifCond .eq 32, 3) := by decide +kernel
theorem dX7_set_15 : decode cX7_set 15 = .ok (.iload_n 2, 1) := by decide +kernel
theorem dX7_set_16 : decode cX7_set 16 = .ok (.iconst 0, 1) := by decide +kernel
theorem dX7_set_17 : decode cX7_set 17 = .ok (.iload_n 1, 1) := by decide +kernel
theorem dX7_set_18 : decode cX7_set 18 = .ok (.ifCond .ne 8, 3) := by decide +kernel
theorem dX7_set_21 : decode cX7_set 21 = .ok (.bipush 14, 2) := by decide +kernel
theorem dX7_set_23 : decode cX7_set 23 = .ok (.goto 15, 3) := by decide +kernel
theorem dX7_set_26 : decode cX7_set 26 = .ok (.iload_n 1, 1) := by decide +kernel
theorem dX7_set_27 : decode cX7_set 27 = .ok (.iconst 1, 1) := by decide +kernel
theorem dX7_set_28 : decode cX7_set 28 = .ok (.if_icmp .ne 8, 3) := by decide +kernel
theorem dX7_set_31 : decode cX7_set 31 = .ok (.bipush 99, 2) := by decide +kernel
theorem dX7_set_33 : decode cX7_set 33 = .ok (.goto 5, 3) := by decide +kernel
theorem dX7_set_36 : decode cX7_set 36 = .ok (.bipush 23, 2) := by decide +kernel
theorem dX7_set_38 : decode cX7_set 38 = .ok (.invokestatic 100, 3) := by decide +kernel
theorem dX7_set_41 : decode cX7_set 41 = .ok (.ifCond .ne 7, 3) := by decide +kernel
theorem dX7_set_44 : decode cX7_set 44 = .ok (.iconst 1, 1) := by decide +kernel
theorem dX7_set_45 : decode cX7_set 45 = .ok (.goto 4, 3) := by decide +kernel
theorem dX7_set_48 : decode cX7_set 48 = .ok (.iconst 0, 1) := by decide +kernel
theorem dX7_set_49 : decode cX7_set 49 = .ok (.iconst 1, 1) := by decide +kernel
theorem dX7_set_50 : decode cX7_set 50 = .ok (.invokevirtual 206, 3) := by decide +kernel
theorem dX7_set_53 : decode cX7_set 53 = .ok (.ifCond .eq 5, 3) := by decide +kernel
theorem dX7_set_56 : decode cX7_set 56 = .ok (.iconst 0, 1) := by decide +kernel
theorem dX7_set_57 : decode cX7_set 57 = .ok (.ireturn, 1) := by decide +kernel
theorem dX7_set_58 : decode cX7_set 58 = .ok (.iload_n 1, 1) := by decide +kernel
theorem dX7_set_59 : decode cX7_set 59 = .ok (.ifCond .ne 10, 3) := by decide +kernel
theorem dX7_set_62 : decode cX7_set 62 = .ok (.aload_n 0, 1) := by decide +kernel
theorem dX7_set_63 : decode cX7_set 63 = .ok (.getfield 61, 3) := by decide +kernel
theorem dX7_set_66 : decode cX7_set 66 = .ok (.goto 19, 3) := by decide +kernel
theorem dX7_set_69 : decode cX7_set 69 = .ok (.iload_n 1, 1) := by decide +kernel
theorem dX7_set_70 : decode cX7_set 70 = .ok (.iconst 1, 1) := by decide +kernel
theorem dX7_set_71 : decode cX7_set 71 = .ok (.if_icmp .ne 10, 3) := by decide +kernel
theorem dX7_set_74 : decode cX7_set 74 = .ok (.aload_n 0, 1) := by decide +kernel
theorem dX7_set_75 : decode cX7_set 75 = .ok (.getfield 64, 3) := by decide +kernel
theorem dX7_set_78 : decode cX7_set 78 = .ok (.goto 7, 3) := by decide +kernel
theorem dX7_set_81 : decode cX7_set 81 = .ok (.aload_n 0, 1) := by decide +kernel
theorem dX7_set_82 : decode cX7_set 82 = .ok (.getfield 234, 3) := by decide +kernel
theorem dX7_set_85 : decode cX7_set 85 = .ok (.istore_n 3, 1) := by decide +kernel
theorem dX7_set_86 : decode cX7_set 86 = .ok (.iload_n 1, 1) := by decide +kernel
theorem dX7_set_87 : decode cX7_set 87 = .ok (.ifCond .ne 11, 3) := by decide +kernel
theorem dX7_set_90 : decode cX7_set 90 = .ok (.aload_n 0, 1) := by decide +kernel
theorem dX7_set_91 : decode cX7_set 91 = .ok (.iload_n 2, 1) := by decide +kernel
theorem dX7_set_92 : decode cX7_set 92 = .ok (.putfield 61, 3) := by decide +kernel
theorem dX7_set_95 : decode cX7_set 95 = .ok (.goto 21, 3) := by decide +kernel
theorem dX7_set_98 : decode cX7_set 98 = .ok (.iload_n 1, 1) := by decide +kernel
theorem dX7_set_99 : decode cX7_set 99 = .ok (.iconst 1, 1) := by decide +kernel
theorem dX7_set_100 : decode cX7_set 100 = .ok (.if_icmp .ne 11, 3) := by decide +kernel
theorem dX7_set_103 : decode cX7_set 103 = .ok (.aload_n 0, 1) := by decide +kernel
theorem dX7_set_104 : decode cX7_set 104 = .ok (.iload_n 2, 1) := by decide +kernel
theorem dX7_set_105 : decode cX7_set 105 = .ok (.putfield 64, 3) := by decide +kernel
theorem dX7_set_108 : decode cX7_set 108 = .ok (.goto 8, 3) := by decide +kernel
theorem dX7_set_111 : decode cX7_set 111 = .ok (.aload_n 0, 1) := by decide +kernel
theorem dX7_set_112 : decode cX7_set 112 = .ok (.iload_n 2, 1) := by decide +kernel
theorem dX7_set_113 : decode cX7_set 113 = .ok (.putfield 234, 3) := by decide +kernel
theorem dX7_set_116 : decode cX7_set 116 = .ok (.iload_n 3, 1) := by decide +kernel
theorem dX7_set_117 : decode cX7_set 117 = .ok (.ireturn, 1) := by decide +kernel
theorem dX7_force_0 : decode cX7_force 0 = .ok (.aload_n 0, 1) := by decide +kernel
theorem dX7_force_1 : decode cX7_force 1 = .ok (.iconst 0, 1) := by decide +kernel
theorem dX7_force_2 : decode cX7_force 2 = .ok (.putfield 97, 3) := by decide +kernel
theorem dX7_force_5 : decode cX7_force 5 = .ok (.aload_n 0, 1) := by decide +kernel
theorem dX7_force_6 : decode cX7_force 6 = .ok (.iload_n 1, 1) := by decide +kernel
theorem dX7_force_7 : decode cX7_force 7 = .ok (.iconst (-1), 1) := by decide +kernel
theorem dX7_force_8 : decode cX7_force 8 = .ok (.aload_n 0, 1) := by decide +kernel
theorem dX7_force_9 : decode cX7_force 9 = .ok (.getfield 213, 3) := by decide +kernel
theorem dX7_force_12 : decode cX7_force 12 = .ok (.iconst 1, 1) := by decide +kernel
theorem dX7_force_13 : decode cX7_force 13 = .ok (.isub, 1) := by decide +kernel
theorem dX7_force_14 : decode cX7_force 14 = .ok (.invokestatic 100, 3) := by decide +kernel
theorem dX7_force_17 : decode cX7_force 17 = .ok (.ifCond .ne 7, 3) := by decide +kernel
theorem dX7_force_20 : decode cX7_force 20 = .ok (.iconst 1, 1) := by decide +kernel
theorem dX7_force_21 : decode cX7_force 21 = .ok (.goto 4, 3) := by decide +kernel
theorem dX7_force_24 : decode cX7_force 24 = .ok (.iconst 0, 1) := by decide +kernel
theorem dX7_force_25 : decode cX7_force 25 = .ok (.iconst 1, 1) := by decide +kernel
theorem dX7_force_26 : decode cX7_force 26 = .ok (.invokevirtual 206, 3) := by decide +kernel
theorem dX7_force_29 : decode cX7_force 29 = .ok (.ifCond .eq 5, 3) := by decide +kernel
theorem dX7_force_32 : decode cX7_force 32 = .ok (.iconst 0, 1) := by decide +kernel
theorem dX7_force_33 : decode cX7_force 33 = .ok (.ireturn, 1) := by decide +kernel
theorem dX7_force_34 : decode cX7_force 34 = .ok (.aload_n 0, 1) := by decide +kernel
theorem dX7_force_35 : decode cX7_force 35 = .ok (.getfield 27, 3) := by decide +kernel
theorem dX7_force_38 : decode cX7_force 38 = .ok (.istore_n 2, 1) := by decide +kernel
theorem dX7_force_39 : decode cX7_force 39 = .ok (.aload_n 0, 1) := by decide +kernel
theorem dX7_force_40 : decode cX7_force 40 = .ok (.iload_n 1, 1) := by decide +kernel
theorem dX7_force_41 : decode cX7_force 41 = .ok (.putfield 27, 3) := by decide +kernel
theorem dX7_force_44 : decode cX7_force 44 = .ok (.iload_n 2, 1) := by decide +kernel
theorem dX7_force_45 : decode cX7_force 45 = .ok (.ireturn, 1) := by decide +kernel
theorem dX7_top_0 : decode cX7_top 0 = .ok (.aload_n 0, 1) := by decide +kernel
theorem dX7_top_1 : decode cX7_top 1 = .ok (.iconst 0, 1) := by decide +kernel
theorem dX7_top_2 : decode cX7_top 2 = .ok (.putfield 97, 3) := by decide +kernel
theorem dX7_top_5 : decode cX7_top 5 = .ok (.aload_n 0, 1) := by decide +kernel
theorem dX7_top_6 : decode cX7_top 6 = .ok (.iload_n 1, 1) := by decide +kernel
theorem dX7_top_7 : decode cX7_top 7 = .ok (.invokestatic 253, 3) := by decide +kernel
theorem dX7_top_10 : decode cX7_top 10 = .ok (.ifCond .ne 7, 3) := by decide +kernel
theorem dX7_top_13 : decode cX7_top 13 = .ok (.iconst 1, 1) := by decide +kernel
theorem dX7_top_14 : decode cX7_top 14 = .ok (.goto 4, 3) := by decide +kernel
theorem dX7_top_17 : decode cX7_top 17 = .ok (.iconst 0, 1) := by decide +kernel
theorem dX7_top_18 : decode cX7_top 18 = .ok (.iconst 1, 1) := by decide +kernel
theorem dX7_top_19 : decode cX7_top 19 = .ok (.invokevirtual 206, 3) := by decide +kernel
theorem dX7_top_22 : decode cX7_top 22 = .ok (.ifCond .eq 5, 3) := by decide +kernel
theorem dX7_top_25 : decode cX7_top 25 = .ok (.iconst 0, 1) := by decide +kernel
theorem dX7_top_26 : decode cX7_top 26 = .ok (.ireturn, 1) := by decide +kernel
theorem dX7_top_27 : decode cX7_top 27 = .ok (.iload_n 2, 1) := by decide +kernel
theorem dX7_top_28 : decode cX7_top 28 = .ok (.ifCond .eq 12, 3) := by decide +kernel
theorem dX7_top_31 : decode cX7_top 31 = .ok (.aload_n 0, 1) := by decide +kernel
theorem dX7_top_32 : decode cX7_top 32 = .ok (.getfield 55, 3) := by decide +kernel
theorem dX7_top_35 : decode cX7_top 35 = .ok (.iload_n 1, 1) := by decide +kernel
theorem dX7_top_36 : decode cX7_top 36 = .ok (.iaload, 1) := by decide +kernel
theorem dX7_top_37 : decode cX7_top 37 = .ok (.goto 8, 3) := by decide +kernel
theorem dX7_top_40 : decode cX7_top 40 = .ok (.aload_n 0, 1) := by decide +kernel
theorem dX7_top_41 : decode cX7_top 41 = .ok (.iload_n 1, 1) := by decide +kernel
theorem dX7_top_42 : decode cX7_top 42 = .ok (.invokevirtual 268, 3) := by decide +kernel
theorem dX7_top_45 : decode cX7_top 45 = .ok (.ireturn, 1) := by decide +kernel
set_option maxHeartbeats 4000000 in
set_option maxRecDepth 100000 in
theorem c_X7_isHand (l : Launch) (D : va_G) (K : Nat → ClassId) (b0 : Nat) (sa : Nat × Nat × Nat) (sz : Nat) (L : List Nat) (f0 : Nat → va_E) (Ψ : Nat → Nat) (hT : TW K (gof gM1) Ψ L f0) (m_ : Nat) (hm_m_ : m_ ∈ L) (ht_m_ : Ψ m_ = 7) (v : Int32) : Met l yX7_isHand (.code yX7_isHand cX7_isHand 2 (some .boolean) :: gt) { frames := 1, cells := 0, slots := 0, locals := 22 } (va_Pc [.ref m_, .int v] (hPre D K b0 sa sz L f0)) (hQ D K b0 (fun v9 u9 => ∃ r : Int32, v9 = some (.int r) ∧ u9 = ((gof gM1), Ψ, L, f0) ∧ (r = 0))) 0 0 (fun q => b0 ≤ q) := by
  refine t_of (own := RX7) (by decide) rfl ?_ (Nat.le_of_ble_eq_true rfl)
  intro p e s m below meth c ls C w hsz hr hlk hnm hl
  have hx := C.1
  have hb := C.2.1
  have hl : lv_has ls 2 [(0, .ref m_), (1, .int v)] := hl
  have hb_v := ti_bd v
  have hR : rawk Ψ L f0 f0 := rawk.rf
  refine lv_iload_n hx hb dX7_isHand_0 rfl (lv_at hl 1 rfl) ?_
  refine lv_iconst (v := 0) hx hb dX7_isHand_1 (by decide) ?_
  refine lv_aload_n hx hb dX7_isHand_2 rfl (lv_at hl 0 rfl) ?_
  refine t_geti C w hT hm_m_ ht_m_ (by decide) rfl cin_7 48 (by decide) rfl rfl gw_1204 dX7_isHand_3 (fun x1 hg => ?_)
  obtain rfl : x1 = 0 := gof_at rfl hg
  refine lv_iconst (v := 1) hx hb dX7_isHand_6 (by decide) ?_
  refine lv_isub hx hb dX7_isHand_7 ?_
  refine lv_topi (fun y2 ey2 => ?_)
  obtain rfl : y2 = (-1) := ey2.trans (by decide)
  have n0 : (0 : Int32).toInt = 0 := by decide
  have nm1 : ((-1) : Int32).toInt = -1 := by decide
  refine t_callS (n := 3) C w (c_X7_in l D K b0 sa _ L _ Ψ (gof gM1) hT v 0 (-1)) gw_1343 gw_1341 gw_1342 gw_8 ⟨by decide, by decide, by decide +kernel⟩ rfl rfl ⟨by decide, by decide⟩ rfl hl.1 rfl (Nat.le_of_ble_eq_true rfl) dX7_isHand_8 ⟨by decide, by decide⟩ (fun v u H locs hp w => ?_)
  obtain ⟨r3, rfl, rfl, hrr3⟩ := hp
  rcases hrr3 with ⟨rfl, hf0_r3, hf1_r3⟩ | ⟨rfl, hf0_r3⟩
  · exfalso; omega
  ·
    exact t_zret C hr hlk w (by decide) ⟨_, rfl, rfl, rfl⟩ (by decide) (by decide) dX7_isHand_11
set_option maxHeartbeats 4000000 in
set_option maxRecDepth 100000 in
theorem c_X7_wire (l : Launch) (D : va_G) (K : Nat → ClassId) (b0 : Nat) (sa : Nat × Nat × Nat) (sz : Nat) (L : List Nat) (f0 : Nat → va_E) (Ψ : Nat → Nat) (hT : TW K (gof gM0) Ψ L f0) (m_ : Nat) (hm_m_ : m_ ∈ L) (ht_m_ : Ψ m_ = 7) (th_ : Int32) (is_ : Int32) (hl_is_ : 0 ≤ is_.toInt) (hh_is_ : is_.toInt ≤ 1) (hu_7 : ∀ b c : Nat, b ∈ L → c ∈ L → Ψ b = 7 → Ψ c = 7 → b = c) : Met l yX7_wire (.code yX7_wire cX7_wire 4 (some .boolean) :: gt) { frames := 1, cells := 0, slots := 0, locals := 22 } (va_Pc [.ref m_, .int th_, .int is_] (hPre D K b0 sa sz L f0)) (hQ D K b0 (fun v9 u9 => ∃ (r : Int32) (th : Int32) (f2 : Nat → va_E), v9 = some (.int r) ∧ u9 = (gof [(700, th)], Ψ, L, f2) ∧ TW K (gof [(700, th)]) Ψ L f2 ∧ rawk Ψ L f0 f2 ∧ ((r = 0 ∧ th = 1)))) 0 0 (fun q => b0 ≤ q) := by
  refine t_of (own := RX7) (by decide) rfl ?_ (Nat.le_of_ble_eq_true rfl)
  intro p e s m below meth c ls C w hsz hr hlk hnm hl
  have hx := C.1
  have hb := C.2.1
  have hl : lv_has ls 4 [(0, .ref m_), (1, .int th_), (2, .int is_)] := hl
  have hb_th_ := ti_bd th_
  have hb_is_ := ti_bd is_
  have hR : rawk Ψ L f0 f0 := rawk.rf
  refine lv_aload_n hx hb dX7_wire_0 rfl (lv_at hl 0 rfl) ?_
  refine lv_iconst (v := 0) hx hb dX7_wire_1 (by decide) ?_
  refine t_puti C w hT hm_m_ ht_m_ (by decide) rfl cin_7 tyX7 tyX7_ok nmX7 0 (by decide) rfl rfl rfl rfl rfl (gof_is rfl) gw_1156 dX7_wire_2 (fun f H locs w hT hR1 => ?_)
  have hR := hR.tr hR1
  refine lv_aload_n hx hb dX7_wire_5 rfl (lv_at hl 0 rfl) ?_
  refine lv_iload_n hx hb dX7_wire_6 rfl (lv_at hl 1 rfl) ?_
  refine lv_iconst (v := 0) hx hb dX7_wire_7 (by decide) ?_
  refine lv_aload_n hx hb dX7_wire_8 rfl (lv_at hl 0 rfl) ?_
  refine t_geti C w hT hm_m_ ht_m_ (by decide) rfl cin_7 21 (by decide) rfl rfl gw_1177 dX7_wire_9 (fun x1 hg => ?_)
  obtain rfl : x1 = 0 := gof_at rfl hg
  refine lv_iconst (v := 1) hx hb dX7_wire_12 (by decide) ?_
  refine lv_isub hx hb dX7_wire_13 ?_
  refine lv_topi (fun y2 ey2 => ?_)
  obtain rfl : y2 = (-1) := ey2.trans (by decide)
  have n0 : (0 : Int32).toInt = 0 := by decide
  have nm1 : ((-1) : Int32).toInt = -1 := by decide
  refine t_callS (n := 3) C w (c_X7_in l D K b0 sa _ L _ Ψ (gof gM0) hT th_ 0 (-1)) gw_1343 gw_1341 gw_1342 gw_8 ⟨by decide, by decide, by decide +kernel⟩ rfl rfl ⟨by decide, by decide⟩ rfl hl.1 rfl (Nat.le_of_ble_eq_true rfl) dX7_wire_14 ⟨by decide, by decide⟩ (fun v u H locs hp w => ?_)
  obtain ⟨r3, rfl, rfl, hrr3⟩ := hp
  rcases hrr3 with ⟨rfl, hf0_r3, hf1_r3⟩ | ⟨rfl, hf0_r3⟩
  · exfalso; omega
  ·
    refine lv_if_ne (tgt := 24) hx hb dX7_wire_17 (by decide) (fun c0 => absurd c0 (by decide)) (fun _ => ?_)
    refine lv_iconst (v := 1) hx hb dX7_wire_20 (by decide) ?_
    refine lv_goto (tgt := 25) hx hb dX7_wire_21 (by decide) ?_
    refine lv_iconst (v := 1) hx hb dX7_wire_25 (by decide) ?_
    refine t_callV (n := 2) C w hT hm_m_ ht_m_ (by decide) rfl rfl (c_X7_bad1 l D K b0 sa _ L _ Ψ hT m_ hm_m_ ht_m_ hu_7) gw_1347 gw_1344 gw_1346 gs_22 gw_8 ⟨by decide, by decide, by decide +kernel⟩ rfl rfl ⟨by decide, by decide⟩ rfl hl.1 rfl (Nat.le_of_ble_eq_true rfl) dX7_wire_26 ⟨by decide, by decide⟩ (fun v u H locs hp w => ?_)
    obtain ⟨r4, f2, rfl, rfl, hT2, hR1, hrr4⟩ := hp
    have hR := hR.tr hR1
    clear hT
    have hT := hT2
    clear hT2
    generalize f2 = f at w hT hR
    obtain rfl := hrr4
    refine lv_if_eq (tgt := 34) hx hb dX7_wire_29 (by decide) (fun c0 => absurd c0 (by decide)) (fun _ => ?_)
    refine lv_iconst (v := 0) hx hb dX7_wire_32 (by decide) ?_
    exact t_zret C hr hlk w (by decide) ⟨_, 1, _, rfl, rfl, hT.mono (gof_sub rfl), hR, ⟨rfl, rfl⟩⟩ (by decide) (by decide) dX7_wire_33
set_option maxHeartbeats 4000000 in
set_option maxRecDepth 100000 in
theorem c_X7_key (l : Launch) (D : va_G) (K : Nat → ClassId) (b0 : Nat) (sa : Nat × Nat × Nat) (sz : Nat) (L : List Nat) (f0 : Nat → va_E) (Ψ : Nat → Nat) (hT : TW K (gof gM0) Ψ L f0) (m_ : Nat) (hm_m_ : m_ ∈ L) (ht_m_ : Ψ m_ = 7) (th_ : Int32) (hu_7 : ∀ b c : Nat, b ∈ L → c ∈ L → Ψ b = 7 → Ψ c = 7 → b = c) : Met l yX7_key (.code yX7_key cX7_key 2 (some .int) :: gt) { frames := 1, cells := 0, slots := 0, locals := 22 } (va_Pc [.ref m_, .int th_] (hPre D K b0 sa sz L f0)) (hQ D K b0 (fun v9 u9 => ∃ (r : Int32) (th : Int32) (f2 : Nat → va_E), v9 = some (.int r) ∧ u9 = (gof [(700, th)], Ψ, L, f2) ∧ TW K (gof [(700, th)]) Ψ L f2 ∧ rawk Ψ L f0 f2 ∧ ((r = 0 ∧ th = 1)))) 0 0 (fun q => b0 ≤ q) := by
  refine t_of (own := RX7) (by decide) rfl ?_ (Nat.le_of_ble_eq_true rfl)
  intro p e s m below meth c ls C w hsz hr hlk hnm hl
  have hx := C.1
  have hb := C.2.1
  have hl : lv_has ls 2 [(0, .ref m_), (1, .int th_)] := hl
  have hb_th_ := ti_bd th_
  have hR : rawk Ψ L f0 f0 := rawk.rf
  refine lv_aload_n hx hb dX7_key_0 rfl (lv_at hl 0 rfl) ?_
  refine lv_iconst (v := 0) hx hb dX7_key_1 (by decide) ?_
  refine t_puti C w hT hm_m_ ht_m_ (by decide) rfl cin_7 tyX7 tyX7_ok nmX7 0 (by decide) rfl rfl rfl rfl rfl (gof_is rfl) gw_1156 dX7_key_2 (fun f H locs w hT hR1 => ?_)
  have hR := hR.tr hR1
  refine lv_aload_n hx hb dX7_key_5 rfl (lv_at hl 0 rfl) ?_
  refine lv_iload_n hx hb dX7_key_6 rfl (lv_at hl 1 rfl) ?_
  refine lv_iconst (v := 0) hx hb dX7_key_7 (by decide) ?_
  refine lv_aload_n hx hb dX7_key_8 rfl (lv_at hl 0 rfl) ?_
  refine t_geti C w hT hm_m_ ht_m_ (by decide) rfl cin_7 21 (by decide) rfl rfl gw_1177 dX7_key_9 (fun x1 hg => ?_)
  obtain rfl : x1 = 0 := gof_at rfl hg
  refine lv_iconst (v := 1) hx hb dX7_key_12 (by decide) ?_
  refine lv_isub hx hb dX7_key_13 ?_
  refine lv_topi (fun y2 ey2 => ?_)
  obtain rfl : y2 = (-1) := ey2.trans (by decide)
  have n0 : (0 : Int32).toInt = 0 := by decide
  have nm1 : ((-1) : Int32).toInt = -1 := by decide
  refine t_callS (n := 3) C w (c_X7_in l D K b0 sa _ L _ Ψ (gof gM0) hT th_ 0 (-1)) gw_1343 gw_1341 gw_1342 gw_8 ⟨by decide, by decide, by decide +kernel⟩ rfl rfl ⟨by decide, by decide⟩ rfl hl.1 rfl (Nat.le_of_ble_eq_true rfl) dX7_key_14 ⟨by decide, by decide⟩ (fun v u H locs hp w => ?_)
  obtain ⟨r3, rfl, rfl, hrr3⟩ := hp
  rcases hrr3 with ⟨rfl, hf0_r3, hf1_r3⟩ | ⟨rfl, hf0_r3⟩
  · exfalso; omega
  ·
    refine lv_if_ne (tgt := 24) hx hb dX7_key_17 (by decide) (fun c0 => absurd c0 (by decide)) (fun _ => ?_)
    refine lv_iconst (v := 1) hx hb dX7_key_20 (by decide) ?_
    refine lv_goto (tgt := 25) hx hb dX7_key_21 (by decide) ?_
    refine lv_iconst (v := 1) hx hb dX7_key_25 (by decide) ?_
    refine t_callV (n := 2) C w hT hm_m_ ht_m_ (by decide) rfl rfl (c_X7_bad1 l D K b0 sa _ L _ Ψ hT m_ hm_m_ ht_m_ hu_7) gw_1347 gw_1344 gw_1346 gs_22 gw_8 ⟨by decide, by decide, by decide +kernel⟩ rfl rfl ⟨by decide, by decide⟩ rfl hl.1 rfl (Nat.le_of_ble_eq_true rfl) dX7_key_26 ⟨by decide, by decide⟩ (fun v u H locs hp w => ?_)
    obtain ⟨r4, f2, rfl, rfl, hT2, hR1, hrr4⟩ := hp
    have hR := hR.tr hR1
    clear hT
    have hT := hT2
    clear hT2
    generalize f2 = f at w hT hR
    obtain rfl := hrr4
    refine lv_if_eq (tgt := 34) hx hb dX7_key_29 (by decide) (fun c0 => absurd c0 (by decide)) (fun _ => ?_)
    refine lv_iconst (v := 0) hx hb dX7_key_32 (by decide) ?_
    exact t_iret C hr hlk w ⟨_, 1, _, rfl, rfl, hT.mono (gof_sub rfl), hR, ⟨rfl, rfl⟩⟩ (by decide) (by decide) dX7_key_33
set_option maxHeartbeats 4000000 in
set_option maxRecDepth 100000 in
theorem c_X7_thing (l : Launch) (D : va_G) (K : Nat → ClassId) (b0 : Nat) (sa : Nat × Nat × Nat) (sz : Nat) (L : List Nat) (f0 : Nat → va_E) (Ψ : Nat → Nat) (hT : TW K (gof gM0) Ψ L f0) (m_ : Nat) (hm_m_ : m_ ∈ L) (ht_m_ : Ψ m_ = 7) (th_ : Int32) (wh : Int32) (hu_7 : ∀ b c : Nat, b ∈ L → c ∈ L → Ψ b = 7 → Ψ c = 7 → b = c) : Met l yX7_thing (.code yX7_thing cX7_thing 3 (some .int) :: gt) { frames := 1, cells := 0, slots := 0, locals := 22 } (va_Pc [.ref m_, .int th_, .int wh] (hPre D K b0 sa sz L f0)) (hQ D K b0 (fun v9 u9 => ∃ (r : Int32) (th : Int32) (f2 : Nat → va_E), v9 = some (.int r) ∧ u9 = (gof [(700, th)], Ψ, L, f2) ∧ TW K (gof [(700, th)]) Ψ L f2 ∧ rawk Ψ L f0 f2 ∧ ((r = 0 ∧ th = 1)))) 0 0 (fun q => b0 ≤ q) := by
  refine t_of (own := RX7) (by decide) rfl ?_ (Nat.le_of_ble_eq_true rfl)
  intro p e s m below meth c ls C w hsz hr hlk hnm hl
  have hx := C.1
  have hb := C.2.1
  have hl : lv_has ls 3 [(0, .ref m_), (1, .int th_), (2, .int wh)] := hl
  have hb_th_ := ti_bd th_
  have hb_wh := ti_bd wh
  have hR : rawk Ψ L f0 f0 := rawk.rf
  refine lv_aload_n hx hb dX7_thing_0 rfl (lv_at hl 0 rfl) ?_
  refine lv_iconst (v := 0) hx hb dX7_thing_1 (by decide) ?_
  refine t_puti C w hT hm_m_ ht_m_ (by decide) rfl cin_7 tyX7 tyX7_ok nmX7 0 (by decide) rfl rfl rfl rfl rfl (gof_is rfl) gw_1156 dX7_thing_2 (fun f H locs w hT hR1 => ?_)
  have hR := hR.tr hR1
  refine lv_aload_n hx hb dX7_thing_5 rfl (lv_at hl 0 rfl) ?_
  refine lv_iload_n hx hb dX7_thing_6 rfl (lv_at hl 1 rfl) ?_
  refine lv_iconst (v := 0) hx hb dX7_thing_7 (by decide) ?_
  refine lv_aload_n hx hb dX7_thing_8 rfl (lv_at hl 0 rfl) ?_
  refine t_geti C w hT hm_m_ ht_m_ (by decide) rfl cin_7 21 (by decide) rfl rfl gw_1177 dX7_thing_9 (fun x1 hg => ?_)
  obtain rfl : x1 = 0 := gof_at rfl hg
  refine lv_iconst (v := 1) hx hb dX7_thing_12 (by decide) ?_
  refine lv_isub hx hb dX7_thing_13 ?_
  refine lv_topi (fun y2 ey2 => ?_)
  obtain rfl : y2 = (-1) := ey2.trans (by decide)
  have n0 : (0 : Int32).toInt = 0 := by decide
  have nm1 : ((-1) : Int32).toInt = -1 := by decide
  refine t_callS (n := 3) C w (c_X7_in l D K b0 sa _ L _ Ψ (gof gM0) hT th_ 0 (-1)) gw_1343 gw_1341 gw_1342 gw_8 ⟨by decide, by decide, by decide +kernel⟩ rfl rfl ⟨by decide, by decide⟩ rfl hl.1 rfl (Nat.le_of_ble_eq_true rfl) dX7_thing_14 ⟨by decide, by decide⟩ (fun v u H locs hp w => ?_)
  obtain ⟨r3, rfl, rfl, hrr3⟩ := hp
  rcases hrr3 with ⟨rfl, hf0_r3, hf1_r3⟩ | ⟨rfl, hf0_r3⟩
  · exfalso; omega
  ·
    refine lv_if_ne (tgt := 24) hx hb dX7_thing_17 (by decide) (fun c0 => absurd c0 (by decide)) (fun _ => ?_)
    refine lv_iconst (v := 1) hx hb dX7_thing_20 (by decide) ?_
    refine lv_goto (tgt := 25) hx hb dX7_thing_21 (by decide) ?_
    refine lv_iconst (v := 1) hx hb dX7_thing_25 (by decide) ?_
    refine t_callV (n := 2) C w hT hm_m_ ht_m_ (by decide) rfl rfl (c_X7_bad1 l D K b0 sa _ L _ Ψ hT m_ hm_m_ ht_m_ hu_7) gw_1347 gw_1344 gw_1346 gs_22 gw_8 ⟨by decide, by decide, by decide +kernel⟩ rfl rfl ⟨by decide, by decide⟩ rfl hl.1 rfl (Nat.le_of_ble_eq_true rfl) dX7_thing_26 ⟨by decide, by decide⟩ (fun v u H locs hp w => ?_)
    obtain ⟨r4, f2, rfl, rfl, hT2, hR1, hrr4⟩ := hp
    have hR := hR.tr hR1
    clear hT
    have hT := hT2
    clear hT2
    generalize f2 = f at w hT hR
    obtain rfl := hrr4
    refine lv_if_ne (tgt := 54) hx hb dX7_thing_29 (by decide) (fun _ => ?_) (fun c0 => absurd c0 (by decide))
    refine lv_iconst (v := 0) hx hb dX7_thing_54 (by decide) ?_
    exact t_iret C hr hlk w ⟨_, 1, _, rfl, rfl, hT.mono (gof_sub rfl), hR, ⟨rfl, rfl⟩⟩ (by decide) (by decide) dX7_thing_55
set_option maxHeartbeats 4000000 in
set_option maxRecDepth 100000 in
theorem c_X7_record (l : Launch) (D : va_G) (K : Nat → ClassId) (b0 : Nat) (sa : Nat × Nat × Nat) (sz : Nat) (L : List Nat) (f0 : Nat → va_E) (Ψ : Nat → Nat) (hT : TW K (gof gM0) Ψ L f0) (m_ : Nat) (hm_m_ : m_ ∈ L) (ht_m_ : Ψ m_ = 7) (k_ : Int32) (wh : Int32) (hu_7 : ∀ b c : Nat, b ∈ L → c ∈ L → Ψ b = 7 → Ψ c = 7 → b = c) : Met l yX7_record (.code yX7_record cX7_record 3 (some .int) :: gt) { frames := 1, cells := 0, slots := 0, locals := 22 } (va_Pc [.ref m_, .int k_, .int wh] (hPre D K b0 sa sz L f0)) (hQ D K b0 (fun v9 u9 => ∃ (r : Int32) (th : Int32) (f2 : Nat → va_E), v9 = some (.int r) ∧ u9 = (gof [(700, th)], Ψ, L, f2) ∧ TW K (gof [(700, th)]) Ψ L f2 ∧ rawk Ψ L f0 f2 ∧ ((r = 0 ∧ th = 1)))) 0 0 (fun q => b0 ≤ q) := by
  refine t_of (own := RX7) (by decide) rfl ?_ (Nat.le_of_ble_eq_true rfl)
  intro p e s m below meth c ls C w hsz hr hlk hnm hl
  have hx := C.1
  have hb := C.2.1
  have hl : lv_has ls 3 [(0, .ref m_), (1, .int k_), (2, .int wh)] := hl
  have hb_k_ := ti_bd k_
  have hb_wh := ti_bd wh
  have hR : rawk Ψ L f0 f0 := rawk.rf
  refine lv_aload_n hx hb dX7_record_0 rfl (lv_at hl 0 rfl) ?_
  refine lv_iconst (v := 0) hx hb dX7_record_1 (by decide) ?_
  refine t_puti C w hT hm_m_ ht_m_ (by decide) rfl cin_7 tyX7 tyX7_ok nmX7 0 (by decide) rfl rfl rfl rfl rfl (gof_is rfl) gw_1156 dX7_record_2 (fun f H locs w hT hR1 => ?_)
  have hR := hR.tr hR1
  refine lv_aload_n hx hb dX7_record_5 rfl (lv_at hl 0 rfl) ?_
  refine lv_iload_n hx hb dX7_record_6 rfl (lv_at hl 1 rfl) ?_
  refine lv_iconst (v := 0) hx hb dX7_record_7 (by decide) ?_
  refine lv_aload_n hx hb dX7_record_8 rfl (lv_at hl 0 rfl) ?_
  refine t_geti C w hT hm_m_ ht_m_ (by decide) rfl cin_7 46 (by decide) rfl rfl gw_1202 dX7_record_9 (fun x1 hg => ?_)
  obtain rfl : x1 = 0 := gof_at rfl hg
  refine lv_iconst (v := 1) hx hb dX7_record_12 (by decide) ?_
  refine lv_isub hx hb dX7_record_13 ?_
  refine lv_topi (fun y2 ey2 => ?_)
  obtain rfl : y2 = (-1) := ey2.trans (by decide)
  have n0 : (0 : Int32).toInt = 0 := by decide
  have nm1 : ((-1) : Int32).toInt = -1 := by decide
  refine t_callS (n := 3) C w (c_X7_in l D K b0 sa _ L _ Ψ (gof gM0) hT k_ 0 (-1)) gw_1343 gw_1341 gw_1342 gw_8 ⟨by decide, by decide, by decide +kernel⟩ rfl rfl ⟨by decide, by decide⟩ rfl hl.1 rfl (Nat.le_of_ble_eq_true rfl) dX7_record_14 ⟨by decide, by decide⟩ (fun v u H locs hp w => ?_)
  obtain ⟨r3, rfl, rfl, hrr3⟩ := hp
  rcases hrr3 with ⟨rfl, hf0_r3, hf1_r3⟩ | ⟨rfl, hf0_r3⟩
  · exfalso; omega
  ·
    refine lv_if_ne (tgt := 24) hx hb dX7_record_17 (by decide) (fun c0 => absurd c0 (by decide)) (fun _ => ?_)
    refine lv_iconst (v := 1) hx hb dX7_record_20 (by decide) ?_
    refine lv_goto (tgt := 25) hx hb dX7_record_21 (by decide) ?_
    refine lv_iconst (v := 1) hx hb dX7_record_25 (by decide) ?_
    refine t_callV (n := 2) C w hT hm_m_ ht_m_ (by decide) rfl rfl (c_X7_bad1 l D K b0 sa _ L _ Ψ hT m_ hm_m_ ht_m_ hu_7) gw_1347 gw_1344 gw_1346 gs_22 gw_8 ⟨by decide, by decide, by decide +kernel⟩ rfl rfl ⟨by decide, by decide⟩ rfl hl.1 rfl (Nat.le_of_ble_eq_true rfl) dX7_record_26 ⟨by decide, by decide⟩ (fun v u H locs hp w => ?_)
    obtain ⟨r4, f2, rfl, rfl, hT2, hR1, hrr4⟩ := hp
    have hR := hR.tr hR1
    clear hT
    have hT := hT2
    clear hT2
    generalize f2 = f at w hT hR
    obtain rfl := hrr4
    refine lv_if_ne (tgt := 55) hx hb dX7_record_29 (by decide) (fun _ => ?_) (fun c0 => absurd c0 (by decide))
    refine lv_iconst (v := 0) hx hb dX7_record_55 (by decide) ?_
    exact t_iret C hr hlk w ⟨_, 1, _, rfl, rfl, hT.mono (gof_sub rfl), hR, ⟨rfl, rfl⟩⟩ (by decide) (by decide) dX7_record_56
set_option maxHeartbeats 4000000 in
set_option maxRecDepth 100000 in
theorem c_X7_play (l : Launch) (D : va_G) (K : Nat → ClassId) (b0 : Nat) (sa : Nat × Nat × Nat) (sz : Nat) (L : List Nat) (f0 : Nat → va_E) (Ψ : Nat → Nat) (hT : TW K (gof gM0) Ψ L f0) (m_ : Nat) (hm_m_ : m_ ∈ L) (ht_m_ : Ψ m_ = 7) (ha : Int32) (ai : Int32) (hu_7 : ∀ b c : Nat, b ∈ L → c ∈ L → Ψ b = 7 → Ψ c = 7 → b = c) : Met l yX7_play (.code yX7_play cX7_play 5 (some .int) :: gt) { frames := 2, cells := 0, slots := 0, locals := 43 } (va_Pc [.ref m_, .int ha, .int ai] (hPre D K b0 sa sz L f0)) (hQ D K b0 (fun v9 u9 => ∃ (r : Int32) (th : Int32) (f2 : Nat → va_E), v9 = some (.int r) ∧ u9 = (gof [(700, th)], Ψ, L, f2) ∧ TW K (gof [(700, th)]) Ψ L f2 ∧ rawk Ψ L f0 f2 ∧ ((r = 0 ∧ th = 1)))) 0 0 (fun q => b0 ≤ q) := by
  refine t_of (own := RX7) (by decide) rfl ?_ (Nat.le_of_ble_eq_true rfl)
  intro p e s m below meth c ls C w hsz hr hlk hnm hl
  have hx := C.1
  have hb := C.2.1
  have hl : lv_has ls 5 [(0, .ref m_), (1, .int ha), (2, .int ai)] := hl
  have hb_ha := ti_bd ha
  have hb_ai := ti_bd ai
  have hR : rawk Ψ L f0 f0 := rawk.rf
  refine lv_aload_n hx hb dX7_play_0 rfl (lv_at hl 0 rfl) ?_
  refine lv_iconst (v := 0) hx hb dX7_play_1 (by decide) ?_
  refine t_puti C w hT hm_m_ ht_m_ (by decide) rfl cin_7 tyX7 tyX7_ok nmX7 0 (by decide) rfl rfl rfl rfl rfl (gof_is rfl) gw_1156 dX7_play_2 (fun f H locs w hT hR1 => ?_)
  have hR := hR.tr hR1
  refine lv_aload_n hx hb dX7_play_5 rfl (lv_at hl 0 rfl) ?_
  refine lv_aload_n hx hb dX7_play_6 rfl (lv_at hl 0 rfl) ?_
  refine lv_iload_n hx hb dX7_play_7 rfl (lv_at hl 1 rfl) ?_
  refine t_callV (n := 1) C w hT hm_m_ ht_m_ (by decide) rfl rfl (c_X7_isHand l D K b0 sa _ L _ Ψ (hT.mono (gof_sub rfl)) m_ hm_m_ ht_m_ ha) gw_1574 gw_1571 gw_1573 gs_58 gw_8 ⟨by decide, by decide, by decide +kernel⟩ rfl rfl ⟨by decide, by decide⟩ rfl hl.1 rfl (Nat.le_of_ble_eq_true rfl) dX7_play_8 ⟨by decide, by decide⟩ (fun v u H locs hp w => ?_)
  obtain ⟨r1, rfl, rfl, hrr1⟩ := hp
  obtain rfl := hrr1
  refine lv_if_ne (tgt := 18) hx hb dX7_play_11 (by decide) (fun c0 => absurd c0 (by decide)) (fun _ => ?_)
  refine lv_iconst (v := 1) hx hb dX7_play_14 (by decide) ?_
  refine lv_goto (tgt := 19) hx hb dX7_play_15 (by decide) ?_
  refine lv_iconst (v := 1) hx hb dX7_play_19 (by decide) ?_
  refine t_callV (n := 2) C w hT hm_m_ ht_m_ (by decide) rfl rfl (c_X7_bad1 l D K b0 sa _ L _ Ψ hT m_ hm_m_ ht_m_ hu_7) gw_1347 gw_1344 gw_1346 gs_22 gw_8 ⟨by decide, by decide, by decide +kernel⟩ rfl rfl ⟨by decide, by decide⟩ rfl hl.1 rfl (Nat.le_of_ble_eq_true rfl) dX7_play_20 ⟨by decide, by decide⟩ (fun v u H locs hp w => ?_)
  obtain ⟨r2, f2, rfl, rfl, hT2, hR1, hrr2⟩ := hp
  have hR := hR.tr hR1
  clear hT
  have hT := hT2
  clear hT2
  generalize f2 = f at w hT hR
  obtain rfl := hrr2
  refine lv_if_ne (tgt := 46) hx hb dX7_play_23 (by decide) (fun _ => ?_) (fun c0 => absurd c0 (by decide))
  refine lv_iconst (v := 0) hx hb dX7_play_46 (by decide) ?_
  have n0 : (0 : Int32).toInt = 0 := by decide
  exact t_iret C hr hlk w ⟨_, 1, _, rfl, rfl, hT.mono (gof_sub rfl), hR, ⟨rfl, rfl⟩⟩ (by decide) (by decide) dX7_play_47
set_option maxHeartbeats 4000000 in
set_option maxRecDepth 100000 in
theorem c_X7_odds (l : Launch) (D : va_G) (K : Nat → ClassId) (b0 : Nat) (sa : Nat × Nat × Nat) (sz : Nat) (L : List Nat) (f0 : Nat → va_E) (Ψ : Nat → Nat) (hT : TW K (gof gM0) Ψ L f0) (m_ : Nat) (hm_m_ : m_ ∈ L) (ht_m_ : Ψ m_ = 7) (ha : Int32) (ai : Int32) (lo_ : Int32) (hu_7 : ∀ b c : Nat, b ∈ L → c ∈ L → Ψ b = 7 → Ψ c = 7 → b = c) : Met l yX7_odds (.code yX7_odds cX7_odds 6 (some .int) :: gt) { frames := 2, cells := 0, slots := 0, locals := 43 } (va_Pc [.ref m_, .int ha, .int ai, .int lo_] (hPre D K b0 sa sz L f0)) (hQ D K b0 (fun v9 u9 => ∃ (r : Int32) (th : Int32) (f2 : Nat → va_E), v9 = some (.int r) ∧ u9 = (gof [(700, th)], Ψ, L, f2) ∧ TW K (gof [(700, th)]) Ψ L f2 ∧ rawk Ψ L f0 f2 ∧ ((r = 0 ∧ th = 1)))) 0 0 (fun q => b0 ≤ q) := by
  refine t_of (own := RX7) (by decide) rfl ?_ (Nat.le_of_ble_eq_true rfl)
  intro p e s m below meth c ls C w hsz hr hlk hnm hl
  have hx := C.1
  have hb := C.2.1
  have hl : lv_has ls 6 [(0, .ref m_), (1, .int ha), (2, .int ai), (3, .int lo_)] := hl
  have hb_ha := ti_bd ha
  have hb_ai := ti_bd ai
  have hb_lo_ := ti_bd lo_
  have hR : rawk Ψ L f0 f0 := rawk.rf
  refine lv_aload_n hx hb dX7_odds_0 rfl (lv_at hl 0 rfl) ?_
  refine lv_iconst (v := 0) hx hb dX7_odds_1 (by decide) ?_
  refine t_puti C w hT hm_m_ ht_m_ (by decide) rfl cin_7 tyX7 tyX7_ok nmX7 0 (by decide) rfl rfl rfl rfl rfl (gof_is rfl) gw_1156 dX7_odds_2 (fun f H locs w hT hR1 => ?_)
  have hR := hR.tr hR1
  refine lv_aload_n hx hb dX7_odds_5 rfl (lv_at hl 0 rfl) ?_
  refine lv_aload_n hx hb dX7_odds_6 rfl (lv_at hl 0 rfl) ?_
  refine lv_iload_n hx hb dX7_odds_7 rfl (lv_at hl 1 rfl) ?_
  refine t_callV (n := 1) C w hT hm_m_ ht_m_ (by decide) rfl rfl (c_X7_isHand l D K b0 sa _ L _ Ψ (hT.mono (gof_sub rfl)) m_ hm_m_ ht_m_ ha) gw_1574 gw_1571 gw_1573 gs_58 gw_8 ⟨by decide, by decide, by decide +kernel⟩ rfl rfl ⟨by decide, by decide⟩ rfl hl.1 rfl (Nat.le_of_ble_eq_true rfl) dX7_odds_8 ⟨by decide, by decide⟩ (fun v u H locs hp w => ?_)
  obtain ⟨r1, rfl, rfl, hrr1⟩ := hp
  obtain rfl := hrr1
  refine lv_if_ne (tgt := 18) hx hb dX7_odds_11 (by decide) (fun c0 => absurd c0 (by decide)) (fun _ => ?_)
  refine lv_iconst (v := 1) hx hb dX7_odds_14 (by decide) ?_
  refine lv_goto (tgt := 19) hx hb dX7_odds_15 (by decide) ?_
  refine lv_iconst (v := 1) hx hb dX7_odds_19 (by decide) ?_
  refine t_callV (n := 2) C w hT hm_m_ ht_m_ (by decide) rfl rfl (c_X7_bad1 l D K b0 sa _ L _ Ψ hT m_ hm_m_ ht_m_ hu_7) gw_1347 gw_1344 gw_1346 gs_22 gw_8 ⟨by decide, by decide, by decide +kernel⟩ rfl rfl ⟨by decide, by decide⟩ rfl hl.1 rfl (Nat.le_of_ble_eq_true rfl) dX7_odds_20 ⟨by decide, by decide⟩ (fun v u H locs hp w => ?_)
  obtain ⟨r2, f2, rfl, rfl, hT2, hR1, hrr2⟩ := hp
  have hR := hR.tr hR1
  clear hT
  have hT := hT2
  clear hT2
  generalize f2 = f at w hT hR
  obtain rfl := hrr2
  refine lv_if_ne (tgt := 69) hx hb dX7_odds_23 (by decide) (fun _ => ?_) (fun c0 => absurd c0 (by decide))
  refine lv_iconst (v := 0) hx hb dX7_odds_69 (by decide) ?_
  have n0 : (0 : Int32).toInt = 0 := by decide
  exact t_iret C hr hlk w ⟨_, 1, _, rfl, rfl, hT.mono (gof_sub rfl), hR, ⟨rfl, rfl⟩⟩ (by decide) (by decide) dX7_odds_70
set_option maxHeartbeats 4000000 in
set_option maxRecDepth 100000 in
theorem c_X7_weights (l : Launch) (D : va_G) (K : Nat → ClassId) (b0 : Nat) (sa : Nat × Nat × Nat) (sz : Nat) (L : List Nat) (f0 : Nat → va_E) (Ψ : Nat → Nat) (hT : TW K (gof gM0) Ψ L f0) (m_ : Nat) (hm_m_ : m_ ∈ L) (ht_m_ : Ψ m_ = 7) (ha : Int32) (hu_7 : ∀ b c : Nat, b ∈ L → c ∈ L → Ψ b = 7 → Ψ c = 7 → b = c) : Met l yX7_weights (.code yX7_weights cX7_weights 2 (some .int) :: gt) { frames := 2, cells := 0, slots := 0, locals := 43 } (va_Pc [.ref m_, .int ha] (hPre D K b0 sa sz L f0)) (hQ D K b0 (fun v9 u9 => ∃ (r : Int32) (th : Int32) (f2 : Nat → va_E), v9 = some (.int r) ∧ u9 = (gof [(700, th)], Ψ, L, f2) ∧ TW K (gof [(700, th)]) Ψ L f2 ∧ rawk Ψ L f0 f2 ∧ ((r = 0 ∧ th = 1)))) 0 0 (fun q => b0 ≤ q) := by
  refine t_of (own := RX7) (by decide) rfl ?_ (Nat.le_of_ble_eq_true rfl)
  intro p e s m below meth c ls C w hsz hr hlk hnm hl
  have hx := C.1
  have hb := C.2.1
  have hl : lv_has ls 2 [(0, .ref m_), (1, .int ha)] := hl
  have hb_ha := ti_bd ha
  have hR : rawk Ψ L f0 f0 := rawk.rf
  refine lv_aload_n hx hb dX7_weights_0 rfl (lv_at hl 0 rfl) ?_
  refine lv_iconst (v := 0) hx hb dX7_weights_1 (by decide) ?_
  refine t_puti C w hT hm_m_ ht_m_ (by decide) rfl cin_7 tyX7 tyX7_ok nmX7 0 (by decide) rfl rfl rfl rfl rfl (gof_is rfl) gw_1156 dX7_weights_2 (fun f H locs w hT hR1 => ?_)
  have hR := hR.tr hR1
  refine lv_aload_n hx hb dX7_weights_5 rfl (lv_at hl 0 rfl) ?_
  refine lv_aload_n hx hb dX7_weights_6 rfl (lv_at hl 0 rfl) ?_
  refine lv_iload_n hx hb dX7_weights_7 rfl (lv_at hl 1 rfl) ?_
  refine t_callV (n := 1) C w hT hm_m_ ht_m_ (by decide) rfl rfl (c_X7_isHand l D K b0 sa _ L _ Ψ (hT.mono (gof_sub rfl)) m_ hm_m_ ht_m_ ha) gw_1574 gw_1571 gw_1573 gs_58 gw_8 ⟨by decide, by decide, by decide +kernel⟩ rfl rfl ⟨by decide, by decide⟩ rfl hl.1 rfl (Nat.le_of_ble_eq_true rfl) dX7_weights_8 ⟨by decide, by decide⟩ (fun v u H locs hp w => ?_)
  obtain ⟨r1, rfl, rfl, hrr1⟩ := hp
  obtain rfl := hrr1
  refine lv_if_ne (tgt := 18) hx hb dX7_weights_11 (by decide) (fun c0 => absurd c0 (by decide)) (fun _ => ?_)
  refine lv_iconst (v := 1) hx hb dX7_weights_14 (by decide) ?_
  refine lv_goto (tgt := 19) hx hb dX7_weights_15 (by decide) ?_
  refine lv_iconst (v := 1) hx hb dX7_weights_19 (by decide) ?_
  refine t_callV (n := 2) C w hT hm_m_ ht_m_ (by decide) rfl rfl (c_X7_bad1 l D K b0 sa _ L _ Ψ hT m_ hm_m_ ht_m_ hu_7) gw_1347 gw_1344 gw_1346 gs_22 gw_8 ⟨by decide, by decide, by decide +kernel⟩ rfl rfl ⟨by decide, by decide⟩ rfl hl.1 rfl (Nat.le_of_ble_eq_true rfl) dX7_weights_20 ⟨by decide, by decide⟩ (fun v u H locs hp w => ?_)
  obtain ⟨r2, f2, rfl, rfl, hT2, hR1, hrr2⟩ := hp
  have hR := hR.tr hR1
  clear hT
  have hT := hT2
  clear hT2
  generalize f2 = f at w hT hR
  obtain rfl := hrr2
  refine lv_if_eq (tgt := 28) hx hb dX7_weights_23 (by decide) (fun c0 => absurd c0 (by decide)) (fun _ => ?_)
  refine lv_iconst (v := 0) hx hb dX7_weights_26 (by decide) ?_
  have n0 : (0 : Int32).toInt = 0 := by decide
  exact t_iret C hr hlk w ⟨_, 1, _, rfl, rfl, hT.mono (gof_sub rfl), hR, ⟨rfl, rfl⟩⟩ (by decide) (by decide) dX7_weights_27
set_option maxHeartbeats 4000000 in
set_option maxRecDepth 100000 in
theorem c_X7_settle (l : Launch) (D : va_G) (K : Nat → ClassId) (b0 : Nat) (sa : Nat × Nat × Nat) (sz : Nat) (L : List Nat) (f0 : Nat → va_E) (Ψ : Nat → Nat) (hT : TW K (gof gM0) Ψ L f0) (m_ : Nat) (hm_m_ : m_ ∈ L) (ht_m_ : Ψ m_ = 7) (ha : Int32) (ce : Int32) (le_ : Int32) (hu_7 : ∀ b c : Nat, b ∈ L → c ∈ L → Ψ b = 7 → Ψ c = 7 → b = c) : Met l yX7_settle (.code yX7_settle cX7_settle 7 (some .int) :: gt) { frames := 2, cells := 0, slots := 0, locals := 43 } (va_Pc [.ref m_, .int ha, .int ce, .int le_] (hPre D K b0 sa sz L f0)) (hQ D K b0 (fun v9 u9 => ∃ (r : Int32) (th : Int32) (f2 : Nat → va_E), v9 = some (.int r) ∧ u9 = (gof [(700, th)], Ψ, L, f2) ∧ TW K (gof [(700, th)]) Ψ L f2 ∧ rawk Ψ L f0 f2 ∧ ((r = 0 ∧ th = 1)))) 0 0 (fun q => b0 ≤ q) := by
  refine t_of (own := RX7) (by decide) rfl ?_ (Nat.le_of_ble_eq_true rfl)
  intro p e s m below meth c ls C w hsz hr hlk hnm hl
  have hx := C.1
  have hb := C.2.1
  have hl : lv_has ls 7 [(0, .ref m_), (1, .int ha), (2, .int ce), (3, .int le_)] := hl
  have hb_ha := ti_bd ha
  have hb_ce := ti_bd ce
  have hb_le_ := ti_bd le_
  have hR : rawk Ψ L f0 f0 := rawk.rf
  refine lv_aload_n hx hb dX7_settle_0 rfl (lv_at hl 0 rfl) ?_
  refine lv_iconst (v := 0) hx hb dX7_settle_1 (by decide) ?_
  refine t_puti C w hT hm_m_ ht_m_ (by decide) rfl cin_7 tyX7 tyX7_ok nmX7 0 (by decide) rfl rfl rfl rfl rfl (gof_is rfl) gw_1156 dX7_settle_2 (fun f H locs w hT hR1 => ?_)
  have hR := hR.tr hR1
  refine lv_aload_n hx hb dX7_settle_5 rfl (lv_at hl 0 rfl) ?_
  refine lv_aload_n hx hb dX7_settle_6 rfl (lv_at hl 0 rfl) ?_
  refine lv_iload_n hx hb dX7_settle_7 rfl (lv_at hl 1 rfl) ?_
  refine t_callV (n := 1) C w hT hm_m_ ht_m_ (by decide) rfl rfl (c_X7_isHand l D K b0 sa _ L _ Ψ (hT.mono (gof_sub rfl)) m_ hm_m_ ht_m_ ha) gw_1574 gw_1571 gw_1573 gs_58 gw_8 ⟨by decide, by decide, by decide +kernel⟩ rfl rfl ⟨by decide, by decide⟩ rfl hl.1 rfl (Nat.le_of_ble_eq_true rfl) dX7_settle_8 ⟨by decide, by decide⟩ (fun v u H locs hp w => ?_)
  obtain ⟨r1, rfl, rfl, hrr1⟩ := hp
  obtain rfl := hrr1
  refine lv_if_ne (tgt := 18) hx hb dX7_settle_11 (by decide) (fun c0 => absurd c0 (by decide)) (fun _ => ?_)
  refine lv_iconst (v := 1) hx hb dX7_settle_14 (by decide) ?_
  refine lv_goto (tgt := 19) hx hb dX7_settle_15 (by decide) ?_
  refine lv_iconst (v := 1) hx hb dX7_settle_19 (by decide) ?_
  refine t_callV (n := 2) C w hT hm_m_ ht_m_ (by decide) rfl rfl (c_X7_bad1 l D K b0 sa _ L _ Ψ hT m_ hm_m_ ht_m_ hu_7) gw_1347 gw_1344 gw_1346 gs_22 gw_8 ⟨by decide, by decide, by decide +kernel⟩ rfl rfl ⟨by decide, by decide⟩ rfl hl.1 rfl (Nat.le_of_ble_eq_true rfl) dX7_settle_20 ⟨by decide, by decide⟩ (fun v u H locs hp w => ?_)
  obtain ⟨r2, f2, rfl, rfl, hT2, hR1, hrr2⟩ := hp
  have hR := hR.tr hR1
  clear hT
  have hT := hT2
  clear hT2
  generalize f2 = f at w hT hR
  obtain rfl := hrr2
  refine lv_if_ne (tgt := 70) hx hb dX7_settle_23 (by decide) (fun _ => ?_) (fun c0 => absurd c0 (by decide))
  refine lv_iconst (v := 0) hx hb dX7_settle_70 (by decide) ?_
  have n0 : (0 : Int32).toInt = 0 := by decide
  exact t_iret C hr hlk w ⟨_, 1, _, rfl, rfl, hT.mono (gof_sub rfl), hR, ⟨rfl, rfl⟩⟩ (by decide) (by decide) dX7_settle_71
set_option maxHeartbeats 4000000 in
set_option maxRecDepth 100000 in
theorem c_X7_back (l : Launch) (D : va_G) (K : Nat → ClassId) (b0 : Nat) (sa : Nat × Nat × Nat) (sz : Nat) (L : List Nat) (f0 : Nat → va_E) (Ψ : Nat → Nat) (hT : TW K (gof gM0) Ψ L f0) (m_ : Nat) (hm_m_ : m_ ∈ L) (ht_m_ : Ψ m_ = 7) (ha : Int32) (ce : Int32) (hu_7 : ∀ b c : Nat, b ∈ L → c ∈ L → Ψ b = 7 → Ψ c = 7 → b = c) : Met l yX7_back (.code yX7_back cX7_back 6 (some .int) :: gt) { frames := 2, cells := 0, slots := 0, locals := 43 } (va_Pc [.ref m_, .int ha, .int ce] (hPre D K b0 sa sz L f0)) (hQ D K b0 (fun v9 u9 => ∃ (r : Int32) (th : Int32) (f2 : Nat → va_E), v9 = some (.int r) ∧ u9 = (gof [(700, th)], Ψ, L, f2) ∧ TW K (gof [(700, th)]) Ψ L f2 ∧ rawk Ψ L f0 f2 ∧ ((r = 0 ∧ th = 1)))) 0 0 (fun q => b0 ≤ q) := by
  refine t_of (own := RX7) (by decide) rfl ?_ (Nat.le_of_ble_eq_true rfl)
  intro p e s m below meth c ls C w hsz hr hlk hnm hl
  have hx := C.1
  have hb := C.2.1
  have hl : lv_has ls 6 [(0, .ref m_), (1, .int ha), (2, .int ce)] := hl
  have hb_ha := ti_bd ha
  have hb_ce := ti_bd ce
  have hR : rawk Ψ L f0 f0 := rawk.rf
  refine lv_aload_n hx hb dX7_back_0 rfl (lv_at hl 0 rfl) ?_
  refine lv_iconst (v := 0) hx hb dX7_back_1 (by decide) ?_
  refine t_puti C w hT hm_m_ ht_m_ (by decide) rfl cin_7 tyX7 tyX7_ok nmX7 0 (by decide) rfl rfl rfl rfl rfl (gof_is rfl) gw_1156 dX7_back_2 (fun f H locs w hT hR1 => ?_)
  have hR := hR.tr hR1
  refine lv_aload_n hx hb dX7_back_5 rfl (lv_at hl 0 rfl) ?_
  refine lv_aload_n hx hb dX7_back_6 rfl (lv_at hl 0 rfl) ?_
  refine lv_iload_n hx hb dX7_back_7 rfl (lv_at hl 1 rfl) ?_
  refine t_callV (n := 1) C w hT hm_m_ ht_m_ (by decide) rfl rfl (c_X7_isHand l D K b0 sa _ L _ Ψ (hT.mono (gof_sub rfl)) m_ hm_m_ ht_m_ ha) gw_1574 gw_1571 gw_1573 gs_58 gw_8 ⟨by decide, by decide, by decide +kernel⟩ rfl rfl ⟨by decide, by decide⟩ rfl hl.1 rfl (Nat.le_of_ble_eq_true rfl) dX7_back_8 ⟨by decide, by decide⟩ (fun v u H locs hp w => ?_)
  obtain ⟨r1, rfl, rfl, hrr1⟩ := hp
  obtain rfl := hrr1
  refine lv_if_ne (tgt := 18) hx hb dX7_back_11 (by decide) (fun c0 => absurd c0 (by decide)) (fun _ => ?_)
  refine lv_iconst (v := 1) hx hb dX7_back_14 (by decide) ?_
  refine lv_goto (tgt := 19) hx hb dX7_back_15 (by decide) ?_
  refine lv_iconst (v := 1) hx hb dX7_back_19 (by decide) ?_
  refine t_callV (n := 2) C w hT hm_m_ ht_m_ (by decide) rfl rfl (c_X7_bad1 l D K b0 sa _ L _ Ψ hT m_ hm_m_ ht_m_ hu_7) gw_1347 gw_1344 gw_1346 gs_22 gw_8 ⟨by decide, by decide, by decide +kernel⟩ rfl rfl ⟨by decide, by decide⟩ rfl hl.1 rfl (Nat.le_of_ble_eq_true rfl) dX7_back_20 ⟨by decide, by decide⟩ (fun v u H locs hp w => ?_)
  obtain ⟨r2, f2, rfl, rfl, hT2, hR1, hrr2⟩ := hp
  have hR := hR.tr hR1
  clear hT
  have hT := hT2
  clear hT2
  generalize f2 = f at w hT hR
  obtain rfl := hrr2
  refine lv_if_ne (tgt := 46) hx hb dX7_back_23 (by decide) (fun _ => ?_) (fun c0 => absurd c0 (by decide))
  refine lv_iconst (v := 0) hx hb dX7_back_46 (by decide) ?_
  have n0 : (0 : Int32).toInt = 0 := by decide
  exact t_iret C hr hlk w ⟨_, 1, _, rfl, rfl, hT.mono (gof_sub rfl), hR, ⟨rfl, rfl⟩⟩ (by decide) (by decide) dX7_back_47
set_option maxHeartbeats 4000000 in
set_option maxRecDepth 100000 in
theorem c_X7_broken (l : Launch) (D : va_G) (K : Nat → ClassId) (b0 : Nat) (sa : Nat × Nat × Nat) (sz : Nat) (L : List Nat) (f0 : Nat → va_E) (Ψ : Nat → Nat) (hT : TW K (gof gM0) Ψ L f0) (m_ : Nat) (hm_m_ : m_ ∈ L) (ht_m_ : Ψ m_ = 7) (la : Int32) (hu_7 : ∀ b c : Nat, b ∈ L → c ∈ L → Ψ b = 7 → Ψ c = 7 → b = c) : Met l yX7_broken (.code yX7_broken cX7_broken 5 (some .int) :: gt) { frames := 1, cells := 0, slots := 0, locals := 22 } (va_Pc [.ref m_, .int la] (hPre D K b0 sa sz L f0)) (hQ D K b0 (fun v9 u9 => ∃ (r : Int32) (th : Int32) (f2 : Nat → va_E), v9 = some (.int r) ∧ u9 = (gof [(700, th)], Ψ, L, f2) ∧ TW K (gof [(700, th)]) Ψ L f2 ∧ rawk Ψ L f0 f2 ∧ ((r = 0 ∧ th = 1)))) 0 0 (fun q => b0 ≤ q) := by
  refine t_of (own := RX7) (by decide) rfl ?_ (Nat.le_of_ble_eq_true rfl)
  intro p e s m below meth c ls C w hsz hr hlk hnm hl
  have hx := C.1
  have hb := C.2.1
  have hl : lv_has ls 5 [(0, .ref m_), (1, .int la)] := hl
  have hb_la := ti_bd la
  have hR : rawk Ψ L f0 f0 := rawk.rf
  refine lv_aload_n hx hb dX7_broken_0 rfl (lv_at hl 0 rfl) ?_
  refine lv_iconst (v := 0) hx hb dX7_broken_1 (by decide) ?_
  refine t_puti C w hT hm_m_ ht_m_ (by decide) rfl cin_7 tyX7 tyX7_ok nmX7 0 (by decide) rfl rfl rfl rfl rfl (gof_is rfl) gw_1156 dX7_broken_2 (fun f H locs w hT hR1 => ?_)
  have hR := hR.tr hR1
  refine lv_aload_n hx hb dX7_broken_5 rfl (lv_at hl 0 rfl) ?_
  refine lv_iload_n hx hb dX7_broken_6 rfl (lv_at hl 1 rfl) ?_
  refine lv_iconst (v := 0) hx hb dX7_broken_7 (by decide) ?_
  refine lv_aload_n hx hb dX7_broken_8 rfl (lv_at hl 0 rfl) ?_
  refine t_geti C w hT hm_m_ ht_m_ (by decide) rfl cin_7 14 (by decide) rfl rfl gw_1170 dX7_broken_9 (fun x1 hg => ?_)
  obtain rfl : x1 = 0 := gof_at rfl hg
  refine lv_iconst (v := 1) hx hb dX7_broken_12 (by decide) ?_
  refine lv_isub hx hb dX7_broken_13 ?_
  refine lv_topi (fun y2 ey2 => ?_)
  obtain rfl : y2 = (-1) := ey2.trans (by decide)
  have n0 : (0 : Int32).toInt = 0 := by decide
  have nm1 : ((-1) : Int32).toInt = -1 := by decide
  refine t_callS (n := 3) C w (c_X7_in l D K b0 sa _ L _ Ψ (gof gM0) hT la 0 (-1)) gw_1343 gw_1341 gw_1342 gw_8 ⟨by decide, by decide, by decide +kernel⟩ rfl rfl ⟨by decide, by decide⟩ rfl hl.1 rfl (Nat.le_of_ble_eq_true rfl) dX7_broken_14 ⟨by decide, by decide⟩ (fun v u H locs hp w => ?_)
  obtain ⟨r3, rfl, rfl, hrr3⟩ := hp
  rcases hrr3 with ⟨rfl, hf0_r3, hf1_r3⟩ | ⟨rfl, hf0_r3⟩
  · exfalso; omega
  ·
    refine lv_if_ne (tgt := 24) hx hb dX7_broken_17 (by decide) (fun c0 => absurd c0 (by decide)) (fun _ => ?_)
    refine lv_iconst (v := 1) hx hb dX7_broken_20 (by decide) ?_
    refine lv_goto (tgt := 25) hx hb dX7_broken_21 (by decide) ?_
    refine lv_iconst (v := 1) hx hb dX7_broken_25 (by decide) ?_
    refine t_callV (n := 2) C w hT hm_m_ ht_m_ (by decide) rfl rfl (c_X7_bad1 l D K b0 sa _ L _ Ψ hT m_ hm_m_ ht_m_ hu_7) gw_1347 gw_1344 gw_1346 gs_22 gw_8 ⟨by decide, by decide, by decide +kernel⟩ rfl rfl ⟨by decide, by decide⟩ rfl hl.1 rfl (Nat.le_of_ble_eq_true rfl) dX7_broken_26 ⟨by decide, by decide⟩ (fun v u H locs hp w => ?_)
    obtain ⟨r4, f2, rfl, rfl, hT2, hR1, hrr4⟩ := hp
    have hR := hR.tr hR1
    clear hT
    have hT := hT2
    clear hT2
    generalize f2 = f at w hT hR
    obtain rfl := hrr4
    refine lv_if_eq (tgt := 34) hx hb dX7_broken_29 (by decide) (fun c0 => absurd c0 (by decide)) (fun _ => ?_)
    refine lv_iconst (v := 0) hx hb dX7_broken_32 (by decide) ?_
    exact t_iret C hr hlk w ⟨_, 1, _, rfl, rfl, hT.mono (gof_sub rfl), hR, ⟨rfl, rfl⟩⟩ (by decide) (by decide) dX7_broken_33
set_option maxHeartbeats 4000000 in
set_option maxRecDepth 100000 in
theorem c_X7_cut (l : Launch) (D : va_G) (K : Nat → ClassId) (b0 : Nat) (sa : Nat × Nat × Nat) (sz : Nat) (L : List Nat) (f0 : Nat → va_E) (Ψ : Nat → Nat) (hT : TW K (gof gM0) Ψ L f0) (m_ : Nat) (hm_m_ : m_ ∈ L) (ht_m_ : Ψ m_ = 7) (ha : Int32) (ai : Int32) (sg : Int32) (ru : Int32) (ow : Int32) (hu_7 : ∀ b c : Nat, b ∈ L → c ∈ L → Ψ b = 7 → Ψ c = 7 → b = c) : Met l yX7_cut (.code yX7_cut cX7_cut 9 (some .int) :: gt) { frames := 2, cells := 0, slots := 0, locals := 43 } (va_Pc [.ref m_, .int ha, .int ai, .int sg, .int ru, .int ow] (hPre D K b0 sa sz L f0)) (hQ D K b0 (fun v9 u9 => ∃ (r : Int32) (th : Int32) (f2 : Nat → va_E), v9 = some (.int r) ∧ u9 = (gof [(700, th)], Ψ, L, f2) ∧ TW K (gof [(700, th)]) Ψ L f2 ∧ rawk Ψ L f0 f2 ∧ ((r = 0 ∧ th = 1)))) 0 0 (fun q => b0 ≤ q) := by
  refine t_of (own := RX7) (by decide) rfl ?_ (Nat.le_of_ble_eq_true rfl)
  intro p e s m below meth c ls C w hsz hr hlk hnm hl
  have hx := C.1
  have hb := C.2.1
  have hl : lv_has ls 9 [(0, .ref m_), (1, .int ha), (2, .int ai), (3, .int sg), (4, .int ru), (5, .int ow)] := hl
  have hb_ha := ti_bd ha
  have hb_ai := ti_bd ai
  have hb_sg := ti_bd sg
  have hb_ru := ti_bd ru
  have hb_ow := ti_bd ow
  have hR : rawk Ψ L f0 f0 := rawk.rf
  refine lv_aload_n hx hb dX7_cut_0 rfl (lv_at hl 0 rfl) ?_
  refine lv_iconst (v := 0) hx hb dX7_cut_1 (by decide) ?_
  refine t_puti C w hT hm_m_ ht_m_ (by decide) rfl cin_7 tyX7 tyX7_ok nmX7 0 (by decide) rfl rfl rfl rfl rfl (gof_is rfl) gw_1156 dX7_cut_2 (fun f H locs w hT hR1 => ?_)
  have hR := hR.tr hR1
  refine lv_aload_n hx hb dX7_cut_5 rfl (lv_at hl 0 rfl) ?_
  refine lv_aload_n hx hb dX7_cut_6 rfl (lv_at hl 0 rfl) ?_
  refine lv_iload_n hx hb dX7_cut_7 rfl (lv_at hl 1 rfl) ?_
  refine t_callV (n := 1) C w hT hm_m_ ht_m_ (by decide) rfl rfl (c_X7_isHand l D K b0 sa _ L _ Ψ (hT.mono (gof_sub rfl)) m_ hm_m_ ht_m_ ha) gw_1574 gw_1571 gw_1573 gs_58 gw_8 ⟨by decide, by decide, by decide +kernel⟩ rfl rfl ⟨by decide, by decide⟩ rfl hl.1 rfl (Nat.le_of_ble_eq_true rfl) dX7_cut_8 ⟨by decide, by decide⟩ (fun v u H locs hp w => ?_)
  obtain ⟨r1, rfl, rfl, hrr1⟩ := hp
  obtain rfl := hrr1
  refine lv_if_ne (tgt := 18) hx hb dX7_cut_11 (by decide) (fun c0 => absurd c0 (by decide)) (fun _ => ?_)
  refine lv_iconst (v := 1) hx hb dX7_cut_14 (by decide) ?_
  refine lv_goto (tgt := 19) hx hb dX7_cut_15 (by decide) ?_
  refine lv_iconst (v := 1) hx hb dX7_cut_19 (by decide) ?_
  refine t_callV (n := 2) C w hT hm_m_ ht_m_ (by decide) rfl rfl (c_X7_bad1 l D K b0 sa _ L _ Ψ hT m_ hm_m_ ht_m_ hu_7) gw_1347 gw_1344 gw_1346 gs_22 gw_8 ⟨by decide, by decide, by decide +kernel⟩ rfl rfl ⟨by decide, by decide⟩ rfl hl.1 rfl (Nat.le_of_ble_eq_true rfl) dX7_cut_20 ⟨by decide, by decide⟩ (fun v u H locs hp w => ?_)
  obtain ⟨r2, f2, rfl, rfl, hT2, hR1, hrr2⟩ := hp
  have hR := hR.tr hR1
  clear hT
  have hT := hT2
  clear hT2
  generalize f2 = f at w hT hR
  obtain rfl := hrr2
  refine lv_if_ne (tgt := 82) hx hb dX7_cut_23 (by decide) (fun _ => ?_) (fun c0 => absurd c0 (by decide))
  refine lv_iconst (v := 0) hx hb dX7_cut_82 (by decide) ?_
  have n0 : (0 : Int32).toInt = 0 := by decide
  exact t_iret C hr hlk w ⟨_, 1, _, rfl, rfl, hT.mono (gof_sub rfl), hR, ⟨rfl, rfl⟩⟩ (by decide) (by decide) dX7_cut_83
set_option maxHeartbeats 4000000 in
set_option maxRecDepth 100000 in
theorem c_X7_strange (l : Launch) (D : va_G) (K : Nat → ClassId) (b0 : Nat) (sa : Nat × Nat × Nat) (sz : Nat) (L : List Nat) (f0 : Nat → va_E) (Ψ : Nat → Nat) (hT : TW K (gof gM0) Ψ L f0) (m_ : Nat) (hm_m_ : m_ ∈ L) (ht_m_ : Ψ m_ = 7) (pr : Int32) (hu_7 : ∀ b c : Nat, b ∈ L → c ∈ L → Ψ b = 7 → Ψ c = 7 → b = c) : Met l yX7_strange (.code yX7_strange cX7_strange 2 (some .int) :: gt) { frames := 1, cells := 0, slots := 0, locals := 22 } (va_Pc [.ref m_, .int pr] (hPre D K b0 sa sz L f0)) (hQ D K b0 (fun v9 u9 => ∃ (r : Int32) (th : Int32) (f2 : Nat → va_E), v9 = some (.int r) ∧ u9 = (gof [(700, th)], Ψ, L, f2) ∧ TW K (gof [(700, th)]) Ψ L f2 ∧ rawk Ψ L f0 f2 ∧ ((r = 0 ∧ th = 1)))) 0 0 (fun q => b0 ≤ q) := by
  refine t_of (own := RX7) (by decide) rfl ?_ (Nat.le_of_ble_eq_true rfl)
  intro p e s m below meth c ls C w hsz hr hlk hnm hl
  have hx := C.1
  have hb := C.2.1
  have hl : lv_has ls 2 [(0, .ref m_), (1, .int pr)] := hl
  have hb_pr := ti_bd pr
  have hR : rawk Ψ L f0 f0 := rawk.rf
  refine lv_aload_n hx hb dX7_strange_0 rfl (lv_at hl 0 rfl) ?_
  refine lv_iconst (v := 0) hx hb dX7_strange_1 (by decide) ?_
  refine t_puti C w hT hm_m_ ht_m_ (by decide) rfl cin_7 tyX7 tyX7_ok nmX7 0 (by decide) rfl rfl rfl rfl rfl (gof_is rfl) gw_1156 dX7_strange_2 (fun f H locs w hT hR1 => ?_)
  have hR := hR.tr hR1
  refine lv_aload_n hx hb dX7_strange_5 rfl (lv_at hl 0 rfl) ?_
  refine lv_iload_n hx hb dX7_strange_6 rfl (lv_at hl 1 rfl) ?_
  refine lv_iconst (v := 0) hx hb dX7_strange_7 (by decide) ?_
  refine lv_aload_n hx hb dX7_strange_8 rfl (lv_at hl 0 rfl) ?_
  refine t_geti C w hT hm_m_ ht_m_ (by decide) rfl cin_7 13 (by decide) rfl rfl gw_1169 dX7_strange_9 (fun x1 hg => ?_)
  obtain rfl : x1 = 0 := gof_at rfl hg
  refine lv_iconst (v := 1) hx hb dX7_strange_12 (by decide) ?_
  refine lv_isub hx hb dX7_strange_13 ?_
  refine lv_topi (fun y2 ey2 => ?_)
  obtain rfl : y2 = (-1) := ey2.trans (by decide)
  have n0 : (0 : Int32).toInt = 0 := by decide
  have nm1 : ((-1) : Int32).toInt = -1 := by decide
  refine t_callS (n := 3) C w (c_X7_in l D K b0 sa _ L _ Ψ (gof gM0) hT pr 0 (-1)) gw_1343 gw_1341 gw_1342 gw_8 ⟨by decide, by decide, by decide +kernel⟩ rfl rfl ⟨by decide, by decide⟩ rfl hl.1 rfl (Nat.le_of_ble_eq_true rfl) dX7_strange_14 ⟨by decide, by decide⟩ (fun v u H locs hp w => ?_)
  obtain ⟨r3, rfl, rfl, hrr3⟩ := hp
  rcases hrr3 with ⟨rfl, hf0_r3, hf1_r3⟩ | ⟨rfl, hf0_r3⟩
  · exfalso; omega
  ·
    refine lv_if_ne (tgt := 24) hx hb dX7_strange_17 (by decide) (fun c0 => absurd c0 (by decide)) (fun _ => ?_)
    refine lv_iconst (v := 1) hx hb dX7_strange_20 (by decide) ?_
    refine lv_goto (tgt := 25) hx hb dX7_strange_21 (by decide) ?_
    refine lv_iconst (v := 1) hx hb dX7_strange_25 (by decide) ?_
    refine t_callV (n := 2) C w hT hm_m_ ht_m_ (by decide) rfl rfl (c_X7_bad1 l D K b0 sa _ L _ Ψ hT m_ hm_m_ ht_m_ hu_7) gw_1347 gw_1344 gw_1346 gs_22 gw_8 ⟨by decide, by decide, by decide +kernel⟩ rfl rfl ⟨by decide, by decide⟩ rfl hl.1 rfl (Nat.le_of_ble_eq_true rfl) dX7_strange_26 ⟨by decide, by decide⟩ (fun v u H locs hp w => ?_)
    obtain ⟨r4, f2, rfl, rfl, hT2, hR1, hrr4⟩ := hp
    have hR := hR.tr hR1
    clear hT
    have hT := hT2
    clear hT2
    generalize f2 = f at w hT hR
    obtain rfl := hrr4
    refine lv_if_eq (tgt := 34) hx hb dX7_strange_29 (by decide) (fun c0 => absurd c0 (by decide)) (fun _ => ?_)
    refine lv_iconst (v := 0) hx hb dX7_strange_32 (by decide) ?_
    exact t_iret C hr hlk w ⟨_, 1, _, rfl, rfl, hT.mono (gof_sub rfl), hR, ⟨rfl, rfl⟩⟩ (by decide) (by decide) dX7_strange_33
set_option maxHeartbeats 4000000 in
set_option maxRecDepth 100000 in
theorem c_X7_seed (l : Launch) (D : va_G) (K : Nat → ClassId) (b0 : Nat) (sa : Nat × Nat × Nat) (sz : Nat) (L : List Nat) (f0 : Nat → va_E) (Ψ : Nat → Nat) (hT : TW K (gof gM0) Ψ L f0) (m_ : Nat) (hm_m_ : m_ ∈ L) (ht_m_ : Ψ m_ = 7) (va : Int32) (hu_7 : ∀ b c : Nat, b ∈ L → c ∈ L → Ψ b = 7 → Ψ c = 7 → b = c) : Met l yX7_seed (.code yX7_seed cX7_seed 3 (some .int) :: gt) { frames := 0, cells := 0, slots := 0, locals := 0 } (va_Pc [.ref m_, .int va] (hPre D K b0 sa sz L f0)) (hQ D K b0 (fun v9 u9 => ∃ (r : Int32) (th : Int32) (f2 : Nat → va_E), v9 = some (.int r) ∧ u9 = (gof [(700, th)], Ψ, L, f2) ∧ TW K (gof [(700, th)]) Ψ L f2 ∧ rawk Ψ L f0 f2 ∧ ((r = 1 ∧ th = 0)))) 0 0 (fun q => b0 ≤ q) := by
  refine t_of (own := RX7) (by decide) rfl ?_ (Nat.le_of_ble_eq_true rfl)
  intro p e s m below meth c ls C w hsz hr hlk hnm hl
  have hx := C.1
  have hb := C.2.1
  have hl : lv_has ls 3 [(0, .ref m_), (1, .int va)] := hl
  have hb_va := ti_bd va
  have hR : rawk Ψ L f0 f0 := rawk.rf
  refine lv_aload_n hx hb dX7_seed_0 rfl (lv_at hl 0 rfl) ?_
  refine lv_iconst (v := 0) hx hb dX7_seed_1 (by decide) ?_
  refine t_puti C w hT hm_m_ ht_m_ (by decide) rfl cin_7 tyX7 tyX7_ok nmX7 0 (by decide) rfl rfl rfl rfl rfl (gof_is rfl) gw_1156 dX7_seed_2 (fun f H locs w hT hR1 => ?_)
  have hR := hR.tr hR1
  refine lv_aload_n hx hb dX7_seed_5 rfl (lv_at hl 0 rfl) ?_
  refine t_geti C w hT hm_m_ ht_m_ (by decide) rfl cin_7 34 (by decide) rfl rfl gw_1190 dX7_seed_6 (fun x1 hg => ?_)
  obtain rfl : x1 = 1 := gof_at rfl hg
  refine lv_istore_n (lv' := [(2, .int 1), (0, .ref m_), (1, .int va)]) hx hb dX7_seed_9 rfl hl (by decide) rfl (fun ls hl => ?_)
  refine lv_aload_n hx hb dX7_seed_10 rfl (lv_at hl 1 rfl) ?_
  refine lv_iload_n hx hb dX7_seed_11 rfl (lv_at hl 2 rfl) ?_
  have hT := hT.mono (gof_sub (l2 := (gdrop 734 gM0)) rfl)
  refine t_puti C w hT hm_m_ ht_m_ (by decide) rfl cin_7 tyX7 tyX7_ok nmX7 34 (by decide) rfl rfl rfl rfl rfl (gof_no rfl) gw_1190 dX7_seed_12 (fun f H locs w hT hR1 => ?_)
  have hR := hR.tr hR1
  refine lv_iload_n hx hb dX7_seed_15 rfl (lv_at hl 0 rfl) ?_
  have n1 : (1 : Int32).toInt = 1 := by decide
  exact t_iret C hr hlk w ⟨_, 0, _, rfl, rfl, hT.mono (gof_sub rfl), hR, ⟨rfl, rfl⟩⟩ (by decide) (by decide) dX7_seed_16
set_option maxHeartbeats 4000000 in
set_option maxRecDepth 100000 in
theorem c_X7_hole (l : Launch) (D : va_G) (K : Nat → ClassId) (b0 : Nat) (sa : Nat × Nat × Nat) (sz : Nat) (L : List Nat) (f0 : Nat → va_E) (Ψ : Nat → Nat) (hT : TW K (gof gM0) Ψ L f0) (m_ : Nat) (hm_m_ : m_ ∈ L) (ht_m_ : Ψ m_ = 7) (ce : Int32) (hu_7 : ∀ b c : Nat, b ∈ L → c ∈ L → Ψ b = 7 → Ψ c = 7 → b = c) : Met l yX7_hole (.code yX7_hole cX7_hole 3 (some .int) :: gt) { frames := 2, cells := 0, slots := 0, locals := 42 } (va_Pc [.ref m_, .int ce] (hPre D K b0 sa sz L f0)) (hQ D K b0 (fun v9 u9 => ∃ (r : Int32) (th : Int32) (f2 : Nat → va_E), v9 = some (.int r) ∧ u9 = (gof [(700, th)], Ψ, L, f2) ∧ TW K (gof [(700, th)]) Ψ L f2 ∧ rawk Ψ L f0 f2 ∧ ((r = 0 ∧ th = 1 ∧ (¬ (0 ≤ ce.toInt ∧ ce.toInt ≤ 63))) ∨ (r = 63 ∧ th = 0 ∧ (0 ≤ ce.toInt) ∧ (ce.toInt ≤ 63))))) 0 0 (fun q => b0 ≤ q) := by
  refine t_of (own := RX7) (by decide) rfl ?_ (Nat.le_of_ble_eq_true rfl)
  intro p e s m below meth c ls C w hsz hr hlk hnm hl
  have hx := C.1
  have hb := C.2.1
  have hl : lv_has ls 3 [(0, .ref m_), (1, .int ce)] := hl
  have hb_ce := ti_bd ce
  have hR : rawk Ψ L f0 f0 := rawk.rf
  refine lv_aload_n hx hb dX7_hole_0 rfl (lv_at hl 0 rfl) ?_
  refine lv_iconst (v := 0) hx hb dX7_hole_1 (by decide) ?_
  refine t_puti C w hT hm_m_ ht_m_ (by decide) rfl cin_7 tyX7 tyX7_ok nmX7 0 (by decide) rfl rfl rfl rfl rfl (gof_is rfl) gw_1156 dX7_hole_2 (fun f H locs w hT hR1 => ?_)
  have hR := hR.tr hR1
  refine lv_aload_n hx hb dX7_hole_5 rfl (lv_at hl 0 rfl) ?_
  refine lv_iload_n hx hb dX7_hole_6 rfl (lv_at hl 1 rfl) ?_
  refine t_callS (n := 1) C w (c_X7_isCell l D K b0 sa _ L _ Ψ (gof gM0) hT ce) gw_1467 gw_1465 gw_1466 gw_8 ⟨by decide, by decide, by decide +kernel⟩ rfl rfl ⟨by decide, by decide⟩ rfl hl.1 rfl (Nat.le_of_ble_eq_true rfl) dX7_hole_7 ⟨by decide, by decide⟩ (fun v u H locs hp w => ?_)
  obtain ⟨r1, rfl, rfl, hrr1⟩ := hp
  rcases hrr1 with ⟨rfl, hf0_r1, hf1_r1⟩ | ⟨rfl, hf0_r1⟩
  ·
    refine lv_if_ne (tgt := 17) hx hb dX7_hole_10 (by decide) (fun _ => ?_) (fun c0 => absurd c0 (by decide))
    refine lv_iconst (v := 0) hx hb dX7_hole_17 (by decide) ?_
    refine lv_iconst (v := 1) hx hb dX7_hole_18 (by decide) ?_
    have n1 : (1 : Int32).toInt = 1 := by decide
    refine t_callV (n := 2) C w hT hm_m_ ht_m_ (by decide) rfl rfl (c_X7_bad0 l D K b0 sa _ L _ Ψ (hT.mono (gof_sub rfl)) m_ hm_m_ ht_m_ 1) gw_1347 gw_1344 gw_1346 gs_22 gw_8 ⟨by decide, by decide, by decide +kernel⟩ rfl rfl ⟨by decide, by decide⟩ rfl hl.1 rfl (Nat.le_of_ble_eq_true rfl) dX7_hole_19 ⟨by decide, by decide⟩ (fun v u H locs hp w => ?_)
    obtain ⟨r2, rfl, rfl, hrr2⟩ := hp
    obtain rfl := hrr2
    refine lv_if_ne (tgt := 47) hx hb dX7_hole_22 (by decide) (fun c0 => absurd c0 (by decide)) (fun _ => ?_)
    refine lv_aload_n hx hb dX7_hole_25 rfl (lv_at hl 0 rfl) ?_
    refine lv_aload_n hx hb dX7_hole_26 rfl (lv_at hl 0 rfl) ?_
    refine t_getr C w hT hm_m_ ht_m_ (by decide) rfl cin_7 29 (by decide) rfl gw_1185 dX7_hole_27 (fun q3 hm_q3 ht_q3 => ?_)
    refine lv_iload_n hx hb dX7_hole_30 rfl (lv_at hl 1 rfl) ?_
    refine t_iald C w hT hm_q3 ht_q3 (by decide) (by decide) rfl (vp_in_iff.mpr ⟨by omega, (show _ < ((64 : Nat) : Int) by omega)⟩) dX7_hole_31 (fun x4 hg => ?_)
    obtain rfl : x4 = 0 := gof_at rfl hg
    refine lv_if_le (tgt := 39) hx hb dX7_hole_32 (by decide) (fun _ => ?_) (fun c0 => absurd c0 (by decide))
    refine lv_iconst (v := 0) hx hb dX7_hole_39 (by decide) ?_
    refine lv_iconst (v := 2) hx hb dX7_hole_40 (by decide) ?_
    have n2 : (2 : Int32).toInt = 2 := by decide
    refine t_callV (n := 2) C w hT hm_m_ ht_m_ (by decide) rfl rfl (c_X7_bad0 l D K b0 sa _ L _ Ψ (hT.mono (gof_sub rfl)) m_ hm_m_ ht_m_ 2) gw_1347 gw_1344 gw_1346 gs_22 gw_8 ⟨by decide, by decide, by decide +kernel⟩ rfl rfl ⟨by decide, by decide⟩ rfl hl.1 rfl (Nat.le_of_ble_eq_true rfl) dX7_hole_41 ⟨by decide, by decide⟩ (fun v u H locs hp w => ?_)
    obtain ⟨r5, rfl, rfl, hrr5⟩ := hp
    obtain rfl := hrr5
    refine lv_if_eq (tgt := 49) hx hb dX7_hole_44 (by decide) (fun _ => ?_) (fun c0 => absurd c0 (by decide))
    refine lv_aload_n hx hb dX7_hole_49 rfl (lv_at hl 0 rfl) ?_
    refine t_geti C w hT hm_m_ ht_m_ (by decide) rfl cin_7 30 (by decide) rfl rfl gw_1186 dX7_hole_50 (fun x6 hg => ?_)
    obtain rfl : x6 = 63 := gof_at rfl hg
    refine lv_istore_n (lv' := [(2, .int 63), (0, .ref m_), (1, .int ce)]) hx hb dX7_hole_53 rfl hl (by decide) rfl (fun ls hl => ?_)
    refine lv_aload_n hx hb dX7_hole_54 rfl (lv_at hl 1 rfl) ?_
    refine lv_iload_n hx hb dX7_hole_55 rfl (lv_at hl 2 rfl) ?_
    have hT := hT.mono (gof_sub (l2 := (gdrop 730 gM0)) rfl)
    refine t_puti C w hT hm_m_ ht_m_ (by decide) rfl cin_7 tyX7 tyX7_ok nmX7 30 (by decide) rfl rfl rfl rfl rfl (gof_no rfl) gw_1186 dX7_hole_56 (fun f H locs w hT hR1 => ?_)
    have hR := hR.tr hR1
    refine lv_iload_n hx hb dX7_hole_59 rfl (lv_at hl 0 rfl) ?_
    have n63 : (63 : Int32).toInt = 63 := by decide
    exact t_iret C hr hlk w ⟨_, 0, _, rfl, rfl, hT.mono (gof_sub rfl), hR, Or.inr (⟨rfl, rfl, (by omega), (by omega)⟩)⟩ (by decide) (by decide) dX7_hole_60
  ·
    refine lv_if_ne (tgt := 17) hx hb dX7_hole_10 (by decide) (fun c0 => absurd c0 (by decide)) (fun _ => ?_)
    refine lv_iconst (v := 1) hx hb dX7_hole_13 (by decide) ?_
    refine lv_goto (tgt := 18) hx hb dX7_hole_14 (by decide) ?_
    refine lv_iconst (v := 1) hx hb dX7_hole_18 (by decide) ?_
    refine t_callV (n := 2) C w hT hm_m_ ht_m_ (by decide) rfl rfl (c_X7_bad1 l D K b0 sa _ L _ Ψ hT m_ hm_m_ ht_m_ hu_7) gw_1347 gw_1344 gw_1346 gs_22 gw_8 ⟨by decide, by decide, by decide +kernel⟩ rfl rfl ⟨by decide, by decide⟩ rfl hl.1 rfl (Nat.le_of_ble_eq_true rfl) dX7_hole_19 ⟨by decide, by decide⟩ (fun v u H locs hp w => ?_)
    obtain ⟨r7, f2, rfl, rfl, hT2, hR1, hrr7⟩ := hp
    have hR := hR.tr hR1
    clear hT
    have hT := hT2
    clear hT2
    generalize f2 = f at w hT hR
    obtain rfl := hrr7
    refine lv_if_ne (tgt := 47) hx hb dX7_hole_22 (by decide) (fun _ => ?_) (fun c0 => absurd c0 (by decide))
    refine lv_iconst (v := 0) hx hb dX7_hole_47 (by decide) ?_
    have n0 : (0 : Int32).toInt = 0 := by decide
    exact t_iret C hr hlk w ⟨_, 1, _, rfl, rfl, hT.mono (gof_sub rfl), hR, Or.inl ⟨rfl, rfl, (by omega)⟩⟩ (by decide) (by decide) dX7_hole_48
set_option maxHeartbeats 4000000 in
set_option maxRecDepth 100000 in
theorem c_X7_set (l : Launch) (D : va_G) (K : Nat → ClassId) (b0 : Nat) (sa : Nat × Nat × Nat) (sz : Nat) (L : List Nat) (f0 : Nat → va_E) (Ψ : Nat → Nat) (hT : TW K (gof gM0) Ψ L f0) (m_ : Nat) (hm_m_ : m_ ∈ L) (ht_m_ : Ψ m_ = 7) (wh : Int32) (va : Int32) (hu_7 : ∀ b c : Nat, b ∈ L → c ∈ L → Ψ b = 7 → Ψ c = 7 → b = c) : Met l yX7_set (.code yX7_set cX7_set 4 (some .int) :: gt) { frames := 1, cells := 0, slots := 0, locals := 22 } (va_Pc [.ref m_, .int wh, .int va] (hPre D K b0 sa sz L f0)) (hQ D K b0 (fun v9 u9 => ∃ (r : Int32) (th : Int32) (f2 : Nat → va_E), v9 = some (.int r) ∧ u9 = (gof [(700, th)], Ψ, L, f2) ∧ TW K (gof [(700, th)]) Ψ L f2 ∧ rawk Ψ L f0 f2 ∧ ((r = 0 ∧ th = 1 ∧ (¬ ((wh.toInt = 0 ∧ 0 ≤ va.toInt ∧ va.toInt ≤ 14) ∨ (wh.toInt = 1 ∧ 0 ≤ va.toInt ∧ va.toInt ≤ 99) ∨ (wh.toInt = 2 ∧ 0 ≤ va.toInt ∧ va.toInt ≤ 23)))) ∨ (r = 14 ∧ th = 0 ∧ (wh.toInt = 0) ∧ (0 ≤ va.toInt ∧ va.toInt ≤ 14)) ∨ (r = 1 ∧ th = 0 ∧ (wh.toInt = 1) ∧ (0 ≤ va.toInt ∧ va.toInt ≤ 99)) ∨ (r = 0 ∧ th = 0 ∧ (wh.toInt = 2) ∧ (0 ≤ va.toInt ∧ va.toInt ≤ 23))))) 0 0 (fun q => b0 ≤ q) := by
  refine t_of (own := RX7) (by decide) rfl ?_ (Nat.le_of_ble_eq_true rfl)
  intro p e s m below meth c ls C w hsz hr hlk hnm hl
  have hx := C.1
  have hb := C.2.1
  have hl : lv_has ls 4 [(0, .ref m_), (1, .int wh), (2, .int va)] := hl
  have hb_wh := ti_bd wh
  have hb_va := ti_bd va
  have hR : rawk Ψ L f0 f0 := rawk.rf
  refine lv_aload_n hx hb dX7_set_0 rfl (lv_at hl 0 rfl) ?_
  refine lv_iconst (v := 0) hx hb dX7_set_1 (by decide) ?_
  refine t_puti C w hT hm_m_ ht_m_ (by decide) rfl cin_7 tyX7 tyX7_ok nmX7 0 (by decide) rfl rfl rfl rfl rfl (gof_is rfl) gw_1156 dX7_set_2 (fun f H locs w hT hR1 => ?_)
  have hR := hR.tr hR1
  refine lv_aload_n hx hb dX7_set_5 rfl (lv_at hl 0 rfl) ?_
  refine lv_iload_n hx hb dX7_set_6 rfl (lv_at hl 1 rfl) ?_
  refine lv_iconst (v := 0) hx hb dX7_set_7 (by decide) ?_
  refine lv_iconst (v := 2) hx hb dX7_set_8 (by decide) ?_
  have n0 : (0 : Int32).toInt = 0 := by decide
  have n2 : (2 : Int32).toInt = 2 := by decide
  refine t_callS (n := 3) C w (c_X7_in l D K b0 sa _ L _ Ψ (gof gM0) hT wh 0 2) gw_1343 gw_1341 gw_1342 gw_8 ⟨by decide, by decide, by decide +kernel⟩ rfl rfl ⟨by decide, by decide⟩ rfl hl.1 rfl (Nat.le_of_ble_eq_true rfl) dX7_set_9 ⟨by decide, by decide⟩ (fun v u H locs hp w => ?_)
  obtain ⟨r1, rfl, rfl, hrr1⟩ := hp
  rcases hrr1 with ⟨rfl, hf0_r1, hf1_r1⟩ | ⟨rfl, hf0_r1⟩
  ·
    refine lv_if_eq (tgt := 44) hx hb dX7_set_12 (by decide) (fun c0 => absurd c0 (by decide)) (fun _ => ?_)
    refine lv_iload_n hx hb dX7_set_15 rfl (lv_at hl 2 rfl) ?_
    refine lv_iconst (v := 0) hx hb dX7_set_16 (by decide) ?_
    refine lv_iload_n hx hb dX7_set_17 rfl (lv_at hl 1 rfl) ?_
    refine lv_if_ne (tgt := 26) hx hb dX7_set_18 (by decide) (fun c2 => ?_) (fun c2 => ?_)
    · have c2 := ne_toInt c2
      refine lv_iload_n hx hb dX7_set_26 rfl (lv_at hl 1 rfl) ?_
      refine lv_iconst (v := 1) hx hb dX7_set_27 (by decide) ?_
      have n1 : (1 : Int32).toInt = 1 := by decide
      refine lv_icmp_ne (tgt := 36) hx hb dX7_set_28 (by decide) (fun c3 => ?_) (fun c3 => ?_)
      · have c3 := ne_toInt c3
        refine lv_bipush (v := 23) hx hb dX7_set_36 (by decide) ?_
        have n23 : (23 : Int32).toInt = 23 := by decide
        refine t_callS (n := 3) C w (c_X7_in l D K b0 sa _ L _ Ψ (gof gM0) hT va 0 23) gw_1343 gw_1341 gw_1342 gw_8 ⟨by decide, by decide, by decide +kernel⟩ rfl rfl ⟨by decide, by decide⟩ rfl hl.1 rfl (Nat.le_of_ble_eq_true rfl) dX7_set_38 ⟨by decide, by decide⟩ (fun v u H locs hp w => ?_)
        obtain ⟨r4, rfl, rfl, hrr4⟩ := hp
        rcases hrr4 with ⟨rfl, hf0_r4, hf1_r4⟩ | ⟨rfl, hf0_r4⟩
        ·
          refine lv_if_ne (tgt := 48) hx hb dX7_set_41 (by decide) (fun _ => ?_) (fun c0 => absurd c0 (by decide))
          refine lv_iconst (v := 0) hx hb dX7_set_48 (by decide) ?_
          refine lv_iconst (v := 1) hx hb dX7_set_49 (by decide) ?_
          refine t_callV (n := 2) C w hT hm_m_ ht_m_ (by decide) rfl rfl (c_X7_bad0 l D K b0 sa _ L _ Ψ (hT.mono (gof_sub rfl)) m_ hm_m_ ht_m_ 1) gw_1347 gw_1344 gw_1346 gs_22 gw_8 ⟨by decide, by decide, by decide +kernel⟩ rfl rfl ⟨by decide, by decide⟩ rfl hl.1 rfl (Nat.le_of_ble_eq_true rfl) dX7_set_50 ⟨by decide, by decide⟩ (fun v u H locs hp w => ?_)
          obtain ⟨r5, rfl, rfl, hrr5⟩ := hp
          obtain rfl := hrr5
          refine lv_if_eq (tgt := 58) hx hb dX7_set_53 (by decide) (fun _ => ?_) (fun c0 => absurd c0 (by decide))
          refine lv_iload_n hx hb dX7_set_58 rfl (lv_at hl 1 rfl) ?_
          refine lv_if_ne (tgt := 69) hx hb dX7_set_59 (by decide) (fun c6 => ?_) (fun c6 => ?_)
          · have c6 := ne_toInt c6
            refine lv_iload_n hx hb dX7_set_69 rfl (lv_at hl 1 rfl) ?_
            refine lv_iconst (v := 1) hx hb dX7_set_70 (by decide) ?_
            refine lv_icmp_ne (tgt := 81) hx hb dX7_set_71 (by decide) (fun c7 => ?_) (fun c7 => ?_)
            · have c7 := ne_toInt c7
              refine lv_aload_n hx hb dX7_set_81 rfl (lv_at hl 0 rfl) ?_
              refine t_geti C w hT hm_m_ ht_m_ (by decide) rfl cin_7 33 (by decide) rfl rfl gw_1189 dX7_set_82 (fun x8 hg => ?_)
              obtain rfl : x8 = 0 := gof_at rfl hg
              refine lv_istore_n (lv' := [(3, .int 0), (0, .ref m_), (1, .int wh), (2, .int va)]) hx hb dX7_set_85 rfl hl (by decide) rfl (fun ls hl => ?_)
              refine lv_iload_n hx hb dX7_set_86 rfl (lv_at hl 2 rfl) ?_
              refine lv_if_ne (tgt := 98) hx hb dX7_set_87 (by decide) (fun c9 => ?_) (fun c9 => ?_)
              · have c9 := ne_toInt c9
                refine lv_iload_n hx hb dX7_set_98 rfl (lv_at hl 2 rfl) ?_
                refine lv_iconst (v := 1) hx hb dX7_set_99 (by decide) ?_
                refine lv_icmp_ne (tgt := 111) hx hb dX7_set_100 (by decide) (fun c10 => ?_) (fun c10 => ?_)
                · have c10 := ne_toInt c10
                  refine lv_aload_n hx hb dX7_set_111 rfl (lv_at hl 1 rfl) ?_
                  refine lv_iload_n hx hb dX7_set_112 rfl (lv_at hl 3 rfl) ?_
                  have hT := hT.mono (gof_sub (l2 := (gdrop 733 gM0)) rfl)
                  refine t_puti C w hT hm_m_ ht_m_ (by decide) rfl cin_7 tyX7 tyX7_ok nmX7 33 (by decide) rfl rfl rfl rfl rfl (gof_no rfl) gw_1189 dX7_set_113 (fun f H locs w hT hR1 => ?_)
                  have hR := hR.tr hR1
                  refine lv_iload_n hx hb dX7_set_116 rfl (lv_at hl 0 rfl) ?_
                  exact t_iret C hr hlk w ⟨_, 0, _, rfl, rfl, hT.mono (gof_sub rfl), hR, Or.inr (Or.inr (Or.inr (⟨rfl, rfl, (by omega), (by omega)⟩)))⟩ (by decide) (by decide) dX7_set_117
                · exact absurd (eq_toInt c10) (by omega)
              · exact absurd (eq_toInt c9) (by omega)
            · exact absurd (eq_toInt c7) (by omega)
          · exact absurd (eq_toInt c6) (by omega)
        ·
          refine lv_if_ne (tgt := 48) hx hb dX7_set_41 (by decide) (fun c0 => absurd c0 (by decide)) (fun _ => ?_)
          refine lv_iconst (v := 1) hx hb dX7_set_44 (by decide) ?_
          refine lv_goto (tgt := 49) hx hb dX7_set_45 (by decide) ?_
          refine lv_iconst (v := 1) hx hb dX7_set_49 (by decide) ?_
          refine t_callV (n := 2) C w hT hm_m_ ht_m_ (by decide) rfl rfl (c_X7_bad1 l D K b0 sa _ L _ Ψ hT m_ hm_m_ ht_m_ hu_7) gw_1347 gw_1344 gw_1346 gs_22 gw_8 ⟨by decide, by decide, by decide +kernel⟩ rfl rfl ⟨by decide, by decide⟩ rfl hl.1 rfl (Nat.le_of_ble_eq_true rfl) dX7_set_50 ⟨by decide, by decide⟩ (fun v u H locs hp w => ?_)
          obtain ⟨r11, f2, rfl, rfl, hT2, hR1, hrr11⟩ := hp
          have hR := hR.tr hR1
          clear hT
          have hT := hT2
          clear hT2
          generalize f2 = f at w hT hR
          obtain rfl := hrr11
          refine lv_if_eq (tgt := 58) hx hb dX7_set_53 (by decide) (fun c0 => absurd c0 (by decide)) (fun _ => ?_)
          refine lv_iconst (v := 0) hx hb dX7_set_56 (by decide) ?_
          exact t_iret C hr hlk w ⟨_, 1, _, rfl, rfl, hT.mono (gof_sub rfl), hR, Or.inl ⟨rfl, rfl, (by omega)⟩⟩ (by decide) (by decide) dX7_set_57
      · have c3 := eq_toInt c3
        refine lv_bipush (v := 99) hx hb dX7_set_31 (by decide) ?_
        refine lv_goto (tgt := 38) hx hb dX7_set_33 (by decide) ?_
        have n99 : (99 : Int32).toInt = 99 := by decide
        refine t_callS (n := 3) C w (c_X7_in l D K b0 sa _ L _ Ψ (gof gM0) hT va 0 99) gw_1343 gw_1341 gw_1342 gw_8 ⟨by decide, by decide, by decide +kernel⟩ rfl rfl ⟨by decide, by decide⟩ rfl hl.1 rfl (Nat.le_of_ble_eq_true rfl) dX7_set_38 ⟨by decide, by decide⟩ (fun v u H locs hp w => ?_)
        obtain ⟨r12, rfl, rfl, hrr12⟩ := hp
        rcases hrr12 with ⟨rfl, hf0_r12, hf1_r12⟩ | ⟨rfl, hf0_r12⟩
        ·
          refine lv_if_ne (tgt := 48) hx hb dX7_set_41 (by decide) (fun _ => ?_) (fun c0 => absurd c0 (by decide))
          refine lv_iconst (v := 0) hx hb dX7_set_48 (by decide) ?_
          refine lv_iconst (v := 1) hx hb dX7_set_49 (by decide) ?_
          refine t_callV (n := 2) C w hT hm_m_ ht_m_ (by decide) rfl rfl (c_X7_bad0 l D K b0 sa _ L _ Ψ (hT.mono (gof_sub rfl)) m_ hm_m_ ht_m_ 1) gw_1347 gw_1344 gw_1346 gs_22 gw_8 ⟨by decide, by decide, by decide +kernel⟩ rfl rfl ⟨by decide, by decide⟩ rfl hl.1 rfl (Nat.le_of_ble_eq_true rfl) dX7_set_50 ⟨by decide, by decide⟩ (fun v u H locs hp w => ?_)
          obtain ⟨r13, rfl, rfl, hrr13⟩ := hp
          obtain rfl := hrr13
          refine lv_if_eq (tgt := 58) hx hb dX7_set_53 (by decide) (fun _ => ?_) (fun c0 => absurd c0 (by decide))
          refine lv_iload_n hx hb dX7_set_58 rfl (lv_at hl 1 rfl) ?_
          refine lv_if_ne (tgt := 69) hx hb dX7_set_59 (by decide) (fun c14 => ?_) (fun c14 => ?_)
          · have c14 := ne_toInt c14
            refine lv_iload_n hx hb dX7_set_69 rfl (lv_at hl 1 rfl) ?_
            refine lv_iconst (v := 1) hx hb dX7_set_70 (by decide) ?_
            refine lv_icmp_ne (tgt := 81) hx hb dX7_set_71 (by decide) (fun c15 => ?_) (fun c15 => ?_)
            · exact absurd (ne_toInt c15) (by omega)
            · have c15 := eq_toInt c15
              refine lv_aload_n hx hb dX7_set_74 rfl (lv_at hl 0 rfl) ?_
              refine t_geti C w hT hm_m_ ht_m_ (by decide) rfl cin_7 32 (by decide) rfl rfl gw_1188 dX7_set_75 (fun x16 hg => ?_)
              obtain rfl : x16 = 1 := gof_at rfl hg
              refine lv_goto (tgt := 85) hx hb dX7_set_78 (by decide) ?_
              refine lv_istore_n (lv' := [(3, .int 1), (0, .ref m_), (1, .int wh), (2, .int va)]) hx hb dX7_set_85 rfl hl (by decide) rfl (fun ls hl => ?_)
              refine lv_iload_n hx hb dX7_set_86 rfl (lv_at hl 2 rfl) ?_
              refine lv_if_ne (tgt := 98) hx hb dX7_set_87 (by decide) (fun c17 => ?_) (fun c17 => ?_)
              · have c17 := ne_toInt c17
                refine lv_iload_n hx hb dX7_set_98 rfl (lv_at hl 2 rfl) ?_
                refine lv_iconst (v := 1) hx hb dX7_set_99 (by decide) ?_
                refine lv_icmp_ne (tgt := 111) hx hb dX7_set_100 (by decide) (fun c18 => ?_) (fun c18 => ?_)
                · exact absurd (ne_toInt c18) (by omega)
                · have c18 := eq_toInt c18
                  refine lv_aload_n hx hb dX7_set_103 rfl (lv_at hl 1 rfl) ?_
                  refine lv_iload_n hx hb dX7_set_104 rfl (lv_at hl 3 rfl) ?_
                  have hT := hT.mono (gof_sub (l2 := (gdrop 732 gM0)) rfl)
                  refine t_puti C w hT hm_m_ ht_m_ (by decide) rfl cin_7 tyX7 tyX7_ok nmX7 32 (by decide) rfl rfl rfl rfl rfl (gof_no rfl) gw_1188 dX7_set_105 (fun f H locs w hT hR1 => ?_)
                  have hR := hR.tr hR1
                  refine lv_goto (tgt := 116) hx hb dX7_set_108 (by decide) ?_
                  refine lv_iload_n hx hb dX7_set_116 rfl (lv_at hl 0 rfl) ?_
                  exact t_iret C hr hlk w ⟨_, 0, _, rfl, rfl, hT.mono (gof_sub rfl), hR, Or.inr (Or.inr (Or.inl ⟨rfl, rfl, (by omega), (by omega)⟩))⟩ (by decide) (by decide) dX7_set_117
              · exact absurd (eq_toInt c17) (by omega)
          · exact absurd (eq_toInt c14) (by omega)
        ·
          refine lv_if_ne (tgt := 48) hx hb dX7_set_41 (by decide) (fun c0 => absurd c0 (by decide)) (fun _ => ?_)
          refine lv_iconst (v := 1) hx hb dX7_set_44 (by decide) ?_
          refine lv_goto (tgt := 49) hx hb dX7_set_45 (by decide) ?_
          refine lv_iconst (v := 1) hx hb dX7_set_49 (by decide) ?_
          refine t_callV (n := 2) C w hT hm_m_ ht_m_ (by decide) rfl rfl (c_X7_bad1 l D K b0 sa _ L _ Ψ hT m_ hm_m_ ht_m_ hu_7) gw_1347 gw_1344 gw_1346 gs_22 gw_8 ⟨by decide, by decide, by decide +kernel⟩ rfl rfl ⟨by decide, by decide⟩ rfl hl.1 rfl (Nat.le_of_ble_eq_true rfl) dX7_set_50 ⟨by decide, by decide⟩ (fun v u H locs hp w => ?_)
          obtain ⟨r19, f2, rfl, rfl, hT2, hR1, hrr19⟩ := hp
          have hR := hR.tr hR1
          clear hT
          have hT := hT2
          clear hT2
          generalize f2 = f at w hT hR
          obtain rfl := hrr19
          refine lv_if_eq (tgt := 58) hx hb dX7_set_53 (by decide) (fun c0 => absurd c0 (by decide)) (fun _ => ?_)
          refine lv_iconst (v := 0) hx hb dX7_set_56 (by decide) ?_
          exact t_iret C hr hlk w ⟨_, 1, _, rfl, rfl, hT.mono (gof_sub rfl), hR, Or.inl ⟨rfl, rfl, (by omega)⟩⟩ (by decide) (by decide) dX7_set_57
    · have c2 := eq_toInt c2
      refine lv_bipush (v := 14) hx hb dX7_set_21 (by decide) ?_
      refine lv_goto (tgt := 38) hx hb dX7_set_23 (by decide) ?_
      have n14 : (14 : Int32).toInt = 14 := by decide
      refine t_callS (n := 3) C w (c_X7_in l D K b0 sa _ L _ Ψ (gof gM0) hT va 0 14) gw_1343 gw_1341 gw_1342 gw_8 ⟨by decide, by decide, by decide +kernel⟩ rfl rfl ⟨by decide, by decide⟩ rfl hl.1 rfl (Nat.le_of_ble_eq_true rfl) dX7_set_38 ⟨by decide, by decide⟩ (fun v u H locs hp w => ?_)
      obtain ⟨r20, rfl, rfl, hrr20⟩ := hp
      rcases hrr20 with ⟨rfl, hf0_r20, hf1_r20⟩ | ⟨rfl, hf0_r20⟩
      ·
        refine lv_if_ne (tgt := 48) hx hb dX7_set_41 (by decide) (fun _ => ?_) (fun c0 => absurd c0 (by decide))
        refine lv_iconst (v := 0) hx hb dX7_set_48 (by decide) ?_
        refine lv_iconst (v := 1) hx hb dX7_set_49 (by decide) ?_
        have n1 : (1 : Int32).toInt = 1 := by decide
        refine t_callV (n := 2) C w hT hm_m_ ht_m_ (by decide) rfl rfl (c_X7_bad0 l D K b0 sa _ L _ Ψ (hT.mono (gof_sub rfl)) m_ hm_m_ ht_m_ 1) gw_1347 gw_1344 gw_1346 gs_22 gw_8 ⟨by decide, by decide, by decide +kernel⟩ rfl rfl ⟨by decide, by decide⟩ rfl hl.1 rfl (Nat.le_of_ble_eq_true rfl) dX7_set_50 ⟨by decide, by decide⟩ (fun v u H locs hp w => ?_)
        obtain ⟨r21, rfl, rfl, hrr21⟩ := hp
        obtain rfl := hrr21
        refine lv_if_eq (tgt := 58) hx hb dX7_set_53 (by decide) (fun _ => ?_) (fun c0 => absurd c0 (by decide))
        refine lv_iload_n hx hb dX7_set_58 rfl (lv_at hl 1 rfl) ?_
        refine lv_if_ne (tgt := 69) hx hb dX7_set_59 (by decide) (fun c22 => ?_) (fun c22 => ?_)
        · exact absurd (ne_toInt c22) (by omega)
        · have c22 := eq_toInt c22
          refine lv_aload_n hx hb dX7_set_62 rfl (lv_at hl 0 rfl) ?_
          refine t_geti C w hT hm_m_ ht_m_ (by decide) rfl cin_7 31 (by decide) rfl rfl gw_1187 dX7_set_63 (fun x23 hg => ?_)
          obtain rfl : x23 = 14 := gof_at rfl hg
          refine lv_goto (tgt := 85) hx hb dX7_set_66 (by decide) ?_
          refine lv_istore_n (lv' := [(3, .int 14), (0, .ref m_), (1, .int wh), (2, .int va)]) hx hb dX7_set_85 rfl hl (by decide) rfl (fun ls hl => ?_)
          refine lv_iload_n hx hb dX7_set_86 rfl (lv_at hl 2 rfl) ?_
          refine lv_if_ne (tgt := 98) hx hb dX7_set_87 (by decide) (fun c24 => ?_) (fun c24 => ?_)
          · exact absurd (ne_toInt c24) (by omega)
          · have c24 := eq_toInt c24
            refine lv_aload_n hx hb dX7_set_90 rfl (lv_at hl 1 rfl) ?_
            refine lv_iload_n hx hb dX7_set_91 rfl (lv_at hl 3 rfl) ?_
            have hT := hT.mono (gof_sub (l2 := (gdrop 731 gM0)) rfl)
            refine t_puti C w hT hm_m_ ht_m_ (by decide) rfl cin_7 tyX7 tyX7_ok nmX7 31 (by decide) rfl rfl rfl rfl rfl (gof_no rfl) gw_1187 dX7_set_92 (fun f H locs w hT hR1 => ?_)
            have hR := hR.tr hR1
            refine lv_goto (tgt := 116) hx hb dX7_set_95 (by decide) ?_
            refine lv_iload_n hx hb dX7_set_116 rfl (lv_at hl 0 rfl) ?_
            exact t_iret C hr hlk w ⟨_, 0, _, rfl, rfl, hT.mono (gof_sub rfl), hR, Or.inr (Or.inl ⟨rfl, rfl, (by omega), (by omega)⟩)⟩ (by decide) (by decide) dX7_set_117
      ·
        refine lv_if_ne (tgt := 48) hx hb dX7_set_41 (by decide) (fun c0 => absurd c0 (by decide)) (fun _ => ?_)
        refine lv_iconst (v := 1) hx hb dX7_set_44 (by decide) ?_
        refine lv_goto (tgt := 49) hx hb dX7_set_45 (by decide) ?_
        refine lv_iconst (v := 1) hx hb dX7_set_49 (by decide) ?_
        refine t_callV (n := 2) C w hT hm_m_ ht_m_ (by decide) rfl rfl (c_X7_bad1 l D K b0 sa _ L _ Ψ hT m_ hm_m_ ht_m_ hu_7) gw_1347 gw_1344 gw_1346 gs_22 gw_8 ⟨by decide, by decide, by decide +kernel⟩ rfl rfl ⟨by decide, by decide⟩ rfl hl.1 rfl (Nat.le_of_ble_eq_true rfl) dX7_set_50 ⟨by decide, by decide⟩ (fun v u H locs hp w => ?_)
        obtain ⟨r25, f2, rfl, rfl, hT2, hR1, hrr25⟩ := hp
        have hR := hR.tr hR1
        clear hT
        have hT := hT2
        clear hT2
        generalize f2 = f at w hT hR
        obtain rfl := hrr25
        refine lv_if_eq (tgt := 58) hx hb dX7_set_53 (by decide) (fun c0 => absurd c0 (by decide)) (fun _ => ?_)
        refine lv_iconst (v := 0) hx hb dX7_set_56 (by decide) ?_
        exact t_iret C hr hlk w ⟨_, 1, _, rfl, rfl, hT.mono (gof_sub rfl), hR, Or.inl ⟨rfl, rfl, (by omega)⟩⟩ (by decide) (by decide) dX7_set_57
  ·
    refine lv_if_eq (tgt := 44) hx hb dX7_set_12 (by decide) (fun _ => ?_) (fun c0 => absurd c0 (by decide))
    refine lv_iconst (v := 1) hx hb dX7_set_44 (by decide) ?_
    refine lv_goto (tgt := 49) hx hb dX7_set_45 (by decide) ?_
    refine lv_iconst (v := 1) hx hb dX7_set_49 (by decide) ?_
    refine t_callV (n := 2) C w hT hm_m_ ht_m_ (by decide) rfl rfl (c_X7_bad1 l D K b0 sa _ L _ Ψ hT m_ hm_m_ ht_m_ hu_7) gw_1347 gw_1344 gw_1346 gs_22 gw_8 ⟨by decide, by decide, by decide +kernel⟩ rfl rfl ⟨by decide, by decide⟩ rfl hl.1 rfl (Nat.le_of_ble_eq_true rfl) dX7_set_50 ⟨by decide, by decide⟩ (fun v u H locs hp w => ?_)
    obtain ⟨r26, f2, rfl, rfl, hT2, hR1, hrr26⟩ := hp
    have hR := hR.tr hR1
    clear hT
    have hT := hT2
    clear hT2
    generalize f2 = f at w hT hR
    obtain rfl := hrr26
    refine lv_if_eq (tgt := 58) hx hb dX7_set_53 (by decide) (fun c0 => absurd c0 (by decide)) (fun _ => ?_)
    refine lv_iconst (v := 0) hx hb dX7_set_56 (by decide) ?_
    exact t_iret C hr hlk w ⟨_, 1, _, rfl, rfl, hT.mono (gof_sub rfl), hR, Or.inl ⟨rfl, rfl, (by omega)⟩⟩ (by decide) (by decide) dX7_set_57
set_option maxHeartbeats 4000000 in
set_option maxRecDepth 100000 in
theorem c_X7_force (l : Launch) (D : va_G) (K : Nat → ClassId) (b0 : Nat) (sa : Nat × Nat × Nat) (sz : Nat) (L : List Nat) (f0 : Nat → va_E) (Ψ : Nat → Nat) (hT : TW K (gof gM0) Ψ L f0) (m_ : Nat) (hm_m_ : m_ ∈ L) (ht_m_ : Ψ m_ = 7) (pr : Int32) (hu_7 : ∀ b c : Nat, b ∈ L → c ∈ L → Ψ b = 7 → Ψ c = 7 → b = c) : Met l yX7_force (.code yX7_force cX7_force 3 (some .int) :: gt) { frames := 1, cells := 0, slots := 0, locals := 22 } (va_Pc [.ref m_, .int pr] (hPre D K b0 sa sz L f0)) (hQ D K b0 (fun v9 u9 => ∃ (r : Int32) (th : Int32) (f2 : Nat → va_E), v9 = some (.int r) ∧ u9 = (gof [(700, th)], Ψ, L, f2) ∧ TW K (gof [(700, th)]) Ψ L f2 ∧ rawk Ψ L f0 f2 ∧ ((r = 0 ∧ th = 1 ∧ (¬ pr.toInt = -1)) ∨ (r = (-1) ∧ th = 0 ∧ (pr.toInt = -1))))) 0 0 (fun q => b0 ≤ q) := by
  refine t_of (own := RX7) (by decide) rfl ?_ (Nat.le_of_ble_eq_true rfl)
  intro p e s m below meth c ls C w hsz hr hlk hnm hl
  have hx := C.1
  have hb := C.2.1
  have hl : lv_has ls 3 [(0, .ref m_), (1, .int pr)] := hl
  have hb_pr := ti_bd pr
  have hR : rawk Ψ L f0 f0 := rawk.rf
  refine lv_aload_n hx hb dX7_force_0 rfl (lv_at hl 0 rfl) ?_
  refine lv_iconst (v := 0) hx hb dX7_force_1 (by decide) ?_
  refine t_puti C w hT hm_m_ ht_m_ (by decide) rfl cin_7 tyX7 tyX7_ok nmX7 0 (by decide) rfl rfl rfl rfl rfl (gof_is rfl) gw_1156 dX7_force_2 (fun f H locs w hT hR1 => ?_)
  have hR := hR.tr hR1
  refine lv_aload_n hx hb dX7_force_5 rfl (lv_at hl 0 rfl) ?_
  refine lv_iload_n hx hb dX7_force_6 rfl (lv_at hl 1 rfl) ?_
  refine lv_iconst (v := (-1)) hx hb dX7_force_7 (by decide) ?_
  refine lv_aload_n hx hb dX7_force_8 rfl (lv_at hl 0 rfl) ?_
  refine t_geti C w hT hm_m_ ht_m_ (by decide) rfl cin_7 13 (by decide) rfl rfl gw_1169 dX7_force_9 (fun x1 hg => ?_)
  obtain rfl : x1 = 0 := gof_at rfl hg
  refine lv_iconst (v := 1) hx hb dX7_force_12 (by decide) ?_
  refine lv_isub hx hb dX7_force_13 ?_
  refine lv_topi (fun y2 ey2 => ?_)
  obtain rfl : y2 = (-1) := ey2.trans (by decide)
  have nm1 : ((-1) : Int32).toInt = -1 := by decide
  refine t_callS (n := 3) C w (c_X7_in l D K b0 sa _ L _ Ψ (gof gM0) hT pr (-1) (-1)) gw_1343 gw_1341 gw_1342 gw_8 ⟨by decide, by decide, by decide +kernel⟩ rfl rfl ⟨by decide, by decide⟩ rfl hl.1 rfl (Nat.le_of_ble_eq_true rfl) dX7_force_14 ⟨by decide, by decide⟩ (fun v u H locs hp w => ?_)
  obtain ⟨r3, rfl, rfl, hrr3⟩ := hp
  rcases hrr3 with ⟨rfl, hf0_r3, hf1_r3⟩ | ⟨rfl, hf0_r3⟩
  ·
    refine lv_if_ne (tgt := 24) hx hb dX7_force_17 (by decide) (fun _ => ?_) (fun c0 => absurd c0 (by decide))
    refine lv_iconst (v := 0) hx hb dX7_force_24 (by decide) ?_
    refine lv_iconst (v := 1) hx hb dX7_force_25 (by decide) ?_
    have n1 : (1 : Int32).toInt = 1 := by decide
    refine t_callV (n := 2) C w hT hm_m_ ht_m_ (by decide) rfl rfl (c_X7_bad0 l D K b0 sa _ L _ Ψ (hT.mono (gof_sub rfl)) m_ hm_m_ ht_m_ 1) gw_1347 gw_1344 gw_1346 gs_22 gw_8 ⟨by decide, by decide, by decide +kernel⟩ rfl rfl ⟨by decide, by decide⟩ rfl hl.1 rfl (Nat.le_of_ble_eq_true rfl) dX7_force_26 ⟨by decide, by decide⟩ (fun v u H locs hp w => ?_)
    obtain ⟨r4, rfl, rfl, hrr4⟩ := hp
    obtain rfl := hrr4
    refine lv_if_eq (tgt := 34) hx hb dX7_force_29 (by decide) (fun _ => ?_) (fun c0 => absurd c0 (by decide))
    refine lv_aload_n hx hb dX7_force_34 rfl (lv_at hl 0 rfl) ?_
    refine t_geti C w hT hm_m_ ht_m_ (by decide) rfl cin_7 15 (by decide) rfl rfl gw_1171 dX7_force_35 (fun x5 hg => ?_)
    obtain rfl : x5 = (-1) := gof_at rfl hg
    refine lv_istore_n (lv' := [(2, .int (-1)), (0, .ref m_), (1, .int pr)]) hx hb dX7_force_38 rfl hl (by decide) rfl (fun ls hl => ?_)
    refine lv_aload_n hx hb dX7_force_39 rfl (lv_at hl 1 rfl) ?_
    refine lv_iload_n hx hb dX7_force_40 rfl (lv_at hl 2 rfl) ?_
    have hT := hT.mono (gof_sub (l2 := (gdrop 715 gM0)) rfl)
    refine t_puti C w hT hm_m_ ht_m_ (by decide) rfl cin_7 tyX7 tyX7_ok nmX7 15 (by decide) rfl rfl rfl rfl rfl (gof_no rfl) gw_1171 dX7_force_41 (fun f H locs w hT hR1 => ?_)
    have hR := hR.tr hR1
    refine lv_iload_n hx hb dX7_force_44 rfl (lv_at hl 0 rfl) ?_
    exact t_iret C hr hlk w ⟨_, 0, _, rfl, rfl, hT.mono (gof_sub rfl), hR, Or.inr (⟨rfl, rfl, (by omega)⟩)⟩ (by decide) (by decide) dX7_force_45
  ·
    refine lv_if_ne (tgt := 24) hx hb dX7_force_17 (by decide) (fun c0 => absurd c0 (by decide)) (fun _ => ?_)
    refine lv_iconst (v := 1) hx hb dX7_force_20 (by decide) ?_
    refine lv_goto (tgt := 25) hx hb dX7_force_21 (by decide) ?_
    refine lv_iconst (v := 1) hx hb dX7_force_25 (by decide) ?_
    refine t_callV (n := 2) C w hT hm_m_ ht_m_ (by decide) rfl rfl (c_X7_bad1 l D K b0 sa _ L _ Ψ hT m_ hm_m_ ht_m_ hu_7) gw_1347 gw_1344 gw_1346 gs_22 gw_8 ⟨by decide, by decide, by decide +kernel⟩ rfl rfl ⟨by decide, by decide⟩ rfl hl.1 rfl (Nat.le_of_ble_eq_true rfl) dX7_force_26 ⟨by decide, by decide⟩ (fun v u H locs hp w => ?_)
    obtain ⟨r6, f2, rfl, rfl, hT2, hR1, hrr6⟩ := hp
    have hR := hR.tr hR1
    clear hT
    have hT := hT2
    clear hT2
    generalize f2 = f at w hT hR
    obtain rfl := hrr6
    refine lv_if_eq (tgt := 34) hx hb dX7_force_29 (by decide) (fun c0 => absurd c0 (by decide)) (fun _ => ?_)
    refine lv_iconst (v := 0) hx hb dX7_force_32 (by decide) ?_
    have n0 : (0 : Int32).toInt = 0 := by decide
    exact t_iret C hr hlk w ⟨_, 1, _, rfl, rfl, hT.mono (gof_sub rfl), hR, Or.inl ⟨rfl, rfl, (by omega)⟩⟩ (by decide) (by decide) dX7_force_33
set_option maxHeartbeats 4000000 in
set_option maxRecDepth 100000 in
theorem c_X7_topOf (l : Launch) (D : va_G) (K : Nat → ClassId) (b0 : Nat) (sa : Nat × Nat × Nat) (sz : Nat) (L : List Nat) (f0 : Nat → va_E) (Ψ : Nat → Nat) (hT : TW K (gof gM1) Ψ L f0) (m_ : Nat) (hm_m_ : m_ ∈ L) (ht_m_ : Ψ m_ = 7) (ce : Int32) (hl_ce : 0 ≤ ce.toInt) (hh_ce : ce.toInt ≤ 63) : Met l yX7_topOf (.code yX7_topOf cX7_topOf 2 (some .int) :: gt) { frames := 0, cells := 0, slots := 0, locals := 0 } (va_Pc [.ref m_, .int ce] (hPre D K b0 sa sz L f0)) (hQ D K b0 (fun v9 u9 => ∃ r : Int32, v9 = some (.int r) ∧ u9 = ((gof gM1), Ψ, L, f0) ∧ (r = (-1)))) 0 0 (fun q => b0 ≤ q) := by
  refine t_of (own := RX7) (by decide) rfl ?_ (Nat.le_of_ble_eq_true rfl)
  intro p e s m below meth c ls C w hsz hr hlk hnm hl
  have hx := C.1
  have hb := C.2.1
  have hl : lv_has ls 2 [(0, .ref m_), (1, .int ce)] := hl
  have hb_ce := ti_bd ce
  have hR : rawk Ψ L f0 f0 := rawk.rf
  refine lv_aload_n hx hb dX7_topOf_0 rfl (lv_at hl 0 rfl) ?_
  refine t_getr C w hT hm_m_ ht_m_ (by decide) rfl cin_7 29 (by decide) rfl gw_1185 dX7_topOf_1 (fun q1 hm_q1 ht_q1 => ?_)
  refine lv_iload_n hx hb dX7_topOf_4 rfl (lv_at hl 1 rfl) ?_
  refine t_iald C w hT hm_q1 ht_q1 (by decide) (by decide) rfl (vp_in_iff.mpr ⟨by omega, (show _ < ((64 : Nat) : Int) by omega)⟩) dX7_topOf_5 (fun x2 hg => ?_)
  obtain rfl : x2 = 0 := gof_at rfl hg
  refine lv_if_ne (tgt := 13) hx hb dX7_topOf_6 (by decide) (fun c0 => absurd c0 (by decide)) (fun _ => ?_)
  refine lv_iconst (v := (-1)) hx hb dX7_topOf_9 (by decide) ?_
  refine lv_goto (tgt := 28) hx hb dX7_topOf_10 (by decide) ?_
  have nm1 : ((-1) : Int32).toInt = -1 := by decide
  exact t_iret C hr hlk w ⟨_, rfl, rfl, rfl⟩ (by decide) (by decide) dX7_topOf_28
set_option maxHeartbeats 4000000 in
set_option maxRecDepth 100000 in
theorem c_X7_top (l : Launch) (D : va_G) (K : Nat → ClassId) (b0 : Nat) (sa : Nat × Nat × Nat) (sz : Nat) (L : List Nat) (f0 : Nat → va_E) (Ψ : Nat → Nat) (hT : TW K (gof gM0) Ψ L f0) (m_ : Nat) (hm_m_ : m_ ∈ L) (ht_m_ : Ψ m_ = 7) (ce : Int32) (he : Int32) (hl_he : 0 ≤ he.toInt) (hh_he : he.toInt ≤ 1) (hu_7 : ∀ b c : Nat, b ∈ L → c ∈ L → Ψ b = 7 → Ψ c = 7 → b = c) : Met l yX7_top (.code yX7_top cX7_top 3 (some .int) :: gt) { frames := 2, cells := 0, slots := 0, locals := 42 } (va_Pc [.ref m_, .int ce, .int he] (hPre D K b0 sa sz L f0)) (hQ D K b0 (fun v9 u9 => ∃ (r : Int32) (th : Int32) (f2 : Nat → va_E), v9 = some (.int r) ∧ u9 = (gof [(700, th)], Ψ, L, f2) ∧ TW K (gof [(700, th)]) Ψ L f2 ∧ rawk Ψ L f0 f2 ∧ ((r = 0 ∧ th = 1 ∧ (¬ (0 ≤ ce.toInt ∧ ce.toInt ≤ 63))) ∨ (r = 0 ∧ th = 0 ∧ (0 ≤ ce.toInt) ∧ (ce.toInt ≤ 63) ∧ (he.toInt = 1)) ∨ (r = (-1) ∧ th = 0 ∧ (0 ≤ ce.toInt) ∧ (ce.toInt ≤ 63) ∧ (he.toInt = 0))))) 0 0 (fun q => b0 ≤ q) := by
  refine t_of (own := RX7) (by decide) rfl ?_ (Nat.le_of_ble_eq_true rfl)
  intro p e s m below meth c ls C w hsz hr hlk hnm hl
  have hx := C.1
  have hb := C.2.1
  have hl : lv_has ls 3 [(0, .ref m_), (1, .int ce), (2, .int he)] := hl
  have hb_ce := ti_bd ce
  have hb_he := ti_bd he
  have hR : rawk Ψ L f0 f0 := rawk.rf
  refine lv_aload_n hx hb dX7_top_0 rfl (lv_at hl 0 rfl) ?_
  refine lv_iconst (v := 0) hx hb dX7_top_1 (by decide) ?_
  refine t_puti C w hT hm_m_ ht_m_ (by decide) rfl cin_7 tyX7 tyX7_ok nmX7 0 (by decide) rfl rfl rfl rfl rfl (gof_is rfl) gw_1156 dX7_top_2 (fun f H locs w hT hR1 => ?_)
  have hR := hR.tr hR1
  refine lv_aload_n hx hb dX7_top_5 rfl (lv_at hl 0 rfl) ?_
  refine lv_iload_n hx hb dX7_top_6 rfl (lv_at hl 1 rfl) ?_
  refine t_callS (n := 1) C w (c_X7_isCell l D K b0 sa _ L _ Ψ (gof gM0) hT ce) gw_1467 gw_1465 gw_1466 gw_8 ⟨by decide, by decide, by decide +kernel⟩ rfl rfl ⟨by decide, by decide⟩ rfl hl.1 rfl (Nat.le_of_ble_eq_true rfl) dX7_top_7 ⟨by decide, by decide⟩ (fun v u H locs hp w => ?_)
  obtain ⟨r1, rfl, rfl, hrr1⟩ := hp
  rcases hrr1 with ⟨rfl, hf0_r1, hf1_r1⟩ | ⟨rfl, hf0_r1⟩
  ·
    refine lv_if_ne (tgt := 17) hx hb dX7_top_10 (by decide) (fun _ => ?_) (fun c0 => absurd c0 (by decide))
    refine lv_iconst (v := 0) hx hb dX7_top_17 (by decide) ?_
    refine lv_iconst (v := 1) hx hb dX7_top_18 (by decide) ?_
    have n1 : (1 : Int32).toInt = 1 := by decide
    refine t_callV (n := 2) C w hT hm_m_ ht_m_ (by decide) rfl rfl (c_X7_bad0 l D K b0 sa _ L _ Ψ (hT.mono (gof_sub rfl)) m_ hm_m_ ht_m_ 1) gw_1347 gw_1344 gw_1346 gs_22 gw_8 ⟨by decide, by decide, by decide +kernel⟩ rfl rfl ⟨by decide, by decide⟩ rfl hl.1 rfl (Nat.le_of_ble_eq_true rfl) dX7_top_19 ⟨by decide, by decide⟩ (fun v u H locs hp w => ?_)
    obtain ⟨r2, rfl, rfl, hrr2⟩ := hp
    obtain rfl := hrr2
    refine lv_if_eq (tgt := 27) hx hb dX7_top_22 (by decide) (fun _ => ?_) (fun c0 => absurd c0 (by decide))
    refine lv_iload_n hx hb dX7_top_27 rfl (lv_at hl 2 rfl) ?_
    have n0 : (0 : Int32).toInt = 0 := by decide
    refine lv_if_eq (tgt := 40) hx hb dX7_top_28 (by decide) (fun c3 => ?_) (fun c3 => ?_)
    · have c3 := eq_toInt c3
      refine lv_aload_n hx hb dX7_top_40 rfl (lv_at hl 0 rfl) ?_
      refine lv_iload_n hx hb dX7_top_41 rfl (lv_at hl 1 rfl) ?_
      refine t_callV (n := 1) C w hT hm_m_ ht_m_ (by decide) rfl rfl (c_X7_topOf l D K b0 sa _ L _ Ψ (hT.mono (gof_sub rfl)) m_ hm_m_ ht_m_ ce (by omega) (by omega)) gw_1499 gw_1496 gw_1498 gs_49 gw_8 ⟨by decide, by decide, by decide +kernel⟩ rfl rfl ⟨by decide, by decide⟩ rfl hl.1 rfl (Nat.le_of_ble_eq_true rfl) dX7_top_42 ⟨by decide, by decide⟩ (fun v u H locs hp w => ?_)
      obtain ⟨r4, rfl, rfl, hrr4⟩ := hp
      obtain rfl := hrr4
      have nm1 : ((-1) : Int32).toInt = -1 := by decide
      exact t_iret C hr hlk w ⟨_, 0, _, rfl, rfl, hT.mono (gof_sub rfl), hR, Or.inr (Or.inr (⟨rfl, rfl, (by omega), (by omega), (by omega)⟩))⟩ (by decide) (by decide) dX7_top_45
    · have c3 := ne_toInt c3
      refine lv_aload_n hx hb dX7_top_31 rfl (lv_at hl 0 rfl) ?_
      refine t_getr C w hT hm_m_ ht_m_ (by decide) rfl cin_7 29 (by decide) rfl gw_1185 dX7_top_32 (fun q5 hm_q5 ht_q5 => ?_)
      refine lv_iload_n hx hb dX7_top_35 rfl (lv_at hl 1 rfl) ?_
      refine t_iald C w hT hm_q5 ht_q5 (by decide) (by decide) rfl (vp_in_iff.mpr ⟨by omega, (show _ < ((64 : Nat) : Int) by omega)⟩) dX7_top_36 (fun x6 hg => ?_)
      obtain rfl : x6 = 0 := gof_at rfl hg
      refine lv_goto (tgt := 45) hx hb dX7_top_37 (by decide) ?_
      exact t_iret C hr hlk w ⟨_, 0, _, rfl, rfl, hT.mono (gof_sub rfl), hR, Or.inr (Or.inl ⟨rfl, rfl, (by omega), (by omega), (by omega)⟩)⟩ (by decide) (by decide) dX7_top_45
  ·
    refine lv_if_ne (tgt := 17) hx hb dX7_top_10 (by decide) (fun c0 => absurd c0 (by decide)) (fun _ => ?_)
    refine lv_iconst (v := 1) hx hb dX7_top_13 (by decide) ?_
    refine lv_goto (tgt := 18) hx hb dX7_top_14 (by decide) ?_
    refine lv_iconst (v := 1) hx hb dX7_top_18 (by decide) ?_
    refine t_callV (n := 2) C w hT hm_m_ ht_m_ (by decide) rfl rfl (c_X7_bad1 l D K b0 sa _ L _ Ψ hT m_ hm_m_ ht_m_ hu_7) gw_1347 gw_1344 gw_1346 gs_22 gw_8 ⟨by decide, by decide, by decide +kernel⟩ rfl rfl ⟨by decide, by decide⟩ rfl hl.1 rfl (Nat.le_of_ble_eq_true rfl) dX7_top_19 ⟨by decide, by decide⟩ (fun v u H locs hp w => ?_)
    obtain ⟨r7, f2, rfl, rfl, hT2, hR1, hrr7⟩ := hp
    have hR := hR.tr hR1
    clear hT
    have hT := hT2
    clear hT2
    generalize f2 = f at w hT hR
    obtain rfl := hrr7
    refine lv_if_eq (tgt := 27) hx hb dX7_top_22 (by decide) (fun c0 => absurd c0 (by decide)) (fun _ => ?_)
    refine lv_iconst (v := 0) hx hb dX7_top_25 (by decide) ?_
    have n0 : (0 : Int32).toInt = 0 := by decide
    exact t_iret C hr hlk w ⟨_, 1, _, rfl, rfl, hT.mono (gof_sub rfl), hR, Or.inl ⟨rfl, rfl, (by omega)⟩⟩ (by decide) (by decide) dX7_top_26
