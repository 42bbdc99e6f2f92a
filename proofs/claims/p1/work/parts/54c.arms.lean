theorem dL_law_966 : decode cL_law 966 = .ok (.aload_n 1, 1) := by decide +kernel
theorem dL_law_967 : decode cL_law 967 = .ok (.aload_n 0, 1) := by decide +kernel
theorem dL_law_968 : decode cL_law 968 = .ok (.iload 4, 2) := by decide +kernel
theorem dL_law_970 : decode cL_law 970 = .ok (.iconst 1, 1) := by decide +kernel
theorem dL_law_971 : decode cL_law 971 = .ok (.iadd, 1) := by decide +kernel
theorem dL_law_972 : decode cL_law 972 = .ok (.iaload, 1) := by decide +kernel
theorem dL_law_973 : decode cL_law 973 = .ok (.aload_n 0, 1) := by decide +kernel
theorem dL_law_974 : decode cL_law 974 = .ok (.iload 4, 2) := by decide +kernel
theorem dL_law_976 : decode cL_law 976 = .ok (.iconst 2, 1) := by decide +kernel
theorem dL_law_977 : decode cL_law 977 = .ok (.iadd, 1) := by decide +kernel
theorem dL_law_978 : decode cL_law 978 = .ok (.iaload, 1) := by decide +kernel
theorem dL_law_979 : decode cL_law 979 = .ok (.aload_n 3, 1) := by decide +kernel
theorem dL_law_980 : decode cL_law 980 = .ok (.invokestatic 156, 3) := by decide +kernel
theorem dL_law_983 : decode cL_law 983 = .ok (.istore 5, 2) := by decide +kernel
theorem dL_law_985 : decode cL_law 985 = .ok (.aload_n 2, 1) := by decide +kernel
theorem dL_law_986 : decode cL_law 986 = .ok (.aload_n 0, 1) := by decide +kernel
theorem dL_law_987 : decode cL_law 987 = .ok (.iload 4, 2) := by decide +kernel
theorem dL_law_989 : decode cL_law 989 = .ok (.iconst 1, 1) := by decide +kernel
theorem dL_law_990 : decode cL_law 990 = .ok (.iadd, 1) := by decide +kernel
theorem dL_law_991 : decode cL_law 991 = .ok (.iaload, 1) := by decide +kernel
theorem dL_law_992 : decode cL_law 992 = .ok (.aload_n 0, 1) := by decide +kernel
theorem dL_law_993 : decode cL_law 993 = .ok (.iload 4, 2) := by decide +kernel
theorem dL_law_995 : decode cL_law 995 = .ok (.iconst 2, 1) := by decide +kernel
theorem dL_law_996 : decode cL_law 996 = .ok (.iadd, 1) := by decide +kernel
theorem dL_law_997 : decode cL_law 997 = .ok (.iaload, 1) := by decide +kernel
theorem dL_law_998 : decode cL_law 998 = .ok (.invokevirtual 158, 3) := by decide +kernel
theorem dL_law_1001 : decode cL_law 1001 = .ok (.istore 6, 2) := by decide +kernel
theorem dL_law_1003 : decode cL_law 1003 = .ok (.aload_n 2, 1) := by decide +kernel
theorem dL_law_1004 : decode cL_law 1004 = .ok (.invokevirtual 113, 3) := by decide +kernel
theorem dL_law_1007 : decode cL_law 1007 = .ok (.iload 5, 2) := by decide +kernel
theorem dL_law_1009 : decode cL_law 1009 = .ok (.if_icmp .eq 5, 3) := by decide +kernel
theorem dL_law_1014 : decode cL_law 1014 = .ok (.iload 5, 2) := by decide +kernel
theorem dL_law_1016 : decode cL_law 1016 = .ok (.ifCond .ne 15, 3) := by decide +kernel
theorem dL_law_1019 : decode cL_law 1019 = .ok (.aload_n 3, 1) := by decide +kernel
theorem dL_law_1020 : decode cL_law 1020 = .ok (.iconst 0, 1) := by decide +kernel
theorem dL_law_1021 : decode cL_law 1021 = .ok (.laload, 1) := by decide +kernel
theorem dL_law_1022 : decode cL_law 1022 = .ok (.iload 6, 2) := by decide +kernel
theorem dL_law_1024 : decode cL_law 1024 = .ok (.i2l, 1) := by decide +kernel
theorem dL_law_1025 : decode cL_law 1025 = .ok (.lcmp, 1) := by decide +kernel
theorem dL_law_1026 : decode cL_law 1026 = .ok (.ifCond .eq 5, 3) := by decide +kernel
theorem dL_law_1031 : decode cL_law 1031 = .ok (.goto 1289, 3) := by decide +kernel
theorem dL_law_1034 : decode cL_law 1034 = .ok (.aload_n 1, 1) := by decide +kernel
theorem dL_law_1035 : decode cL_law 1035 = .ok (.aload_n 0, 1) := by decide +kernel
theorem dL_law_1036 : decode cL_law 1036 = .ok (.iload 4, 2) := by decide +kernel
theorem dL_law_1038 : decode cL_law 1038 = .ok (.iconst 1, 1) := by decide +kernel
theorem dL_law_1039 : decode cL_law 1039 = .ok (.iadd, 1) := by decide +kernel
theorem dL_law_1040 : decode cL_law 1040 = .ok (.iaload, 1) := by decide +kernel
theorem dL_law_1041 : decode cL_law 1041 = .ok (.aload_n 3, 1) := by decide +kernel
theorem dL_law_1042 : decode cL_law 1042 = .ok (.invokestatic 159, 3) := by decide +kernel
theorem dL_law_1045 : decode cL_law 1045 = .ok (.istore 5, 2) := by decide +kernel
theorem dL_law_1047 : decode cL_law 1047 = .ok (.aload_n 2, 1) := by decide +kernel
theorem dL_law_1048 : decode cL_law 1048 = .ok (.aload_n 0, 1) := by decide +kernel
theorem dL_law_1049 : decode cL_law 1049 = .ok (.iload 4, 2) := by decide +kernel
theorem dL_law_1051 : decode cL_law 1051 = .ok (.iconst 1, 1) := by decide +kernel
theorem dL_law_1052 : decode cL_law 1052 = .ok (.iadd, 1) := by decide +kernel
theorem dL_law_1053 : decode cL_law 1053 = .ok (.iaload, 1) := by decide +kernel
theorem dL_law_1054 : decode cL_law 1054 = .ok (.invokevirtual 161, 3) := by decide +kernel
theorem dL_law_1057 : decode cL_law 1057 = .ok (.istore 6, 2) := by decide +kernel
theorem dL_law_1059 : decode cL_law 1059 = .ok (.aload_n 2, 1) := by decide +kernel
theorem dL_law_1060 : decode cL_law 1060 = .ok (.invokevirtual 113, 3) := by decide +kernel
theorem dL_law_1063 : decode cL_law 1063 = .ok (.iload 5, 2) := by decide +kernel
theorem dL_law_1065 : decode cL_law 1065 = .ok (.if_icmp .eq 5, 3) := by decide +kernel
theorem dL_law_1070 : decode cL_law 1070 = .ok (.iload 5, 2) := by decide +kernel
theorem dL_law_1072 : decode cL_law 1072 = .ok (.ifCond .ne 15, 3) := by decide +kernel
theorem dL_law_1075 : decode cL_law 1075 = .ok (.aload_n 3, 1) := by decide +kernel
theorem dL_law_1076 : decode cL_law 1076 = .ok (.iconst 0, 1) := by decide +kernel
theorem dL_law_1077 : decode cL_law 1077 = .ok (.laload, 1) := by decide +kernel
theorem dL_law_1078 : decode cL_law 1078 = .ok (.iload 6, 2) := by decide +kernel
theorem dL_law_1080 : decode cL_law 1080 = .ok (.i2l, 1) := by decide +kernel
theorem dL_law_1081 : decode cL_law 1081 = .ok (.lcmp, 1) := by decide +kernel
theorem dL_law_1082 : decode cL_law 1082 = .ok (.ifCond .eq 5, 3) := by decide +kernel
theorem dL_law_1087 : decode cL_law 1087 = .ok (.goto 1233, 3) := by decide +kernel
theorem dL_law_1090 : decode cL_law 1090 = .ok (.aload_n 1, 1) := by decide +kernel
theorem dL_law_1091 : decode cL_law 1091 = .ok (.aload_n 0, 1) := by decide +kernel
theorem dL_law_1092 : decode cL_law 1092 = .ok (.iload 4, 2) := by decide +kernel
theorem dL_law_1094 : decode cL_law 1094 = .ok (.iconst 1, 1) := by decide +kernel
theorem dL_law_1095 : decode cL_law 1095 = .ok (.iadd, 1) := by decide +kernel
theorem dL_law_1096 : decode cL_law 1096 = .ok (.iaload, 1) := by decide +kernel
theorem dL_law_1097 : decode cL_law 1097 = .ok (.aload_n 0, 1) := by decide +kernel
theorem dL_law_1098 : decode cL_law 1098 = .ok (.iload 4, 2) := by decide +kernel
theorem dL_law_1100 : decode cL_law 1100 = .ok (.iconst 2, 1) := by decide +kernel
theorem dL_law_1101 : decode cL_law 1101 = .ok (.iadd, 1) := by decide +kernel
theorem dL_law_1102 : decode cL_law 1102 = .ok (.iaload, 1) := by decide +kernel
theorem dL_law_1103 : decode cL_law 1103 = .ok (.aload_n 3, 1) := by decide +kernel
theorem dL_law_1104 : decode cL_law 1104 = .ok (.invokestatic 162, 3) := by decide +kernel
theorem dL_law_1107 : decode cL_law 1107 = .ok (.istore 5, 2) := by decide +kernel
theorem dL_law_1109 : decode cL_law 1109 = .ok (.aload_n 2, 1) := by decide +kernel
theorem dL_law_1110 : decode cL_law 1110 = .ok (.aload_n 0, 1) := by decide +kernel
theorem dL_law_1111 : decode cL_law 1111 = .ok (.iload 4, 2) := by decide +kernel
theorem dL_law_1113 : decode cL_law 1113 = .ok (.iconst 1, 1) := by decide +kernel
theorem dL_law_1114 : decode cL_law 1114 = .ok (.iadd, 1) := by decide +kernel
theorem dL_law_1115 : decode cL_law 1115 = .ok (.iaload, 1) := by decide +kernel
theorem dL_law_1116 : decode cL_law 1116 = .ok (.aload_n 0, 1) := by decide +kernel
theorem dL_law_1117 : decode cL_law 1117 = .ok (.iload 4, 2) := by decide +kernel
theorem dL_law_1119 : decode cL_law 1119 = .ok (.iconst 2, 1) := by decide +kernel
theorem dL_law_1120 : decode cL_law 1120 = .ok (.iadd, 1) := by decide +kernel
theorem dL_law_1121 : decode cL_law 1121 = .ok (.iaload, 1) := by decide +kernel
theorem dL_law_1122 : decode cL_law 1122 = .ok (.invokevirtual 164, 3) := by decide +kernel
theorem dL_law_1125 : decode cL_law 1125 = .ok (.istore 6, 2) := by decide +kernel
theorem dL_law_1127 : decode cL_law 1127 = .ok (.aload_n 2, 1) := by decide +kernel
theorem dL_law_1128 : decode cL_law 1128 = .ok (.invokevirtual 113, 3) := by decide +kernel
theorem dL_law_1131 : decode cL_law 1131 = .ok (.iload 5, 2) := by decide +kernel
theorem dL_law_1133 : decode cL_law 1133 = .ok (.if_icmp .eq 5, 3) := by decide +kernel
theorem dL_law_1138 : decode cL_law 1138 = .ok (.iload 5, 2) := by decide +kernel
theorem dL_law_1140 : decode cL_law 1140 = .ok (.ifCond .ne 15, 3) := by decide +kernel
theorem dL_law_1155 : decode cL_law 1155 = .ok (.goto 1165, 3) := by decide +kernel
theorem dL_law_1158 : decode cL_law 1158 = .ok (.aload_n 1, 1) := by decide +kernel
theorem dL_law_1159 : decode cL_law 1159 = .ok (.aload_n 0, 1) := by decide +kernel
theorem dL_law_1160 : decode cL_law 1160 = .ok (.iload 4, 2) := by decide +kernel
theorem dL_law_1162 : decode cL_law 1162 = .ok (.iconst 1, 1) := by decide +kernel
theorem dL_law_1163 : decode cL_law 1163 = .ok (.iadd, 1) := by decide +kernel
theorem dL_law_1164 : decode cL_law 1164 = .ok (.iaload, 1) := by decide +kernel
theorem dL_law_1165 : decode cL_law 1165 = .ok (.aload_n 3, 1) := by decide +kernel
theorem dL_law_1166 : decode cL_law 1166 = .ok (.invokestatic 165, 3) := by decide +kernel
theorem dL_law_1169 : decode cL_law 1169 = .ok (.istore 5, 2) := by decide +kernel
theorem dL_law_1171 : decode cL_law 1171 = .ok (.aload_n 2, 1) := by decide +kernel
theorem dL_law_1172 : decode cL_law 1172 = .ok (.aload_n 0, 1) := by decide +kernel
theorem dL_law_1173 : decode cL_law 1173 = .ok (.iload 4, 2) := by decide +kernel
theorem dL_law_1175 : decode cL_law 1175 = .ok (.iconst 1, 1) := by decide +kernel
theorem dL_law_1176 : decode cL_law 1176 = .ok (.iadd, 1) := by decide +kernel
theorem dL_law_1177 : decode cL_law 1177 = .ok (.iaload, 1) := by decide +kernel
theorem dL_law_1178 : decode cL_law 1178 = .ok (.invokevirtual 167, 3) := by decide +kernel
theorem dL_law_1181 : decode cL_law 1181 = .ok (.istore 6, 2) := by decide +kernel
theorem dL_law_1183 : decode cL_law 1183 = .ok (.aload_n 2, 1) := by decide +kernel
theorem dL_law_1184 : decode cL_law 1184 = .ok (.invokevirtual 113, 3) := by decide +kernel
theorem dL_law_1187 : decode cL_law 1187 = .ok (.iload 5, 2) := by decide +kernel
theorem dL_law_1189 : decode cL_law 1189 = .ok (.if_icmp .eq 5, 3) := by decide +kernel
theorem dL_law_1194 : decode cL_law 1194 = .ok (.iload 5, 2) := by decide +kernel
theorem dL_law_1196 : decode cL_law 1196 = .ok (.ifCond .ne 15, 3) := by decide +kernel
theorem dL_law_1199 : decode cL_law 1199 = .ok (.aload_n 3, 1) := by decide +kernel
theorem dL_law_1200 : decode cL_law 1200 = .ok (.iconst 0, 1) := by decide +kernel
theorem dL_law_1201 : decode cL_law 1201 = .ok (.laload, 1) := by decide +kernel
theorem dL_law_1202 : decode cL_law 1202 = .ok (.iload 6, 2) := by decide +kernel
theorem dL_law_1204 : decode cL_law 1204 = .ok (.i2l, 1) := by decide +kernel
theorem dL_law_1205 : decode cL_law 1205 = .ok (.lcmp, 1) := by decide +kernel
theorem dL_law_1206 : decode cL_law 1206 = .ok (.ifCond .eq 5, 3) := by decide +kernel
theorem dL_law_1211 : decode cL_law 1211 = .ok (.goto 1109, 3) := by decide +kernel
theorem dL_law_1214 : decode cL_law 1214 = .ok (.aload_n 1, 1) := by decide +kernel
theorem dL_law_1215 : decode cL_law 1215 = .ok (.aload_n 0, 1) := by decide +kernel
theorem dL_law_1216 : decode cL_law 1216 = .ok (.iload 4, 2) := by decide +kernel
theorem dL_law_1218 : decode cL_law 1218 = .ok (.iconst 1, 1) := by decide +kernel
theorem dL_law_1219 : decode cL_law 1219 = .ok (.iadd, 1) := by decide +kernel
theorem dL_law_1220 : decode cL_law 1220 = .ok (.iaload, 1) := by decide +kernel
theorem dL_law_1221 : decode cL_law 1221 = .ok (.aload_n 0, 1) := by decide +kernel
theorem dL_law_1222 : decode cL_law 1222 = .ok (.iload 4, 2) := by decide +kernel
theorem dL_law_1224 : decode cL_law 1224 = .ok (.iconst 2, 1) := by decide +kernel
theorem dL_law_1225 : decode cL_law 1225 = .ok (.iadd, 1) := by decide +kernel
theorem dL_law_1226 : decode cL_law 1226 = .ok (.iaload, 1) := by decide +kernel
theorem dL_law_1227 : decode cL_law 1227 = .ok (.aload_n 3, 1) := by decide +kernel
theorem dL_law_1228 : decode cL_law 1228 = .ok (.invokestatic 168, 3) := by decide +kernel
theorem dL_law_1231 : decode cL_law 1231 = .ok (.istore 5, 2) := by decide +kernel
theorem dL_law_1233 : decode cL_law 1233 = .ok (.aload_n 2, 1) := by decide +kernel
theorem dL_law_1234 : decode cL_law 1234 = .ok (.aload_n 0, 1) := by decide +kernel
theorem dL_law_1235 : decode cL_law 1235 = .ok (.iload 4, 2) := by decide +kernel
theorem dL_law_1237 : decode cL_law 1237 = .ok (.iconst 1, 1) := by decide +kernel
theorem dL_law_1238 : decode cL_law 1238 = .ok (.iadd, 1) := by decide +kernel
theorem dL_law_1239 : decode cL_law 1239 = .ok (.iaload, 1) := by decide +kernel
theorem dL_law_1240 : decode cL_law 1240 = .ok (.aload_n 0, 1) := by decide +kernel
theorem dL_law_1241 : decode cL_law 1241 = .ok (.iload 4, 2) := by decide +kernel
theorem dL_law_1243 : decode cL_law 1243 = .ok (.iconst 2, 1) := by decide +kernel
theorem dL_law_1244 : decode cL_law 1244 = .ok (.iadd, 1) := by decide +kernel
theorem dL_law_1245 : decode cL_law 1245 = .ok (.iaload, 1) := by decide +kernel
theorem dL_law_1246 : decode cL_law 1246 = .ok (.invokevirtual 170, 3) := by decide +kernel
theorem dL_law_1249 : decode cL_law 1249 = .ok (.istore 6, 2) := by decide +kernel
theorem dL_law_1251 : decode cL_law 1251 = .ok (.aload_n 2, 1) := by decide +kernel
theorem dL_law_1252 : decode cL_law 1252 = .ok (.invokevirtual 113, 3) := by decide +kernel
theorem dL_law_1255 : decode cL_law 1255 = .ok (.iload 5, 2) := by decide +kernel
theorem dL_law_1257 : decode cL_law 1257 = .ok (.if_icmp .eq 5, 3) := by decide +kernel
theorem dL_law_1262 : decode cL_law 1262 = .ok (.iload 5, 2) := by decide +kernel
theorem dL_law_1264 : decode cL_law 1264 = .ok (.ifCond .ne 15, 3) := by decide +kernel
theorem dL_law_1279 : decode cL_law 1279 = .ok (.goto 1041, 3) := by decide +kernel
theorem dL_law_1282 : decode cL_law 1282 = .ok (.aload_n 1, 1) := by decide +kernel
theorem dL_law_1283 : decode cL_law 1283 = .ok (.aload_n 0, 1) := by decide +kernel
theorem dL_law_1284 : decode cL_law 1284 = .ok (.iload 4, 2) := by decide +kernel
theorem dL_law_1286 : decode cL_law 1286 = .ok (.iconst 1, 1) := by decide +kernel
theorem dL_law_1287 : decode cL_law 1287 = .ok (.iadd, 1) := by decide +kernel
theorem dL_law_1288 : decode cL_law 1288 = .ok (.iaload, 1) := by decide +kernel
theorem dL_law_1289 : decode cL_law 1289 = .ok (.ifCond .eq 7, 3) := by decide +kernel
theorem dL_law_1292 : decode cL_law 1292 = .ok (.iconst 1, 1) := by decide +kernel
theorem dL_law_1293 : decode cL_law 1293 = .ok (.goto 4, 3) := by decide +kernel
theorem dL_law_1296 : decode cL_law 1296 = .ok (.iconst 0, 1) := by decide +kernel
theorem dL_law_1297 : decode cL_law 1297 = .ok (.invokevirtual 171, 3) := by decide +kernel
theorem dL_law_1300 : decode cL_law 1300 = .ok (.aload_n 2, 1) := by decide +kernel
theorem dL_law_1301 : decode cL_law 1301 = .ok (.aload_n 0, 1) := by decide +kernel
theorem dL_law_1302 : decode cL_law 1302 = .ok (.iload 4, 2) := by decide +kernel
theorem dL_law_1304 : decode cL_law 1304 = .ok (.iconst 1, 1) := by decide +kernel
theorem dL_law_1305 : decode cL_law 1305 = .ok (.iadd, 1) := by decide +kernel
theorem dL_law_1306 : decode cL_law 1306 = .ok (.iaload, 1) := by decide +kernel
theorem dL_law_1307 : decode cL_law 1307 = .ok (.ifCond .eq 7, 3) := by decide +kernel
theorem dL_law_1310 : decode cL_law 1310 = .ok (.iconst 1, 1) := by decide +kernel
theorem dL_law_1311 : decode cL_law 1311 = .ok (.goto 4, 3) := by decide +kernel
theorem dL_law_1314 : decode cL_law 1314 = .ok (.iconst 0, 1) := by decide +kernel
theorem dL_law_1315 : decode cL_law 1315 = .ok (.invokevirtual 175, 3) := by decide +kernel
theorem dL_law_1318 : decode cL_law 1318 = .ok (.if_icmp .eq 1002, 3) := by decide +kernel
set_option maxHeartbeats 8000000 in
set_option maxRecDepth 100000 in
theorem arm_12 {p : Program} {l : Launch} {e : Env} {s : State} {m : MethodId} {below : List Frame} {meth : Method} {c : Code} {b : Nat} {xs : Nat → Int32} {D : va_G} {K : Nat → ClassId} {sa : Nat × Nat × Nat} {H : Heap} {locs : List Loc} {L : List Nat} {f : Nat → va_E} {Ψ : Nat → Nat} {x m_ o : Nat} {ls : Array Slot} (hls : l.stackTraces = false) (A : LwC p s m meth c b xs) (B : LwW D K sa s H locs L f Ψ x m_ o) (hl : lv_has ls 7 [(0, .ref b), (1, .ref x), (2, .ref m_), (3, .ref o), (4, .int 0)]) : W p l e room_1 s m #[Value.ref b] below meth c H locs 1258 28357 (lw_Z below #[Value.ref b] s) (F0 m 966 ls []) := by
  obtain ⟨C, hX, hbl, hrt, hlk⟩ := id A
  obtain ⟨w, hT, ⟨hm_x, ht_x⟩, ⟨hm_m, ht_m⟩, ⟨hm_o, ht_o, g0, hf_o⟩, hno_6, hno_7, z4, hno_4⟩ := B
  have hx := C.1
  have hb := C.2.1
  have n0 : (0 : Int32).toInt = 0 := by decide
  have n1 : (1 : Int32).toInt = 1 := by decide
  refine lv_aload_n hx hb dL_law_966 rfl (lv_at hl 1 rfl) ?_
  refine lv_aload_n hx hb dL_law_967 rfl (lv_at hl 0 rfl) ?_
  refine lv_iload hx hb dL_law_968 (lv_at hl 4 rfl) ?_
  refine lv_iconst (v := 1) hx hb dL_law_970 (by decide) ?_
  refine lv_iadd hx hb dL_law_971 ?_
  refine lv_topi (fun y1 ey1 => ?_)
  obtain rfl : y1 = 1 := ey1.trans (by decide)
  refine t_sld hx hb hX hbl w (j := 1) (by decide) (vp_in_iff.mpr ⟨by decide, by decide⟩) dL_law_972 ?_
  refine lv_aload_n hx hb dL_law_973 rfl (lv_at hl 0 rfl) ?_
  refine lv_iload hx hb dL_law_974 (lv_at hl 4 rfl) ?_
  refine lv_iconst (v := 2) hx hb dL_law_976 (by decide) ?_
  refine lv_iadd hx hb dL_law_977 ?_
  refine lv_topi (fun y2 ey2 => ?_)
  obtain rfl : y2 = 2 := ey2.trans (by decide)
  refine t_sld hx hb hX hbl w (j := 2) (by decide) (vp_in_iff.mpr ⟨by decide, by decide⟩) dL_law_978 ?_
  refine lv_aload_n hx hb dL_law_979 rfl (lv_at hl 3 rfl) ?_
  refine t_callH (n := 4) C w (c_L_tells l hls D K _ sa _ L _ Ψ (hT.mono (gof_sub rfl)) x hm_x ht_x (xs 1) (xs 2)  o hm_o ht_o g0 hf_o) gw_932 gw_930 gw_931 gw_0 ⟨by decide, by decide, by decide +kernel⟩ rfl rfl ⟨Nat.le_of_ble_eq_true rfl, Nat.le_of_ble_eq_true rfl⟩ rfl hl.1 rfl (Nat.le_of_ble_eq_true rfl) dL_law_980 ⟨Nat.le_of_ble_eq_true rfl, Nat.le_of_ble_eq_true rfl⟩ (fun v u H locs hp w => ?_)
  obtain ⟨r1, Ψ2, L2, f2, g, rfl, rfl, hT2, hE2, ht_o2, hf_o2, hal⟩ := hp
  have hnm : ¬ (fun q9 => q9 = o) m_ := fun e9 => by have e9 : m_ = o := e9; rw [e9, ht_o] at ht_m; exact absurd ht_m (by decide)
  have hsp := hE2.sp hm_m hnm
  have ht_m := hsp.2.1.trans ht_m
  have hm_m := hsp.1
  have hm_o := (hE2.1 o hm_o).1
  have hno_7 := hno_7.call hE2 (by decide) (fun b e9 h9 => by have e9 : b = o := e9; rw [e9, ht_o2] at h9; exact absurd h9 (by decide))
  clear hT hno_6 hno_4 hm_x ht_x hf_o ht_o hnm hsp
  have hT := hT2
  have ht_o := ht_o2
  have hf_o := hf_o2
  clear hT2 ht_o2 hf_o2
  refine lv_istore (lv' := [(5, .int r1), (0, .ref b), (1, .ref x), (2, .ref m_), (3, .ref o), (4, .int 0)]) hx hb dL_law_983 hl (by decide) rfl (fun ls hl => ?_)
  refine lv_aload_n hx hb dL_law_985 rfl (lv_at hl 3 rfl) ?_
  refine lv_aload_n hx hb dL_law_986 rfl (lv_at hl 1 rfl) ?_
  refine lv_iload hx hb dL_law_987 (lv_at hl 5 rfl) ?_
  refine lv_iconst (v := 1) hx hb dL_law_989 (by decide) ?_
  refine lv_iadd hx hb dL_law_990 ?_
  refine lv_topi (fun y3 ey3 => ?_)
  obtain rfl : y3 = 1 := ey3.trans (by decide)
  refine t_sld hx hb hX hbl w (j := 1) (by decide) (vp_in_iff.mpr ⟨by decide, by decide⟩) dL_law_991 ?_
  refine lv_aload_n hx hb dL_law_992 rfl (lv_at hl 1 rfl) ?_
  refine lv_iload hx hb dL_law_993 (lv_at hl 5 rfl) ?_
  refine lv_iconst (v := 2) hx hb dL_law_995 (by decide) ?_
  refine lv_iadd hx hb dL_law_996 ?_
  refine lv_topi (fun y4 ey4 => ?_)
  obtain rfl : y4 = 2 := ey4.trans (by decide)
  refine t_sld hx hb hX hbl w (j := 2) (by decide) (vp_in_iff.mpr ⟨by decide, by decide⟩) dL_law_997 ?_
  refine t_callV (n := 2) C w hT hm_m ht_m (by decide) rfl rfl (c_X7_tells l D K _ sa _ L2 _ Ψ2 hT m_ hm_m ht_m (xs 1) (xs 2) (fun b c h1 h2 h3 h4 => (hno_7 b h1 h3).trans (hno_7 c h2 h4).symm)) gw_1441 gw_1438 gw_1439 gw_1440 gw_8 ⟨by decide, by decide, by decide +kernel⟩ rfl rfl ⟨Nat.le_of_ble_eq_true rfl, Nat.le_of_ble_eq_true rfl⟩ rfl hl.1 rfl (Nat.le_of_ble_eq_true rfl) dL_law_998 ⟨Nat.le_of_ble_eq_true rfl, Nat.le_of_ble_eq_true rfl⟩ (fun v u H locs hp w => ?_)
  obtain ⟨r2, th, f3, rfl, rfl, hT3, hR3, hbl2⟩ := hp
  have hf_o := (hR3 o hm_o ht_o).trans hf_o
  clear hT
  have hT := hT3
  clear hT3
  rcases hal with ⟨rfl, v1, hg, (⟨rfl, ha0⟩ | ⟨rfl, ha0⟩)⟩ | ⟨rfl, ha0⟩
  ·
    rcases hbl2 with ⟨rfl, rfl, hb0⟩ | ⟨rfl, rfl, hb0⟩ | ⟨rfl, rfl, hb0⟩
    ·
      exfalso
      omega
    ·
      refine lv_istore (lv' := [(6, .int 0), (5, .int 0), (0, .ref b), (1, .ref x), (2, .ref m_), (3, .ref o), (4, .int 0)]) hx hb dL_law_1001 hl (by decide) rfl (fun ls hl => ?_)
      refine lv_aload_n hx hb dL_law_1003 rfl (lv_at hl 4 rfl) ?_
      refine t_callV (n := 0) C w hT hm_m ht_m (by decide) rfl rfl (c_X7_thrown l D K _ sa _ L2 _ Ψ2 0 hT m_ hm_m ht_m) gw_1332 gw_1329 gw_1330 gw_1331 gw_8 ⟨by decide, by decide, by decide +kernel⟩ rfl rfl ⟨Nat.le_of_ble_eq_true rfl, Nat.le_of_ble_eq_true rfl⟩ rfl hl.1 rfl (Nat.le_of_ble_eq_true rfl) dL_law_1004 ⟨Nat.le_of_ble_eq_true rfl, Nat.le_of_ble_eq_true rfl⟩ (fun v u H locs hp w => ?_)
      obtain ⟨rfl, rfl⟩ := hp
      refine lv_iload hx hb dL_law_1007 (lv_at hl 1 rfl) ?_
      refine lv_icmp_eq (tgt := 1014) hx hb dL_law_1009 (by decide) (fun _ => ?_) (fun c0 => absurd c0 (by decide))
      refine lv_iload hx hb dL_law_1014 (lv_at hl 1 rfl) ?_
      refine lv_if_ne (tgt := 1031) hx hb dL_law_1016 (by decide) (fun c0 => absurd c0 (by decide)) (fun _ => ?_)
      refine lv_aload_n hx hb dL_law_1019 rfl (lv_at hl 5 rfl) ?_
      refine lv_iconst (v := 0) hx hb dL_law_1020 (by decide) ?_
      refine t_laldR C w hm_o hf_o hg dL_law_1021 ?_
      refine lv_iload hx hb dL_law_1022 (lv_at hl 0 rfl) ?_
      refine lv_i2l (v := (0 : Int32).toInt64) hx hb dL_law_1024 rfl ?_
      refine W.lcmp hx hb dL_law_1025 ?_
      refine lv_topi (fun y5 ey5 => ?_)
      obtain rfl : y5 = 0 := ey5.trans (lg_cmp_self _)
      refine lv_if_eq (tgt := 1031) hx hb dL_law_1026 (by decide) (fun _ => ?_) (fun c0 => absurd c0 (by decide))
      refine lv_goto (tgt := 2320) hx hb dL_law_1031 (by decide) ?_
      exact law_end A w (Nat.le_of_ble_eq_true rfl) (Nat.le_of_ble_eq_true rfl) (lv_sub hl [6, 2] rfl)
    ·
      exfalso
      omega
  ·
    rcases hbl2 with ⟨rfl, rfl, hb0⟩ | ⟨rfl, rfl, hb0⟩ | ⟨rfl, rfl, hb0⟩
    ·
      exfalso
      omega
    ·
      exfalso
      omega
    ·
      refine lv_istore (lv' := [(6, .int 1), (5, .int 0), (0, .ref b), (1, .ref x), (2, .ref m_), (3, .ref o), (4, .int 0)]) hx hb dL_law_1001 hl (by decide) rfl (fun ls hl => ?_)
      refine lv_aload_n hx hb dL_law_1003 rfl (lv_at hl 4 rfl) ?_
      refine t_callV (n := 0) C w hT hm_m ht_m (by decide) rfl rfl (c_X7_thrown l D K _ sa _ L2 _ Ψ2 0 hT m_ hm_m ht_m) gw_1332 gw_1329 gw_1330 gw_1331 gw_8 ⟨by decide, by decide, by decide +kernel⟩ rfl rfl ⟨Nat.le_of_ble_eq_true rfl, Nat.le_of_ble_eq_true rfl⟩ rfl hl.1 rfl (Nat.le_of_ble_eq_true rfl) dL_law_1004 ⟨Nat.le_of_ble_eq_true rfl, Nat.le_of_ble_eq_true rfl⟩ (fun v u H locs hp w => ?_)
      obtain ⟨rfl, rfl⟩ := hp
      refine lv_iload hx hb dL_law_1007 (lv_at hl 1 rfl) ?_
      refine lv_icmp_eq (tgt := 1014) hx hb dL_law_1009 (by decide) (fun _ => ?_) (fun c0 => absurd c0 (by decide))
      refine lv_iload hx hb dL_law_1014 (lv_at hl 1 rfl) ?_
      refine lv_if_ne (tgt := 1031) hx hb dL_law_1016 (by decide) (fun c0 => absurd c0 (by decide)) (fun _ => ?_)
      refine lv_aload_n hx hb dL_law_1019 rfl (lv_at hl 5 rfl) ?_
      refine lv_iconst (v := 0) hx hb dL_law_1020 (by decide) ?_
      refine t_laldR C w hm_o hf_o hg dL_law_1021 ?_
      refine lv_iload hx hb dL_law_1022 (lv_at hl 0 rfl) ?_
      refine lv_i2l (v := (1 : Int32).toInt64) hx hb dL_law_1024 rfl ?_
      refine W.lcmp hx hb dL_law_1025 ?_
      refine lv_topi (fun y5 ey5 => ?_)
      obtain rfl : y5 = 0 := ey5.trans (lg_cmp_self _)
      refine lv_if_eq (tgt := 1031) hx hb dL_law_1026 (by decide) (fun _ => ?_) (fun c0 => absurd c0 (by decide))
      refine lv_goto (tgt := 2320) hx hb dL_law_1031 (by decide) ?_
      exact law_end A w (Nat.le_of_ble_eq_true rfl) (Nat.le_of_ble_eq_true rfl) (lv_sub hl [6, 2] rfl)
  ·
    rcases hbl2 with ⟨rfl, rfl, hb0⟩ | ⟨rfl, rfl, hb0⟩ | ⟨rfl, rfl, hb0⟩
    ·
      refine lv_istore (lv' := [(6, .int 0), (5, .int 1), (0, .ref b), (1, .ref x), (2, .ref m_), (3, .ref o), (4, .int 0)]) hx hb dL_law_1001 hl (by decide) rfl (fun ls hl => ?_)
      refine lv_aload_n hx hb dL_law_1003 rfl (lv_at hl 4 rfl) ?_
      refine t_callV (n := 0) C w hT hm_m ht_m (by decide) rfl rfl (c_X7_thrown l D K _ sa _ L2 _ Ψ2 1 hT m_ hm_m ht_m) gw_1332 gw_1329 gw_1330 gw_1331 gw_8 ⟨by decide, by decide, by decide +kernel⟩ rfl rfl ⟨Nat.le_of_ble_eq_true rfl, Nat.le_of_ble_eq_true rfl⟩ rfl hl.1 rfl (Nat.le_of_ble_eq_true rfl) dL_law_1004 ⟨Nat.le_of_ble_eq_true rfl, Nat.le_of_ble_eq_true rfl⟩ (fun v u H locs hp w => ?_)
      obtain ⟨rfl, rfl⟩ := hp
      refine lv_iload hx hb dL_law_1007 (lv_at hl 1 rfl) ?_
      refine lv_icmp_eq (tgt := 1014) hx hb dL_law_1009 (by decide) (fun _ => ?_) (fun c0 => absurd c0 (by decide))
      refine lv_iload hx hb dL_law_1014 (lv_at hl 1 rfl) ?_
      refine lv_if_ne (tgt := 1031) hx hb dL_law_1016 (by decide) (fun _ => ?_) (fun c0 => absurd c0 (by decide))
      refine lv_goto (tgt := 2320) hx hb dL_law_1031 (by decide) ?_
      exact law_end A w (Nat.le_of_ble_eq_true rfl) (Nat.le_of_ble_eq_true rfl) (lv_sub hl [6, 2] rfl)
    ·
      exfalso
      omega
    ·
      exfalso
      omega
set_option maxHeartbeats 8000000 in
set_option maxRecDepth 100000 in
theorem arm_13 {p : Program} {l : Launch} {e : Env} {s : State} {m : MethodId} {below : List Frame} {meth : Method} {c : Code} {b : Nat} {xs : Nat → Int32} {D : va_G} {K : Nat → ClassId} {sa : Nat × Nat × Nat} {H : Heap} {locs : List Loc} {L : List Nat} {f : Nat → va_E} {Ψ : Nat → Nat} {x m_ o : Nat} {ls : Array Slot} (hls : l.stackTraces = false) (A : LwC p s m meth c b xs) (B : LwW D K sa s H locs L f Ψ x m_ o) (hl : lv_has ls 7 [(0, .ref b), (1, .ref x), (2, .ref m_), (3, .ref o), (4, .int 0)]) : W p l e room_1 s m #[Value.ref b] below meth c H locs 1258 28357 (lw_Z below #[Value.ref b] s) (F0 m 1034 ls []) := by
  obtain ⟨C, hX, hbl, hrt, hlk⟩ := id A
  obtain ⟨w, hT, ⟨hm_x, ht_x⟩, ⟨hm_m, ht_m⟩, ⟨hm_o, ht_o, g0, hf_o⟩, hno_6, hno_7, z4, hno_4⟩ := B
  have hx := C.1
  have hb := C.2.1
  have n0 : (0 : Int32).toInt = 0 := by decide
  have n1 : (1 : Int32).toInt = 1 := by decide
  refine lv_aload_n hx hb dL_law_1034 rfl (lv_at hl 1 rfl) ?_
  refine lv_aload_n hx hb dL_law_1035 rfl (lv_at hl 0 rfl) ?_
  refine lv_iload hx hb dL_law_1036 (lv_at hl 4 rfl) ?_
  refine lv_iconst (v := 1) hx hb dL_law_1038 (by decide) ?_
  refine lv_iadd hx hb dL_law_1039 ?_
  refine lv_topi (fun y1 ey1 => ?_)
  obtain rfl : y1 = 1 := ey1.trans (by decide)
  refine t_sld hx hb hX hbl w (j := 1) (by decide) (vp_in_iff.mpr ⟨by decide, by decide⟩) dL_law_1040 ?_
  refine lv_aload_n hx hb dL_law_1041 rfl (lv_at hl 3 rfl) ?_
  refine t_callH (n := 3) C w (c_L_attempt l hls D K _ sa _ L _ Ψ (hT.mono (gof_sub rfl)) x hm_x ht_x (xs 1)  o hm_o ht_o g0 hf_o) gw_939 gw_937 gw_938 gw_0 ⟨by decide, by decide, by decide +kernel⟩ rfl rfl ⟨Nat.le_of_ble_eq_true rfl, Nat.le_of_ble_eq_true rfl⟩ rfl hl.1 rfl (Nat.le_of_ble_eq_true rfl) dL_law_1042 ⟨Nat.le_of_ble_eq_true rfl, Nat.le_of_ble_eq_true rfl⟩ (fun v u H locs hp w => ?_)
  obtain ⟨r1, Ψ2, L2, f2, g, rfl, rfl, hT2, hE2, ht_o2, hf_o2, hal⟩ := hp
  have hnm : ¬ (fun q9 => q9 = o) m_ := fun e9 => by have e9 : m_ = o := e9; rw [e9, ht_o] at ht_m; exact absurd ht_m (by decide)
  have hsp := hE2.sp hm_m hnm
  have ht_m := hsp.2.1.trans ht_m
  have hm_m := hsp.1
  have hm_o := (hE2.1 o hm_o).1
  have hno_7 := hno_7.call hE2 (by decide) (fun b e9 h9 => by have e9 : b = o := e9; rw [e9, ht_o2] at h9; exact absurd h9 (by decide))
  clear hT hno_6 hno_4 hm_x ht_x hf_o ht_o hnm hsp
  have hT := hT2
  have ht_o := ht_o2
  have hf_o := hf_o2
  clear hT2 ht_o2 hf_o2
  refine lv_istore (lv' := [(5, .int r1), (0, .ref b), (1, .ref x), (2, .ref m_), (3, .ref o), (4, .int 0)]) hx hb dL_law_1045 hl (by decide) rfl (fun ls hl => ?_)
  refine lv_aload_n hx hb dL_law_1047 rfl (lv_at hl 3 rfl) ?_
  refine lv_aload_n hx hb dL_law_1048 rfl (lv_at hl 1 rfl) ?_
  refine lv_iload hx hb dL_law_1049 (lv_at hl 5 rfl) ?_
  refine lv_iconst (v := 1) hx hb dL_law_1051 (by decide) ?_
  refine lv_iadd hx hb dL_law_1052 ?_
  refine lv_topi (fun y2 ey2 => ?_)
  obtain rfl : y2 = 1 := ey2.trans (by decide)
  refine t_sld hx hb hX hbl w (j := 1) (by decide) (vp_in_iff.mpr ⟨by decide, by decide⟩) dL_law_1053 ?_
  refine t_callV (n := 1) C w hT hm_m ht_m (by decide) rfl rfl (c_X7_attempt l D K _ sa _ L2 _ Ψ2 hT m_ hm_m ht_m (xs 1) (fun b c h1 h2 h3 h4 => (hno_7 b h1 h3).trans (hno_7 c h2 h4).symm)) gw_1515 gw_1512 gw_1513 gw_1514 gw_8 ⟨by decide, by decide, by decide +kernel⟩ rfl rfl ⟨Nat.le_of_ble_eq_true rfl, Nat.le_of_ble_eq_true rfl⟩ rfl hl.1 rfl (Nat.le_of_ble_eq_true rfl) dL_law_1054 ⟨Nat.le_of_ble_eq_true rfl, Nat.le_of_ble_eq_true rfl⟩ (fun v u H locs hp w => ?_)
  obtain ⟨r2, th, Ψ3, L3, f3, rfl, rfl, hT3, hE3, hbl2⟩ := hp
  have hsp := hE3.sp hm_m (fun e9 => e9)
  have ht_m := hsp.2.1.trans ht_m
  have hm_m := hsp.1
  have hsp := hE3.sp hm_o (fun e9 => e9)
  have hf_o := (hsp.2.2 ht_o).trans hf_o
  have ht_o := hsp.2.1.trans ht_o
  have hm_o := hsp.1
  clear hT
  have hT := hT3
  clear hT3
  rcases hal with ⟨rfl, v1, hg, ⟨rfl, ha0, ha1⟩⟩ | ⟨rfl, ha0⟩
  ·
    rcases hbl2 with ⟨rfl, rfl, hb0⟩ | ⟨rfl, rfl, hb0, hb1⟩
    ·
      exfalso
      omega
    ·
      refine lv_istore (lv' := [(6, .int 0), (5, .int 0), (0, .ref b), (1, .ref x), (2, .ref m_), (3, .ref o), (4, .int 0)]) hx hb dL_law_1057 hl (by decide) rfl (fun ls hl => ?_)
      refine lv_aload_n hx hb dL_law_1059 rfl (lv_at hl 4 rfl) ?_
      refine t_callV (n := 0) C w hT hm_m ht_m (by decide) rfl rfl (c_X7_thrown l D K _ sa _ L3 _ Ψ3 0 hT m_ hm_m ht_m) gw_1332 gw_1329 gw_1330 gw_1331 gw_8 ⟨by decide, by decide, by decide +kernel⟩ rfl rfl ⟨Nat.le_of_ble_eq_true rfl, Nat.le_of_ble_eq_true rfl⟩ rfl hl.1 rfl (Nat.le_of_ble_eq_true rfl) dL_law_1060 ⟨Nat.le_of_ble_eq_true rfl, Nat.le_of_ble_eq_true rfl⟩ (fun v u H locs hp w => ?_)
      obtain ⟨rfl, rfl⟩ := hp
      refine lv_iload hx hb dL_law_1063 (lv_at hl 1 rfl) ?_
      refine lv_icmp_eq (tgt := 1070) hx hb dL_law_1065 (by decide) (fun _ => ?_) (fun c0 => absurd c0 (by decide))
      refine lv_iload hx hb dL_law_1070 (lv_at hl 1 rfl) ?_
      refine lv_if_ne (tgt := 1087) hx hb dL_law_1072 (by decide) (fun c0 => absurd c0 (by decide)) (fun _ => ?_)
      refine lv_aload_n hx hb dL_law_1075 rfl (lv_at hl 5 rfl) ?_
      refine lv_iconst (v := 0) hx hb dL_law_1076 (by decide) ?_
      refine t_laldR C w hm_o hf_o hg dL_law_1077 ?_
      refine lv_iload hx hb dL_law_1078 (lv_at hl 0 rfl) ?_
      refine lv_i2l (v := (0 : Int32).toInt64) hx hb dL_law_1080 rfl ?_
      refine W.lcmp hx hb dL_law_1081 ?_
      refine lv_topi (fun y3 ey3 => ?_)
      obtain rfl : y3 = 0 := ey3.trans (lg_cmp_self _)
      refine lv_if_eq (tgt := 1087) hx hb dL_law_1082 (by decide) (fun _ => ?_) (fun c0 => absurd c0 (by decide))
      refine lv_goto (tgt := 2320) hx hb dL_law_1087 (by decide) ?_
      exact law_end A w (Nat.le_of_ble_eq_true rfl) (Nat.le_of_ble_eq_true rfl) (lv_sub hl [6, 2] rfl)
  ·
    rcases hbl2 with ⟨rfl, rfl, hb0⟩ | ⟨rfl, rfl, hb0, hb1⟩
    ·
      refine lv_istore (lv' := [(6, .int 0), (5, .int 1), (0, .ref b), (1, .ref x), (2, .ref m_), (3, .ref o), (4, .int 0)]) hx hb dL_law_1057 hl (by decide) rfl (fun ls hl => ?_)
      refine lv_aload_n hx hb dL_law_1059 rfl (lv_at hl 4 rfl) ?_
      refine t_callV (n := 0) C w hT hm_m ht_m (by decide) rfl rfl (c_X7_thrown l D K _ sa _ L3 _ Ψ3 1 hT m_ hm_m ht_m) gw_1332 gw_1329 gw_1330 gw_1331 gw_8 ⟨by decide, by decide, by decide +kernel⟩ rfl rfl ⟨Nat.le_of_ble_eq_true rfl, Nat.le_of_ble_eq_true rfl⟩ rfl hl.1 rfl (Nat.le_of_ble_eq_true rfl) dL_law_1060 ⟨Nat.le_of_ble_eq_true rfl, Nat.le_of_ble_eq_true rfl⟩ (fun v u H locs hp w => ?_)
      obtain ⟨rfl, rfl⟩ := hp
      refine lv_iload hx hb dL_law_1063 (lv_at hl 1 rfl) ?_
      refine lv_icmp_eq (tgt := 1070) hx hb dL_law_1065 (by decide) (fun _ => ?_) (fun c0 => absurd c0 (by decide))
      refine lv_iload hx hb dL_law_1070 (lv_at hl 1 rfl) ?_
      refine lv_if_ne (tgt := 1087) hx hb dL_law_1072 (by decide) (fun _ => ?_) (fun c0 => absurd c0 (by decide))
      refine lv_goto (tgt := 2320) hx hb dL_law_1087 (by decide) ?_
      exact law_end A w (Nat.le_of_ble_eq_true rfl) (Nat.le_of_ble_eq_true rfl) (lv_sub hl [6, 2] rfl)
    ·
      exfalso
      omega
set_option maxHeartbeats 8000000 in
set_option maxRecDepth 100000 in
theorem arm_14 {p : Program} {l : Launch} {e : Env} {s : State} {m : MethodId} {below : List Frame} {meth : Method} {c : Code} {b : Nat} {xs : Nat → Int32} {D : va_G} {K : Nat → ClassId} {sa : Nat × Nat × Nat} {H : Heap} {locs : List Loc} {L : List Nat} {f : Nat → va_E} {Ψ : Nat → Nat} {x m_ o : Nat} {ls : Array Slot} (hls : l.stackTraces = false) (A : LwC p s m meth c b xs) (B : LwW D K sa s H locs L f Ψ x m_ o) (hl : lv_has ls 7 [(0, .ref b), (1, .ref x), (2, .ref m_), (3, .ref o), (4, .int 0)]) : W p l e room_1 s m #[Value.ref b] below meth c H locs 1258 28357 (lw_Z below #[Value.ref b] s) (F0 m 1090 ls []) := by
  obtain ⟨C, hX, hbl, hrt, hlk⟩ := id A
  obtain ⟨w, hT, ⟨hm_x, ht_x⟩, ⟨hm_m, ht_m⟩, ⟨hm_o, ht_o, g0, hf_o⟩, hno_6, hno_7, z4, hno_4⟩ := B
  have hx := C.1
  have hb := C.2.1
  have n0 : (0 : Int32).toInt = 0 := by decide
  have n1 : (1 : Int32).toInt = 1 := by decide
  refine lv_aload_n hx hb dL_law_1090 rfl (lv_at hl 1 rfl) ?_
  refine lv_aload_n hx hb dL_law_1091 rfl (lv_at hl 0 rfl) ?_
  refine lv_iload hx hb dL_law_1092 (lv_at hl 4 rfl) ?_
  refine lv_iconst (v := 1) hx hb dL_law_1094 (by decide) ?_
  refine lv_iadd hx hb dL_law_1095 ?_
  refine lv_topi (fun y1 ey1 => ?_)
  obtain rfl : y1 = 1 := ey1.trans (by decide)
  refine t_sld hx hb hX hbl w (j := 1) (by decide) (vp_in_iff.mpr ⟨by decide, by decide⟩) dL_law_1096 ?_
  refine lv_aload_n hx hb dL_law_1097 rfl (lv_at hl 0 rfl) ?_
  refine lv_iload hx hb dL_law_1098 (lv_at hl 4 rfl) ?_
  refine lv_iconst (v := 2) hx hb dL_law_1100 (by decide) ?_
  refine lv_iadd hx hb dL_law_1101 ?_
  refine lv_topi (fun y2 ey2 => ?_)
  obtain rfl : y2 = 2 := ey2.trans (by decide)
  refine t_sld hx hb hX hbl w (j := 2) (by decide) (vp_in_iff.mpr ⟨by decide, by decide⟩) dL_law_1102 ?_
  refine lv_aload_n hx hb dL_law_1103 rfl (lv_at hl 3 rfl) ?_
  refine t_callH (n := 4) C w (c_L_record l hls D K _ sa _ L _ Ψ (hT.mono (gof_sub rfl)) x hm_x ht_x (xs 1) (xs 2)  o hm_o ht_o g0 hf_o) gw_982 gw_980 gw_981 gw_0 ⟨by decide, by decide, by decide +kernel⟩ rfl rfl ⟨Nat.le_of_ble_eq_true rfl, Nat.le_of_ble_eq_true rfl⟩ rfl hl.1 rfl (Nat.le_of_ble_eq_true rfl) dL_law_1104 ⟨Nat.le_of_ble_eq_true rfl, Nat.le_of_ble_eq_true rfl⟩ (fun v u H locs hp w => ?_)
  obtain ⟨r1, Ψ2, L2, f2, g, rfl, rfl, hT2, hE2, ht_o2, hf_o2, hal⟩ := hp
  have hnm : ¬ (fun q9 => q9 = o) m_ := fun e9 => by have e9 : m_ = o := e9; rw [e9, ht_o] at ht_m; exact absurd ht_m (by decide)
  have hsp := hE2.sp hm_m hnm
  have ht_m := hsp.2.1.trans ht_m
  have hm_m := hsp.1
  have hm_o := (hE2.1 o hm_o).1
  have hno_7 := hno_7.call hE2 (by decide) (fun b e9 h9 => by have e9 : b = o := e9; rw [e9, ht_o2] at h9; exact absurd h9 (by decide))
  clear hT hno_6 hno_4 hm_x ht_x hf_o ht_o hnm hsp
  have hT := hT2
  have ht_o := ht_o2
  have hf_o := hf_o2
  clear hT2 ht_o2 hf_o2
  refine lv_istore (lv' := [(5, .int r1), (0, .ref b), (1, .ref x), (2, .ref m_), (3, .ref o), (4, .int 0)]) hx hb dL_law_1107 hl (by decide) rfl (fun ls hl => ?_)
  refine lv_aload_n hx hb dL_law_1109 rfl (lv_at hl 3 rfl) ?_
  refine lv_aload_n hx hb dL_law_1110 rfl (lv_at hl 1 rfl) ?_
  refine lv_iload hx hb dL_law_1111 (lv_at hl 5 rfl) ?_
  refine lv_iconst (v := 1) hx hb dL_law_1113 (by decide) ?_
  refine lv_iadd hx hb dL_law_1114 ?_
  refine lv_topi (fun y3 ey3 => ?_)
  obtain rfl : y3 = 1 := ey3.trans (by decide)
  refine t_sld hx hb hX hbl w (j := 1) (by decide) (vp_in_iff.mpr ⟨by decide, by decide⟩) dL_law_1115 ?_
  refine lv_aload_n hx hb dL_law_1116 rfl (lv_at hl 1 rfl) ?_
  refine lv_iload hx hb dL_law_1117 (lv_at hl 5 rfl) ?_
  refine lv_iconst (v := 2) hx hb dL_law_1119 (by decide) ?_
  refine lv_iadd hx hb dL_law_1120 ?_
  refine lv_topi (fun y4 ey4 => ?_)
  obtain rfl : y4 = 2 := ey4.trans (by decide)
  refine t_sld hx hb hX hbl w (j := 2) (by decide) (vp_in_iff.mpr ⟨by decide, by decide⟩) dL_law_1121 ?_
  refine t_callV (n := 2) C w hT hm_m ht_m (by decide) rfl rfl (c_X7_record l D K _ sa _ L2 _ Ψ2 hT m_ hm_m ht_m (xs 1) (xs 2) (fun b c h1 h2 h3 h4 => (hno_7 b h1 h3).trans (hno_7 c h2 h4).symm)) gw_1561 gw_1558 gw_1559 gw_1560 gw_8 ⟨by decide, by decide, by decide +kernel⟩ rfl rfl ⟨Nat.le_of_ble_eq_true rfl, Nat.le_of_ble_eq_true rfl⟩ rfl hl.1 rfl (Nat.le_of_ble_eq_true rfl) dL_law_1122 ⟨Nat.le_of_ble_eq_true rfl, Nat.le_of_ble_eq_true rfl⟩ (fun v u H locs hp w => ?_)
  obtain ⟨r2, th, f3, rfl, rfl, hT3, hR3, hbl2⟩ := hp
  have hf_o := (hR3 o hm_o ht_o).trans hf_o
  clear hT
  have hT := hT3
  clear hT3
  rcases hal with rfl
  obtain ⟨rfl, rfl⟩ := hbl2
  refine lv_istore (lv' := [(6, .int 0), (5, .int 1), (0, .ref b), (1, .ref x), (2, .ref m_), (3, .ref o), (4, .int 0)]) hx hb dL_law_1125 hl (by decide) rfl (fun ls hl => ?_)
  refine lv_aload_n hx hb dL_law_1127 rfl (lv_at hl 4 rfl) ?_
  refine t_callV (n := 0) C w hT hm_m ht_m (by decide) rfl rfl (c_X7_thrown l D K _ sa _ L2 _ Ψ2 1 hT m_ hm_m ht_m) gw_1332 gw_1329 gw_1330 gw_1331 gw_8 ⟨by decide, by decide, by decide +kernel⟩ rfl rfl ⟨Nat.le_of_ble_eq_true rfl, Nat.le_of_ble_eq_true rfl⟩ rfl hl.1 rfl (Nat.le_of_ble_eq_true rfl) dL_law_1128 ⟨Nat.le_of_ble_eq_true rfl, Nat.le_of_ble_eq_true rfl⟩ (fun v u H locs hp w => ?_)
  obtain ⟨rfl, rfl⟩ := hp
  refine lv_iload hx hb dL_law_1131 (lv_at hl 1 rfl) ?_
  refine lv_icmp_eq (tgt := 1138) hx hb dL_law_1133 (by decide) (fun _ => ?_) (fun c0 => absurd c0 (by decide))
  refine lv_iload hx hb dL_law_1138 (lv_at hl 1 rfl) ?_
  refine lv_if_ne (tgt := 1155) hx hb dL_law_1140 (by decide) (fun _ => ?_) (fun c0 => absurd c0 (by decide))
  refine lv_goto (tgt := 2320) hx hb dL_law_1155 (by decide) ?_
  exact law_end A w (Nat.le_of_ble_eq_true rfl) (Nat.le_of_ble_eq_true rfl) (lv_sub hl [6, 2] rfl)
set_option maxHeartbeats 8000000 in
set_option maxRecDepth 100000 in
theorem arm_15 {p : Program} {l : Launch} {e : Env} {s : State} {m : MethodId} {below : List Frame} {meth : Method} {c : Code} {b : Nat} {xs : Nat → Int32} {D : va_G} {K : Nat → ClassId} {sa : Nat × Nat × Nat} {H : Heap} {locs : List Loc} {L : List Nat} {f : Nat → va_E} {Ψ : Nat → Nat} {x m_ o : Nat} {ls : Array Slot} (hls : l.stackTraces = false) (A : LwC p s m meth c b xs) (B : LwW D K sa s H locs L f Ψ x m_ o) (hl : lv_has ls 7 [(0, .ref b), (1, .ref x), (2, .ref m_), (3, .ref o), (4, .int 0)]) : W p l e room_1 s m #[Value.ref b] below meth c H locs 1258 28357 (lw_Z below #[Value.ref b] s) (F0 m 1158 ls []) := by
  obtain ⟨C, hX, hbl, hrt, hlk⟩ := id A
  obtain ⟨w, hT, ⟨hm_x, ht_x⟩, ⟨hm_m, ht_m⟩, ⟨hm_o, ht_o, g0, hf_o⟩, hno_6, hno_7, z4, hno_4⟩ := B
  have hx := C.1
  have hb := C.2.1
  have n0 : (0 : Int32).toInt = 0 := by decide
  have n1 : (1 : Int32).toInt = 1 := by decide
  refine lv_aload_n hx hb dL_law_1158 rfl (lv_at hl 1 rfl) ?_
  refine lv_aload_n hx hb dL_law_1159 rfl (lv_at hl 0 rfl) ?_
  refine lv_iload hx hb dL_law_1160 (lv_at hl 4 rfl) ?_
  refine lv_iconst (v := 1) hx hb dL_law_1162 (by decide) ?_
  refine lv_iadd hx hb dL_law_1163 ?_
  refine lv_topi (fun y1 ey1 => ?_)
  obtain rfl : y1 = 1 := ey1.trans (by decide)
  refine t_sld hx hb hX hbl w (j := 1) (by decide) (vp_in_iff.mpr ⟨by decide, by decide⟩) dL_law_1164 ?_
  refine lv_aload_n hx hb dL_law_1165 rfl (lv_at hl 3 rfl) ?_
  refine t_callH (n := 3) C w (c_L_hand l hls D K _ sa _ L _ Ψ (hT.mono (gof_sub rfl)) x hm_x ht_x (xs 1) (fun b c h1 h2 h3 h4 => (hno_6 b h1 h3).trans (hno_6 c h2 h4).symm) o hm_o ht_o g0 hf_o) gw_993 gw_991 gw_992 gw_0 ⟨by decide, by decide, by decide +kernel⟩ rfl rfl ⟨Nat.le_of_ble_eq_true rfl, Nat.le_of_ble_eq_true rfl⟩ rfl hl.1 rfl (Nat.le_of_ble_eq_true rfl) dL_law_1166 ⟨Nat.le_of_ble_eq_true rfl, Nat.le_of_ble_eq_true rfl⟩ (fun v u H locs hp w => ?_)
  obtain ⟨r1, Ψ2, L2, f2, g, rfl, rfl, hT2, hE2, ht_o2, hf_o2, hal⟩ := hp
  have hnm : ¬ (fun q9 => q9 = o) m_ := fun e9 => by have e9 : m_ = o := e9; rw [e9, ht_o] at ht_m; exact absurd ht_m (by decide)
  have hsp := hE2.sp hm_m hnm
  have ht_m := hsp.2.1.trans ht_m
  have hm_m := hsp.1
  have hm_o := (hE2.1 o hm_o).1
  have hno_7 := hno_7.call hE2 (by decide) (fun b e9 h9 => by have e9 : b = o := e9; rw [e9, ht_o2] at h9; exact absurd h9 (by decide))
  clear hT hno_6 hno_4 hm_x ht_x hf_o ht_o hnm hsp
  have hT := hT2
  have ht_o := ht_o2
  have hf_o := hf_o2
  clear hT2 ht_o2 hf_o2
  refine lv_istore (lv' := [(5, .int r1), (0, .ref b), (1, .ref x), (2, .ref m_), (3, .ref o), (4, .int 0)]) hx hb dL_law_1169 hl (by decide) rfl (fun ls hl => ?_)
  refine lv_aload_n hx hb dL_law_1171 rfl (lv_at hl 3 rfl) ?_
  refine lv_aload_n hx hb dL_law_1172 rfl (lv_at hl 1 rfl) ?_
  refine lv_iload hx hb dL_law_1173 (lv_at hl 5 rfl) ?_
  refine lv_iconst (v := 1) hx hb dL_law_1175 (by decide) ?_
  refine lv_iadd hx hb dL_law_1176 ?_
  refine lv_topi (fun y2 ey2 => ?_)
  obtain rfl : y2 = 1 := ey2.trans (by decide)
  refine t_sld hx hb hX hbl w (j := 1) (by decide) (vp_in_iff.mpr ⟨by decide, by decide⟩) dL_law_1177 ?_
  refine t_callV (n := 1) C w hT hm_m ht_m (by decide) rfl rfl (c_X7_hand l D K _ sa _ L2 _ Ψ2 hT m_ hm_m ht_m (xs 1) (fun b c h1 h2 h3 h4 => (hno_7 b h1 h3).trans (hno_7 c h2 h4).symm)) gw_1565 gw_1562 gw_1563 gw_1564 gw_8 ⟨by decide, by decide, by decide +kernel⟩ rfl rfl ⟨Nat.le_of_ble_eq_true rfl, Nat.le_of_ble_eq_true rfl⟩ rfl hl.1 rfl (Nat.le_of_ble_eq_true rfl) dL_law_1178 ⟨Nat.le_of_ble_eq_true rfl, Nat.le_of_ble_eq_true rfl⟩ (fun v u H locs hp w => ?_)
  obtain ⟨r2, th, f3, rfl, rfl, hT3, hR3, hbl2⟩ := hp
  have hf_o := (hR3 o hm_o ht_o).trans hf_o
  clear hT
  have hT := hT3
  clear hT3
  rcases hal with ⟨rfl, v1, hg, ⟨rfl, ha0⟩⟩ | ⟨rfl, ha0⟩
  ·
    rcases hbl2 with ⟨rfl, rfl, hb0⟩ | ⟨rfl, rfl, hb0⟩
    ·
      exfalso
      omega
    ·
      refine lv_istore (lv' := [(6, .int 0), (5, .int 0), (0, .ref b), (1, .ref x), (2, .ref m_), (3, .ref o), (4, .int 0)]) hx hb dL_law_1181 hl (by decide) rfl (fun ls hl => ?_)
      refine lv_aload_n hx hb dL_law_1183 rfl (lv_at hl 4 rfl) ?_
      refine t_callV (n := 0) C w hT hm_m ht_m (by decide) rfl rfl (c_X7_thrown l D K _ sa _ L2 _ Ψ2 0 hT m_ hm_m ht_m) gw_1332 gw_1329 gw_1330 gw_1331 gw_8 ⟨by decide, by decide, by decide +kernel⟩ rfl rfl ⟨Nat.le_of_ble_eq_true rfl, Nat.le_of_ble_eq_true rfl⟩ rfl hl.1 rfl (Nat.le_of_ble_eq_true rfl) dL_law_1184 ⟨Nat.le_of_ble_eq_true rfl, Nat.le_of_ble_eq_true rfl⟩ (fun v u H locs hp w => ?_)
      obtain ⟨rfl, rfl⟩ := hp
      refine lv_iload hx hb dL_law_1187 (lv_at hl 1 rfl) ?_
      refine lv_icmp_eq (tgt := 1194) hx hb dL_law_1189 (by decide) (fun _ => ?_) (fun c0 => absurd c0 (by decide))
      refine lv_iload hx hb dL_law_1194 (lv_at hl 1 rfl) ?_
      refine lv_if_ne (tgt := 1211) hx hb dL_law_1196 (by decide) (fun c0 => absurd c0 (by decide)) (fun _ => ?_)
      refine lv_aload_n hx hb dL_law_1199 rfl (lv_at hl 5 rfl) ?_
      refine lv_iconst (v := 0) hx hb dL_law_1200 (by decide) ?_
      refine t_laldR C w hm_o hf_o hg dL_law_1201 ?_
      refine lv_iload hx hb dL_law_1202 (lv_at hl 0 rfl) ?_
      refine lv_i2l (v := (0 : Int32).toInt64) hx hb dL_law_1204 rfl ?_
      refine W.lcmp hx hb dL_law_1205 ?_
      refine lv_topi (fun y3 ey3 => ?_)
      obtain rfl : y3 = 0 := ey3.trans (lg_cmp_self _)
      refine lv_if_eq (tgt := 1211) hx hb dL_law_1206 (by decide) (fun _ => ?_) (fun c0 => absurd c0 (by decide))
      refine lv_goto (tgt := 2320) hx hb dL_law_1211 (by decide) ?_
      exact law_end A w (Nat.le_of_ble_eq_true rfl) (Nat.le_of_ble_eq_true rfl) (lv_sub hl [6, 2] rfl)
  ·
    rcases hbl2 with ⟨rfl, rfl, hb0⟩ | ⟨rfl, rfl, hb0⟩
    ·
      refine lv_istore (lv' := [(6, .int 0), (5, .int 1), (0, .ref b), (1, .ref x), (2, .ref m_), (3, .ref o), (4, .int 0)]) hx hb dL_law_1181 hl (by decide) rfl (fun ls hl => ?_)
      refine lv_aload_n hx hb dL_law_1183 rfl (lv_at hl 4 rfl) ?_
      refine t_callV (n := 0) C w hT hm_m ht_m (by decide) rfl rfl (c_X7_thrown l D K _ sa _ L2 _ Ψ2 1 hT m_ hm_m ht_m) gw_1332 gw_1329 gw_1330 gw_1331 gw_8 ⟨by decide, by decide, by decide +kernel⟩ rfl rfl ⟨Nat.le_of_ble_eq_true rfl, Nat.le_of_ble_eq_true rfl⟩ rfl hl.1 rfl (Nat.le_of_ble_eq_true rfl) dL_law_1184 ⟨Nat.le_of_ble_eq_true rfl, Nat.le_of_ble_eq_true rfl⟩ (fun v u H locs hp w => ?_)
      obtain ⟨rfl, rfl⟩ := hp
      refine lv_iload hx hb dL_law_1187 (lv_at hl 1 rfl) ?_
      refine lv_icmp_eq (tgt := 1194) hx hb dL_law_1189 (by decide) (fun _ => ?_) (fun c0 => absurd c0 (by decide))
      refine lv_iload hx hb dL_law_1194 (lv_at hl 1 rfl) ?_
      refine lv_if_ne (tgt := 1211) hx hb dL_law_1196 (by decide) (fun _ => ?_) (fun c0 => absurd c0 (by decide))
      refine lv_goto (tgt := 2320) hx hb dL_law_1211 (by decide) ?_
      exact law_end A w (Nat.le_of_ble_eq_true rfl) (Nat.le_of_ble_eq_true rfl) (lv_sub hl [6, 2] rfl)
    ·
      exfalso
      omega
set_option maxHeartbeats 8000000 in
set_option maxRecDepth 100000 in
theorem arm_16 {p : Program} {l : Launch} {e : Env} {s : State} {m : MethodId} {below : List Frame} {meth : Method} {c : Code} {b : Nat} {xs : Nat → Int32} {D : va_G} {K : Nat → ClassId} {sa : Nat × Nat × Nat} {H : Heap} {locs : List Loc} {L : List Nat} {f : Nat → va_E} {Ψ : Nat → Nat} {x m_ o : Nat} {ls : Array Slot} (hls : l.stackTraces = false) (A : LwC p s m meth c b xs) (B : LwW D K sa s H locs L f Ψ x m_ o) (hl : lv_has ls 7 [(0, .ref b), (1, .ref x), (2, .ref m_), (3, .ref o), (4, .int 0)]) : W p l e room_1 s m #[Value.ref b] below meth c H locs 1258 28357 (lw_Z below #[Value.ref b] s) (F0 m 1214 ls []) := by
  obtain ⟨C, hX, hbl, hrt, hlk⟩ := id A
  obtain ⟨w, hT, ⟨hm_x, ht_x⟩, ⟨hm_m, ht_m⟩, ⟨hm_o, ht_o, g0, hf_o⟩, hno_6, hno_7, z4, hno_4⟩ := B
  have hx := C.1
  have hb := C.2.1
  have n0 : (0 : Int32).toInt = 0 := by decide
  have n1 : (1 : Int32).toInt = 1 := by decide
  refine lv_aload_n hx hb dL_law_1214 rfl (lv_at hl 1 rfl) ?_
  refine lv_aload_n hx hb dL_law_1215 rfl (lv_at hl 0 rfl) ?_
  refine lv_iload hx hb dL_law_1216 (lv_at hl 4 rfl) ?_
  refine lv_iconst (v := 1) hx hb dL_law_1218 (by decide) ?_
  refine lv_iadd hx hb dL_law_1219 ?_
  refine lv_topi (fun y1 ey1 => ?_)
  obtain rfl : y1 = 1 := ey1.trans (by decide)
  refine t_sld hx hb hX hbl w (j := 1) (by decide) (vp_in_iff.mpr ⟨by decide, by decide⟩) dL_law_1220 ?_
  refine lv_aload_n hx hb dL_law_1221 rfl (lv_at hl 0 rfl) ?_
  refine lv_iload hx hb dL_law_1222 (lv_at hl 4 rfl) ?_
  refine lv_iconst (v := 2) hx hb dL_law_1224 (by decide) ?_
  refine lv_iadd hx hb dL_law_1225 ?_
  refine lv_topi (fun y2 ey2 => ?_)
  obtain rfl : y2 = 2 := ey2.trans (by decide)
  refine t_sld hx hb hX hbl w (j := 2) (by decide) (vp_in_iff.mpr ⟨by decide, by decide⟩) dL_law_1226 ?_
  refine lv_aload_n hx hb dL_law_1227 rfl (lv_at hl 3 rfl) ?_
  refine t_callH (n := 4) C w (c_L_play l hls D K _ sa _ L _ Ψ (hT.mono (gof_sub rfl)) x hm_x ht_x (xs 1) (xs 2)  o hm_o ht_o g0 hf_o) gw_1001 gw_999 gw_1000 gw_0 ⟨by decide, by decide, by decide +kernel⟩ rfl rfl ⟨Nat.le_of_ble_eq_true rfl, Nat.le_of_ble_eq_true rfl⟩ rfl hl.1 rfl (Nat.le_of_ble_eq_true rfl) dL_law_1228 ⟨Nat.le_of_ble_eq_true rfl, Nat.le_of_ble_eq_true rfl⟩ (fun v u H locs hp w => ?_)
  obtain ⟨r1, Ψ2, L2, f2, g, rfl, rfl, hT2, hE2, ht_o2, hf_o2, hal⟩ := hp
  have hnm : ¬ (fun q9 => q9 = o) m_ := fun e9 => by have e9 : m_ = o := e9; rw [e9, ht_o] at ht_m; exact absurd ht_m (by decide)
  have hsp := hE2.sp hm_m hnm
  have ht_m := hsp.2.1.trans ht_m
  have hm_m := hsp.1
  have hm_o := (hE2.1 o hm_o).1
  have hno_7 := hno_7.call hE2 (by decide) (fun b e9 h9 => by have e9 : b = o := e9; rw [e9, ht_o2] at h9; exact absurd h9 (by decide))
  clear hT hno_6 hno_4 hm_x ht_x hf_o ht_o hnm hsp
  have hT := hT2
  have ht_o := ht_o2
  have hf_o := hf_o2
  clear hT2 ht_o2 hf_o2
  refine lv_istore (lv' := [(5, .int r1), (0, .ref b), (1, .ref x), (2, .ref m_), (3, .ref o), (4, .int 0)]) hx hb dL_law_1231 hl (by decide) rfl (fun ls hl => ?_)
  refine lv_aload_n hx hb dL_law_1233 rfl (lv_at hl 3 rfl) ?_
  refine lv_aload_n hx hb dL_law_1234 rfl (lv_at hl 1 rfl) ?_
  refine lv_iload hx hb dL_law_1235 (lv_at hl 5 rfl) ?_
  refine lv_iconst (v := 1) hx hb dL_law_1237 (by decide) ?_
  refine lv_iadd hx hb dL_law_1238 ?_
  refine lv_topi (fun y3 ey3 => ?_)
  obtain rfl : y3 = 1 := ey3.trans (by decide)
  refine t_sld hx hb hX hbl w (j := 1) (by decide) (vp_in_iff.mpr ⟨by decide, by decide⟩) dL_law_1239 ?_
  refine lv_aload_n hx hb dL_law_1240 rfl (lv_at hl 1 rfl) ?_
  refine lv_iload hx hb dL_law_1241 (lv_at hl 5 rfl) ?_
  refine lv_iconst (v := 2) hx hb dL_law_1243 (by decide) ?_
  refine lv_iadd hx hb dL_law_1244 ?_
  refine lv_topi (fun y4 ey4 => ?_)
  obtain rfl : y4 = 2 := ey4.trans (by decide)
  refine t_sld hx hb hX hbl w (j := 2) (by decide) (vp_in_iff.mpr ⟨by decide, by decide⟩) dL_law_1245 ?_
  refine t_callV (n := 2) C w hT hm_m ht_m (by decide) rfl rfl (c_X7_play l D K _ sa _ L2 _ Ψ2 hT m_ hm_m ht_m (xs 1) (xs 2) (fun b c h1 h2 h3 h4 => (hno_7 b h1 h3).trans (hno_7 c h2 h4).symm)) gw_1570 gw_1567 gw_1568 gw_1569 gw_8 ⟨by decide, by decide, by decide +kernel⟩ rfl rfl ⟨Nat.le_of_ble_eq_true rfl, Nat.le_of_ble_eq_true rfl⟩ rfl hl.1 rfl (Nat.le_of_ble_eq_true rfl) dL_law_1246 ⟨Nat.le_of_ble_eq_true rfl, Nat.le_of_ble_eq_true rfl⟩ (fun v u H locs hp w => ?_)
  obtain ⟨r2, th, f3, rfl, rfl, hT3, hR3, hbl2⟩ := hp
  have hf_o := (hR3 o hm_o ht_o).trans hf_o
  clear hT
  have hT := hT3
  clear hT3
  rcases hal with rfl
  obtain ⟨rfl, rfl⟩ := hbl2
  refine lv_istore (lv' := [(6, .int 0), (5, .int 1), (0, .ref b), (1, .ref x), (2, .ref m_), (3, .ref o), (4, .int 0)]) hx hb dL_law_1249 hl (by decide) rfl (fun ls hl => ?_)
  refine lv_aload_n hx hb dL_law_1251 rfl (lv_at hl 4 rfl) ?_
  refine t_callV (n := 0) C w hT hm_m ht_m (by decide) rfl rfl (c_X7_thrown l D K _ sa _ L2 _ Ψ2 1 hT m_ hm_m ht_m) gw_1332 gw_1329 gw_1330 gw_1331 gw_8 ⟨by decide, by decide, by decide +kernel⟩ rfl rfl ⟨Nat.le_of_ble_eq_true rfl, Nat.le_of_ble_eq_true rfl⟩ rfl hl.1 rfl (Nat.le_of_ble_eq_true rfl) dL_law_1252 ⟨Nat.le_of_ble_eq_true rfl, Nat.le_of_ble_eq_true rfl⟩ (fun v u H locs hp w => ?_)
  obtain ⟨rfl, rfl⟩ := hp
  refine lv_iload hx hb dL_law_1255 (lv_at hl 1 rfl) ?_
  refine lv_icmp_eq (tgt := 1262) hx hb dL_law_1257 (by decide) (fun _ => ?_) (fun c0 => absurd c0 (by decide))
  refine lv_iload hx hb dL_law_1262 (lv_at hl 1 rfl) ?_
  refine lv_if_ne (tgt := 1279) hx hb dL_law_1264 (by decide) (fun _ => ?_) (fun c0 => absurd c0 (by decide))
  refine lv_goto (tgt := 2320) hx hb dL_law_1279 (by decide) ?_
  exact law_end A w (Nat.le_of_ble_eq_true rfl) (Nat.le_of_ble_eq_true rfl) (lv_sub hl [6, 2] rfl)
set_option maxHeartbeats 8000000 in
set_option maxRecDepth 100000 in
theorem arm_17 {p : Program} {l : Launch} {e : Env} {s : State} {m : MethodId} {below : List Frame} {meth : Method} {c : Code} {b : Nat} {xs : Nat → Int32} {D : va_G} {K : Nat → ClassId} {sa : Nat × Nat × Nat} {H : Heap} {locs : List Loc} {L : List Nat} {f : Nat → va_E} {Ψ : Nat → Nat} {x m_ o : Nat} {ls : Array Slot} (hls : l.stackTraces = false) (A : LwC p s m meth c b xs) (B : LwW D K sa s H locs L f Ψ x m_ o) (hl : lv_has ls 7 [(0, .ref b), (1, .ref x), (2, .ref m_), (3, .ref o), (4, .int 0)]) : W p l e room_1 s m #[Value.ref b] below meth c H locs 1258 28357 (lw_Z below #[Value.ref b] s) (F0 m 1282 ls []) := by
  obtain ⟨C, hX, hbl, hrt, hlk⟩ := id A
  obtain ⟨w, hT, ⟨hm_x, ht_x⟩, ⟨hm_m, ht_m⟩, ⟨hm_o, ht_o, g0, hf_o⟩, hno_6, hno_7, z4, hno_4⟩ := B
  have hx := C.1
  have hb := C.2.1
  have n0 : (0 : Int32).toInt = 0 := by decide
  have n1 : (1 : Int32).toInt = 1 := by decide
  by_cases hz_1 : (xs 1) = 0
  ·
    refine lv_aload_n hx hb dL_law_1282 rfl (lv_at hl 1 rfl) ?_
    refine lv_aload_n hx hb dL_law_1283 rfl (lv_at hl 0 rfl) ?_
    refine lv_iload hx hb dL_law_1284 (lv_at hl 4 rfl) ?_
    refine lv_iconst (v := 1) hx hb dL_law_1286 (by decide) ?_
    refine lv_iadd hx hb dL_law_1287 ?_
    refine lv_topi (fun y1 ey1 => ?_)
    obtain rfl : y1 = 1 := ey1.trans (by decide)
    refine t_sld hx hb hX hbl w (j := 1) (by decide) (vp_in_iff.mpr ⟨by decide, by decide⟩) dL_law_1288 ?_
    refine lv_if_eq (tgt := 1296) hx hb dL_law_1289 (by decide) (fun _ => ?_) (fun c0 => absurd hz_1 c0)
    refine lv_iconst (v := 0) hx hb dL_law_1296 (by decide) ?_
    refine t_callV (n := 1) C w hT hm_x ht_x (by decide) rfl rfl (c_X6_can l D K _ sa _ L _ Ψ (hT.mono (gof_sub rfl)) x hm_x ht_x 0 ) gw_361 gw_358 gw_359 gw_360 gw_1 ⟨by decide, by decide, by decide +kernel⟩ rfl rfl ⟨Nat.le_of_ble_eq_true rfl, Nat.le_of_ble_eq_true rfl⟩ rfl hl.1 rfl (Nat.le_of_ble_eq_true rfl) dL_law_1297 ⟨Nat.le_of_ble_eq_true rfl, Nat.le_of_ble_eq_true rfl⟩ (fun v u H locs hp w => ?_)
    obtain ⟨r1, f2, rfl, rfl, hT2, hR1, hal⟩ := hp
    clear hT
    have hT := hT2.mono (gof_sub (l2 := gM0) rfl)
    refine lv_aload_n hx hb dL_law_1300 rfl (lv_at hl 2 rfl) ?_
    refine lv_aload_n hx hb dL_law_1301 rfl (lv_at hl 0 rfl) ?_
    refine lv_iload hx hb dL_law_1302 (lv_at hl 4 rfl) ?_
    refine lv_iconst (v := 1) hx hb dL_law_1304 (by decide) ?_
    refine lv_iadd hx hb dL_law_1305 ?_
    refine lv_topi (fun y2 ey2 => ?_)
    obtain rfl : y2 = 1 := ey2.trans (by decide)
    refine t_sld hx hb hX hbl w (j := 1) (by decide) (vp_in_iff.mpr ⟨by decide, by decide⟩) dL_law_1306 ?_
    refine lv_if_eq (tgt := 1314) hx hb dL_law_1307 (by decide) (fun _ => ?_) (fun c0 => absurd hz_1 c0)
    refine lv_iconst (v := 0) hx hb dL_law_1314 (by decide) ?_
    refine t_callV (n := 1) C w hT hm_m ht_m (by decide) rfl rfl (c_X7_can l D K _ sa _ L _ Ψ hT m_ hm_m ht_m 0 (by decide) (by decide) (fun b c h1 h2 h3 h4 => (hno_7 b h1 h3).trans (hno_7 c h2 h4).symm)) gw_1585 gw_1582 gw_1583 gw_1584 gw_8 ⟨by decide, by decide, by decide +kernel⟩ rfl rfl ⟨Nat.le_of_ble_eq_true rfl, Nat.le_of_ble_eq_true rfl⟩ rfl hl.1 rfl (Nat.le_of_ble_eq_true rfl) dL_law_1315 ⟨Nat.le_of_ble_eq_true rfl, Nat.le_of_ble_eq_true rfl⟩ (fun v u H locs hp w => ?_)
    obtain ⟨r2, th, Ψ3, L3, f3, rfl, rfl, hT3, hE3, hbl2⟩ := hp
    have hsp := hE3.sp hm_m (fun e9 => e9)
    have ht_m := hsp.2.1.trans ht_m
    have hm_m := hsp.1
    clear hT
    have hT := hT3
    clear hT3
    rcases hal with rfl
    obtain ⟨rfl, rfl⟩ := hbl2
    refine lv_icmp_eq (tgt := 2320) hx hb dL_law_1318 (by decide) (fun _ => ?_) (fun c0 => absurd c0 (by decide))
    exact law_end A w (Nat.le_of_ble_eq_true rfl) (Nat.le_of_ble_eq_true rfl) (lv_sub hl [4, 0] rfl)
  ·
    refine lv_aload_n hx hb dL_law_1282 rfl (lv_at hl 1 rfl) ?_
    refine lv_aload_n hx hb dL_law_1283 rfl (lv_at hl 0 rfl) ?_
    refine lv_iload hx hb dL_law_1284 (lv_at hl 4 rfl) ?_
    refine lv_iconst (v := 1) hx hb dL_law_1286 (by decide) ?_
    refine lv_iadd hx hb dL_law_1287 ?_
    refine lv_topi (fun y1 ey1 => ?_)
    obtain rfl : y1 = 1 := ey1.trans (by decide)
    refine t_sld hx hb hX hbl w (j := 1) (by decide) (vp_in_iff.mpr ⟨by decide, by decide⟩) dL_law_1288 ?_
    refine lv_if_eq (tgt := 1296) hx hb dL_law_1289 (by decide) (fun c0 => absurd c0 hz_1) (fun _ => ?_)
    refine lv_iconst (v := 1) hx hb dL_law_1292 (by decide) ?_
    refine lv_goto (tgt := 1297) hx hb dL_law_1293 (by decide) ?_
    refine t_callV (n := 1) C w hT hm_x ht_x (by decide) rfl rfl (c_X6_can l D K _ sa _ L _ Ψ (hT.mono (gof_sub rfl)) x hm_x ht_x 1 ) gw_361 gw_358 gw_359 gw_360 gw_1 ⟨by decide, by decide, by decide +kernel⟩ rfl rfl ⟨Nat.le_of_ble_eq_true rfl, Nat.le_of_ble_eq_true rfl⟩ rfl hl.1 rfl (Nat.le_of_ble_eq_true rfl) dL_law_1297 ⟨Nat.le_of_ble_eq_true rfl, Nat.le_of_ble_eq_true rfl⟩ (fun v u H locs hp w => ?_)
    obtain ⟨r1, f2, rfl, rfl, hT2, hR1, hal⟩ := hp
    clear hT
    have hT := hT2.mono (gof_sub (l2 := gM0) rfl)
    refine lv_aload_n hx hb dL_law_1300 rfl (lv_at hl 2 rfl) ?_
    refine lv_aload_n hx hb dL_law_1301 rfl (lv_at hl 0 rfl) ?_
    refine lv_iload hx hb dL_law_1302 (lv_at hl 4 rfl) ?_
    refine lv_iconst (v := 1) hx hb dL_law_1304 (by decide) ?_
    refine lv_iadd hx hb dL_law_1305 ?_
    refine lv_topi (fun y2 ey2 => ?_)
    obtain rfl : y2 = 1 := ey2.trans (by decide)
    refine t_sld hx hb hX hbl w (j := 1) (by decide) (vp_in_iff.mpr ⟨by decide, by decide⟩) dL_law_1306 ?_
    refine lv_if_eq (tgt := 1314) hx hb dL_law_1307 (by decide) (fun c0 => absurd c0 hz_1) (fun _ => ?_)
    refine lv_iconst (v := 1) hx hb dL_law_1310 (by decide) ?_
    refine lv_goto (tgt := 1315) hx hb dL_law_1311 (by decide) ?_
    refine t_callV (n := 1) C w hT hm_m ht_m (by decide) rfl rfl (c_X7_can l D K _ sa _ L _ Ψ hT m_ hm_m ht_m 1 (by decide) (by decide) (fun b c h1 h2 h3 h4 => (hno_7 b h1 h3).trans (hno_7 c h2 h4).symm)) gw_1585 gw_1582 gw_1583 gw_1584 gw_8 ⟨by decide, by decide, by decide +kernel⟩ rfl rfl ⟨Nat.le_of_ble_eq_true rfl, Nat.le_of_ble_eq_true rfl⟩ rfl hl.1 rfl (Nat.le_of_ble_eq_true rfl) dL_law_1315 ⟨Nat.le_of_ble_eq_true rfl, Nat.le_of_ble_eq_true rfl⟩ (fun v u H locs hp w => ?_)
    obtain ⟨r2, th, Ψ3, L3, f3, rfl, rfl, hT3, hE3, hbl2⟩ := hp
    have hsp := hE3.sp hm_m (fun e9 => e9)
    have ht_m := hsp.2.1.trans ht_m
    have hm_m := hsp.1
    clear hT
    have hT := hT3
    clear hT3
    rcases hal with rfl
    obtain ⟨rfl, rfl⟩ := hbl2
    refine lv_icmp_eq (tgt := 2320) hx hb dL_law_1318 (by decide) (fun _ => ?_) (fun c0 => absurd c0 (by decide))
    exact law_end A w (Nat.le_of_ble_eq_true rfl) (Nat.le_of_ble_eq_true rfl) (lv_sub hl [4, 0] rfl)
