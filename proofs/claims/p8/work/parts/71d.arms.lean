theorem dL_law_1246 : decode cL_law 1246 = .ok (.aload_n 1, 1) := by decide +kernel
theorem dL_law_1247 : decode cL_law 1247 = .ok (.aload_n 0, 1) := by decide +kernel
theorem dL_law_1248 : decode cL_law 1248 = .ok (.iload 4, 2) := by decide +kernel
theorem dL_law_1250 : decode cL_law 1250 = .ok (.iconst 1, 1) := by decide +kernel
theorem dL_law_1251 : decode cL_law 1251 = .ok (.iadd, 1) := by decide +kernel
theorem dL_law_1252 : decode cL_law 1252 = .ok (.iaload, 1) := by decide +kernel
theorem dL_law_1253 : decode cL_law 1253 = .ok (.aload_n 0, 1) := by decide +kernel
theorem dL_law_1254 : decode cL_law 1254 = .ok (.iload 4, 2) := by decide +kernel
theorem dL_law_1256 : decode cL_law 1256 = .ok (.iconst 2, 1) := by decide +kernel
theorem dL_law_1257 : decode cL_law 1257 = .ok (.iadd, 1) := by decide +kernel
theorem dL_law_1258 : decode cL_law 1258 = .ok (.iaload, 1) := by decide +kernel
theorem dL_law_1259 : decode cL_law 1259 = .ok (.aload_n 0, 1) := by decide +kernel
theorem dL_law_1260 : decode cL_law 1260 = .ok (.iload 4, 2) := by decide +kernel
theorem dL_law_1262 : decode cL_law 1262 = .ok (.iconst 3, 1) := by decide +kernel
theorem dL_law_1263 : decode cL_law 1263 = .ok (.iadd, 1) := by decide +kernel
theorem dL_law_1264 : decode cL_law 1264 = .ok (.iaload, 1) := by decide +kernel
theorem dL_law_1265 : decode cL_law 1265 = .ok (.aload_n 3, 1) := by decide +kernel
theorem dL_law_1266 : decode cL_law 1266 = .ok (.invokestatic 206, 3) := by decide +kernel
theorem dL_law_1269 : decode cL_law 1269 = .ok (.istore 5, 2) := by decide +kernel
theorem dL_law_1271 : decode cL_law 1271 = .ok (.aload_n 2, 1) := by decide +kernel
theorem dL_law_1272 : decode cL_law 1272 = .ok (.aload_n 0, 1) := by decide +kernel
theorem dL_law_1273 : decode cL_law 1273 = .ok (.iload 4, 2) := by decide +kernel
theorem dL_law_1275 : decode cL_law 1275 = .ok (.iconst 1, 1) := by decide +kernel
theorem dL_law_1276 : decode cL_law 1276 = .ok (.iadd, 1) := by decide +kernel
theorem dL_law_1277 : decode cL_law 1277 = .ok (.iaload, 1) := by decide +kernel
theorem dL_law_1278 : decode cL_law 1278 = .ok (.aload_n 0, 1) := by decide +kernel
theorem dL_law_1279 : decode cL_law 1279 = .ok (.iload 4, 2) := by decide +kernel
theorem dL_law_1281 : decode cL_law 1281 = .ok (.iconst 2, 1) := by decide +kernel
theorem dL_law_1282 : decode cL_law 1282 = .ok (.iadd, 1) := by decide +kernel
theorem dL_law_1283 : decode cL_law 1283 = .ok (.iaload, 1) := by decide +kernel
theorem dL_law_1284 : decode cL_law 1284 = .ok (.aload_n 0, 1) := by decide +kernel
theorem dL_law_1285 : decode cL_law 1285 = .ok (.iload 4, 2) := by decide +kernel
theorem dL_law_1287 : decode cL_law 1287 = .ok (.iconst 3, 1) := by decide +kernel
theorem dL_law_1288 : decode cL_law 1288 = .ok (.iadd, 1) := by decide +kernel
theorem dL_law_1289 : decode cL_law 1289 = .ok (.iaload, 1) := by decide +kernel
theorem dL_law_1290 : decode cL_law 1290 = .ok (.invokevirtual 208, 3) := by decide +kernel
theorem dL_law_1293 : decode cL_law 1293 = .ok (.istore 6, 2) := by decide +kernel
theorem dL_law_1295 : decode cL_law 1295 = .ok (.goto 290, 3) := by decide +kernel
set_option maxHeartbeats 4000000 in
set_option maxRecDepth 100000 in
theorem arm_27 {p : Program} {l : Launch} {e : Env} {s : State} {m : MethodId} {below : List Frame} {meth : Method} {c : Code} {b N : Nat} {xs : Nat → Int32} {D : va_G} {K : Nat → ClassId} {sa : sT} {o i : Nat} {cells slots : Nat} {Q : State → Prop} (hls : l.stackTraces = false) (A : LwC p s m meth c b N xs) (hi : i + 6 ≤ N) {S S1 S2 : fS} {ec : Nat} {v v2 : Int32} (hec : ec = 0 ∨ ec = 1 ∨ ec = 2 ∨ ec = 3) (h1 : F_X6_settle (xs (i + 1)) (xs (i + 2)) (xs (i + 3)) S = some ((ec, v), S1)) (h2 : F_X7_settle (xs (i + 1)) (xs (i + 2)) (xs (i + 3)) S1 = some (v2, S2)) (hc : cells + 6 ≤ 601024) (hs : slots + 307 ≤ 7293033) (kk : LwK D K sa p l e s m below meth c b o i S2 (cells + 6) (slots + 307) Q 1585) : LwK D K sa p l e s m below meth c b o i S cells slots Q 1246 := by
  intro ad n L f H locs ls B hl
  obtain ⟨C, hX, hbl, hrt, hlk, hNm⟩ := A
  obtain ⟨w, hw, hn, hprobe, hmo, hno, g0, hfo⟩ := B
  have hx := C.1
  have hb := C.2.1
  refine lv_aload_n hx hb dL_law_1246 rfl (lv_at hl 1 rfl) ?_
  refine lv_aload_n hx hb dL_law_1247 rfl (lv_at hl 0 rfl) ?_
  refine lv_iload hx hb dL_law_1248 (lv_at hl 4 rfl) ?_
  refine lv_iconst (v := 1) hx hb dL_law_1250 (by decide) ?_
  refine lv_iadd hx hb dL_law_1251 ?_
  rw [show nI i + (1 : Int32) = nI (i + 1) from nI_ad2 i 1]
  refine t_sld hx hb hX hbl w (j := i + 1) (nI_clamp (by omega)) (vp_in_nI (by omega) (by omega)) dL_law_1252 ?_
  refine lv_aload_n hx hb dL_law_1253 rfl (lv_at hl 0 rfl) ?_
  refine lv_iload hx hb dL_law_1254 (lv_at hl 4 rfl) ?_
  refine lv_iconst (v := 2) hx hb dL_law_1256 (by decide) ?_
  refine lv_iadd hx hb dL_law_1257 ?_
  rw [show nI i + (2 : Int32) = nI (i + 2) from nI_ad2 i 2]
  refine t_sld hx hb hX hbl w (j := i + 2) (nI_clamp (by omega)) (vp_in_nI (by omega) (by omega)) dL_law_1258 ?_
  refine lv_aload_n hx hb dL_law_1259 rfl (lv_at hl 0 rfl) ?_
  refine lv_iload hx hb dL_law_1260 (lv_at hl 4 rfl) ?_
  refine lv_iconst (v := 3) hx hb dL_law_1262 (by decide) ?_
  refine lv_iadd hx hb dL_law_1263 ?_
  rw [show nI i + (3 : Int32) = nI (i + 3) from nI_ad2 i 3]
  refine t_sld hx hb hX hbl w (j := i + 3) (nI_clamp (by omega)) (vp_in_nI (by omega) (by omega)) dL_law_1264 ?_
  refine lv_aload_n hx hb dL_law_1265 rfl (lv_at hl 3 rfl) ?_
  refine t_callH (n := 5) C w (c_L_settle l hls D K _ sa _ L f ad n S hw hn hprobe (xs (i + 1)) (xs (i + 2)) (xs (i + 3)) o hmo hno g0 hfo ec hec v S1 h1) gw_1085 gw_1083 gw_1084 gw_0 ⟨by decide, by decide, by decide +kernel⟩ rfl rfl ⟨Nat.le_of_ble_eq_true rfl, Nat.le_of_ble_eq_true rfl⟩ rfl hl.1 rfl (Nat.le_of_ble_eq_true rfl) dL_law_1266 ⟨by show cells + 3 ≤ 601024; omega, by show slots + 18 ≤ 7293033; omega⟩ (fun v9 u H locs hp w => ?_)
  obtain ⟨ad2, L2, f2, g1, rfl, rfl, hw2, hG2, hno2, hfo2, hgv⟩ := hp
  obtain ⟨ad, n, L, f, g0, w, hw, hn, hprobe, hmo, hno, hfo, hl⟩ : ∃ (ad3 : Nat → Nat → Nat) (n3 : Nat × Nat) (L3 : List Nat) (f3 : Nat → va_E) (g3 : Nat → Int64), Wh D K s.heap.size sa s H locs L3 f3 ∧ PW K ad3 (isn n3) S1 L3 f3 ∧ S1.2.2.1 = n3 ∧ 0 < n3.1 ∧ o ∈ L3 ∧ (∀ a i : Nat, isn n3 a i → ad3 a i ≠ o) ∧ f3 o = .inl (K 6, 1, .inr (.inl g3)) ∧ lv_has ls 7 [(0, .ref b), (1, .ref (ad3 0 0)), (2, .ref (ad3 40 0)), (3, .ref o), (4, .int (nI i))] := ⟨ad2, S1.2.2.1, L2, f2, g1, w, hw2, rfl, (hG2.1 25 0 hprobe).1, (hG2.2 o hmo).1, hno2, hfo2, (by rw [(hG2.1 0 0 (isn_f rfl rfl (by decide))).2, (hG2.1 40 0 (isn_f rfl rfl (by decide))).2]; exact hl)⟩
  refine lv_istore (lv' := [(5, .int (if ec = 0 then 0 else if ec = 1 then 3 else if ec = 2 then 2 else 1)), (0, .ref b), (1, .ref (ad 0 0)), (2, .ref (ad 40 0)), (3, .ref o), (4, .int (nI i))]) hx hb dL_law_1269 hl (by decide) rfl (fun ls hl => ?_)
  refine lv_aload_n hx hb dL_law_1271 rfl (lv_at hl 3 rfl) ?_
  refine lv_aload_n hx hb dL_law_1272 rfl (lv_at hl 1 rfl) ?_
  refine lv_iload hx hb dL_law_1273 (lv_at hl 5 rfl) ?_
  refine lv_iconst (v := 1) hx hb dL_law_1275 (by decide) ?_
  refine lv_iadd hx hb dL_law_1276 ?_
  rw [show nI i + (1 : Int32) = nI (i + 1) from nI_ad2 i 1]
  refine t_sld hx hb hX hbl w (j := i + 1) (nI_clamp (by omega)) (vp_in_nI (by omega) (by omega)) dL_law_1277 ?_
  refine lv_aload_n hx hb dL_law_1278 rfl (lv_at hl 1 rfl) ?_
  refine lv_iload hx hb dL_law_1279 (lv_at hl 5 rfl) ?_
  refine lv_iconst (v := 2) hx hb dL_law_1281 (by decide) ?_
  refine lv_iadd hx hb dL_law_1282 ?_
  rw [show nI i + (2 : Int32) = nI (i + 2) from nI_ad2 i 2]
  refine t_sld hx hb hX hbl w (j := i + 2) (nI_clamp (by omega)) (vp_in_nI (by omega) (by omega)) dL_law_1283 ?_
  refine lv_aload_n hx hb dL_law_1284 rfl (lv_at hl 1 rfl) ?_
  refine lv_iload hx hb dL_law_1285 (lv_at hl 5 rfl) ?_
  refine lv_iconst (v := 3) hx hb dL_law_1287 (by decide) ?_
  refine lv_iadd hx hb dL_law_1288 ?_
  rw [show nI i + (3 : Int32) = nI (i + 3) from nI_ad2 i 3]
  refine t_sld hx hb hX hbl w (j := i + 3) (nI_clamp (by omega)) (vp_in_nI (by omega) (by omega)) dL_law_1289 ?_
  refine u_callV (n := 3) C w hw (isn_f rfl rfl (by decide)) rfl rfl rfl (c_X7_settle l D K _ sa _ L _ ad (isn n) (fun _ _ h => h) S1 hw hn (xs (i + 1)) (xs (i + 2)) (xs (i + 3)) v2 S2 h2) gw_1649 gw_1646 gw_1647 gw_1648 gw_8 ⟨by decide, by decide, by decide +kernel⟩ rfl rfl ⟨Nat.le_of_ble_eq_true rfl, Nat.le_of_ble_eq_true rfl⟩ rfl hl.1 rfl (Nat.le_of_ble_eq_true rfl) dL_law_1290 ⟨by show cells + 3 + 0 ≤ 601024; omega, by show slots + 18 + 0 ≤ 7293033; omega⟩ (fun v9 u H locs hp w => ?_)
  obtain ⟨f2, rfl, rfl, hw2, hn2, hk1⟩ := hp
  have hfo := (hk1 o hmo hno).trans hfo
  have hw := hw2
  have hn := hn2
  clear hw2 hn2
  generalize f2 = f at w hw hfo
  refine lv_istore (lv' := [(6, .int v2), (5, .int (if ec = 0 then 0 else if ec = 1 then 3 else if ec = 2 then 2 else 1)), (0, .ref b), (1, .ref (ad 0 0)), (2, .ref (ad 40 0)), (3, .ref o), (4, .int (nI i))]) hx hb dL_law_1293 hl (by decide) rfl (fun ls hl => ?_)
  refine lv_goto (tgt := 1585) hx hb dL_law_1295 (by decide) ?_
  exact W.widen (k := cells + 6) (n := slots + 307) (by omega) (by omega) (kk ad n L f H locs ls ⟨w, hw, hn, hprobe, hmo, hno, _, hfo⟩ (lv_sub hl [2, 3, 4, 5, 6] rfl))
theorem dL_law_1298 : decode cL_law 1298 = .ok (.aload_n 1, 1) := by decide +kernel
theorem dL_law_1299 : decode cL_law 1299 = .ok (.aload_n 0, 1) := by decide +kernel
theorem dL_law_1300 : decode cL_law 1300 = .ok (.iload 4, 2) := by decide +kernel
theorem dL_law_1302 : decode cL_law 1302 = .ok (.iconst 1, 1) := by decide +kernel
theorem dL_law_1303 : decode cL_law 1303 = .ok (.iadd, 1) := by decide +kernel
theorem dL_law_1304 : decode cL_law 1304 = .ok (.iaload, 1) := by decide +kernel
theorem dL_law_1305 : decode cL_law 1305 = .ok (.aload_n 0, 1) := by decide +kernel
theorem dL_law_1306 : decode cL_law 1306 = .ok (.iload 4, 2) := by decide +kernel
theorem dL_law_1308 : decode cL_law 1308 = .ok (.iconst 2, 1) := by decide +kernel
theorem dL_law_1309 : decode cL_law 1309 = .ok (.iadd, 1) := by decide +kernel
theorem dL_law_1310 : decode cL_law 1310 = .ok (.iaload, 1) := by decide +kernel
theorem dL_law_1311 : decode cL_law 1311 = .ok (.aload_n 3, 1) := by decide +kernel
theorem dL_law_1312 : decode cL_law 1312 = .ok (.invokestatic 209, 3) := by decide +kernel
theorem dL_law_1315 : decode cL_law 1315 = .ok (.istore 5, 2) := by decide +kernel
theorem dL_law_1317 : decode cL_law 1317 = .ok (.aload_n 2, 1) := by decide +kernel
theorem dL_law_1318 : decode cL_law 1318 = .ok (.aload_n 0, 1) := by decide +kernel
theorem dL_law_1319 : decode cL_law 1319 = .ok (.iload 4, 2) := by decide +kernel
theorem dL_law_1321 : decode cL_law 1321 = .ok (.iconst 1, 1) := by decide +kernel
theorem dL_law_1322 : decode cL_law 1322 = .ok (.iadd, 1) := by decide +kernel
theorem dL_law_1323 : decode cL_law 1323 = .ok (.iaload, 1) := by decide +kernel
theorem dL_law_1324 : decode cL_law 1324 = .ok (.aload_n 0, 1) := by decide +kernel
theorem dL_law_1325 : decode cL_law 1325 = .ok (.iload 4, 2) := by decide +kernel
theorem dL_law_1327 : decode cL_law 1327 = .ok (.iconst 2, 1) := by decide +kernel
theorem dL_law_1328 : decode cL_law 1328 = .ok (.iadd, 1) := by decide +kernel
theorem dL_law_1329 : decode cL_law 1329 = .ok (.iaload, 1) := by decide +kernel
theorem dL_law_1330 : decode cL_law 1330 = .ok (.invokevirtual 211, 3) := by decide +kernel
theorem dL_law_1333 : decode cL_law 1333 = .ok (.istore 6, 2) := by decide +kernel
theorem dL_law_1335 : decode cL_law 1335 = .ok (.goto 250, 3) := by decide +kernel
set_option maxHeartbeats 4000000 in
set_option maxRecDepth 100000 in
theorem arm_28 {p : Program} {l : Launch} {e : Env} {s : State} {m : MethodId} {below : List Frame} {meth : Method} {c : Code} {b N : Nat} {xs : Nat → Int32} {D : va_G} {K : Nat → ClassId} {sa : sT} {o i : Nat} {cells slots : Nat} {Q : State → Prop} (hls : l.stackTraces = false) (A : LwC p s m meth c b N xs) (hi : i + 6 ≤ N) {S S1 S2 : fS} {ec : Nat} {v v2 : Int32} (hec : ec = 0 ∨ ec = 2 ∨ ec = 3) (h1 : F_X6_back (xs (i + 1)) (xs (i + 2)) S = some ((ec, v), S1)) (h2 : F_X7_back (xs (i + 1)) (xs (i + 2)) S1 = some (v2, S2)) (hc : cells + 6 ≤ 601024) (hs : slots + 307 ≤ 7293033) (kk : LwK D K sa p l e s m below meth c b o i S2 (cells + 6) (slots + 307) Q 1585) : LwK D K sa p l e s m below meth c b o i S cells slots Q 1298 := by
  intro ad n L f H locs ls B hl
  obtain ⟨C, hX, hbl, hrt, hlk, hNm⟩ := A
  obtain ⟨w, hw, hn, hprobe, hmo, hno, g0, hfo⟩ := B
  have hx := C.1
  have hb := C.2.1
  refine lv_aload_n hx hb dL_law_1298 rfl (lv_at hl 1 rfl) ?_
  refine lv_aload_n hx hb dL_law_1299 rfl (lv_at hl 0 rfl) ?_
  refine lv_iload hx hb dL_law_1300 (lv_at hl 4 rfl) ?_
  refine lv_iconst (v := 1) hx hb dL_law_1302 (by decide) ?_
  refine lv_iadd hx hb dL_law_1303 ?_
  rw [show nI i + (1 : Int32) = nI (i + 1) from nI_ad2 i 1]
  refine t_sld hx hb hX hbl w (j := i + 1) (nI_clamp (by omega)) (vp_in_nI (by omega) (by omega)) dL_law_1304 ?_
  refine lv_aload_n hx hb dL_law_1305 rfl (lv_at hl 0 rfl) ?_
  refine lv_iload hx hb dL_law_1306 (lv_at hl 4 rfl) ?_
  refine lv_iconst (v := 2) hx hb dL_law_1308 (by decide) ?_
  refine lv_iadd hx hb dL_law_1309 ?_
  rw [show nI i + (2 : Int32) = nI (i + 2) from nI_ad2 i 2]
  refine t_sld hx hb hX hbl w (j := i + 2) (nI_clamp (by omega)) (vp_in_nI (by omega) (by omega)) dL_law_1310 ?_
  refine lv_aload_n hx hb dL_law_1311 rfl (lv_at hl 3 rfl) ?_
  refine t_callH (n := 4) C w (c_L_back l hls D K _ sa _ L f ad n S hw hn hprobe (xs (i + 1)) (xs (i + 2)) o hmo hno g0 hfo ec hec v S1 h1) gw_1096 gw_1094 gw_1095 gw_0 ⟨by decide, by decide, by decide +kernel⟩ rfl rfl ⟨Nat.le_of_ble_eq_true rfl, Nat.le_of_ble_eq_true rfl⟩ rfl hl.1 rfl (Nat.le_of_ble_eq_true rfl) dL_law_1312 ⟨by show cells + 2 ≤ 601024; omega, by show slots + 12 ≤ 7293033; omega⟩ (fun v9 u H locs hp w => ?_)
  obtain ⟨ad2, L2, f2, g1, rfl, rfl, hw2, hG2, hno2, hfo2, hgv⟩ := hp
  obtain ⟨ad, n, L, f, g0, w, hw, hn, hprobe, hmo, hno, hfo, hl⟩ : ∃ (ad3 : Nat → Nat → Nat) (n3 : Nat × Nat) (L3 : List Nat) (f3 : Nat → va_E) (g3 : Nat → Int64), Wh D K s.heap.size sa s H locs L3 f3 ∧ PW K ad3 (isn n3) S1 L3 f3 ∧ S1.2.2.1 = n3 ∧ 0 < n3.1 ∧ o ∈ L3 ∧ (∀ a i : Nat, isn n3 a i → ad3 a i ≠ o) ∧ f3 o = .inl (K 6, 1, .inr (.inl g3)) ∧ lv_has ls 7 [(0, .ref b), (1, .ref (ad3 0 0)), (2, .ref (ad3 40 0)), (3, .ref o), (4, .int (nI i))] := ⟨ad2, S1.2.2.1, L2, f2, g1, w, hw2, rfl, (hG2.1 25 0 hprobe).1, (hG2.2 o hmo).1, hno2, hfo2, (by rw [(hG2.1 0 0 (isn_f rfl rfl (by decide))).2, (hG2.1 40 0 (isn_f rfl rfl (by decide))).2]; exact hl)⟩
  refine lv_istore (lv' := [(5, .int (if ec = 0 then 0 else if ec = 2 then 2 else 1)), (0, .ref b), (1, .ref (ad 0 0)), (2, .ref (ad 40 0)), (3, .ref o), (4, .int (nI i))]) hx hb dL_law_1315 hl (by decide) rfl (fun ls hl => ?_)
  refine lv_aload_n hx hb dL_law_1317 rfl (lv_at hl 3 rfl) ?_
  refine lv_aload_n hx hb dL_law_1318 rfl (lv_at hl 1 rfl) ?_
  refine lv_iload hx hb dL_law_1319 (lv_at hl 5 rfl) ?_
  refine lv_iconst (v := 1) hx hb dL_law_1321 (by decide) ?_
  refine lv_iadd hx hb dL_law_1322 ?_
  rw [show nI i + (1 : Int32) = nI (i + 1) from nI_ad2 i 1]
  refine t_sld hx hb hX hbl w (j := i + 1) (nI_clamp (by omega)) (vp_in_nI (by omega) (by omega)) dL_law_1323 ?_
  refine lv_aload_n hx hb dL_law_1324 rfl (lv_at hl 1 rfl) ?_
  refine lv_iload hx hb dL_law_1325 (lv_at hl 5 rfl) ?_
  refine lv_iconst (v := 2) hx hb dL_law_1327 (by decide) ?_
  refine lv_iadd hx hb dL_law_1328 ?_
  rw [show nI i + (2 : Int32) = nI (i + 2) from nI_ad2 i 2]
  refine t_sld hx hb hX hbl w (j := i + 2) (nI_clamp (by omega)) (vp_in_nI (by omega) (by omega)) dL_law_1329 ?_
  refine u_callV (n := 2) C w hw (isn_f rfl rfl (by decide)) rfl rfl rfl (c_X7_back l D K _ sa _ L _ ad (isn n) (fun _ _ h => h) S1 hw hn (xs (i + 1)) (xs (i + 2)) v2 S2 h2) gw_1657 gw_1654 gw_1655 gw_1656 gw_8 ⟨by decide, by decide, by decide +kernel⟩ rfl rfl ⟨Nat.le_of_ble_eq_true rfl, Nat.le_of_ble_eq_true rfl⟩ rfl hl.1 rfl (Nat.le_of_ble_eq_true rfl) dL_law_1330 ⟨by show cells + 2 + 0 ≤ 601024; omega, by show slots + 12 + 0 ≤ 7293033; omega⟩ (fun v9 u H locs hp w => ?_)
  obtain ⟨f2, rfl, rfl, hw2, hn2, hk1⟩ := hp
  have hfo := (hk1 o hmo hno).trans hfo
  have hw := hw2
  have hn := hn2
  clear hw2 hn2
  generalize f2 = f at w hw hfo
  refine lv_istore (lv' := [(6, .int v2), (5, .int (if ec = 0 then 0 else if ec = 2 then 2 else 1)), (0, .ref b), (1, .ref (ad 0 0)), (2, .ref (ad 40 0)), (3, .ref o), (4, .int (nI i))]) hx hb dL_law_1333 hl (by decide) rfl (fun ls hl => ?_)
  refine lv_goto (tgt := 1585) hx hb dL_law_1335 (by decide) ?_
  exact W.widen (k := cells + 6) (n := slots + 307) (by omega) (by omega) (kk ad n L f H locs ls ⟨w, hw, hn, hprobe, hmo, hno, _, hfo⟩ (lv_sub hl [2, 3, 4, 5, 6] rfl))
theorem dL_law_1338 : decode cL_law 1338 = .ok (.aload_n 1, 1) := by decide +kernel
theorem dL_law_1339 : decode cL_law 1339 = .ok (.aload_n 0, 1) := by decide +kernel
theorem dL_law_1340 : decode cL_law 1340 = .ok (.iload 4, 2) := by decide +kernel
theorem dL_law_1342 : decode cL_law 1342 = .ok (.iconst 1, 1) := by decide +kernel
theorem dL_law_1343 : decode cL_law 1343 = .ok (.iadd, 1) := by decide +kernel
theorem dL_law_1344 : decode cL_law 1344 = .ok (.iaload, 1) := by decide +kernel
theorem dL_law_1345 : decode cL_law 1345 = .ok (.aload_n 3, 1) := by decide +kernel
theorem dL_law_1346 : decode cL_law 1346 = .ok (.invokestatic 212, 3) := by decide +kernel
theorem dL_law_1349 : decode cL_law 1349 = .ok (.istore 5, 2) := by decide +kernel
theorem dL_law_1351 : decode cL_law 1351 = .ok (.aload_n 2, 1) := by decide +kernel
theorem dL_law_1352 : decode cL_law 1352 = .ok (.aload_n 0, 1) := by decide +kernel
theorem dL_law_1353 : decode cL_law 1353 = .ok (.iload 4, 2) := by decide +kernel
theorem dL_law_1355 : decode cL_law 1355 = .ok (.iconst 1, 1) := by decide +kernel
theorem dL_law_1356 : decode cL_law 1356 = .ok (.iadd, 1) := by decide +kernel
theorem dL_law_1357 : decode cL_law 1357 = .ok (.iaload, 1) := by decide +kernel
theorem dL_law_1358 : decode cL_law 1358 = .ok (.invokevirtual 214, 3) := by decide +kernel
theorem dL_law_1361 : decode cL_law 1361 = .ok (.istore 6, 2) := by decide +kernel
theorem dL_law_1363 : decode cL_law 1363 = .ok (.goto 222, 3) := by decide +kernel
set_option maxHeartbeats 4000000 in
set_option maxRecDepth 100000 in
theorem arm_29 {p : Program} {l : Launch} {e : Env} {s : State} {m : MethodId} {below : List Frame} {meth : Method} {c : Code} {b N : Nat} {xs : Nat → Int32} {D : va_G} {K : Nat → ClassId} {sa : sT} {o i : Nat} {cells slots : Nat} {Q : State → Prop} (hls : l.stackTraces = false) (A : LwC p s m meth c b N xs) (hi : i + 6 ≤ N) {S S1 S2 : fS} {ec : Nat} {v v2 : Int32} (hec : ec = 0 ∨ ec = 3) (h1 : F_X6_broken (xs (i + 1)) S = some ((ec, v), S1)) (h2 : F_X7_broken (xs (i + 1)) S1 = some (v2, S2)) (hc : cells + 6 ≤ 601024) (hs : slots + 307 ≤ 7293033) (kk : LwK D K sa p l e s m below meth c b o i S2 (cells + 6) (slots + 307) Q 1585) : LwK D K sa p l e s m below meth c b o i S cells slots Q 1338 := by
  intro ad n L f H locs ls B hl
  obtain ⟨C, hX, hbl, hrt, hlk, hNm⟩ := A
  obtain ⟨w, hw, hn, hprobe, hmo, hno, g0, hfo⟩ := B
  have hx := C.1
  have hb := C.2.1
  refine lv_aload_n hx hb dL_law_1338 rfl (lv_at hl 1 rfl) ?_
  refine lv_aload_n hx hb dL_law_1339 rfl (lv_at hl 0 rfl) ?_
  refine lv_iload hx hb dL_law_1340 (lv_at hl 4 rfl) ?_
  refine lv_iconst (v := 1) hx hb dL_law_1342 (by decide) ?_
  refine lv_iadd hx hb dL_law_1343 ?_
  rw [show nI i + (1 : Int32) = nI (i + 1) from nI_ad2 i 1]
  refine t_sld hx hb hX hbl w (j := i + 1) (nI_clamp (by omega)) (vp_in_nI (by omega) (by omega)) dL_law_1344 ?_
  refine lv_aload_n hx hb dL_law_1345 rfl (lv_at hl 3 rfl) ?_
  refine t_callH (n := 3) C w (c_L_broken l hls D K _ sa _ L f ad n S hw hn hprobe (xs (i + 1)) o hmo hno g0 hfo ec hec v S1 h1) gw_1107 gw_1105 gw_1106 gw_0 ⟨by decide, by decide, by decide +kernel⟩ rfl rfl ⟨Nat.le_of_ble_eq_true rfl, Nat.le_of_ble_eq_true rfl⟩ rfl hl.1 rfl (Nat.le_of_ble_eq_true rfl) dL_law_1346 ⟨by show cells + 1 ≤ 601024; omega, by show slots + 6 ≤ 7293033; omega⟩ (fun v9 u H locs hp w => ?_)
  obtain ⟨ad2, L2, f2, g1, rfl, rfl, hw2, hG2, hno2, hfo2, hgv⟩ := hp
  obtain ⟨ad, n, L, f, g0, w, hw, hn, hprobe, hmo, hno, hfo, hl⟩ : ∃ (ad3 : Nat → Nat → Nat) (n3 : Nat × Nat) (L3 : List Nat) (f3 : Nat → va_E) (g3 : Nat → Int64), Wh D K s.heap.size sa s H locs L3 f3 ∧ PW K ad3 (isn n3) S1 L3 f3 ∧ S1.2.2.1 = n3 ∧ 0 < n3.1 ∧ o ∈ L3 ∧ (∀ a i : Nat, isn n3 a i → ad3 a i ≠ o) ∧ f3 o = .inl (K 6, 1, .inr (.inl g3)) ∧ lv_has ls 7 [(0, .ref b), (1, .ref (ad3 0 0)), (2, .ref (ad3 40 0)), (3, .ref o), (4, .int (nI i))] := ⟨ad2, S1.2.2.1, L2, f2, g1, w, hw2, rfl, (hG2.1 25 0 hprobe).1, (hG2.2 o hmo).1, hno2, hfo2, (by rw [(hG2.1 0 0 (isn_f rfl rfl (by decide))).2, (hG2.1 40 0 (isn_f rfl rfl (by decide))).2]; exact hl)⟩
  refine lv_istore (lv' := [(5, .int (if ec = 0 then 0 else 1)), (0, .ref b), (1, .ref (ad 0 0)), (2, .ref (ad 40 0)), (3, .ref o), (4, .int (nI i))]) hx hb dL_law_1349 hl (by decide) rfl (fun ls hl => ?_)
  refine lv_aload_n hx hb dL_law_1351 rfl (lv_at hl 3 rfl) ?_
  refine lv_aload_n hx hb dL_law_1352 rfl (lv_at hl 1 rfl) ?_
  refine lv_iload hx hb dL_law_1353 (lv_at hl 5 rfl) ?_
  refine lv_iconst (v := 1) hx hb dL_law_1355 (by decide) ?_
  refine lv_iadd hx hb dL_law_1356 ?_
  rw [show nI i + (1 : Int32) = nI (i + 1) from nI_ad2 i 1]
  refine t_sld hx hb hX hbl w (j := i + 1) (nI_clamp (by omega)) (vp_in_nI (by omega) (by omega)) dL_law_1357 ?_
  refine u_callV (n := 1) C w hw (isn_f rfl rfl (by decide)) rfl rfl rfl (c_X7_broken l D K _ sa _ L f ad n S1 hw hn hprobe (xs (i + 1)) v2 S2 h2) gw_1662 gw_1659 gw_1660 gw_1661 gw_8 ⟨by decide, by decide, by decide +kernel⟩ rfl rfl ⟨Nat.le_of_ble_eq_true rfl, Nat.le_of_ble_eq_true rfl⟩ rfl hl.1 rfl (Nat.le_of_ble_eq_true rfl) dL_law_1358 ⟨by show cells + 1 + 2 ≤ 601024; omega, by show slots + 6 + 72 ≤ 7293033; omega⟩ (fun v9 u H locs hp w => ?_)
  obtain ⟨ad2, L2, f2, rfl, rfl, hw2, hG2⟩ := hp
  have z9 := (hG2.2 o hmo).2 hno (fun z => z)
  have hno2 := z9.2
  have hfo2 := z9.1.trans hfo
  obtain ⟨ad, n, L, f, g0, w, hw, hn, hprobe, hmo, hno, hfo, hl⟩ : ∃ (ad3 : Nat → Nat → Nat) (n3 : Nat × Nat) (L3 : List Nat) (f3 : Nat → va_E) (g3 : Nat → Int64), Wh D K s.heap.size sa s H locs L3 f3 ∧ PW K ad3 (isn n3) S2 L3 f3 ∧ S2.2.2.1 = n3 ∧ 0 < n3.1 ∧ o ∈ L3 ∧ (∀ a i : Nat, isn n3 a i → ad3 a i ≠ o) ∧ f3 o = .inl (K 6, 1, .inr (.inl g3)) ∧ lv_has ls 7 [(5, .int (if ec = 0 then 0 else 1)), (0, .ref b), (1, .ref (ad3 0 0)), (2, .ref (ad3 40 0)), (3, .ref o), (4, .int (nI i))] := ⟨ad2, S2.2.2.1, L2, f2, _, w, hw2, rfl, (hG2.1 25 0 hprobe).1, (hG2.2 o hmo).1, hno2, hfo2, (by rw [(hG2.1 0 0 (isn_f rfl rfl (by decide))).2, (hG2.1 40 0 (isn_f rfl rfl (by decide))).2]; exact hl)⟩
  refine lv_istore (lv' := [(6, .int v2), (5, .int (if ec = 0 then 0 else 1)), (0, .ref b), (1, .ref (ad 0 0)), (2, .ref (ad 40 0)), (3, .ref o), (4, .int (nI i))]) hx hb dL_law_1361 hl (by decide) rfl (fun ls hl => ?_)
  refine lv_goto (tgt := 1585) hx hb dL_law_1363 (by decide) ?_
  exact W.widen (k := cells + 6) (n := slots + 307) (by omega) (by omega) (kk ad n L f H locs ls ⟨w, hw, hn, hprobe, hmo, hno, _, hfo⟩ (lv_sub hl [2, 3, 4, 5, 6] rfl))
theorem dL_law_1366 : decode cL_law 1366 = .ok (.aload_n 1, 1) := by decide +kernel
theorem dL_law_1367 : decode cL_law 1367 = .ok (.aload_n 0, 1) := by decide +kernel
theorem dL_law_1368 : decode cL_law 1368 = .ok (.iload 4, 2) := by decide +kernel
theorem dL_law_1370 : decode cL_law 1370 = .ok (.iconst 1, 1) := by decide +kernel
theorem dL_law_1371 : decode cL_law 1371 = .ok (.iadd, 1) := by decide +kernel
theorem dL_law_1372 : decode cL_law 1372 = .ok (.iaload, 1) := by decide +kernel
theorem dL_law_1373 : decode cL_law 1373 = .ok (.aload_n 0, 1) := by decide +kernel
theorem dL_law_1374 : decode cL_law 1374 = .ok (.iload 4, 2) := by decide +kernel
theorem dL_law_1376 : decode cL_law 1376 = .ok (.iconst 2, 1) := by decide +kernel
theorem dL_law_1377 : decode cL_law 1377 = .ok (.iadd, 1) := by decide +kernel
theorem dL_law_1378 : decode cL_law 1378 = .ok (.iaload, 1) := by decide +kernel
theorem dL_law_1379 : decode cL_law 1379 = .ok (.aload_n 0, 1) := by decide +kernel
theorem dL_law_1380 : decode cL_law 1380 = .ok (.iload 4, 2) := by decide +kernel
theorem dL_law_1382 : decode cL_law 1382 = .ok (.iconst 3, 1) := by decide +kernel
theorem dL_law_1383 : decode cL_law 1383 = .ok (.iadd, 1) := by decide +kernel
theorem dL_law_1384 : decode cL_law 1384 = .ok (.iaload, 1) := by decide +kernel
theorem dL_law_1385 : decode cL_law 1385 = .ok (.aload_n 0, 1) := by decide +kernel
theorem dL_law_1386 : decode cL_law 1386 = .ok (.iload 4, 2) := by decide +kernel
theorem dL_law_1388 : decode cL_law 1388 = .ok (.iconst 4, 1) := by decide +kernel
theorem dL_law_1389 : decode cL_law 1389 = .ok (.iadd, 1) := by decide +kernel
theorem dL_law_1390 : decode cL_law 1390 = .ok (.iaload, 1) := by decide +kernel
theorem dL_law_1391 : decode cL_law 1391 = .ok (.aload_n 0, 1) := by decide +kernel
theorem dL_law_1392 : decode cL_law 1392 = .ok (.iload 4, 2) := by decide +kernel
theorem dL_law_1394 : decode cL_law 1394 = .ok (.iconst 5, 1) := by decide +kernel
theorem dL_law_1395 : decode cL_law 1395 = .ok (.iadd, 1) := by decide +kernel
theorem dL_law_1396 : decode cL_law 1396 = .ok (.iaload, 1) := by decide +kernel
theorem dL_law_1397 : decode cL_law 1397 = .ok (.aload_n 3, 1) := by decide +kernel
theorem dL_law_1398 : decode cL_law 1398 = .ok (.invokestatic 215, 3) := by decide +kernel
theorem dL_law_1401 : decode cL_law 1401 = .ok (.istore 5, 2) := by decide +kernel
theorem dL_law_1403 : decode cL_law 1403 = .ok (.aload_n 2, 1) := by decide +kernel
theorem dL_law_1404 : decode cL_law 1404 = .ok (.aload_n 0, 1) := by decide +kernel
theorem dL_law_1405 : decode cL_law 1405 = .ok (.iload 4, 2) := by decide +kernel
theorem dL_law_1407 : decode cL_law 1407 = .ok (.iconst 1, 1) := by decide +kernel
theorem dL_law_1408 : decode cL_law 1408 = .ok (.iadd, 1) := by decide +kernel
theorem dL_law_1409 : decode cL_law 1409 = .ok (.iaload, 1) := by decide +kernel
theorem dL_law_1410 : decode cL_law 1410 = .ok (.aload_n 0, 1) := by decide +kernel
theorem dL_law_1411 : decode cL_law 1411 = .ok (.iload 4, 2) := by decide +kernel
theorem dL_law_1413 : decode cL_law 1413 = .ok (.iconst 2, 1) := by decide +kernel
theorem dL_law_1414 : decode cL_law 1414 = .ok (.iadd, 1) := by decide +kernel
theorem dL_law_1415 : decode cL_law 1415 = .ok (.iaload, 1) := by decide +kernel
theorem dL_law_1416 : decode cL_law 1416 = .ok (.aload_n 0, 1) := by decide +kernel
theorem dL_law_1417 : decode cL_law 1417 = .ok (.iload 4, 2) := by decide +kernel
theorem dL_law_1419 : decode cL_law 1419 = .ok (.iconst 3, 1) := by decide +kernel
theorem dL_law_1420 : decode cL_law 1420 = .ok (.iadd, 1) := by decide +kernel
theorem dL_law_1421 : decode cL_law 1421 = .ok (.iaload, 1) := by decide +kernel
theorem dL_law_1422 : decode cL_law 1422 = .ok (.aload_n 0, 1) := by decide +kernel
theorem dL_law_1423 : decode cL_law 1423 = .ok (.iload 4, 2) := by decide +kernel
theorem dL_law_1425 : decode cL_law 1425 = .ok (.iconst 4, 1) := by decide +kernel
theorem dL_law_1426 : decode cL_law 1426 = .ok (.iadd, 1) := by decide +kernel
theorem dL_law_1427 : decode cL_law 1427 = .ok (.iaload, 1) := by decide +kernel
theorem dL_law_1428 : decode cL_law 1428 = .ok (.aload_n 0, 1) := by decide +kernel
theorem dL_law_1429 : decode cL_law 1429 = .ok (.iload 4, 2) := by decide +kernel
theorem dL_law_1431 : decode cL_law 1431 = .ok (.iconst 5, 1) := by decide +kernel
theorem dL_law_1432 : decode cL_law 1432 = .ok (.iadd, 1) := by decide +kernel
theorem dL_law_1433 : decode cL_law 1433 = .ok (.iaload, 1) := by decide +kernel
theorem dL_law_1434 : decode cL_law 1434 = .ok (.invokevirtual 218, 3) := by decide +kernel
theorem dL_law_1437 : decode cL_law 1437 = .ok (.istore 6, 2) := by decide +kernel
theorem dL_law_1439 : decode cL_law 1439 = .ok (.goto 146, 3) := by decide +kernel
set_option maxHeartbeats 4000000 in
set_option maxRecDepth 100000 in
theorem arm_30 {p : Program} {l : Launch} {e : Env} {s : State} {m : MethodId} {below : List Frame} {meth : Method} {c : Code} {b N : Nat} {xs : Nat → Int32} {D : va_G} {K : Nat → ClassId} {sa : sT} {o i : Nat} {cells slots : Nat} {Q : State → Prop} (hls : l.stackTraces = false) (A : LwC p s m meth c b N xs) (hi : i + 6 ≤ N) {S S1 S2 : fS} {ec : Nat} {v v2 : Int32} (hec : ec = 0 ∨ ec = 1 ∨ ec = 3) (h1 : F_X6_cut (xs (i + 1)) (xs (i + 2)) (xs (i + 3)) (xs (i + 4)) (xs (i + 5)) S = some ((ec, v), S1)) (h2 : F_X7_cut (xs (i + 1)) (xs (i + 2)) (xs (i + 3)) (xs (i + 4)) (xs (i + 5)) S1 = some (v2, S2)) (hc : cells + 6 ≤ 601024) (hs : slots + 307 ≤ 7293033) (kk : LwK D K sa p l e s m below meth c b o i S2 (cells + 6) (slots + 307) Q 1585) : LwK D K sa p l e s m below meth c b o i S cells slots Q 1366 := by
  intro ad n L f H locs ls B hl
  obtain ⟨C, hX, hbl, hrt, hlk, hNm⟩ := A
  obtain ⟨w, hw, hn, hprobe, hmo, hno, g0, hfo⟩ := B
  have hx := C.1
  have hb := C.2.1
  refine lv_aload_n hx hb dL_law_1366 rfl (lv_at hl 1 rfl) ?_
  refine lv_aload_n hx hb dL_law_1367 rfl (lv_at hl 0 rfl) ?_
  refine lv_iload hx hb dL_law_1368 (lv_at hl 4 rfl) ?_
  refine lv_iconst (v := 1) hx hb dL_law_1370 (by decide) ?_
  refine lv_iadd hx hb dL_law_1371 ?_
  rw [show nI i + (1 : Int32) = nI (i + 1) from nI_ad2 i 1]
  refine t_sld hx hb hX hbl w (j := i + 1) (nI_clamp (by omega)) (vp_in_nI (by omega) (by omega)) dL_law_1372 ?_
  refine lv_aload_n hx hb dL_law_1373 rfl (lv_at hl 0 rfl) ?_
  refine lv_iload hx hb dL_law_1374 (lv_at hl 4 rfl) ?_
  refine lv_iconst (v := 2) hx hb dL_law_1376 (by decide) ?_
  refine lv_iadd hx hb dL_law_1377 ?_
  rw [show nI i + (2 : Int32) = nI (i + 2) from nI_ad2 i 2]
  refine t_sld hx hb hX hbl w (j := i + 2) (nI_clamp (by omega)) (vp_in_nI (by omega) (by omega)) dL_law_1378 ?_
  refine lv_aload_n hx hb dL_law_1379 rfl (lv_at hl 0 rfl) ?_
  refine lv_iload hx hb dL_law_1380 (lv_at hl 4 rfl) ?_
  refine lv_iconst (v := 3) hx hb dL_law_1382 (by decide) ?_
  refine lv_iadd hx hb dL_law_1383 ?_
  rw [show nI i + (3 : Int32) = nI (i + 3) from nI_ad2 i 3]
  refine t_sld hx hb hX hbl w (j := i + 3) (nI_clamp (by omega)) (vp_in_nI (by omega) (by omega)) dL_law_1384 ?_
  refine lv_aload_n hx hb dL_law_1385 rfl (lv_at hl 0 rfl) ?_
  refine lv_iload hx hb dL_law_1386 (lv_at hl 4 rfl) ?_
  refine lv_iconst (v := 4) hx hb dL_law_1388 (by decide) ?_
  refine lv_iadd hx hb dL_law_1389 ?_
  rw [show nI i + (4 : Int32) = nI (i + 4) from nI_ad2 i 4]
  refine t_sld hx hb hX hbl w (j := i + 4) (nI_clamp (by omega)) (vp_in_nI (by omega) (by omega)) dL_law_1390 ?_
  refine lv_aload_n hx hb dL_law_1391 rfl (lv_at hl 0 rfl) ?_
  refine lv_iload hx hb dL_law_1392 (lv_at hl 4 rfl) ?_
  refine lv_iconst (v := 5) hx hb dL_law_1394 (by decide) ?_
  refine lv_iadd hx hb dL_law_1395 ?_
  rw [show nI i + (5 : Int32) = nI (i + 5) from nI_ad2 i 5]
  refine t_sld hx hb hX hbl w (j := i + 5) (nI_clamp (by omega)) (vp_in_nI (by omega) (by omega)) dL_law_1396 ?_
  refine lv_aload_n hx hb dL_law_1397 rfl (lv_at hl 3 rfl) ?_
  refine t_callH (n := 7) C w (c_L_cut l hls D K _ sa _ L f ad n S hw hn hprobe (xs (i + 1)) (xs (i + 2)) (xs (i + 3)) (xs (i + 4)) (xs (i + 5)) o hmo hno g0 hfo ec hec v S1 h1) gw_1119 gw_1117 gw_1118 gw_0 ⟨by decide, by decide, by decide +kernel⟩ rfl rfl ⟨Nat.le_of_ble_eq_true rfl, Nat.le_of_ble_eq_true rfl⟩ rfl hl.1 rfl (Nat.le_of_ble_eq_true rfl) dL_law_1398 ⟨by show cells + 3 ≤ 601024; omega, by show slots + 18 ≤ 7293033; omega⟩ (fun v9 u H locs hp w => ?_)
  obtain ⟨ad2, L2, f2, g1, rfl, rfl, hw2, hG2, hno2, hfo2, hgv⟩ := hp
  obtain ⟨ad, n, L, f, g0, w, hw, hn, hprobe, hmo, hno, hfo, hl⟩ : ∃ (ad3 : Nat → Nat → Nat) (n3 : Nat × Nat) (L3 : List Nat) (f3 : Nat → va_E) (g3 : Nat → Int64), Wh D K s.heap.size sa s H locs L3 f3 ∧ PW K ad3 (isn n3) S1 L3 f3 ∧ S1.2.2.1 = n3 ∧ 0 < n3.1 ∧ o ∈ L3 ∧ (∀ a i : Nat, isn n3 a i → ad3 a i ≠ o) ∧ f3 o = .inl (K 6, 1, .inr (.inl g3)) ∧ lv_has ls 7 [(0, .ref b), (1, .ref (ad3 0 0)), (2, .ref (ad3 40 0)), (3, .ref o), (4, .int (nI i))] := ⟨ad2, S1.2.2.1, L2, f2, g1, w, hw2, rfl, (hG2.1 25 0 hprobe).1, (hG2.2 o hmo).1, hno2, hfo2, (by rw [(hG2.1 0 0 (isn_f rfl rfl (by decide))).2, (hG2.1 40 0 (isn_f rfl rfl (by decide))).2]; exact hl)⟩
  refine lv_istore (lv' := [(5, .int (if ec = 0 then 0 else if ec = 1 then 2 else 1)), (0, .ref b), (1, .ref (ad 0 0)), (2, .ref (ad 40 0)), (3, .ref o), (4, .int (nI i))]) hx hb dL_law_1401 hl (by decide) rfl (fun ls hl => ?_)
  refine lv_aload_n hx hb dL_law_1403 rfl (lv_at hl 3 rfl) ?_
  refine lv_aload_n hx hb dL_law_1404 rfl (lv_at hl 1 rfl) ?_
  refine lv_iload hx hb dL_law_1405 (lv_at hl 5 rfl) ?_
  refine lv_iconst (v := 1) hx hb dL_law_1407 (by decide) ?_
  refine lv_iadd hx hb dL_law_1408 ?_
  rw [show nI i + (1 : Int32) = nI (i + 1) from nI_ad2 i 1]
  refine t_sld hx hb hX hbl w (j := i + 1) (nI_clamp (by omega)) (vp_in_nI (by omega) (by omega)) dL_law_1409 ?_
  refine lv_aload_n hx hb dL_law_1410 rfl (lv_at hl 1 rfl) ?_
  refine lv_iload hx hb dL_law_1411 (lv_at hl 5 rfl) ?_
  refine lv_iconst (v := 2) hx hb dL_law_1413 (by decide) ?_
  refine lv_iadd hx hb dL_law_1414 ?_
  rw [show nI i + (2 : Int32) = nI (i + 2) from nI_ad2 i 2]
  refine t_sld hx hb hX hbl w (j := i + 2) (nI_clamp (by omega)) (vp_in_nI (by omega) (by omega)) dL_law_1415 ?_
  refine lv_aload_n hx hb dL_law_1416 rfl (lv_at hl 1 rfl) ?_
  refine lv_iload hx hb dL_law_1417 (lv_at hl 5 rfl) ?_
  refine lv_iconst (v := 3) hx hb dL_law_1419 (by decide) ?_
  refine lv_iadd hx hb dL_law_1420 ?_
  rw [show nI i + (3 : Int32) = nI (i + 3) from nI_ad2 i 3]
  refine t_sld hx hb hX hbl w (j := i + 3) (nI_clamp (by omega)) (vp_in_nI (by omega) (by omega)) dL_law_1421 ?_
  refine lv_aload_n hx hb dL_law_1422 rfl (lv_at hl 1 rfl) ?_
  refine lv_iload hx hb dL_law_1423 (lv_at hl 5 rfl) ?_
  refine lv_iconst (v := 4) hx hb dL_law_1425 (by decide) ?_
  refine lv_iadd hx hb dL_law_1426 ?_
  rw [show nI i + (4 : Int32) = nI (i + 4) from nI_ad2 i 4]
  refine t_sld hx hb hX hbl w (j := i + 4) (nI_clamp (by omega)) (vp_in_nI (by omega) (by omega)) dL_law_1427 ?_
  refine lv_aload_n hx hb dL_law_1428 rfl (lv_at hl 1 rfl) ?_
  refine lv_iload hx hb dL_law_1429 (lv_at hl 5 rfl) ?_
  refine lv_iconst (v := 5) hx hb dL_law_1431 (by decide) ?_
  refine lv_iadd hx hb dL_law_1432 ?_
  rw [show nI i + (5 : Int32) = nI (i + 5) from nI_ad2 i 5]
  refine t_sld hx hb hX hbl w (j := i + 5) (nI_clamp (by omega)) (vp_in_nI (by omega) (by omega)) dL_law_1433 ?_
  refine u_callV (n := 5) C w hw (isn_f rfl rfl (by decide)) rfl rfl rfl (c_X7_cut l D K _ sa _ L _ ad (isn n) (fun _ _ h => h) S1 hw hn (xs (i + 1)) (xs (i + 2)) (xs (i + 3)) (xs (i + 4)) (xs (i + 5)) v2 S2 h2) gw_1666 gw_1663 gw_1664 gw_1665 gw_8 ⟨by decide, by decide, by decide +kernel⟩ rfl rfl ⟨Nat.le_of_ble_eq_true rfl, Nat.le_of_ble_eq_true rfl⟩ rfl hl.1 rfl (Nat.le_of_ble_eq_true rfl) dL_law_1434 ⟨by show cells + 3 + 0 ≤ 601024; omega, by show slots + 18 + 0 ≤ 7293033; omega⟩ (fun v9 u H locs hp w => ?_)
  obtain ⟨f2, rfl, rfl, hw2, hn2, hk1⟩ := hp
  have hfo := (hk1 o hmo hno).trans hfo
  have hw := hw2
  have hn := hn2
  clear hw2 hn2
  generalize f2 = f at w hw hfo
  refine lv_istore (lv' := [(6, .int v2), (5, .int (if ec = 0 then 0 else if ec = 1 then 2 else 1)), (0, .ref b), (1, .ref (ad 0 0)), (2, .ref (ad 40 0)), (3, .ref o), (4, .int (nI i))]) hx hb dL_law_1437 hl (by decide) rfl (fun ls hl => ?_)
  refine lv_goto (tgt := 1585) hx hb dL_law_1439 (by decide) ?_
  exact W.widen (k := cells + 6) (n := slots + 307) (by omega) (by omega) (kk ad n L f H locs ls ⟨w, hw, hn, hprobe, hmo, hno, _, hfo⟩ (lv_sub hl [2, 3, 4, 5, 6] rfl))
theorem dL_law_1442 : decode cL_law 1442 = .ok (.aload_n 1, 1) := by decide +kernel
theorem dL_law_1443 : decode cL_law 1443 = .ok (.aload_n 0, 1) := by decide +kernel
theorem dL_law_1444 : decode cL_law 1444 = .ok (.iload 4, 2) := by decide +kernel
theorem dL_law_1446 : decode cL_law 1446 = .ok (.iconst 1, 1) := by decide +kernel
theorem dL_law_1447 : decode cL_law 1447 = .ok (.iadd, 1) := by decide +kernel
theorem dL_law_1448 : decode cL_law 1448 = .ok (.iaload, 1) := by decide +kernel
theorem dL_law_1449 : decode cL_law 1449 = .ok (.aload_n 0, 1) := by decide +kernel
theorem dL_law_1450 : decode cL_law 1450 = .ok (.iload 4, 2) := by decide +kernel
theorem dL_law_1452 : decode cL_law 1452 = .ok (.iconst 2, 1) := by decide +kernel
theorem dL_law_1453 : decode cL_law 1453 = .ok (.iadd, 1) := by decide +kernel
theorem dL_law_1454 : decode cL_law 1454 = .ok (.iaload, 1) := by decide +kernel
theorem dL_law_1455 : decode cL_law 1455 = .ok (.aload_n 0, 1) := by decide +kernel
theorem dL_law_1456 : decode cL_law 1456 = .ok (.iload 4, 2) := by decide +kernel
theorem dL_law_1458 : decode cL_law 1458 = .ok (.iconst 3, 1) := by decide +kernel
theorem dL_law_1459 : decode cL_law 1459 = .ok (.iadd, 1) := by decide +kernel
theorem dL_law_1460 : decode cL_law 1460 = .ok (.iaload, 1) := by decide +kernel
theorem dL_law_1461 : decode cL_law 1461 = .ok (.aload_n 0, 1) := by decide +kernel
theorem dL_law_1462 : decode cL_law 1462 = .ok (.iload 4, 2) := by decide +kernel
theorem dL_law_1464 : decode cL_law 1464 = .ok (.iconst 4, 1) := by decide +kernel
theorem dL_law_1465 : decode cL_law 1465 = .ok (.iadd, 1) := by decide +kernel
theorem dL_law_1466 : decode cL_law 1466 = .ok (.iaload, 1) := by decide +kernel
theorem dL_law_1467 : decode cL_law 1467 = .ok (.aload_n 3, 1) := by decide +kernel
theorem dL_law_1468 : decode cL_law 1468 = .ok (.invokestatic 219, 3) := by decide +kernel
theorem dL_law_1471 : decode cL_law 1471 = .ok (.istore 5, 2) := by decide +kernel
theorem dL_law_1473 : decode cL_law 1473 = .ok (.aload_n 2, 1) := by decide +kernel
theorem dL_law_1474 : decode cL_law 1474 = .ok (.aload_n 0, 1) := by decide +kernel
theorem dL_law_1475 : decode cL_law 1475 = .ok (.iload 4, 2) := by decide +kernel
theorem dL_law_1477 : decode cL_law 1477 = .ok (.iconst 1, 1) := by decide +kernel
theorem dL_law_1478 : decode cL_law 1478 = .ok (.iadd, 1) := by decide +kernel
theorem dL_law_1479 : decode cL_law 1479 = .ok (.iaload, 1) := by decide +kernel
theorem dL_law_1480 : decode cL_law 1480 = .ok (.aload_n 0, 1) := by decide +kernel
theorem dL_law_1481 : decode cL_law 1481 = .ok (.iload 4, 2) := by decide +kernel
theorem dL_law_1483 : decode cL_law 1483 = .ok (.iconst 2, 1) := by decide +kernel
theorem dL_law_1484 : decode cL_law 1484 = .ok (.iadd, 1) := by decide +kernel
theorem dL_law_1485 : decode cL_law 1485 = .ok (.iaload, 1) := by decide +kernel
theorem dL_law_1486 : decode cL_law 1486 = .ok (.aload_n 0, 1) := by decide +kernel
theorem dL_law_1487 : decode cL_law 1487 = .ok (.iload 4, 2) := by decide +kernel
theorem dL_law_1489 : decode cL_law 1489 = .ok (.iconst 3, 1) := by decide +kernel
theorem dL_law_1490 : decode cL_law 1490 = .ok (.iadd, 1) := by decide +kernel
theorem dL_law_1491 : decode cL_law 1491 = .ok (.iaload, 1) := by decide +kernel
theorem dL_law_1492 : decode cL_law 1492 = .ok (.aload_n 0, 1) := by decide +kernel
theorem dL_law_1493 : decode cL_law 1493 = .ok (.iload 4, 2) := by decide +kernel
theorem dL_law_1495 : decode cL_law 1495 = .ok (.iconst 4, 1) := by decide +kernel
theorem dL_law_1496 : decode cL_law 1496 = .ok (.iadd, 1) := by decide +kernel
theorem dL_law_1497 : decode cL_law 1497 = .ok (.iaload, 1) := by decide +kernel
theorem dL_law_1498 : decode cL_law 1498 = .ok (.invokevirtual 221, 3) := by decide +kernel
theorem dL_law_1501 : decode cL_law 1501 = .ok (.istore 6, 2) := by decide +kernel
theorem dL_law_1503 : decode cL_law 1503 = .ok (.goto 82, 3) := by decide +kernel
set_option maxHeartbeats 4000000 in
set_option maxRecDepth 100000 in
theorem arm_31 {p : Program} {l : Launch} {e : Env} {s : State} {m : MethodId} {below : List Frame} {meth : Method} {c : Code} {b N : Nat} {xs : Nat → Int32} {D : va_G} {K : Nat → ClassId} {sa : sT} {o i : Nat} {cells slots : Nat} {Q : State → Prop} (hls : l.stackTraces = false) (A : LwC p s m meth c b N xs) (hi : i + 6 ≤ N) {S S1 S2 : fS} {ec : Nat} {v v2 : Int32} (hec : ec = 0 ∨ ec = 1 ∨ ec = 2) (h1 : F_X6_player (xs (i + 1)) (xs (i + 2)) (xs (i + 3)) (xs (i + 4)) S = some ((ec, v), S1)) (h2 : F_X7_player (xs (i + 1)) (xs (i + 2)) (xs (i + 3)) (xs (i + 4)) S1 = some (v2, S2)) (hc : cells + 6 ≤ 601024) (hs : slots + 307 ≤ 7293033) (kk : LwK D K sa p l e s m below meth c b o i S2 (cells + 6) (slots + 307) Q 1585) : LwK D K sa p l e s m below meth c b o i S cells slots Q 1442 := by
  intro ad n L f H locs ls B hl
  obtain ⟨C, hX, hbl, hrt, hlk, hNm⟩ := A
  obtain ⟨w, hw, hn, hprobe, hmo, hno, g0, hfo⟩ := B
  have hx := C.1
  have hb := C.2.1
  refine lv_aload_n hx hb dL_law_1442 rfl (lv_at hl 1 rfl) ?_
  refine lv_aload_n hx hb dL_law_1443 rfl (lv_at hl 0 rfl) ?_
  refine lv_iload hx hb dL_law_1444 (lv_at hl 4 rfl) ?_
  refine lv_iconst (v := 1) hx hb dL_law_1446 (by decide) ?_
  refine lv_iadd hx hb dL_law_1447 ?_
  rw [show nI i + (1 : Int32) = nI (i + 1) from nI_ad2 i 1]
  refine t_sld hx hb hX hbl w (j := i + 1) (nI_clamp (by omega)) (vp_in_nI (by omega) (by omega)) dL_law_1448 ?_
  refine lv_aload_n hx hb dL_law_1449 rfl (lv_at hl 0 rfl) ?_
  refine lv_iload hx hb dL_law_1450 (lv_at hl 4 rfl) ?_
  refine lv_iconst (v := 2) hx hb dL_law_1452 (by decide) ?_
  refine lv_iadd hx hb dL_law_1453 ?_
  rw [show nI i + (2 : Int32) = nI (i + 2) from nI_ad2 i 2]
  refine t_sld hx hb hX hbl w (j := i + 2) (nI_clamp (by omega)) (vp_in_nI (by omega) (by omega)) dL_law_1454 ?_
  refine lv_aload_n hx hb dL_law_1455 rfl (lv_at hl 0 rfl) ?_
  refine lv_iload hx hb dL_law_1456 (lv_at hl 4 rfl) ?_
  refine lv_iconst (v := 3) hx hb dL_law_1458 (by decide) ?_
  refine lv_iadd hx hb dL_law_1459 ?_
  rw [show nI i + (3 : Int32) = nI (i + 3) from nI_ad2 i 3]
  refine t_sld hx hb hX hbl w (j := i + 3) (nI_clamp (by omega)) (vp_in_nI (by omega) (by omega)) dL_law_1460 ?_
  refine lv_aload_n hx hb dL_law_1461 rfl (lv_at hl 0 rfl) ?_
  refine lv_iload hx hb dL_law_1462 (lv_at hl 4 rfl) ?_
  refine lv_iconst (v := 4) hx hb dL_law_1464 (by decide) ?_
  refine lv_iadd hx hb dL_law_1465 ?_
  rw [show nI i + (4 : Int32) = nI (i + 4) from nI_ad2 i 4]
  refine t_sld hx hb hX hbl w (j := i + 4) (nI_clamp (by omega)) (vp_in_nI (by omega) (by omega)) dL_law_1466 ?_
  refine lv_aload_n hx hb dL_law_1467 rfl (lv_at hl 3 rfl) ?_
  refine t_callH (n := 6) C w (c_L_player l hls D K _ sa _ L f ad n S hw hn hprobe (xs (i + 1)) (xs (i + 2)) (xs (i + 3)) (xs (i + 4)) o hmo hno g0 hfo ec hec v S1 h1) gw_1129 gw_1127 gw_1128 gw_0 ⟨by decide, by decide, by decide +kernel⟩ rfl rfl ⟨Nat.le_of_ble_eq_true rfl, Nat.le_of_ble_eq_true rfl⟩ rfl hl.1 rfl (Nat.le_of_ble_eq_true rfl) dL_law_1468 ⟨by show cells + 2 ≤ 601024; omega, by show slots + 12 ≤ 7293033; omega⟩ (fun v9 u H locs hp w => ?_)
  obtain ⟨ad2, L2, f2, g1, rfl, rfl, hw2, hG2, hno2, hfo2, hgv⟩ := hp
  obtain ⟨ad, n, L, f, g0, w, hw, hn, hprobe, hmo, hno, hfo, hl⟩ : ∃ (ad3 : Nat → Nat → Nat) (n3 : Nat × Nat) (L3 : List Nat) (f3 : Nat → va_E) (g3 : Nat → Int64), Wh D K s.heap.size sa s H locs L3 f3 ∧ PW K ad3 (isn n3) S1 L3 f3 ∧ S1.2.2.1 = n3 ∧ 0 < n3.1 ∧ o ∈ L3 ∧ (∀ a i : Nat, isn n3 a i → ad3 a i ≠ o) ∧ f3 o = .inl (K 6, 1, .inr (.inl g3)) ∧ lv_has ls 7 [(0, .ref b), (1, .ref (ad3 0 0)), (2, .ref (ad3 40 0)), (3, .ref o), (4, .int (nI i))] := ⟨ad2, S1.2.2.1, L2, f2, g1, w, hw2, rfl, (hG2.1 25 0 hprobe).1, (hG2.2 o hmo).1, hno2, hfo2, (by rw [(hG2.1 0 0 (isn_f rfl rfl (by decide))).2, (hG2.1 40 0 (isn_f rfl rfl (by decide))).2]; exact hl)⟩
  refine lv_istore (lv' := [(5, .int (if ec = 0 then 0 else if ec = 1 then 2 else 1)), (0, .ref b), (1, .ref (ad 0 0)), (2, .ref (ad 40 0)), (3, .ref o), (4, .int (nI i))]) hx hb dL_law_1471 hl (by decide) rfl (fun ls hl => ?_)
  refine lv_aload_n hx hb dL_law_1473 rfl (lv_at hl 3 rfl) ?_
  refine lv_aload_n hx hb dL_law_1474 rfl (lv_at hl 1 rfl) ?_
  refine lv_iload hx hb dL_law_1475 (lv_at hl 5 rfl) ?_
  refine lv_iconst (v := 1) hx hb dL_law_1477 (by decide) ?_
  refine lv_iadd hx hb dL_law_1478 ?_
  rw [show nI i + (1 : Int32) = nI (i + 1) from nI_ad2 i 1]
  refine t_sld hx hb hX hbl w (j := i + 1) (nI_clamp (by omega)) (vp_in_nI (by omega) (by omega)) dL_law_1479 ?_
  refine lv_aload_n hx hb dL_law_1480 rfl (lv_at hl 1 rfl) ?_
  refine lv_iload hx hb dL_law_1481 (lv_at hl 5 rfl) ?_
  refine lv_iconst (v := 2) hx hb dL_law_1483 (by decide) ?_
  refine lv_iadd hx hb dL_law_1484 ?_
  rw [show nI i + (2 : Int32) = nI (i + 2) from nI_ad2 i 2]
  refine t_sld hx hb hX hbl w (j := i + 2) (nI_clamp (by omega)) (vp_in_nI (by omega) (by omega)) dL_law_1485 ?_
  refine lv_aload_n hx hb dL_law_1486 rfl (lv_at hl 1 rfl) ?_
  refine lv_iload hx hb dL_law_1487 (lv_at hl 5 rfl) ?_
  refine lv_iconst (v := 3) hx hb dL_law_1489 (by decide) ?_
  refine lv_iadd hx hb dL_law_1490 ?_
  rw [show nI i + (3 : Int32) = nI (i + 3) from nI_ad2 i 3]
  refine t_sld hx hb hX hbl w (j := i + 3) (nI_clamp (by omega)) (vp_in_nI (by omega) (by omega)) dL_law_1491 ?_
  refine lv_aload_n hx hb dL_law_1492 rfl (lv_at hl 1 rfl) ?_
  refine lv_iload hx hb dL_law_1493 (lv_at hl 5 rfl) ?_
  refine lv_iconst (v := 4) hx hb dL_law_1495 (by decide) ?_
  refine lv_iadd hx hb dL_law_1496 ?_
  rw [show nI i + (4 : Int32) = nI (i + 4) from nI_ad2 i 4]
  refine t_sld hx hb hX hbl w (j := i + 4) (nI_clamp (by omega)) (vp_in_nI (by omega) (by omega)) dL_law_1497 ?_
  refine u_callV (n := 4) C w hw (isn_f rfl rfl (by decide)) rfl rfl rfl (c_X7_player l D K _ sa _ L _ ad (isn n) (fun _ _ h => h) S1 hw hn (xs (i + 1)) (xs (i + 2)) (xs (i + 3)) (xs (i + 4)) v2 S2 h2) gw_1670 gw_1667 gw_1668 gw_1669 gw_8 ⟨by decide, by decide, by decide +kernel⟩ rfl rfl ⟨Nat.le_of_ble_eq_true rfl, Nat.le_of_ble_eq_true rfl⟩ rfl hl.1 rfl (Nat.le_of_ble_eq_true rfl) dL_law_1498 ⟨by show cells + 2 + 0 ≤ 601024; omega, by show slots + 12 + 0 ≤ 7293033; omega⟩ (fun v9 u H locs hp w => ?_)
  obtain ⟨f2, rfl, rfl, hw2, hn2, hk1⟩ := hp
  have hfo := (hk1 o hmo hno).trans hfo
  have hw := hw2
  have hn := hn2
  clear hw2 hn2
  generalize f2 = f at w hw hfo
  refine lv_istore (lv' := [(6, .int v2), (5, .int (if ec = 0 then 0 else if ec = 1 then 2 else 1)), (0, .ref b), (1, .ref (ad 0 0)), (2, .ref (ad 40 0)), (3, .ref o), (4, .int (nI i))]) hx hb dL_law_1501 hl (by decide) rfl (fun ls hl => ?_)
  refine lv_goto (tgt := 1585) hx hb dL_law_1503 (by decide) ?_
  exact W.widen (k := cells + 6) (n := slots + 307) (by omega) (by omega) (kk ad n L f H locs ls ⟨w, hw, hn, hprobe, hmo, hno, _, hfo⟩ (lv_sub hl [2, 3, 4, 5, 6] rfl))
theorem dL_law_1506 : decode cL_law 1506 = .ok (.aload_n 1, 1) := by decide +kernel
theorem dL_law_1507 : decode cL_law 1507 = .ok (.aload_n 0, 1) := by decide +kernel
theorem dL_law_1508 : decode cL_law 1508 = .ok (.iload 4, 2) := by decide +kernel
theorem dL_law_1510 : decode cL_law 1510 = .ok (.iconst 1, 1) := by decide +kernel
theorem dL_law_1511 : decode cL_law 1511 = .ok (.iadd, 1) := by decide +kernel
theorem dL_law_1512 : decode cL_law 1512 = .ok (.iaload, 1) := by decide +kernel
theorem dL_law_1513 : decode cL_law 1513 = .ok (.aload_n 3, 1) := by decide +kernel
theorem dL_law_1514 : decode cL_law 1514 = .ok (.invokestatic 222, 3) := by decide +kernel
theorem dL_law_1517 : decode cL_law 1517 = .ok (.istore 5, 2) := by decide +kernel
theorem dL_law_1519 : decode cL_law 1519 = .ok (.aload_n 2, 1) := by decide +kernel
theorem dL_law_1520 : decode cL_law 1520 = .ok (.aload_n 0, 1) := by decide +kernel
theorem dL_law_1521 : decode cL_law 1521 = .ok (.iload 4, 2) := by decide +kernel
theorem dL_law_1523 : decode cL_law 1523 = .ok (.iconst 1, 1) := by decide +kernel
theorem dL_law_1524 : decode cL_law 1524 = .ok (.iadd, 1) := by decide +kernel
theorem dL_law_1525 : decode cL_law 1525 = .ok (.iaload, 1) := by decide +kernel
theorem dL_law_1526 : decode cL_law 1526 = .ok (.invokevirtual 224, 3) := by decide +kernel
theorem dL_law_1529 : decode cL_law 1529 = .ok (.istore 6, 2) := by decide +kernel
theorem dL_law_1531 : decode cL_law 1531 = .ok (.goto 54, 3) := by decide +kernel
set_option maxHeartbeats 4000000 in
set_option maxRecDepth 100000 in
theorem arm_32 {p : Program} {l : Launch} {e : Env} {s : State} {m : MethodId} {below : List Frame} {meth : Method} {c : Code} {b N : Nat} {xs : Nat → Int32} {D : va_G} {K : Nat → ClassId} {sa : sT} {o i : Nat} {cells slots : Nat} {Q : State → Prop} (hls : l.stackTraces = false) (A : LwC p s m meth c b N xs) (hi : i + 6 ≤ N) {S S1 S2 : fS} {ec : Nat} {v v2 : Int32} (hec : ec = 0 ∨ ec = 1) (h1 : F_X6_fair (xs (i + 1)) S = some ((ec, v), S1)) (h2 : F_X7_fair (xs (i + 1)) S1 = some (v2, S2)) (hc : cells + 6 ≤ 601024) (hs : slots + 307 ≤ 7293033) (kk : LwK D K sa p l e s m below meth c b o i S2 (cells + 6) (slots + 307) Q 1585) : LwK D K sa p l e s m below meth c b o i S cells slots Q 1506 := by
  intro ad n L f H locs ls B hl
  obtain ⟨C, hX, hbl, hrt, hlk, hNm⟩ := A
  obtain ⟨w, hw, hn, hprobe, hmo, hno, g0, hfo⟩ := B
  have hx := C.1
  have hb := C.2.1
  refine lv_aload_n hx hb dL_law_1506 rfl (lv_at hl 1 rfl) ?_
  refine lv_aload_n hx hb dL_law_1507 rfl (lv_at hl 0 rfl) ?_
  refine lv_iload hx hb dL_law_1508 (lv_at hl 4 rfl) ?_
  refine lv_iconst (v := 1) hx hb dL_law_1510 (by decide) ?_
  refine lv_iadd hx hb dL_law_1511 ?_
  rw [show nI i + (1 : Int32) = nI (i + 1) from nI_ad2 i 1]
  refine t_sld hx hb hX hbl w (j := i + 1) (nI_clamp (by omega)) (vp_in_nI (by omega) (by omega)) dL_law_1512 ?_
  refine lv_aload_n hx hb dL_law_1513 rfl (lv_at hl 3 rfl) ?_
  refine t_callH (n := 3) C w (c_L_fair l hls D K _ sa _ L f ad n S hw hn hprobe (xs (i + 1)) o hmo hno g0 hfo ec hec v S1 h1) gw_1139 gw_1137 gw_1138 gw_0 ⟨by decide, by decide, by decide +kernel⟩ rfl rfl ⟨Nat.le_of_ble_eq_true rfl, Nat.le_of_ble_eq_true rfl⟩ rfl hl.1 rfl (Nat.le_of_ble_eq_true rfl) dL_law_1514 ⟨by show cells + 1 ≤ 601024; omega, by show slots + 6 ≤ 7293033; omega⟩ (fun v9 u H locs hp w => ?_)
  obtain ⟨ad2, L2, f2, g1, rfl, rfl, hw2, hG2, hno2, hfo2, hgv⟩ := hp
  obtain ⟨ad, n, L, f, g0, w, hw, hn, hprobe, hmo, hno, hfo, hl⟩ : ∃ (ad3 : Nat → Nat → Nat) (n3 : Nat × Nat) (L3 : List Nat) (f3 : Nat → va_E) (g3 : Nat → Int64), Wh D K s.heap.size sa s H locs L3 f3 ∧ PW K ad3 (isn n3) S1 L3 f3 ∧ S1.2.2.1 = n3 ∧ 0 < n3.1 ∧ o ∈ L3 ∧ (∀ a i : Nat, isn n3 a i → ad3 a i ≠ o) ∧ f3 o = .inl (K 6, 1, .inr (.inl g3)) ∧ lv_has ls 7 [(0, .ref b), (1, .ref (ad3 0 0)), (2, .ref (ad3 40 0)), (3, .ref o), (4, .int (nI i))] := ⟨ad2, S1.2.2.1, L2, f2, g1, w, hw2, rfl, (hG2.1 25 0 hprobe).1, (hG2.2 o hmo).1, hno2, hfo2, (by rw [(hG2.1 0 0 (isn_f rfl rfl (by decide))).2, (hG2.1 40 0 (isn_f rfl rfl (by decide))).2]; exact hl)⟩
  refine lv_istore (lv' := [(5, .int (if ec = 0 then 0 else 1)), (0, .ref b), (1, .ref (ad 0 0)), (2, .ref (ad 40 0)), (3, .ref o), (4, .int (nI i))]) hx hb dL_law_1517 hl (by decide) rfl (fun ls hl => ?_)
  refine lv_aload_n hx hb dL_law_1519 rfl (lv_at hl 3 rfl) ?_
  refine lv_aload_n hx hb dL_law_1520 rfl (lv_at hl 1 rfl) ?_
  refine lv_iload hx hb dL_law_1521 (lv_at hl 5 rfl) ?_
  refine lv_iconst (v := 1) hx hb dL_law_1523 (by decide) ?_
  refine lv_iadd hx hb dL_law_1524 ?_
  rw [show nI i + (1 : Int32) = nI (i + 1) from nI_ad2 i 1]
  refine t_sld hx hb hX hbl w (j := i + 1) (nI_clamp (by omega)) (vp_in_nI (by omega) (by omega)) dL_law_1525 ?_
  refine u_callV (n := 1) C w hw (isn_f rfl rfl (by decide)) rfl rfl rfl (c_X7_fair l D K _ sa _ L _ ad (isn n) (fun _ _ h => h) S1 hw hn (xs (i + 1)) v2 S2 h2) gw_1674 gw_1671 gw_1672 gw_1673 gw_8 ⟨by decide, by decide, by decide +kernel⟩ rfl rfl ⟨Nat.le_of_ble_eq_true rfl, Nat.le_of_ble_eq_true rfl⟩ rfl hl.1 rfl (Nat.le_of_ble_eq_true rfl) dL_law_1526 ⟨by show cells + 1 + 0 ≤ 601024; omega, by show slots + 6 + 0 ≤ 7293033; omega⟩ (fun v9 u H locs hp w => ?_)
  obtain ⟨f2, rfl, rfl, hw2, hn2, hk1⟩ := hp
  have hfo := (hk1 o hmo hno).trans hfo
  have hw := hw2
  have hn := hn2
  clear hw2 hn2
  generalize f2 = f at w hw hfo
  refine lv_istore (lv' := [(6, .int v2), (5, .int (if ec = 0 then 0 else 1)), (0, .ref b), (1, .ref (ad 0 0)), (2, .ref (ad 40 0)), (3, .ref o), (4, .int (nI i))]) hx hb dL_law_1529 hl (by decide) rfl (fun ls hl => ?_)
  refine lv_goto (tgt := 1585) hx hb dL_law_1531 (by decide) ?_
  exact W.widen (k := cells + 6) (n := slots + 307) (by omega) (by omega) (kk ad n L f H locs ls ⟨w, hw, hn, hprobe, hmo, hno, _, hfo⟩ (lv_sub hl [2, 3, 4, 5, 6] rfl))
theorem dL_law_1534 : decode cL_law 1534 = .ok (.aload_n 1, 1) := by decide +kernel
theorem dL_law_1535 : decode cL_law 1535 = .ok (.invokevirtual 225, 3) := by decide +kernel
theorem dL_law_1538 : decode cL_law 1538 = .ok (.pop, 1) := by decide +kernel
theorem dL_law_1539 : decode cL_law 1539 = .ok (.aload_n 2, 1) := by decide +kernel
theorem dL_law_1540 : decode cL_law 1540 = .ok (.invokevirtual 228, 3) := by decide +kernel
theorem dL_law_1543 : decode cL_law 1543 = .ok (.pop, 1) := by decide +kernel
theorem dL_law_1544 : decode cL_law 1544 = .ok (.goto 41, 3) := by decide +kernel
set_option maxHeartbeats 4000000 in
set_option maxRecDepth 100000 in
theorem arm_33 {p : Program} {l : Launch} {e : Env} {s : State} {m : MethodId} {below : List Frame} {meth : Method} {c : Code} {b N : Nat} {xs : Nat → Int32} {D : va_G} {K : Nat → ClassId} {sa : sT} {o i : Nat} {cells slots : Nat} {Q : State → Prop} (hls : l.stackTraces = false) (A : LwC p s m meth c b N xs) (hi : i + 6 ≤ N) {S S1 S2 : fS} {v v2 : Int32} (h1 : F_X6_image  S = some (v, S1)) (h2 : F_X7_image  S1 = some (v2, S2)) (hc : cells + 6 ≤ 601024) (hs : slots + 307 ≤ 7293033) (kk : LwK D K sa p l e s m below meth c b o i S2 (cells + 6) (slots + 307) Q 1585) : LwK D K sa p l e s m below meth c b o i S cells slots Q 1534 := by
  intro ad n L f H locs ls B hl
  obtain ⟨C, hX, hbl, hrt, hlk, hNm⟩ := A
  obtain ⟨w, hw, hn, hprobe, hmo, hno, g0, hfo⟩ := B
  have hx := C.1
  have hb := C.2.1
  refine lv_aload_n hx hb dL_law_1534 rfl (lv_at hl 1 rfl) ?_
  refine u_callV (n := 0) C w hw (isn_f rfl rfl (by decide)) rfl rfl rfl (c_X6_image l D K _ sa _ L _ ad (isn n) (fun _ _ h => h) S hw hn  v S1 h1) gw_519 gw_516 gw_517 gw_518 gw_1 ⟨by decide, by decide, by decide +kernel⟩ rfl rfl ⟨Nat.le_of_ble_eq_true rfl, Nat.le_of_ble_eq_true rfl⟩ rfl hl.1 rfl (Nat.le_of_ble_eq_true rfl) dL_law_1535 ⟨by show cells + 0 ≤ 601024; omega, by show slots + 0 ≤ 7293033; omega⟩ (fun v9 u H locs hp w => ?_)
  obtain ⟨f2, rfl, rfl, hw2, hn2, hk1⟩ := hp
  have hfo := (hk1 o hmo hno).trans hfo
  have hw := hw2
  have hn := hn2
  clear hw2 hn2
  generalize f2 = f at w hw hfo
  refine lv_pop hx hb dL_law_1538 rfl ?_
  refine lv_aload_n hx hb dL_law_1539 rfl (lv_at hl 2 rfl) ?_
  refine u_callV (n := 0) C w hw (isn_f rfl rfl (by decide)) rfl rfl rfl (c_X7_image l D K _ sa _ L _ ad (isn n) (fun _ _ h => h) S1 hw hn  v2 S2 h2) gw_1678 gw_1675 gw_1676 gw_1677 gw_8 ⟨by decide, by decide, by decide +kernel⟩ rfl rfl ⟨Nat.le_of_ble_eq_true rfl, Nat.le_of_ble_eq_true rfl⟩ rfl hl.1 rfl (Nat.le_of_ble_eq_true rfl) dL_law_1540 ⟨by show cells + 0 + 0 ≤ 601024; omega, by show slots + 0 + 0 ≤ 7293033; omega⟩ (fun v9 u H locs hp w => ?_)
  obtain ⟨f2, rfl, rfl, hw2, hn2, hk1⟩ := hp
  have hfo := (hk1 o hmo hno).trans hfo
  have hw := hw2
  have hn := hn2
  clear hw2 hn2
  generalize f2 = f at w hw hfo
  refine lv_pop hx hb dL_law_1543 rfl ?_
  refine lv_goto (tgt := 1585) hx hb dL_law_1544 (by decide) ?_
  exact W.widen (k := cells + 6) (n := slots + 307) (by omega) (by omega) (kk ad n L f H locs ls ⟨w, hw, hn, hprobe, hmo, hno, _, hfo⟩ (lv_sub hl [0, 1, 2, 3, 4] rfl))
theorem dL_law_1547 : decode cL_law 1547 = .ok (.aload_n 1, 1) := by decide +kernel
theorem dL_law_1548 : decode cL_law 1548 = .ok (.invokevirtual 229, 3) := by decide +kernel
theorem dL_law_1551 : decode cL_law 1551 = .ok (.pop, 1) := by decide +kernel
theorem dL_law_1552 : decode cL_law 1552 = .ok (.aload_n 2, 1) := by decide +kernel
theorem dL_law_1553 : decode cL_law 1553 = .ok (.invokevirtual 232, 3) := by decide +kernel
theorem dL_law_1556 : decode cL_law 1556 = .ok (.pop, 1) := by decide +kernel
theorem dL_law_1557 : decode cL_law 1557 = .ok (.goto 28, 3) := by decide +kernel
set_option maxHeartbeats 4000000 in
set_option maxRecDepth 100000 in
theorem arm_34 {p : Program} {l : Launch} {e : Env} {s : State} {m : MethodId} {below : List Frame} {meth : Method} {c : Code} {b N : Nat} {xs : Nat → Int32} {D : va_G} {K : Nat → ClassId} {sa : sT} {o i : Nat} {cells slots : Nat} {Q : State → Prop} (hls : l.stackTraces = false) (A : LwC p s m meth c b N xs) (hi : i + 6 ≤ N) {S S1 S2 : fS} {v v2 : Int32} (h1 : F_X6_restore  S = some (v, S1)) (h2 : F_X7_restore  S1 = some (v2, S2)) (hc : cells + 6 ≤ 601024) (hs : slots + 307 ≤ 7293033) (kk : LwK D K sa p l e s m below meth c b o i S2 (cells + 6) (slots + 307) Q 1585) : LwK D K sa p l e s m below meth c b o i S cells slots Q 1547 := by
  intro ad n L f H locs ls B hl
  obtain ⟨C, hX, hbl, hrt, hlk, hNm⟩ := A
  obtain ⟨w, hw, hn, hprobe, hmo, hno, g0, hfo⟩ := B
  have hx := C.1
  have hb := C.2.1
  refine lv_aload_n hx hb dL_law_1547 rfl (lv_at hl 1 rfl) ?_
  refine u_callV (n := 0) C w hw (isn_f rfl rfl (by decide)) rfl rfl rfl (c_X6_restore l D K _ sa _ L _ ad (isn n) (fun _ _ h => h) S hw hn  v S1 h1) gw_534 gw_531 gw_532 gw_533 gw_1 ⟨by decide, by decide, by decide +kernel⟩ rfl rfl ⟨Nat.le_of_ble_eq_true rfl, Nat.le_of_ble_eq_true rfl⟩ rfl hl.1 rfl (Nat.le_of_ble_eq_true rfl) dL_law_1548 ⟨by show cells + 0 ≤ 601024; omega, by show slots + 0 ≤ 7293033; omega⟩ (fun v9 u H locs hp w => ?_)
  obtain ⟨f2, rfl, rfl, hw2, hn2, hk1⟩ := hp
  have hfo := (hk1 o hmo hno).trans hfo
  have hw := hw2
  have hn := hn2
  clear hw2 hn2
  generalize f2 = f at w hw hfo
  refine lv_pop hx hb dL_law_1551 rfl ?_
  refine lv_aload_n hx hb dL_law_1552 rfl (lv_at hl 2 rfl) ?_
  refine u_callV (n := 0) C w hw (isn_f rfl rfl (by decide)) rfl rfl rfl (c_X7_restore l D K _ sa _ L _ ad (isn n) (fun _ _ h => h) S1 hw hn  v2 S2 h2) gw_1682 gw_1679 gw_1680 gw_1681 gw_8 ⟨by decide, by decide, by decide +kernel⟩ rfl rfl ⟨Nat.le_of_ble_eq_true rfl, Nat.le_of_ble_eq_true rfl⟩ rfl hl.1 rfl (Nat.le_of_ble_eq_true rfl) dL_law_1553 ⟨by show cells + 0 + 0 ≤ 601024; omega, by show slots + 0 + 0 ≤ 7293033; omega⟩ (fun v9 u H locs hp w => ?_)
  obtain ⟨f2, rfl, rfl, hw2, hn2, hk1⟩ := hp
  have hfo := (hk1 o hmo hno).trans hfo
  have hw := hw2
  have hn := hn2
  clear hw2 hn2
  generalize f2 = f at w hw hfo
  refine lv_pop hx hb dL_law_1556 rfl ?_
  refine lv_goto (tgt := 1585) hx hb dL_law_1557 (by decide) ?_
  exact W.widen (k := cells + 6) (n := slots + 307) (by omega) (by omega) (kk ad n L f H locs ls ⟨w, hw, hn, hprobe, hmo, hno, _, hfo⟩ (lv_sub hl [0, 1, 2, 3, 4] rfl))
theorem dL_law_1560 : decode cL_law 1560 = .ok (.aload_n 1, 1) := by decide +kernel
theorem dL_law_1561 : decode cL_law 1561 = .ok (.aload_n 0, 1) := by decide +kernel
theorem dL_law_1562 : decode cL_law 1562 = .ok (.iload 4, 2) := by decide +kernel
theorem dL_law_1564 : decode cL_law 1564 = .ok (.iconst 1, 1) := by decide +kernel
theorem dL_law_1565 : decode cL_law 1565 = .ok (.iadd, 1) := by decide +kernel
theorem dL_law_1566 : decode cL_law 1566 = .ok (.iaload, 1) := by decide +kernel
theorem dL_law_1567 : decode cL_law 1567 = .ok (.invokevirtual 233, 3) := by decide +kernel
theorem dL_law_1570 : decode cL_law 1570 = .ok (.pop, 1) := by decide +kernel
theorem dL_law_1571 : decode cL_law 1571 = .ok (.aload_n 2, 1) := by decide +kernel
theorem dL_law_1572 : decode cL_law 1572 = .ok (.aload_n 0, 1) := by decide +kernel
theorem dL_law_1573 : decode cL_law 1573 = .ok (.iload 4, 2) := by decide +kernel
theorem dL_law_1575 : decode cL_law 1575 = .ok (.iconst 1, 1) := by decide +kernel
theorem dL_law_1576 : decode cL_law 1576 = .ok (.iadd, 1) := by decide +kernel
theorem dL_law_1577 : decode cL_law 1577 = .ok (.iaload, 1) := by decide +kernel
theorem dL_law_1578 : decode cL_law 1578 = .ok (.invokevirtual 236, 3) := by decide +kernel
theorem dL_law_1581 : decode cL_law 1581 = .ok (.pop, 1) := by decide +kernel
theorem dL_law_1582 : decode cL_law 1582 = .ok (.goto 3, 3) := by decide +kernel
set_option maxHeartbeats 4000000 in
set_option maxRecDepth 100000 in
theorem arm_35 {p : Program} {l : Launch} {e : Env} {s : State} {m : MethodId} {below : List Frame} {meth : Method} {c : Code} {b N : Nat} {xs : Nat → Int32} {D : va_G} {K : Nat → ClassId} {sa : sT} {o i : Nat} {cells slots : Nat} {Q : State → Prop} (hls : l.stackTraces = false) (A : LwC p s m meth c b N xs) (hi : i + 6 ≤ N) {S S1 S2 : fS} {v v2 : Int32} (h1 : F_X6_count (xs (i + 1)) S = some (v, S1)) (h2 : F_X7_count (xs (i + 1)) S1 = some (v2, S2)) (hc : cells + 6 ≤ 601024) (hs : slots + 307 ≤ 7293033) (kk : LwK D K sa p l e s m below meth c b o i S2 (cells + 6) (slots + 307) Q 1585) : LwK D K sa p l e s m below meth c b o i S cells slots Q 1560 := by
  intro ad n L f H locs ls B hl
  obtain ⟨C, hX, hbl, hrt, hlk, hNm⟩ := A
  obtain ⟨w, hw, hn, hprobe, hmo, hno, g0, hfo⟩ := B
  have hx := C.1
  have hb := C.2.1
  refine lv_aload_n hx hb dL_law_1560 rfl (lv_at hl 1 rfl) ?_
  refine lv_aload_n hx hb dL_law_1561 rfl (lv_at hl 0 rfl) ?_
  refine lv_iload hx hb dL_law_1562 (lv_at hl 4 rfl) ?_
  refine lv_iconst (v := 1) hx hb dL_law_1564 (by decide) ?_
  refine lv_iadd hx hb dL_law_1565 ?_
  rw [show nI i + (1 : Int32) = nI (i + 1) from nI_ad2 i 1]
  refine t_sld hx hb hX hbl w (j := i + 1) (nI_clamp (by omega)) (vp_in_nI (by omega) (by omega)) dL_law_1566 ?_
  refine u_callV (n := 1) C w hw (isn_f rfl rfl (by decide)) rfl rfl rfl (c_X6_count l D K _ sa _ L _ ad (isn n) (fun _ _ h => h) S hw hn (xs (i + 1)) v S1 h1) gw_538 gw_535 gw_536 gw_537 gw_1 ⟨by decide, by decide, by decide +kernel⟩ rfl rfl ⟨Nat.le_of_ble_eq_true rfl, Nat.le_of_ble_eq_true rfl⟩ rfl hl.1 rfl (Nat.le_of_ble_eq_true rfl) dL_law_1567 ⟨by show cells + 0 ≤ 601024; omega, by show slots + 0 ≤ 7293033; omega⟩ (fun v9 u H locs hp w => ?_)
  obtain ⟨f2, rfl, rfl, hw2, hn2, hk1⟩ := hp
  have hfo := (hk1 o hmo hno).trans hfo
  have hw := hw2
  have hn := hn2
  clear hw2 hn2
  generalize f2 = f at w hw hfo
  refine lv_pop hx hb dL_law_1570 rfl ?_
  refine lv_aload_n hx hb dL_law_1571 rfl (lv_at hl 2 rfl) ?_
  refine lv_aload_n hx hb dL_law_1572 rfl (lv_at hl 0 rfl) ?_
  refine lv_iload hx hb dL_law_1573 (lv_at hl 4 rfl) ?_
  refine lv_iconst (v := 1) hx hb dL_law_1575 (by decide) ?_
  refine lv_iadd hx hb dL_law_1576 ?_
  rw [show nI i + (1 : Int32) = nI (i + 1) from nI_ad2 i 1]
  refine t_sld hx hb hX hbl w (j := i + 1) (nI_clamp (by omega)) (vp_in_nI (by omega) (by omega)) dL_law_1577 ?_
  refine u_callV (n := 1) C w hw (isn_f rfl rfl (by decide)) rfl rfl rfl (c_X7_count l D K _ sa _ L _ ad (isn n) (fun _ _ h => h) S1 hw hn (xs (i + 1)) v2 S2 h2) gw_1686 gw_1683 gw_1684 gw_1685 gw_8 ⟨by decide, by decide, by decide +kernel⟩ rfl rfl ⟨Nat.le_of_ble_eq_true rfl, Nat.le_of_ble_eq_true rfl⟩ rfl hl.1 rfl (Nat.le_of_ble_eq_true rfl) dL_law_1578 ⟨by show cells + 0 + 0 ≤ 601024; omega, by show slots + 0 + 0 ≤ 7293033; omega⟩ (fun v9 u H locs hp w => ?_)
  obtain ⟨f2, rfl, rfl, hw2, hn2, hk1⟩ := hp
  have hfo := (hk1 o hmo hno).trans hfo
  have hw := hw2
  have hn := hn2
  clear hw2 hn2
  generalize f2 = f at w hw hfo
  refine lv_pop hx hb dL_law_1581 rfl ?_
  refine lv_goto (tgt := 1585) hx hb dL_law_1582 (by decide) ?_
  exact W.widen (k := cells + 6) (n := slots + 307) (by omega) (by omega) (kk ad n L f H locs ls ⟨w, hw, hn, hprobe, hmo, hno, _, hfo⟩ (lv_sub hl [0, 1, 2, 3, 4] rfl))
