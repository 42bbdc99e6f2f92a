theorem lg_cmp_self (x : Int64) : lg_cmp x x = 0 := by
  unfold lg_cmp
  rw [if_neg (fun h => absurd (Int64.lt_iff_toInt_lt.mp h) (Int.lt_irrefl _)), if_pos rfl]
theorem dL_law_200 : decode cL_law 200 = .ok (.aload_n 1, 1) := by decide +kernel
theorem dL_law_201 : decode cL_law 201 = .ok (.aload_n 0, 1) := by decide +kernel
theorem dL_law_202 : decode cL_law 202 = .ok (.iload 4, 2) := by decide +kernel
theorem dL_law_204 : decode cL_law 204 = .ok (.iconst 1, 1) := by decide +kernel
theorem dL_law_205 : decode cL_law 205 = .ok (.iadd, 1) := by decide +kernel
theorem dL_law_206 : decode cL_law 206 = .ok (.iaload, 1) := by decide +kernel
theorem dL_law_207 : decode cL_law 207 = .ok (.aload_n 0, 1) := by decide +kernel
theorem dL_law_208 : decode cL_law 208 = .ok (.iload 4, 2) := by decide +kernel
theorem dL_law_210 : decode cL_law 210 = .ok (.iconst 2, 1) := by decide +kernel
theorem dL_law_211 : decode cL_law 211 = .ok (.iadd, 1) := by decide +kernel
theorem dL_law_212 : decode cL_law 212 = .ok (.iaload, 1) := by decide +kernel
theorem dL_law_213 : decode cL_law 213 = .ok (.aload_n 0, 1) := by decide +kernel
theorem dL_law_214 : decode cL_law 214 = .ok (.iload 4, 2) := by decide +kernel
theorem dL_law_216 : decode cL_law 216 = .ok (.iconst 3, 1) := by decide +kernel
theorem dL_law_217 : decode cL_law 217 = .ok (.iadd, 1) := by decide +kernel
theorem dL_law_218 : decode cL_law 218 = .ok (.iaload, 1) := by decide +kernel
theorem dL_law_219 : decode cL_law 219 = .ok (.aload_n 0, 1) := by decide +kernel
theorem dL_law_220 : decode cL_law 220 = .ok (.iload 4, 2) := by decide +kernel
theorem dL_law_222 : decode cL_law 222 = .ok (.iconst 4, 1) := by decide +kernel
theorem dL_law_223 : decode cL_law 223 = .ok (.iadd, 1) := by decide +kernel
theorem dL_law_224 : decode cL_law 224 = .ok (.iaload, 1) := by decide +kernel
theorem dL_law_225 : decode cL_law 225 = .ok (.aload_n 3, 1) := by decide +kernel
theorem dL_law_226 : decode cL_law 226 = .ok (.invokestatic 107, 3) := by decide +kernel
theorem dL_law_229 : decode cL_law 229 = .ok (.istore 5, 2) := by decide +kernel
theorem dL_law_231 : decode cL_law 231 = .ok (.aload_n 2, 1) := by decide +kernel
theorem dL_law_232 : decode cL_law 232 = .ok (.aload_n 0, 1) := by decide +kernel
theorem dL_law_233 : decode cL_law 233 = .ok (.iload 4, 2) := by decide +kernel
theorem dL_law_235 : decode cL_law 235 = .ok (.iconst 1, 1) := by decide +kernel
theorem dL_law_236 : decode cL_law 236 = .ok (.iadd, 1) := by decide +kernel
theorem dL_law_237 : decode cL_law 237 = .ok (.iaload, 1) := by decide +kernel
theorem dL_law_238 : decode cL_law 238 = .ok (.aload_n 0, 1) := by decide +kernel
theorem dL_law_239 : decode cL_law 239 = .ok (.iload 4, 2) := by decide +kernel
theorem dL_law_241 : decode cL_law 241 = .ok (.iconst 2, 1) := by decide +kernel
theorem dL_law_242 : decode cL_law 242 = .ok (.iadd, 1) := by decide +kernel
theorem dL_law_243 : decode cL_law 243 = .ok (.iaload, 1) := by decide +kernel
theorem dL_law_244 : decode cL_law 244 = .ok (.aload_n 0, 1) := by decide +kernel
theorem dL_law_245 : decode cL_law 245 = .ok (.iload 4, 2) := by decide +kernel
theorem dL_law_247 : decode cL_law 247 = .ok (.iconst 3, 1) := by decide +kernel
theorem dL_law_248 : decode cL_law 248 = .ok (.iadd, 1) := by decide +kernel
theorem dL_law_249 : decode cL_law 249 = .ok (.iaload, 1) := by decide +kernel
theorem dL_law_250 : decode cL_law 250 = .ok (.aload_n 0, 1) := by decide +kernel
theorem dL_law_251 : decode cL_law 251 = .ok (.iload 4, 2) := by decide +kernel
theorem dL_law_253 : decode cL_law 253 = .ok (.iconst 4, 1) := by decide +kernel
theorem dL_law_254 : decode cL_law 254 = .ok (.iadd, 1) := by decide +kernel
theorem dL_law_255 : decode cL_law 255 = .ok (.iaload, 1) := by decide +kernel
theorem dL_law_256 : decode cL_law 256 = .ok (.invokevirtual 112, 3) := by decide +kernel
theorem dL_law_259 : decode cL_law 259 = .ok (.istore 6, 2) := by decide +kernel
theorem dL_law_261 : decode cL_law 261 = .ok (.goto 1324, 3) := by decide +kernel
set_option maxHeartbeats 4000000 in
set_option maxRecDepth 100000 in
theorem arm_0 {p : Program} {l : Launch} {e : Env} {s : State} {m : MethodId} {below : List Frame} {meth : Method} {c : Code} {b N : Nat} {xs : Nat → Int32} {D : va_G} {K : Nat → ClassId} {sa : sT} {o i : Nat} {cells slots : Nat} {Q : State → Prop} (hls : l.stackTraces = false) (A : LwC p s m meth c b N xs) (hi : i + 6 ≤ N) {S S1 S2 : fS} {ec : Nat} {v v2 : Int32} (hec : ec = 0 ∨ ec = 1 ∨ ec = 2) (h1 : F_X6_lay (xs (i + 1)) (xs (i + 2)) (xs (i + 3)) (xs (i + 4)) S = some ((ec, v), S1)) (h2 : F_X7_lay (xs (i + 1)) (xs (i + 2)) (xs (i + 3)) (xs (i + 4)) S1 = some (v2, S2)) (hc : cells + 6 ≤ 601024) (hs : slots + 307 ≤ 7293033) (kk : LwK D K sa p l e s m below meth c b o i S2 (cells + 6) (slots + 307) Q 1585) : LwK D K sa p l e s m below meth c b o i S cells slots Q 200 := by
  intro ad n L f H locs ls B hl
  obtain ⟨C, hX, hbl, hrt, hlk, hNm⟩ := A
  obtain ⟨w, hw, hn, hprobe, hmo, hno, g0, hfo⟩ := B
  have hx := C.1
  have hb := C.2.1
  refine lv_aload_n hx hb dL_law_200 rfl (lv_at hl 1 rfl) ?_
  refine lv_aload_n hx hb dL_law_201 rfl (lv_at hl 0 rfl) ?_
  refine lv_iload hx hb dL_law_202 (lv_at hl 4 rfl) ?_
  refine lv_iconst (v := 1) hx hb dL_law_204 (by decide) ?_
  refine lv_iadd hx hb dL_law_205 ?_
  rw [show nI i + (1 : Int32) = nI (i + 1) from nI_ad2 i 1]
  refine t_sld hx hb hX hbl w (j := i + 1) (nI_clamp (by omega)) (vp_in_nI (by omega) (by omega)) dL_law_206 ?_
  refine lv_aload_n hx hb dL_law_207 rfl (lv_at hl 0 rfl) ?_
  refine lv_iload hx hb dL_law_208 (lv_at hl 4 rfl) ?_
  refine lv_iconst (v := 2) hx hb dL_law_210 (by decide) ?_
  refine lv_iadd hx hb dL_law_211 ?_
  rw [show nI i + (2 : Int32) = nI (i + 2) from nI_ad2 i 2]
  refine t_sld hx hb hX hbl w (j := i + 2) (nI_clamp (by omega)) (vp_in_nI (by omega) (by omega)) dL_law_212 ?_
  refine lv_aload_n hx hb dL_law_213 rfl (lv_at hl 0 rfl) ?_
  refine lv_iload hx hb dL_law_214 (lv_at hl 4 rfl) ?_
  refine lv_iconst (v := 3) hx hb dL_law_216 (by decide) ?_
  refine lv_iadd hx hb dL_law_217 ?_
  rw [show nI i + (3 : Int32) = nI (i + 3) from nI_ad2 i 3]
  refine t_sld hx hb hX hbl w (j := i + 3) (nI_clamp (by omega)) (vp_in_nI (by omega) (by omega)) dL_law_218 ?_
  refine lv_aload_n hx hb dL_law_219 rfl (lv_at hl 0 rfl) ?_
  refine lv_iload hx hb dL_law_220 (lv_at hl 4 rfl) ?_
  refine lv_iconst (v := 4) hx hb dL_law_222 (by decide) ?_
  refine lv_iadd hx hb dL_law_223 ?_
  rw [show nI i + (4 : Int32) = nI (i + 4) from nI_ad2 i 4]
  refine t_sld hx hb hX hbl w (j := i + 4) (nI_clamp (by omega)) (vp_in_nI (by omega) (by omega)) dL_law_224 ?_
  refine lv_aload_n hx hb dL_law_225 rfl (lv_at hl 3 rfl) ?_
  refine t_callH (n := 6) C w (c_L_lay l hls D K _ sa _ L f ad n S hw hn hprobe (xs (i + 1)) (xs (i + 2)) (xs (i + 3)) (xs (i + 4)) o hmo hno g0 hfo ec hec v S1 h1) gw_545 gw_543 gw_544 gw_0 ⟨by decide, by decide, by decide +kernel⟩ rfl rfl ⟨Nat.le_of_ble_eq_true rfl, Nat.le_of_ble_eq_true rfl⟩ rfl hl.1 rfl (Nat.le_of_ble_eq_true rfl) dL_law_226 ⟨by show cells + 2 ≤ 601024; omega, by show slots + 12 ≤ 7293033; omega⟩ (fun v9 u H locs hp w => ?_)
  obtain ⟨ad2, L2, f2, g1, rfl, rfl, hw2, hG2, hno2, hfo2, hgv⟩ := hp
  obtain ⟨ad, n, L, f, g0, w, hw, hn, hprobe, hmo, hno, hfo, hl⟩ : ∃ (ad3 : Nat → Nat → Nat) (n3 : Nat × Nat) (L3 : List Nat) (f3 : Nat → va_E) (g3 : Nat → Int64), Wh D K s.heap.size sa s H locs L3 f3 ∧ PW K ad3 (isn n3) S1 L3 f3 ∧ S1.2.2.1 = n3 ∧ 0 < n3.1 ∧ o ∈ L3 ∧ (∀ a i : Nat, isn n3 a i → ad3 a i ≠ o) ∧ f3 o = .inl (K 6, 1, .inr (.inl g3)) ∧ lv_has ls 7 [(0, .ref b), (1, .ref (ad3 0 0)), (2, .ref (ad3 40 0)), (3, .ref o), (4, .int (nI i))] := ⟨ad2, S1.2.2.1, L2, f2, g1, w, hw2, rfl, (hG2.1 25 0 hprobe).1, (hG2.2 o hmo).1, hno2, hfo2, (by rw [(hG2.1 0 0 (isn_f rfl rfl (by decide))).2, (hG2.1 40 0 (isn_f rfl rfl (by decide))).2]; exact hl)⟩
  refine lv_istore (lv' := [(5, .int (if ec = 0 then 0 else if ec = 1 then 2 else 1)), (0, .ref b), (1, .ref (ad 0 0)), (2, .ref (ad 40 0)), (3, .ref o), (4, .int (nI i))]) hx hb dL_law_229 hl (by decide) rfl (fun ls hl => ?_)
  refine lv_aload_n hx hb dL_law_231 rfl (lv_at hl 3 rfl) ?_
  refine lv_aload_n hx hb dL_law_232 rfl (lv_at hl 1 rfl) ?_
  refine lv_iload hx hb dL_law_233 (lv_at hl 5 rfl) ?_
  refine lv_iconst (v := 1) hx hb dL_law_235 (by decide) ?_
  refine lv_iadd hx hb dL_law_236 ?_
  rw [show nI i + (1 : Int32) = nI (i + 1) from nI_ad2 i 1]
  refine t_sld hx hb hX hbl w (j := i + 1) (nI_clamp (by omega)) (vp_in_nI (by omega) (by omega)) dL_law_237 ?_
  refine lv_aload_n hx hb dL_law_238 rfl (lv_at hl 1 rfl) ?_
  refine lv_iload hx hb dL_law_239 (lv_at hl 5 rfl) ?_
  refine lv_iconst (v := 2) hx hb dL_law_241 (by decide) ?_
  refine lv_iadd hx hb dL_law_242 ?_
  rw [show nI i + (2 : Int32) = nI (i + 2) from nI_ad2 i 2]
  refine t_sld hx hb hX hbl w (j := i + 2) (nI_clamp (by omega)) (vp_in_nI (by omega) (by omega)) dL_law_243 ?_
  refine lv_aload_n hx hb dL_law_244 rfl (lv_at hl 1 rfl) ?_
  refine lv_iload hx hb dL_law_245 (lv_at hl 5 rfl) ?_
  refine lv_iconst (v := 3) hx hb dL_law_247 (by decide) ?_
  refine lv_iadd hx hb dL_law_248 ?_
  rw [show nI i + (3 : Int32) = nI (i + 3) from nI_ad2 i 3]
  refine t_sld hx hb hX hbl w (j := i + 3) (nI_clamp (by omega)) (vp_in_nI (by omega) (by omega)) dL_law_249 ?_
  refine lv_aload_n hx hb dL_law_250 rfl (lv_at hl 1 rfl) ?_
  refine lv_iload hx hb dL_law_251 (lv_at hl 5 rfl) ?_
  refine lv_iconst (v := 4) hx hb dL_law_253 (by decide) ?_
  refine lv_iadd hx hb dL_law_254 ?_
  rw [show nI i + (4 : Int32) = nI (i + 4) from nI_ad2 i 4]
  refine t_sld hx hb hX hbl w (j := i + 4) (nI_clamp (by omega)) (vp_in_nI (by omega) (by omega)) dL_law_255 ?_
  refine u_callV (n := 4) C w hw (isn_f rfl rfl (by decide)) rfl rfl rfl (c_X7_lay l D K _ sa _ L _ ad (isn n) (fun _ _ h => h) S1 hw hn (xs (i + 1)) (xs (i + 2)) (xs (i + 3)) (xs (i + 4)) v2 S2 h2) gw_1464 gw_1461 gw_1462 gw_1463 gw_8 ⟨by decide, by decide, by decide +kernel⟩ rfl rfl ⟨Nat.le_of_ble_eq_true rfl, Nat.le_of_ble_eq_true rfl⟩ rfl hl.1 rfl (Nat.le_of_ble_eq_true rfl) dL_law_256 ⟨by show cells + 2 + 0 ≤ 601024; omega, by show slots + 12 + 0 ≤ 7293033; omega⟩ (fun v9 u H locs hp w => ?_)
  obtain ⟨f2, rfl, rfl, hw2, hn2, hk1⟩ := hp
  have hfo := (hk1 o hmo hno).trans hfo
  have hw := hw2
  have hn := hn2
  clear hw2 hn2
  generalize f2 = f at w hw hfo
  refine lv_istore (lv' := [(6, .int v2), (5, .int (if ec = 0 then 0 else if ec = 1 then 2 else 1)), (0, .ref b), (1, .ref (ad 0 0)), (2, .ref (ad 40 0)), (3, .ref o), (4, .int (nI i))]) hx hb dL_law_259 hl (by decide) rfl (fun ls hl => ?_)
  refine lv_goto (tgt := 1585) hx hb dL_law_261 (by decide) ?_
  exact W.widen (k := cells + 6) (n := slots + 307) (by omega) (by omega) (kk ad n L f H locs ls ⟨w, hw, hn, hprobe, hmo, hno, _, hfo⟩ (lv_sub hl [2, 3, 4, 5, 6] rfl))
theorem dL_law_264 : decode cL_law 264 = .ok (.aload_n 1, 1) := by decide +kernel
theorem dL_law_265 : decode cL_law 265 = .ok (.aload_n 0, 1) := by decide +kernel
theorem dL_law_266 : decode cL_law 266 = .ok (.iload 4, 2) := by decide +kernel
theorem dL_law_268 : decode cL_law 268 = .ok (.iconst 1, 1) := by decide +kernel
theorem dL_law_269 : decode cL_law 269 = .ok (.iadd, 1) := by decide +kernel
theorem dL_law_270 : decode cL_law 270 = .ok (.iaload, 1) := by decide +kernel
theorem dL_law_271 : decode cL_law 271 = .ok (.aload_n 0, 1) := by decide +kernel
theorem dL_law_272 : decode cL_law 272 = .ok (.iload 4, 2) := by decide +kernel
theorem dL_law_274 : decode cL_law 274 = .ok (.iconst 2, 1) := by decide +kernel
theorem dL_law_275 : decode cL_law 275 = .ok (.iadd, 1) := by decide +kernel
theorem dL_law_276 : decode cL_law 276 = .ok (.iaload, 1) := by decide +kernel
theorem dL_law_277 : decode cL_law 277 = .ok (.ifCond .eq 7, 3) := by decide +kernel
theorem dL_law_280 : decode cL_law 280 = .ok (.iconst 1, 1) := by decide +kernel
theorem dL_law_281 : decode cL_law 281 = .ok (.goto 4, 3) := by decide +kernel
theorem dL_law_284 : decode cL_law 284 = .ok (.iconst 0, 1) := by decide +kernel
theorem dL_law_285 : decode cL_law 285 = .ok (.aload_n 3, 1) := by decide +kernel
theorem dL_law_286 : decode cL_law 286 = .ok (.invokestatic 113, 3) := by decide +kernel
theorem dL_law_289 : decode cL_law 289 = .ok (.istore 5, 2) := by decide +kernel
theorem dL_law_291 : decode cL_law 291 = .ok (.aload_n 2, 1) := by decide +kernel
theorem dL_law_292 : decode cL_law 292 = .ok (.aload_n 0, 1) := by decide +kernel
theorem dL_law_293 : decode cL_law 293 = .ok (.iload 4, 2) := by decide +kernel
theorem dL_law_295 : decode cL_law 295 = .ok (.iconst 1, 1) := by decide +kernel
theorem dL_law_296 : decode cL_law 296 = .ok (.iadd, 1) := by decide +kernel
theorem dL_law_297 : decode cL_law 297 = .ok (.iaload, 1) := by decide +kernel
theorem dL_law_298 : decode cL_law 298 = .ok (.aload_n 0, 1) := by decide +kernel
theorem dL_law_299 : decode cL_law 299 = .ok (.iload 4, 2) := by decide +kernel
theorem dL_law_301 : decode cL_law 301 = .ok (.iconst 2, 1) := by decide +kernel
theorem dL_law_302 : decode cL_law 302 = .ok (.iadd, 1) := by decide +kernel
theorem dL_law_303 : decode cL_law 303 = .ok (.iaload, 1) := by decide +kernel
theorem dL_law_304 : decode cL_law 304 = .ok (.ifCond .eq 7, 3) := by decide +kernel
theorem dL_law_307 : decode cL_law 307 = .ok (.iconst 1, 1) := by decide +kernel
theorem dL_law_308 : decode cL_law 308 = .ok (.goto 4, 3) := by decide +kernel
theorem dL_law_311 : decode cL_law 311 = .ok (.iconst 0, 1) := by decide +kernel
theorem dL_law_312 : decode cL_law 312 = .ok (.invokevirtual 116, 3) := by decide +kernel
theorem dL_law_315 : decode cL_law 315 = .ok (.istore 6, 2) := by decide +kernel
theorem dL_law_317 : decode cL_law 317 = .ok (.goto 1268, 3) := by decide +kernel
set_option maxHeartbeats 4000000 in
set_option maxRecDepth 100000 in
theorem arm_1 {p : Program} {l : Launch} {e : Env} {s : State} {m : MethodId} {below : List Frame} {meth : Method} {c : Code} {b N : Nat} {xs : Nat → Int32} {D : va_G} {K : Nat → ClassId} {sa : sT} {o i : Nat} {cells slots : Nat} {Q : State → Prop} (hls : l.stackTraces = false) (A : LwC p s m meth c b N xs) (hi : i + 6 ≤ N) {S S1 S2 : fS} {ec : Nat} {v v2 : Int32} (hec : ec = 0 ∨ ec = 3) (h1 : F_X6_wire (xs (i + 1)) ((if xs (i + 2) = 0 then 0 else 1)) S = some ((ec, v), S1)) (h2 : F_X7_wire (xs (i + 1)) ((if xs (i + 2) = 0 then 0 else 1)) S1 = some (v2, S2)) (hc : cells + 6 ≤ 601024) (hs : slots + 307 ≤ 7293033) (kk : LwK D K sa p l e s m below meth c b o i S2 (cells + 6) (slots + 307) Q 1585) : LwK D K sa p l e s m below meth c b o i S cells slots Q 264 := by
  intro ad n L f H locs ls B hl
  obtain ⟨C, hX, hbl, hrt, hlk, hNm⟩ := A
  obtain ⟨w, hw, hn, hprobe, hmo, hno, g0, hfo⟩ := B
  have hx := C.1
  have hb := C.2.1
  by_cases hz2 : xs (i + 2) = 0
  · rw [if_pos hz2] at h1 h2
    refine lv_aload_n hx hb dL_law_264 rfl (lv_at hl 1 rfl) ?_
    refine lv_aload_n hx hb dL_law_265 rfl (lv_at hl 0 rfl) ?_
    refine lv_iload hx hb dL_law_266 (lv_at hl 4 rfl) ?_
    refine lv_iconst (v := 1) hx hb dL_law_268 (by decide) ?_
    refine lv_iadd hx hb dL_law_269 ?_
    rw [show nI i + (1 : Int32) = nI (i + 1) from nI_ad2 i 1]
    refine t_sld hx hb hX hbl w (j := i + 1) (nI_clamp (by omega)) (vp_in_nI (by omega) (by omega)) dL_law_270 ?_
    refine lv_aload_n hx hb dL_law_271 rfl (lv_at hl 0 rfl) ?_
    refine lv_iload hx hb dL_law_272 (lv_at hl 4 rfl) ?_
    refine lv_iconst (v := 2) hx hb dL_law_274 (by decide) ?_
    refine lv_iadd hx hb dL_law_275 ?_
    rw [show nI i + (2 : Int32) = nI (i + 2) from nI_ad2 i 2]
    refine t_sld hx hb hX hbl w (j := i + 2) (nI_clamp (by omega)) (vp_in_nI (by omega) (by omega)) dL_law_276 ?_
    refine lv_if_eq (tgt := 284) hx hb dL_law_277 (by decide) (fun _ => ?_) (fun c0 => absurd hz2 c0)
    refine lv_iconst (v := 0) hx hb dL_law_284 (by decide) ?_
    refine lv_aload_n hx hb dL_law_285 rfl (lv_at hl 3 rfl) ?_
    refine t_callH (n := 4) C w (c_L_wire l hls D K _ sa _ L f ad n S hw hn hprobe (xs (i + 1)) (0) o hmo hno g0 hfo ec hec v S1 h1) gw_648 gw_646 gw_647 gw_0 ⟨by decide, by decide, by decide +kernel⟩ rfl rfl ⟨Nat.le_of_ble_eq_true rfl, Nat.le_of_ble_eq_true rfl⟩ rfl hl.1 rfl (Nat.le_of_ble_eq_true rfl) dL_law_286 ⟨by show cells + 1 ≤ 601024; omega, by show slots + 6 ≤ 7293033; omega⟩ (fun v9 u H locs hp w => ?_)
    obtain ⟨ad2, L2, f2, g1, rfl, rfl, hw2, hG2, hno2, hfo2, hgv⟩ := hp
    obtain ⟨ad, n, L, f, g0, w, hw, hn, hprobe, hmo, hno, hfo, hl⟩ : ∃ (ad3 : Nat → Nat → Nat) (n3 : Nat × Nat) (L3 : List Nat) (f3 : Nat → va_E) (g3 : Nat → Int64), Wh D K s.heap.size sa s H locs L3 f3 ∧ PW K ad3 (isn n3) S1 L3 f3 ∧ S1.2.2.1 = n3 ∧ 0 < n3.1 ∧ o ∈ L3 ∧ (∀ a i : Nat, isn n3 a i → ad3 a i ≠ o) ∧ f3 o = .inl (K 6, 1, .inr (.inl g3)) ∧ lv_has ls 7 [(0, .ref b), (1, .ref (ad3 0 0)), (2, .ref (ad3 40 0)), (3, .ref o), (4, .int (nI i))] := ⟨ad2, S1.2.2.1, L2, f2, g1, w, hw2, rfl, (hG2.1 25 0 hprobe).1, (hG2.2 o hmo).1, hno2, hfo2, (by rw [(hG2.1 0 0 (isn_f rfl rfl (by decide))).2, (hG2.1 40 0 (isn_f rfl rfl (by decide))).2]; exact hl)⟩
    refine lv_istore (lv' := [(5, .int (if ec = 0 then 0 else 1)), (0, .ref b), (1, .ref (ad 0 0)), (2, .ref (ad 40 0)), (3, .ref o), (4, .int (nI i))]) hx hb dL_law_289 hl (by decide) rfl (fun ls hl => ?_)
    refine lv_aload_n hx hb dL_law_291 rfl (lv_at hl 3 rfl) ?_
    refine lv_aload_n hx hb dL_law_292 rfl (lv_at hl 1 rfl) ?_
    refine lv_iload hx hb dL_law_293 (lv_at hl 5 rfl) ?_
    refine lv_iconst (v := 1) hx hb dL_law_295 (by decide) ?_
    refine lv_iadd hx hb dL_law_296 ?_
    rw [show nI i + (1 : Int32) = nI (i + 1) from nI_ad2 i 1]
    refine t_sld hx hb hX hbl w (j := i + 1) (nI_clamp (by omega)) (vp_in_nI (by omega) (by omega)) dL_law_297 ?_
    refine lv_aload_n hx hb dL_law_298 rfl (lv_at hl 1 rfl) ?_
    refine lv_iload hx hb dL_law_299 (lv_at hl 5 rfl) ?_
    refine lv_iconst (v := 2) hx hb dL_law_301 (by decide) ?_
    refine lv_iadd hx hb dL_law_302 ?_
    rw [show nI i + (2 : Int32) = nI (i + 2) from nI_ad2 i 2]
    refine t_sld hx hb hX hbl w (j := i + 2) (nI_clamp (by omega)) (vp_in_nI (by omega) (by omega)) dL_law_303 ?_
    refine lv_if_eq (tgt := 311) hx hb dL_law_304 (by decide) (fun _ => ?_) (fun c0 => absurd hz2 c0)
    refine lv_iconst (v := 0) hx hb dL_law_311 (by decide) ?_
    refine u_callV (n := 2) C w hw (isn_f rfl rfl (by decide)) rfl rfl rfl (c_X7_wire l D K _ sa _ L _ ad (isn n) (fun _ _ h => h) S1 hw hn (xs (i + 1)) (0) v2 S2 h2) gw_1475 gw_1472 gw_1473 gw_1474 gw_8 ⟨by decide, by decide, by decide +kernel⟩ rfl rfl ⟨Nat.le_of_ble_eq_true rfl, Nat.le_of_ble_eq_true rfl⟩ rfl hl.1 rfl (Nat.le_of_ble_eq_true rfl) dL_law_312 ⟨by show cells + 1 + 0 ≤ 601024; omega, by show slots + 6 + 0 ≤ 7293033; omega⟩ (fun v9 u H locs hp w => ?_)
    obtain ⟨f2, rfl, rfl, hw2, hn2, hk1⟩ := hp
    have hfo := (hk1 o hmo hno).trans hfo
    have hw := hw2
    have hn := hn2
    clear hw2 hn2
    generalize f2 = f at w hw hfo
    refine lv_istore (lv' := [(6, .int v2), (5, .int (if ec = 0 then 0 else 1)), (0, .ref b), (1, .ref (ad 0 0)), (2, .ref (ad 40 0)), (3, .ref o), (4, .int (nI i))]) hx hb dL_law_315 hl (by decide) rfl (fun ls hl => ?_)
    refine lv_goto (tgt := 1585) hx hb dL_law_317 (by decide) ?_
    exact W.widen (k := cells + 6) (n := slots + 307) (by omega) (by omega) (kk ad n L f H locs ls ⟨w, hw, hn, hprobe, hmo, hno, _, hfo⟩ (lv_sub hl [2, 3, 4, 5, 6] rfl))
  · rw [if_neg hz2] at h1 h2
    refine lv_aload_n hx hb dL_law_264 rfl (lv_at hl 1 rfl) ?_
    refine lv_aload_n hx hb dL_law_265 rfl (lv_at hl 0 rfl) ?_
    refine lv_iload hx hb dL_law_266 (lv_at hl 4 rfl) ?_
    refine lv_iconst (v := 1) hx hb dL_law_268 (by decide) ?_
    refine lv_iadd hx hb dL_law_269 ?_
    rw [show nI i + (1 : Int32) = nI (i + 1) from nI_ad2 i 1]
    refine t_sld hx hb hX hbl w (j := i + 1) (nI_clamp (by omega)) (vp_in_nI (by omega) (by omega)) dL_law_270 ?_
    refine lv_aload_n hx hb dL_law_271 rfl (lv_at hl 0 rfl) ?_
    refine lv_iload hx hb dL_law_272 (lv_at hl 4 rfl) ?_
    refine lv_iconst (v := 2) hx hb dL_law_274 (by decide) ?_
    refine lv_iadd hx hb dL_law_275 ?_
    rw [show nI i + (2 : Int32) = nI (i + 2) from nI_ad2 i 2]
    refine t_sld hx hb hX hbl w (j := i + 2) (nI_clamp (by omega)) (vp_in_nI (by omega) (by omega)) dL_law_276 ?_
    refine lv_if_eq (tgt := 284) hx hb dL_law_277 (by decide) (fun c0 => absurd c0 hz2) (fun _ => ?_)
    refine lv_iconst (v := 1) hx hb dL_law_280 (by decide) ?_
    refine lv_goto (tgt := 285) hx hb dL_law_281 (by decide) ?_
    refine lv_aload_n hx hb dL_law_285 rfl (lv_at hl 3 rfl) ?_
    refine t_callH (n := 4) C w (c_L_wire l hls D K _ sa _ L f ad n S hw hn hprobe (xs (i + 1)) (1) o hmo hno g0 hfo ec hec v S1 h1) gw_648 gw_646 gw_647 gw_0 ⟨by decide, by decide, by decide +kernel⟩ rfl rfl ⟨Nat.le_of_ble_eq_true rfl, Nat.le_of_ble_eq_true rfl⟩ rfl hl.1 rfl (Nat.le_of_ble_eq_true rfl) dL_law_286 ⟨by show cells + 1 ≤ 601024; omega, by show slots + 6 ≤ 7293033; omega⟩ (fun v9 u H locs hp w => ?_)
    obtain ⟨ad2, L2, f2, g1, rfl, rfl, hw2, hG2, hno2, hfo2, hgv⟩ := hp
    obtain ⟨ad, n, L, f, g0, w, hw, hn, hprobe, hmo, hno, hfo, hl⟩ : ∃ (ad3 : Nat → Nat → Nat) (n3 : Nat × Nat) (L3 : List Nat) (f3 : Nat → va_E) (g3 : Nat → Int64), Wh D K s.heap.size sa s H locs L3 f3 ∧ PW K ad3 (isn n3) S1 L3 f3 ∧ S1.2.2.1 = n3 ∧ 0 < n3.1 ∧ o ∈ L3 ∧ (∀ a i : Nat, isn n3 a i → ad3 a i ≠ o) ∧ f3 o = .inl (K 6, 1, .inr (.inl g3)) ∧ lv_has ls 7 [(0, .ref b), (1, .ref (ad3 0 0)), (2, .ref (ad3 40 0)), (3, .ref o), (4, .int (nI i))] := ⟨ad2, S1.2.2.1, L2, f2, g1, w, hw2, rfl, (hG2.1 25 0 hprobe).1, (hG2.2 o hmo).1, hno2, hfo2, (by rw [(hG2.1 0 0 (isn_f rfl rfl (by decide))).2, (hG2.1 40 0 (isn_f rfl rfl (by decide))).2]; exact hl)⟩
    refine lv_istore (lv' := [(5, .int (if ec = 0 then 0 else 1)), (0, .ref b), (1, .ref (ad 0 0)), (2, .ref (ad 40 0)), (3, .ref o), (4, .int (nI i))]) hx hb dL_law_289 hl (by decide) rfl (fun ls hl => ?_)
    refine lv_aload_n hx hb dL_law_291 rfl (lv_at hl 3 rfl) ?_
    refine lv_aload_n hx hb dL_law_292 rfl (lv_at hl 1 rfl) ?_
    refine lv_iload hx hb dL_law_293 (lv_at hl 5 rfl) ?_
    refine lv_iconst (v := 1) hx hb dL_law_295 (by decide) ?_
    refine lv_iadd hx hb dL_law_296 ?_
    rw [show nI i + (1 : Int32) = nI (i + 1) from nI_ad2 i 1]
    refine t_sld hx hb hX hbl w (j := i + 1) (nI_clamp (by omega)) (vp_in_nI (by omega) (by omega)) dL_law_297 ?_
    refine lv_aload_n hx hb dL_law_298 rfl (lv_at hl 1 rfl) ?_
    refine lv_iload hx hb dL_law_299 (lv_at hl 5 rfl) ?_
    refine lv_iconst (v := 2) hx hb dL_law_301 (by decide) ?_
    refine lv_iadd hx hb dL_law_302 ?_
    rw [show nI i + (2 : Int32) = nI (i + 2) from nI_ad2 i 2]
    refine t_sld hx hb hX hbl w (j := i + 2) (nI_clamp (by omega)) (vp_in_nI (by omega) (by omega)) dL_law_303 ?_
    refine lv_if_eq (tgt := 311) hx hb dL_law_304 (by decide) (fun c0 => absurd c0 hz2) (fun _ => ?_)
    refine lv_iconst (v := 1) hx hb dL_law_307 (by decide) ?_
    refine lv_goto (tgt := 312) hx hb dL_law_308 (by decide) ?_
    refine u_callV (n := 2) C w hw (isn_f rfl rfl (by decide)) rfl rfl rfl (c_X7_wire l D K _ sa _ L _ ad (isn n) (fun _ _ h => h) S1 hw hn (xs (i + 1)) (1) v2 S2 h2) gw_1475 gw_1472 gw_1473 gw_1474 gw_8 ⟨by decide, by decide, by decide +kernel⟩ rfl rfl ⟨Nat.le_of_ble_eq_true rfl, Nat.le_of_ble_eq_true rfl⟩ rfl hl.1 rfl (Nat.le_of_ble_eq_true rfl) dL_law_312 ⟨by show cells + 1 + 0 ≤ 601024; omega, by show slots + 6 + 0 ≤ 7293033; omega⟩ (fun v9 u H locs hp w => ?_)
    obtain ⟨f2, rfl, rfl, hw2, hn2, hk1⟩ := hp
    have hfo := (hk1 o hmo hno).trans hfo
    have hw := hw2
    have hn := hn2
    clear hw2 hn2
    generalize f2 = f at w hw hfo
    refine lv_istore (lv' := [(6, .int v2), (5, .int (if ec = 0 then 0 else 1)), (0, .ref b), (1, .ref (ad 0 0)), (2, .ref (ad 40 0)), (3, .ref o), (4, .int (nI i))]) hx hb dL_law_315 hl (by decide) rfl (fun ls hl => ?_)
    refine lv_goto (tgt := 1585) hx hb dL_law_317 (by decide) ?_
    exact W.widen (k := cells + 6) (n := slots + 307) (by omega) (by omega) (kk ad n L f H locs ls ⟨w, hw, hn, hprobe, hmo, hno, _, hfo⟩ (lv_sub hl [2, 3, 4, 5, 6] rfl))
theorem dL_law_320 : decode cL_law 320 = .ok (.aload_n 1, 1) := by decide +kernel
theorem dL_law_321 : decode cL_law 321 = .ok (.aload_n 0, 1) := by decide +kernel
theorem dL_law_322 : decode cL_law 322 = .ok (.iload 4, 2) := by decide +kernel
theorem dL_law_324 : decode cL_law 324 = .ok (.iconst 1, 1) := by decide +kernel
theorem dL_law_325 : decode cL_law 325 = .ok (.iadd, 1) := by decide +kernel
theorem dL_law_326 : decode cL_law 326 = .ok (.iaload, 1) := by decide +kernel
theorem dL_law_327 : decode cL_law 327 = .ok (.aload_n 3, 1) := by decide +kernel
theorem dL_law_328 : decode cL_law 328 = .ok (.invokestatic 117, 3) := by decide +kernel
theorem dL_law_331 : decode cL_law 331 = .ok (.istore 5, 2) := by decide +kernel
theorem dL_law_333 : decode cL_law 333 = .ok (.aload_n 2, 1) := by decide +kernel
theorem dL_law_334 : decode cL_law 334 = .ok (.aload_n 0, 1) := by decide +kernel
theorem dL_law_335 : decode cL_law 335 = .ok (.iload 4, 2) := by decide +kernel
theorem dL_law_337 : decode cL_law 337 = .ok (.iconst 1, 1) := by decide +kernel
theorem dL_law_338 : decode cL_law 338 = .ok (.iadd, 1) := by decide +kernel
theorem dL_law_339 : decode cL_law 339 = .ok (.iaload, 1) := by decide +kernel
theorem dL_law_340 : decode cL_law 340 = .ok (.invokevirtual 120, 3) := by decide +kernel
theorem dL_law_343 : decode cL_law 343 = .ok (.istore 6, 2) := by decide +kernel
theorem dL_law_345 : decode cL_law 345 = .ok (.goto 1240, 3) := by decide +kernel
set_option maxHeartbeats 4000000 in
set_option maxRecDepth 100000 in
theorem arm_2 {p : Program} {l : Launch} {e : Env} {s : State} {m : MethodId} {below : List Frame} {meth : Method} {c : Code} {b N : Nat} {xs : Nat → Int32} {D : va_G} {K : Nat → ClassId} {sa : sT} {o i : Nat} {cells slots : Nat} {Q : State → Prop} (hls : l.stackTraces = false) (A : LwC p s m meth c b N xs) (hi : i + 6 ≤ N) {S S1 S2 : fS} {ec : Nat} {v v2 : Int32} (hec : ec = 0 ∨ ec = 3) (h1 : F_X6_key (xs (i + 1)) S = some ((ec, v), S1)) (h2 : F_X7_key (xs (i + 1)) S1 = some (v2, S2)) (hc : cells + 6 ≤ 601024) (hs : slots + 307 ≤ 7293033) (kk : LwK D K sa p l e s m below meth c b o i S2 (cells + 6) (slots + 307) Q 1585) : LwK D K sa p l e s m below meth c b o i S cells slots Q 320 := by
  intro ad n L f H locs ls B hl
  obtain ⟨C, hX, hbl, hrt, hlk, hNm⟩ := A
  obtain ⟨w, hw, hn, hprobe, hmo, hno, g0, hfo⟩ := B
  have hx := C.1
  have hb := C.2.1
  refine lv_aload_n hx hb dL_law_320 rfl (lv_at hl 1 rfl) ?_
  refine lv_aload_n hx hb dL_law_321 rfl (lv_at hl 0 rfl) ?_
  refine lv_iload hx hb dL_law_322 (lv_at hl 4 rfl) ?_
  refine lv_iconst (v := 1) hx hb dL_law_324 (by decide) ?_
  refine lv_iadd hx hb dL_law_325 ?_
  rw [show nI i + (1 : Int32) = nI (i + 1) from nI_ad2 i 1]
  refine t_sld hx hb hX hbl w (j := i + 1) (nI_clamp (by omega)) (vp_in_nI (by omega) (by omega)) dL_law_326 ?_
  refine lv_aload_n hx hb dL_law_327 rfl (lv_at hl 3 rfl) ?_
  refine t_callH (n := 3) C w (c_L_key l hls D K _ sa _ L f ad n S hw hn hprobe (xs (i + 1)) o hmo hno g0 hfo ec hec v S1 h1) gw_675 gw_673 gw_674 gw_0 ⟨by decide, by decide, by decide +kernel⟩ rfl rfl ⟨Nat.le_of_ble_eq_true rfl, Nat.le_of_ble_eq_true rfl⟩ rfl hl.1 rfl (Nat.le_of_ble_eq_true rfl) dL_law_328 ⟨by show cells + 1 ≤ 601024; omega, by show slots + 6 ≤ 7293033; omega⟩ (fun v9 u H locs hp w => ?_)
  obtain ⟨ad2, L2, f2, g1, rfl, rfl, hw2, hG2, hno2, hfo2, hgv⟩ := hp
  obtain ⟨ad, n, L, f, g0, w, hw, hn, hprobe, hmo, hno, hfo, hl⟩ : ∃ (ad3 : Nat → Nat → Nat) (n3 : Nat × Nat) (L3 : List Nat) (f3 : Nat → va_E) (g3 : Nat → Int64), Wh D K s.heap.size sa s H locs L3 f3 ∧ PW K ad3 (isn n3) S1 L3 f3 ∧ S1.2.2.1 = n3 ∧ 0 < n3.1 ∧ o ∈ L3 ∧ (∀ a i : Nat, isn n3 a i → ad3 a i ≠ o) ∧ f3 o = .inl (K 6, 1, .inr (.inl g3)) ∧ lv_has ls 7 [(0, .ref b), (1, .ref (ad3 0 0)), (2, .ref (ad3 40 0)), (3, .ref o), (4, .int (nI i))] := ⟨ad2, S1.2.2.1, L2, f2, g1, w, hw2, rfl, (hG2.1 25 0 hprobe).1, (hG2.2 o hmo).1, hno2, hfo2, (by rw [(hG2.1 0 0 (isn_f rfl rfl (by decide))).2, (hG2.1 40 0 (isn_f rfl rfl (by decide))).2]; exact hl)⟩
  refine lv_istore (lv' := [(5, .int (if ec = 0 then 0 else 1)), (0, .ref b), (1, .ref (ad 0 0)), (2, .ref (ad 40 0)), (3, .ref o), (4, .int (nI i))]) hx hb dL_law_331 hl (by decide) rfl (fun ls hl => ?_)
  refine lv_aload_n hx hb dL_law_333 rfl (lv_at hl 3 rfl) ?_
  refine lv_aload_n hx hb dL_law_334 rfl (lv_at hl 1 rfl) ?_
  refine lv_iload hx hb dL_law_335 (lv_at hl 5 rfl) ?_
  refine lv_iconst (v := 1) hx hb dL_law_337 (by decide) ?_
  refine lv_iadd hx hb dL_law_338 ?_
  rw [show nI i + (1 : Int32) = nI (i + 1) from nI_ad2 i 1]
  refine t_sld hx hb hX hbl w (j := i + 1) (nI_clamp (by omega)) (vp_in_nI (by omega) (by omega)) dL_law_339 ?_
  refine u_callV (n := 1) C w hw (isn_f rfl rfl (by decide)) rfl rfl rfl (c_X7_key l D K _ sa _ L _ ad (isn n) (fun _ _ h => h) S1 hw hn (xs (i + 1)) v2 S2 h2) gw_1479 gw_1476 gw_1477 gw_1478 gw_8 ⟨by decide, by decide, by decide +kernel⟩ rfl rfl ⟨Nat.le_of_ble_eq_true rfl, Nat.le_of_ble_eq_true rfl⟩ rfl hl.1 rfl (Nat.le_of_ble_eq_true rfl) dL_law_340 ⟨by show cells + 1 + 0 ≤ 601024; omega, by show slots + 6 + 0 ≤ 7293033; omega⟩ (fun v9 u H locs hp w => ?_)
  obtain ⟨f2, rfl, rfl, hw2, hn2, hk1⟩ := hp
  have hfo := (hk1 o hmo hno).trans hfo
  have hw := hw2
  have hn := hn2
  clear hw2 hn2
  generalize f2 = f at w hw hfo
  refine lv_istore (lv' := [(6, .int v2), (5, .int (if ec = 0 then 0 else 1)), (0, .ref b), (1, .ref (ad 0 0)), (2, .ref (ad 40 0)), (3, .ref o), (4, .int (nI i))]) hx hb dL_law_343 hl (by decide) rfl (fun ls hl => ?_)
  refine lv_goto (tgt := 1585) hx hb dL_law_345 (by decide) ?_
  exact W.widen (k := cells + 6) (n := slots + 307) (by omega) (by omega) (kk ad n L f H locs ls ⟨w, hw, hn, hprobe, hmo, hno, _, hfo⟩ (lv_sub hl [2, 3, 4, 5, 6] rfl))
theorem dL_law_348 : decode cL_law 348 = .ok (.aload_n 1, 1) := by decide +kernel
theorem dL_law_349 : decode cL_law 349 = .ok (.aload_n 0, 1) := by decide +kernel
theorem dL_law_350 : decode cL_law 350 = .ok (.iload 4, 2) := by decide +kernel
theorem dL_law_352 : decode cL_law 352 = .ok (.iconst 1, 1) := by decide +kernel
theorem dL_law_353 : decode cL_law 353 = .ok (.iadd, 1) := by decide +kernel
theorem dL_law_354 : decode cL_law 354 = .ok (.iaload, 1) := by decide +kernel
theorem dL_law_355 : decode cL_law 355 = .ok (.aload_n 0, 1) := by decide +kernel
theorem dL_law_356 : decode cL_law 356 = .ok (.iload 4, 2) := by decide +kernel
theorem dL_law_358 : decode cL_law 358 = .ok (.iconst 2, 1) := by decide +kernel
theorem dL_law_359 : decode cL_law 359 = .ok (.iadd, 1) := by decide +kernel
theorem dL_law_360 : decode cL_law 360 = .ok (.iaload, 1) := by decide +kernel
theorem dL_law_361 : decode cL_law 361 = .ok (.aload_n 3, 1) := by decide +kernel
theorem dL_law_362 : decode cL_law 362 = .ok (.invokestatic 121, 3) := by decide +kernel
theorem dL_law_365 : decode cL_law 365 = .ok (.istore 5, 2) := by decide +kernel
theorem dL_law_367 : decode cL_law 367 = .ok (.aload_n 2, 1) := by decide +kernel
theorem dL_law_368 : decode cL_law 368 = .ok (.aload_n 0, 1) := by decide +kernel
theorem dL_law_369 : decode cL_law 369 = .ok (.iload 4, 2) := by decide +kernel
theorem dL_law_371 : decode cL_law 371 = .ok (.iconst 1, 1) := by decide +kernel
theorem dL_law_372 : decode cL_law 372 = .ok (.iadd, 1) := by decide +kernel
theorem dL_law_373 : decode cL_law 373 = .ok (.iaload, 1) := by decide +kernel
theorem dL_law_374 : decode cL_law 374 = .ok (.aload_n 0, 1) := by decide +kernel
theorem dL_law_375 : decode cL_law 375 = .ok (.iload 4, 2) := by decide +kernel
theorem dL_law_377 : decode cL_law 377 = .ok (.iconst 2, 1) := by decide +kernel
theorem dL_law_378 : decode cL_law 378 = .ok (.iadd, 1) := by decide +kernel
theorem dL_law_379 : decode cL_law 379 = .ok (.iaload, 1) := by decide +kernel
theorem dL_law_380 : decode cL_law 380 = .ok (.invokevirtual 124, 3) := by decide +kernel
theorem dL_law_383 : decode cL_law 383 = .ok (.istore 6, 2) := by decide +kernel
theorem dL_law_385 : decode cL_law 385 = .ok (.goto 1200, 3) := by decide +kernel
set_option maxHeartbeats 4000000 in
set_option maxRecDepth 100000 in
theorem arm_3 {p : Program} {l : Launch} {e : Env} {s : State} {m : MethodId} {below : List Frame} {meth : Method} {c : Code} {b N : Nat} {xs : Nat → Int32} {D : va_G} {K : Nat → ClassId} {sa : sT} {o i : Nat} {cells slots : Nat} {Q : State → Prop} (hls : l.stackTraces = false) (A : LwC p s m meth c b N xs) (hi : i + 6 ≤ N) {S S1 S2 : fS} {ec : Nat} {v v2 : Int32} (hec : ec = 0 ∨ ec = 1 ∨ ec = 3) (h1 : F_X6_thing (xs (i + 1)) (xs (i + 2)) S = some ((ec, v), S1)) (h2 : F_X7_thing (xs (i + 1)) (xs (i + 2)) S1 = some (v2, S2)) (hc : cells + 6 ≤ 601024) (hs : slots + 307 ≤ 7293033) (kk : LwK D K sa p l e s m below meth c b o i S2 (cells + 6) (slots + 307) Q 1585) : LwK D K sa p l e s m below meth c b o i S cells slots Q 348 := by
  intro ad n L f H locs ls B hl
  obtain ⟨C, hX, hbl, hrt, hlk, hNm⟩ := A
  obtain ⟨w, hw, hn, hprobe, hmo, hno, g0, hfo⟩ := B
  have hx := C.1
  have hb := C.2.1
  refine lv_aload_n hx hb dL_law_348 rfl (lv_at hl 1 rfl) ?_
  refine lv_aload_n hx hb dL_law_349 rfl (lv_at hl 0 rfl) ?_
  refine lv_iload hx hb dL_law_350 (lv_at hl 4 rfl) ?_
  refine lv_iconst (v := 1) hx hb dL_law_352 (by decide) ?_
  refine lv_iadd hx hb dL_law_353 ?_
  rw [show nI i + (1 : Int32) = nI (i + 1) from nI_ad2 i 1]
  refine t_sld hx hb hX hbl w (j := i + 1) (nI_clamp (by omega)) (vp_in_nI (by omega) (by omega)) dL_law_354 ?_
  refine lv_aload_n hx hb dL_law_355 rfl (lv_at hl 0 rfl) ?_
  refine lv_iload hx hb dL_law_356 (lv_at hl 4 rfl) ?_
  refine lv_iconst (v := 2) hx hb dL_law_358 (by decide) ?_
  refine lv_iadd hx hb dL_law_359 ?_
  rw [show nI i + (2 : Int32) = nI (i + 2) from nI_ad2 i 2]
  refine t_sld hx hb hX hbl w (j := i + 2) (nI_clamp (by omega)) (vp_in_nI (by omega) (by omega)) dL_law_360 ?_
  refine lv_aload_n hx hb dL_law_361 rfl (lv_at hl 3 rfl) ?_
  refine t_callH (n := 4) C w (c_L_thing l hls D K _ sa _ L f ad n S hw hn hprobe (xs (i + 1)) (xs (i + 2)) o hmo hno g0 hfo ec hec v S1 h1) gw_690 gw_688 gw_689 gw_0 ⟨by decide, by decide, by decide +kernel⟩ rfl rfl ⟨Nat.le_of_ble_eq_true rfl, Nat.le_of_ble_eq_true rfl⟩ rfl hl.1 rfl (Nat.le_of_ble_eq_true rfl) dL_law_362 ⟨by show cells + 2 ≤ 601024; omega, by show slots + 12 ≤ 7293033; omega⟩ (fun v9 u H locs hp w => ?_)
  obtain ⟨ad2, L2, f2, g1, rfl, rfl, hw2, hG2, hno2, hfo2, hgv⟩ := hp
  obtain ⟨ad, n, L, f, g0, w, hw, hn, hprobe, hmo, hno, hfo, hl⟩ : ∃ (ad3 : Nat → Nat → Nat) (n3 : Nat × Nat) (L3 : List Nat) (f3 : Nat → va_E) (g3 : Nat → Int64), Wh D K s.heap.size sa s H locs L3 f3 ∧ PW K ad3 (isn n3) S1 L3 f3 ∧ S1.2.2.1 = n3 ∧ 0 < n3.1 ∧ o ∈ L3 ∧ (∀ a i : Nat, isn n3 a i → ad3 a i ≠ o) ∧ f3 o = .inl (K 6, 1, .inr (.inl g3)) ∧ lv_has ls 7 [(0, .ref b), (1, .ref (ad3 0 0)), (2, .ref (ad3 40 0)), (3, .ref o), (4, .int (nI i))] := ⟨ad2, S1.2.2.1, L2, f2, g1, w, hw2, rfl, (hG2.1 25 0 hprobe).1, (hG2.2 o hmo).1, hno2, hfo2, (by rw [(hG2.1 0 0 (isn_f rfl rfl (by decide))).2, (hG2.1 40 0 (isn_f rfl rfl (by decide))).2]; exact hl)⟩
  refine lv_istore (lv' := [(5, .int (if ec = 0 then 0 else if ec = 1 then 2 else 1)), (0, .ref b), (1, .ref (ad 0 0)), (2, .ref (ad 40 0)), (3, .ref o), (4, .int (nI i))]) hx hb dL_law_365 hl (by decide) rfl (fun ls hl => ?_)
  refine lv_aload_n hx hb dL_law_367 rfl (lv_at hl 3 rfl) ?_
  refine lv_aload_n hx hb dL_law_368 rfl (lv_at hl 1 rfl) ?_
  refine lv_iload hx hb dL_law_369 (lv_at hl 5 rfl) ?_
  refine lv_iconst (v := 1) hx hb dL_law_371 (by decide) ?_
  refine lv_iadd hx hb dL_law_372 ?_
  rw [show nI i + (1 : Int32) = nI (i + 1) from nI_ad2 i 1]
  refine t_sld hx hb hX hbl w (j := i + 1) (nI_clamp (by omega)) (vp_in_nI (by omega) (by omega)) dL_law_373 ?_
  refine lv_aload_n hx hb dL_law_374 rfl (lv_at hl 1 rfl) ?_
  refine lv_iload hx hb dL_law_375 (lv_at hl 5 rfl) ?_
  refine lv_iconst (v := 2) hx hb dL_law_377 (by decide) ?_
  refine lv_iadd hx hb dL_law_378 ?_
  rw [show nI i + (2 : Int32) = nI (i + 2) from nI_ad2 i 2]
  refine t_sld hx hb hX hbl w (j := i + 2) (nI_clamp (by omega)) (vp_in_nI (by omega) (by omega)) dL_law_379 ?_
  refine u_callV (n := 2) C w hw (isn_f rfl rfl (by decide)) rfl rfl rfl (c_X7_thing l D K _ sa _ L _ ad (isn n) (fun _ _ h => h) S1 hw hn (xs (i + 1)) (xs (i + 2)) v2 S2 h2) gw_1491 gw_1488 gw_1489 gw_1490 gw_8 ⟨by decide, by decide, by decide +kernel⟩ rfl rfl ⟨Nat.le_of_ble_eq_true rfl, Nat.le_of_ble_eq_true rfl⟩ rfl hl.1 rfl (Nat.le_of_ble_eq_true rfl) dL_law_380 ⟨by show cells + 2 + 0 ≤ 601024; omega, by show slots + 12 + 0 ≤ 7293033; omega⟩ (fun v9 u H locs hp w => ?_)
  obtain ⟨f2, rfl, rfl, hw2, hn2, hk1⟩ := hp
  have hfo := (hk1 o hmo hno).trans hfo
  have hw := hw2
  have hn := hn2
  clear hw2 hn2
  generalize f2 = f at w hw hfo
  refine lv_istore (lv' := [(6, .int v2), (5, .int (if ec = 0 then 0 else if ec = 1 then 2 else 1)), (0, .ref b), (1, .ref (ad 0 0)), (2, .ref (ad 40 0)), (3, .ref o), (4, .int (nI i))]) hx hb dL_law_383 hl (by decide) rfl (fun ls hl => ?_)
  refine lv_goto (tgt := 1585) hx hb dL_law_385 (by decide) ?_
  exact W.widen (k := cells + 6) (n := slots + 307) (by omega) (by omega) (kk ad n L f H locs ls ⟨w, hw, hn, hprobe, hmo, hno, _, hfo⟩ (lv_sub hl [2, 3, 4, 5, 6] rfl))
theorem dL_law_388 : decode cL_law 388 = .ok (.aload_n 1, 1) := by decide +kernel
theorem dL_law_389 : decode cL_law 389 = .ok (.aload_n 0, 1) := by decide +kernel
theorem dL_law_390 : decode cL_law 390 = .ok (.iload 4, 2) := by decide +kernel
theorem dL_law_392 : decode cL_law 392 = .ok (.iconst 1, 1) := by decide +kernel
theorem dL_law_393 : decode cL_law 393 = .ok (.iadd, 1) := by decide +kernel
theorem dL_law_394 : decode cL_law 394 = .ok (.iaload, 1) := by decide +kernel
theorem dL_law_395 : decode cL_law 395 = .ok (.aload_n 0, 1) := by decide +kernel
theorem dL_law_396 : decode cL_law 396 = .ok (.iload 4, 2) := by decide +kernel
theorem dL_law_398 : decode cL_law 398 = .ok (.iconst 2, 1) := by decide +kernel
theorem dL_law_399 : decode cL_law 399 = .ok (.iadd, 1) := by decide +kernel
theorem dL_law_400 : decode cL_law 400 = .ok (.iaload, 1) := by decide +kernel
theorem dL_law_401 : decode cL_law 401 = .ok (.ifCond .eq 7, 3) := by decide +kernel
theorem dL_law_404 : decode cL_law 404 = .ok (.iconst 1, 1) := by decide +kernel
theorem dL_law_405 : decode cL_law 405 = .ok (.goto 4, 3) := by decide +kernel
theorem dL_law_408 : decode cL_law 408 = .ok (.iconst 0, 1) := by decide +kernel
theorem dL_law_409 : decode cL_law 409 = .ok (.aload_n 3, 1) := by decide +kernel
theorem dL_law_410 : decode cL_law 410 = .ok (.invokestatic 125, 3) := by decide +kernel
theorem dL_law_413 : decode cL_law 413 = .ok (.istore 5, 2) := by decide +kernel
theorem dL_law_415 : decode cL_law 415 = .ok (.aload_n 2, 1) := by decide +kernel
theorem dL_law_416 : decode cL_law 416 = .ok (.aload_n 0, 1) := by decide +kernel
theorem dL_law_417 : decode cL_law 417 = .ok (.iload 4, 2) := by decide +kernel
theorem dL_law_419 : decode cL_law 419 = .ok (.iconst 1, 1) := by decide +kernel
theorem dL_law_420 : decode cL_law 420 = .ok (.iadd, 1) := by decide +kernel
theorem dL_law_421 : decode cL_law 421 = .ok (.iaload, 1) := by decide +kernel
theorem dL_law_422 : decode cL_law 422 = .ok (.aload_n 0, 1) := by decide +kernel
theorem dL_law_423 : decode cL_law 423 = .ok (.iload 4, 2) := by decide +kernel
theorem dL_law_425 : decode cL_law 425 = .ok (.iconst 2, 1) := by decide +kernel
theorem dL_law_426 : decode cL_law 426 = .ok (.iadd, 1) := by decide +kernel
theorem dL_law_427 : decode cL_law 427 = .ok (.iaload, 1) := by decide +kernel
theorem dL_law_428 : decode cL_law 428 = .ok (.ifCond .eq 7, 3) := by decide +kernel
theorem dL_law_431 : decode cL_law 431 = .ok (.iconst 1, 1) := by decide +kernel
theorem dL_law_432 : decode cL_law 432 = .ok (.goto 4, 3) := by decide +kernel
theorem dL_law_435 : decode cL_law 435 = .ok (.iconst 0, 1) := by decide +kernel
theorem dL_law_436 : decode cL_law 436 = .ok (.invokevirtual 127, 3) := by decide +kernel
theorem dL_law_439 : decode cL_law 439 = .ok (.istore 6, 2) := by decide +kernel
theorem dL_law_441 : decode cL_law 441 = .ok (.goto 1144, 3) := by decide +kernel
set_option maxHeartbeats 4000000 in
set_option maxRecDepth 100000 in
theorem arm_4 {p : Program} {l : Launch} {e : Env} {s : State} {m : MethodId} {below : List Frame} {meth : Method} {c : Code} {b N : Nat} {xs : Nat → Int32} {D : va_G} {K : Nat → ClassId} {sa : sT} {o i : Nat} {cells slots : Nat} {Q : State → Prop} (hls : l.stackTraces = false) (A : LwC p s m meth c b N xs) (hi : i + 6 ≤ N) {S S1 S2 : fS} {ec : Nat} {v v2 : Int32} (hec : ec = 0 ∨ ec = 2) (h1 : F_X6_top (xs (i + 1)) ((if xs (i + 2) = 0 then 0 else 1)) S = some ((ec, v), S1)) (h2 : F_X7_top (xs (i + 1)) ((if xs (i + 2) = 0 then 0 else 1)) S1 = some (v2, S2)) (hc : cells + 6 ≤ 601024) (hs : slots + 307 ≤ 7293033) (kk : LwK D K sa p l e s m below meth c b o i S2 (cells + 6) (slots + 307) Q 1585) : LwK D K sa p l e s m below meth c b o i S cells slots Q 388 := by
  intro ad n L f H locs ls B hl
  obtain ⟨C, hX, hbl, hrt, hlk, hNm⟩ := A
  obtain ⟨w, hw, hn, hprobe, hmo, hno, g0, hfo⟩ := B
  have hx := C.1
  have hb := C.2.1
  by_cases hz2 : xs (i + 2) = 0
  · rw [if_pos hz2] at h1 h2
    refine lv_aload_n hx hb dL_law_388 rfl (lv_at hl 1 rfl) ?_
    refine lv_aload_n hx hb dL_law_389 rfl (lv_at hl 0 rfl) ?_
    refine lv_iload hx hb dL_law_390 (lv_at hl 4 rfl) ?_
    refine lv_iconst (v := 1) hx hb dL_law_392 (by decide) ?_
    refine lv_iadd hx hb dL_law_393 ?_
    rw [show nI i + (1 : Int32) = nI (i + 1) from nI_ad2 i 1]
    refine t_sld hx hb hX hbl w (j := i + 1) (nI_clamp (by omega)) (vp_in_nI (by omega) (by omega)) dL_law_394 ?_
    refine lv_aload_n hx hb dL_law_395 rfl (lv_at hl 0 rfl) ?_
    refine lv_iload hx hb dL_law_396 (lv_at hl 4 rfl) ?_
    refine lv_iconst (v := 2) hx hb dL_law_398 (by decide) ?_
    refine lv_iadd hx hb dL_law_399 ?_
    rw [show nI i + (2 : Int32) = nI (i + 2) from nI_ad2 i 2]
    refine t_sld hx hb hX hbl w (j := i + 2) (nI_clamp (by omega)) (vp_in_nI (by omega) (by omega)) dL_law_400 ?_
    refine lv_if_eq (tgt := 408) hx hb dL_law_401 (by decide) (fun _ => ?_) (fun c0 => absurd hz2 c0)
    refine lv_iconst (v := 0) hx hb dL_law_408 (by decide) ?_
    refine lv_aload_n hx hb dL_law_409 rfl (lv_at hl 3 rfl) ?_
    refine t_callH (n := 4) C w (c_L_top l hls D K _ sa _ L f ad n S hw hn hprobe (xs (i + 1)) (0) o hmo hno g0 hfo ec hec v S1 h1) gw_698 gw_696 gw_697 gw_0 ⟨by decide, by decide, by decide +kernel⟩ rfl rfl ⟨Nat.le_of_ble_eq_true rfl, Nat.le_of_ble_eq_true rfl⟩ rfl hl.1 rfl (Nat.le_of_ble_eq_true rfl) dL_law_410 ⟨by show cells + 1 ≤ 601024; omega, by show slots + 6 ≤ 7293033; omega⟩ (fun v9 u H locs hp w => ?_)
    obtain ⟨ad2, L2, f2, g1, rfl, rfl, hw2, hG2, hno2, hfo2, hgv⟩ := hp
    obtain ⟨ad, n, L, f, g0, w, hw, hn, hprobe, hmo, hno, hfo, hl⟩ : ∃ (ad3 : Nat → Nat → Nat) (n3 : Nat × Nat) (L3 : List Nat) (f3 : Nat → va_E) (g3 : Nat → Int64), Wh D K s.heap.size sa s H locs L3 f3 ∧ PW K ad3 (isn n3) S1 L3 f3 ∧ S1.2.2.1 = n3 ∧ 0 < n3.1 ∧ o ∈ L3 ∧ (∀ a i : Nat, isn n3 a i → ad3 a i ≠ o) ∧ f3 o = .inl (K 6, 1, .inr (.inl g3)) ∧ lv_has ls 7 [(0, .ref b), (1, .ref (ad3 0 0)), (2, .ref (ad3 40 0)), (3, .ref o), (4, .int (nI i))] := ⟨ad2, S1.2.2.1, L2, f2, g1, w, hw2, rfl, (hG2.1 25 0 hprobe).1, (hG2.2 o hmo).1, hno2, hfo2, (by rw [(hG2.1 0 0 (isn_f rfl rfl (by decide))).2, (hG2.1 40 0 (isn_f rfl rfl (by decide))).2]; exact hl)⟩
    refine lv_istore (lv' := [(5, .int (if ec = 0 then 0 else 1)), (0, .ref b), (1, .ref (ad 0 0)), (2, .ref (ad 40 0)), (3, .ref o), (4, .int (nI i))]) hx hb dL_law_413 hl (by decide) rfl (fun ls hl => ?_)
    refine lv_aload_n hx hb dL_law_415 rfl (lv_at hl 3 rfl) ?_
    refine lv_aload_n hx hb dL_law_416 rfl (lv_at hl 1 rfl) ?_
    refine lv_iload hx hb dL_law_417 (lv_at hl 5 rfl) ?_
    refine lv_iconst (v := 1) hx hb dL_law_419 (by decide) ?_
    refine lv_iadd hx hb dL_law_420 ?_
    rw [show nI i + (1 : Int32) = nI (i + 1) from nI_ad2 i 1]
    refine t_sld hx hb hX hbl w (j := i + 1) (nI_clamp (by omega)) (vp_in_nI (by omega) (by omega)) dL_law_421 ?_
    refine lv_aload_n hx hb dL_law_422 rfl (lv_at hl 1 rfl) ?_
    refine lv_iload hx hb dL_law_423 (lv_at hl 5 rfl) ?_
    refine lv_iconst (v := 2) hx hb dL_law_425 (by decide) ?_
    refine lv_iadd hx hb dL_law_426 ?_
    rw [show nI i + (2 : Int32) = nI (i + 2) from nI_ad2 i 2]
    refine t_sld hx hb hX hbl w (j := i + 2) (nI_clamp (by omega)) (vp_in_nI (by omega) (by omega)) dL_law_427 ?_
    refine lv_if_eq (tgt := 435) hx hb dL_law_428 (by decide) (fun _ => ?_) (fun c0 => absurd hz2 c0)
    refine lv_iconst (v := 0) hx hb dL_law_435 (by decide) ?_
    refine u_callV (n := 2) C w hw (isn_f rfl rfl (by decide)) rfl rfl rfl (c_X7_top l D K _ sa _ L _ ad (isn n) (fun _ _ h => h) S1 hw hn (xs (i + 1)) (0) v2 S2 h2) gw_1495 gw_1492 gw_1493 gw_1494 gw_8 ⟨by decide, by decide, by decide +kernel⟩ rfl rfl ⟨Nat.le_of_ble_eq_true rfl, Nat.le_of_ble_eq_true rfl⟩ rfl hl.1 rfl (Nat.le_of_ble_eq_true rfl) dL_law_436 ⟨by show cells + 1 + 0 ≤ 601024; omega, by show slots + 6 + 0 ≤ 7293033; omega⟩ (fun v9 u H locs hp w => ?_)
    obtain ⟨f2, rfl, rfl, hw2, hn2, hk1⟩ := hp
    have hfo := (hk1 o hmo hno).trans hfo
    have hw := hw2
    have hn := hn2
    clear hw2 hn2
    generalize f2 = f at w hw hfo
    refine lv_istore (lv' := [(6, .int v2), (5, .int (if ec = 0 then 0 else 1)), (0, .ref b), (1, .ref (ad 0 0)), (2, .ref (ad 40 0)), (3, .ref o), (4, .int (nI i))]) hx hb dL_law_439 hl (by decide) rfl (fun ls hl => ?_)
    refine lv_goto (tgt := 1585) hx hb dL_law_441 (by decide) ?_
    exact W.widen (k := cells + 6) (n := slots + 307) (by omega) (by omega) (kk ad n L f H locs ls ⟨w, hw, hn, hprobe, hmo, hno, _, hfo⟩ (lv_sub hl [2, 3, 4, 5, 6] rfl))
  · rw [if_neg hz2] at h1 h2
    refine lv_aload_n hx hb dL_law_388 rfl (lv_at hl 1 rfl) ?_
    refine lv_aload_n hx hb dL_law_389 rfl (lv_at hl 0 rfl) ?_
    refine lv_iload hx hb dL_law_390 (lv_at hl 4 rfl) ?_
    refine lv_iconst (v := 1) hx hb dL_law_392 (by decide) ?_
    refine lv_iadd hx hb dL_law_393 ?_
    rw [show nI i + (1 : Int32) = nI (i + 1) from nI_ad2 i 1]
    refine t_sld hx hb hX hbl w (j := i + 1) (nI_clamp (by omega)) (vp_in_nI (by omega) (by omega)) dL_law_394 ?_
    refine lv_aload_n hx hb dL_law_395 rfl (lv_at hl 0 rfl) ?_
    refine lv_iload hx hb dL_law_396 (lv_at hl 4 rfl) ?_
    refine lv_iconst (v := 2) hx hb dL_law_398 (by decide) ?_
    refine lv_iadd hx hb dL_law_399 ?_
    rw [show nI i + (2 : Int32) = nI (i + 2) from nI_ad2 i 2]
    refine t_sld hx hb hX hbl w (j := i + 2) (nI_clamp (by omega)) (vp_in_nI (by omega) (by omega)) dL_law_400 ?_
    refine lv_if_eq (tgt := 408) hx hb dL_law_401 (by decide) (fun c0 => absurd c0 hz2) (fun _ => ?_)
    refine lv_iconst (v := 1) hx hb dL_law_404 (by decide) ?_
    refine lv_goto (tgt := 409) hx hb dL_law_405 (by decide) ?_
    refine lv_aload_n hx hb dL_law_409 rfl (lv_at hl 3 rfl) ?_
    refine t_callH (n := 4) C w (c_L_top l hls D K _ sa _ L f ad n S hw hn hprobe (xs (i + 1)) (1) o hmo hno g0 hfo ec hec v S1 h1) gw_698 gw_696 gw_697 gw_0 ⟨by decide, by decide, by decide +kernel⟩ rfl rfl ⟨Nat.le_of_ble_eq_true rfl, Nat.le_of_ble_eq_true rfl⟩ rfl hl.1 rfl (Nat.le_of_ble_eq_true rfl) dL_law_410 ⟨by show cells + 1 ≤ 601024; omega, by show slots + 6 ≤ 7293033; omega⟩ (fun v9 u H locs hp w => ?_)
    obtain ⟨ad2, L2, f2, g1, rfl, rfl, hw2, hG2, hno2, hfo2, hgv⟩ := hp
    obtain ⟨ad, n, L, f, g0, w, hw, hn, hprobe, hmo, hno, hfo, hl⟩ : ∃ (ad3 : Nat → Nat → Nat) (n3 : Nat × Nat) (L3 : List Nat) (f3 : Nat → va_E) (g3 : Nat → Int64), Wh D K s.heap.size sa s H locs L3 f3 ∧ PW K ad3 (isn n3) S1 L3 f3 ∧ S1.2.2.1 = n3 ∧ 0 < n3.1 ∧ o ∈ L3 ∧ (∀ a i : Nat, isn n3 a i → ad3 a i ≠ o) ∧ f3 o = .inl (K 6, 1, .inr (.inl g3)) ∧ lv_has ls 7 [(0, .ref b), (1, .ref (ad3 0 0)), (2, .ref (ad3 40 0)), (3, .ref o), (4, .int (nI i))] := ⟨ad2, S1.2.2.1, L2, f2, g1, w, hw2, rfl, (hG2.1 25 0 hprobe).1, (hG2.2 o hmo).1, hno2, hfo2, (by rw [(hG2.1 0 0 (isn_f rfl rfl (by decide))).2, (hG2.1 40 0 (isn_f rfl rfl (by decide))).2]; exact hl)⟩
    refine lv_istore (lv' := [(5, .int (if ec = 0 then 0 else 1)), (0, .ref b), (1, .ref (ad 0 0)), (2, .ref (ad 40 0)), (3, .ref o), (4, .int (nI i))]) hx hb dL_law_413 hl (by decide) rfl (fun ls hl => ?_)
    refine lv_aload_n hx hb dL_law_415 rfl (lv_at hl 3 rfl) ?_
    refine lv_aload_n hx hb dL_law_416 rfl (lv_at hl 1 rfl) ?_
    refine lv_iload hx hb dL_law_417 (lv_at hl 5 rfl) ?_
    refine lv_iconst (v := 1) hx hb dL_law_419 (by decide) ?_
    refine lv_iadd hx hb dL_law_420 ?_
    rw [show nI i + (1 : Int32) = nI (i + 1) from nI_ad2 i 1]
    refine t_sld hx hb hX hbl w (j := i + 1) (nI_clamp (by omega)) (vp_in_nI (by omega) (by omega)) dL_law_421 ?_
    refine lv_aload_n hx hb dL_law_422 rfl (lv_at hl 1 rfl) ?_
    refine lv_iload hx hb dL_law_423 (lv_at hl 5 rfl) ?_
    refine lv_iconst (v := 2) hx hb dL_law_425 (by decide) ?_
    refine lv_iadd hx hb dL_law_426 ?_
    rw [show nI i + (2 : Int32) = nI (i + 2) from nI_ad2 i 2]
    refine t_sld hx hb hX hbl w (j := i + 2) (nI_clamp (by omega)) (vp_in_nI (by omega) (by omega)) dL_law_427 ?_
    refine lv_if_eq (tgt := 435) hx hb dL_law_428 (by decide) (fun c0 => absurd c0 hz2) (fun _ => ?_)
    refine lv_iconst (v := 1) hx hb dL_law_431 (by decide) ?_
    refine lv_goto (tgt := 436) hx hb dL_law_432 (by decide) ?_
    refine u_callV (n := 2) C w hw (isn_f rfl rfl (by decide)) rfl rfl rfl (c_X7_top l D K _ sa _ L _ ad (isn n) (fun _ _ h => h) S1 hw hn (xs (i + 1)) (1) v2 S2 h2) gw_1495 gw_1492 gw_1493 gw_1494 gw_8 ⟨by decide, by decide, by decide +kernel⟩ rfl rfl ⟨Nat.le_of_ble_eq_true rfl, Nat.le_of_ble_eq_true rfl⟩ rfl hl.1 rfl (Nat.le_of_ble_eq_true rfl) dL_law_436 ⟨by show cells + 1 + 0 ≤ 601024; omega, by show slots + 6 + 0 ≤ 7293033; omega⟩ (fun v9 u H locs hp w => ?_)
    obtain ⟨f2, rfl, rfl, hw2, hn2, hk1⟩ := hp
    have hfo := (hk1 o hmo hno).trans hfo
    have hw := hw2
    have hn := hn2
    clear hw2 hn2
    generalize f2 = f at w hw hfo
    refine lv_istore (lv' := [(6, .int v2), (5, .int (if ec = 0 then 0 else 1)), (0, .ref b), (1, .ref (ad 0 0)), (2, .ref (ad 40 0)), (3, .ref o), (4, .int (nI i))]) hx hb dL_law_439 hl (by decide) rfl (fun ls hl => ?_)
    refine lv_goto (tgt := 1585) hx hb dL_law_441 (by decide) ?_
    exact W.widen (k := cells + 6) (n := slots + 307) (by omega) (by omega) (kk ad n L f H locs ls ⟨w, hw, hn, hprobe, hmo, hno, _, hfo⟩ (lv_sub hl [2, 3, 4, 5, 6] rfl))
theorem dL_law_444 : decode cL_law 444 = .ok (.aload_n 1, 1) := by decide +kernel
theorem dL_law_445 : decode cL_law 445 = .ok (.aload_n 0, 1) := by decide +kernel
theorem dL_law_446 : decode cL_law 446 = .ok (.iload 4, 2) := by decide +kernel
theorem dL_law_448 : decode cL_law 448 = .ok (.iconst 1, 1) := by decide +kernel
theorem dL_law_449 : decode cL_law 449 = .ok (.iadd, 1) := by decide +kernel
theorem dL_law_450 : decode cL_law 450 = .ok (.iaload, 1) := by decide +kernel
theorem dL_law_451 : decode cL_law 451 = .ok (.aload_n 3, 1) := by decide +kernel
theorem dL_law_452 : decode cL_law 452 = .ok (.invokestatic 128, 3) := by decide +kernel
theorem dL_law_455 : decode cL_law 455 = .ok (.istore 5, 2) := by decide +kernel
theorem dL_law_457 : decode cL_law 457 = .ok (.aload_n 2, 1) := by decide +kernel
theorem dL_law_458 : decode cL_law 458 = .ok (.aload_n 0, 1) := by decide +kernel
theorem dL_law_459 : decode cL_law 459 = .ok (.iload 4, 2) := by decide +kernel
theorem dL_law_461 : decode cL_law 461 = .ok (.iconst 1, 1) := by decide +kernel
theorem dL_law_462 : decode cL_law 462 = .ok (.iadd, 1) := by decide +kernel
theorem dL_law_463 : decode cL_law 463 = .ok (.iaload, 1) := by decide +kernel
theorem dL_law_464 : decode cL_law 464 = .ok (.invokevirtual 130, 3) := by decide +kernel
theorem dL_law_467 : decode cL_law 467 = .ok (.istore 6, 2) := by decide +kernel
theorem dL_law_469 : decode cL_law 469 = .ok (.goto 1116, 3) := by decide +kernel
set_option maxHeartbeats 4000000 in
set_option maxRecDepth 100000 in
theorem arm_5 {p : Program} {l : Launch} {e : Env} {s : State} {m : MethodId} {below : List Frame} {meth : Method} {c : Code} {b N : Nat} {xs : Nat → Int32} {D : va_G} {K : Nat → ClassId} {sa : sT} {o i : Nat} {cells slots : Nat} {Q : State → Prop} (hls : l.stackTraces = false) (A : LwC p s m meth c b N xs) (hi : i + 6 ≤ N) {S S1 S2 : fS} {ec : Nat} {v v2 : Int32} (hec : ec = 0 ∨ ec = 1 ∨ ec = 2) (h1 : F_X6_hole (xs (i + 1)) S = some ((ec, v), S1)) (h2 : F_X7_hole (xs (i + 1)) S1 = some (v2, S2)) (hc : cells + 6 ≤ 601024) (hs : slots + 307 ≤ 7293033) (kk : LwK D K sa p l e s m below meth c b o i S2 (cells + 6) (slots + 307) Q 1585) : LwK D K sa p l e s m below meth c b o i S cells slots Q 444 := by
  intro ad n L f H locs ls B hl
  obtain ⟨C, hX, hbl, hrt, hlk, hNm⟩ := A
  obtain ⟨w, hw, hn, hprobe, hmo, hno, g0, hfo⟩ := B
  have hx := C.1
  have hb := C.2.1
  refine lv_aload_n hx hb dL_law_444 rfl (lv_at hl 1 rfl) ?_
  refine lv_aload_n hx hb dL_law_445 rfl (lv_at hl 0 rfl) ?_
  refine lv_iload hx hb dL_law_446 (lv_at hl 4 rfl) ?_
  refine lv_iconst (v := 1) hx hb dL_law_448 (by decide) ?_
  refine lv_iadd hx hb dL_law_449 ?_
  rw [show nI i + (1 : Int32) = nI (i + 1) from nI_ad2 i 1]
  refine t_sld hx hb hX hbl w (j := i + 1) (nI_clamp (by omega)) (vp_in_nI (by omega) (by omega)) dL_law_450 ?_
  refine lv_aload_n hx hb dL_law_451 rfl (lv_at hl 3 rfl) ?_
  refine t_callH (n := 3) C w (c_L_hole l hls D K _ sa _ L f ad n S hw hn hprobe (xs (i + 1)) o hmo hno g0 hfo ec hec v S1 h1) gw_705 gw_703 gw_704 gw_0 ⟨by decide, by decide, by decide +kernel⟩ rfl rfl ⟨Nat.le_of_ble_eq_true rfl, Nat.le_of_ble_eq_true rfl⟩ rfl hl.1 rfl (Nat.le_of_ble_eq_true rfl) dL_law_452 ⟨by show cells + 2 ≤ 601024; omega, by show slots + 12 ≤ 7293033; omega⟩ (fun v9 u H locs hp w => ?_)
  obtain ⟨ad2, L2, f2, g1, rfl, rfl, hw2, hG2, hno2, hfo2, hgv⟩ := hp
  obtain ⟨ad, n, L, f, g0, w, hw, hn, hprobe, hmo, hno, hfo, hl⟩ : ∃ (ad3 : Nat → Nat → Nat) (n3 : Nat × Nat) (L3 : List Nat) (f3 : Nat → va_E) (g3 : Nat → Int64), Wh D K s.heap.size sa s H locs L3 f3 ∧ PW K ad3 (isn n3) S1 L3 f3 ∧ S1.2.2.1 = n3 ∧ 0 < n3.1 ∧ o ∈ L3 ∧ (∀ a i : Nat, isn n3 a i → ad3 a i ≠ o) ∧ f3 o = .inl (K 6, 1, .inr (.inl g3)) ∧ lv_has ls 7 [(0, .ref b), (1, .ref (ad3 0 0)), (2, .ref (ad3 40 0)), (3, .ref o), (4, .int (nI i))] := ⟨ad2, S1.2.2.1, L2, f2, g1, w, hw2, rfl, (hG2.1 25 0 hprobe).1, (hG2.2 o hmo).1, hno2, hfo2, (by rw [(hG2.1 0 0 (isn_f rfl rfl (by decide))).2, (hG2.1 40 0 (isn_f rfl rfl (by decide))).2]; exact hl)⟩
  refine lv_istore (lv' := [(5, .int (if ec = 0 then 0 else if ec = 1 then 2 else 1)), (0, .ref b), (1, .ref (ad 0 0)), (2, .ref (ad 40 0)), (3, .ref o), (4, .int (nI i))]) hx hb dL_law_455 hl (by decide) rfl (fun ls hl => ?_)
  refine lv_aload_n hx hb dL_law_457 rfl (lv_at hl 3 rfl) ?_
  refine lv_aload_n hx hb dL_law_458 rfl (lv_at hl 1 rfl) ?_
  refine lv_iload hx hb dL_law_459 (lv_at hl 5 rfl) ?_
  refine lv_iconst (v := 1) hx hb dL_law_461 (by decide) ?_
  refine lv_iadd hx hb dL_law_462 ?_
  rw [show nI i + (1 : Int32) = nI (i + 1) from nI_ad2 i 1]
  refine t_sld hx hb hX hbl w (j := i + 1) (nI_clamp (by omega)) (vp_in_nI (by omega) (by omega)) dL_law_463 ?_
  refine u_callV (n := 1) C w hw (isn_f rfl rfl (by decide)) rfl rfl rfl (c_X7_hole l D K _ sa _ L _ ad (isn n) (fun _ _ h => h) S1 hw hn (xs (i + 1)) v2 S2 h2) gw_1503 gw_1500 gw_1501 gw_1502 gw_8 ⟨by decide, by decide, by decide +kernel⟩ rfl rfl ⟨Nat.le_of_ble_eq_true rfl, Nat.le_of_ble_eq_true rfl⟩ rfl hl.1 rfl (Nat.le_of_ble_eq_true rfl) dL_law_464 ⟨by show cells + 2 + 0 ≤ 601024; omega, by show slots + 12 + 0 ≤ 7293033; omega⟩ (fun v9 u H locs hp w => ?_)
  obtain ⟨f2, rfl, rfl, hw2, hn2, hk1⟩ := hp
  have hfo := (hk1 o hmo hno).trans hfo
  have hw := hw2
  have hn := hn2
  clear hw2 hn2
  generalize f2 = f at w hw hfo
  refine lv_istore (lv' := [(6, .int v2), (5, .int (if ec = 0 then 0 else if ec = 1 then 2 else 1)), (0, .ref b), (1, .ref (ad 0 0)), (2, .ref (ad 40 0)), (3, .ref o), (4, .int (nI i))]) hx hb dL_law_467 hl (by decide) rfl (fun ls hl => ?_)
  refine lv_goto (tgt := 1585) hx hb dL_law_469 (by decide) ?_
  exact W.widen (k := cells + 6) (n := slots + 307) (by omega) (by omega) (kk ad n L f H locs ls ⟨w, hw, hn, hprobe, hmo, hno, _, hfo⟩ (lv_sub hl [2, 3, 4, 5, 6] rfl))
theorem dL_law_472 : decode cL_law 472 = .ok (.aload_n 1, 1) := by decide +kernel
theorem dL_law_473 : decode cL_law 473 = .ok (.aload_n 0, 1) := by decide +kernel
theorem dL_law_474 : decode cL_law 474 = .ok (.iload 4, 2) := by decide +kernel
theorem dL_law_476 : decode cL_law 476 = .ok (.iconst 1, 1) := by decide +kernel
theorem dL_law_477 : decode cL_law 477 = .ok (.iadd, 1) := by decide +kernel
theorem dL_law_478 : decode cL_law 478 = .ok (.iaload, 1) := by decide +kernel
theorem dL_law_479 : decode cL_law 479 = .ok (.aload_n 0, 1) := by decide +kernel
theorem dL_law_480 : decode cL_law 480 = .ok (.iload 4, 2) := by decide +kernel
theorem dL_law_482 : decode cL_law 482 = .ok (.iconst 2, 1) := by decide +kernel
theorem dL_law_483 : decode cL_law 483 = .ok (.iadd, 1) := by decide +kernel
theorem dL_law_484 : decode cL_law 484 = .ok (.iaload, 1) := by decide +kernel
theorem dL_law_485 : decode cL_law 485 = .ok (.aload_n 3, 1) := by decide +kernel
theorem dL_law_486 : decode cL_law 486 = .ok (.invokestatic 131, 3) := by decide +kernel
theorem dL_law_489 : decode cL_law 489 = .ok (.istore 5, 2) := by decide +kernel
theorem dL_law_491 : decode cL_law 491 = .ok (.aload_n 2, 1) := by decide +kernel
theorem dL_law_492 : decode cL_law 492 = .ok (.aload_n 0, 1) := by decide +kernel
theorem dL_law_493 : decode cL_law 493 = .ok (.iload 4, 2) := by decide +kernel
theorem dL_law_495 : decode cL_law 495 = .ok (.iconst 1, 1) := by decide +kernel
theorem dL_law_496 : decode cL_law 496 = .ok (.iadd, 1) := by decide +kernel
theorem dL_law_497 : decode cL_law 497 = .ok (.iaload, 1) := by decide +kernel
theorem dL_law_498 : decode cL_law 498 = .ok (.aload_n 0, 1) := by decide +kernel
theorem dL_law_499 : decode cL_law 499 = .ok (.iload 4, 2) := by decide +kernel
theorem dL_law_501 : decode cL_law 501 = .ok (.iconst 2, 1) := by decide +kernel
theorem dL_law_502 : decode cL_law 502 = .ok (.iadd, 1) := by decide +kernel
theorem dL_law_503 : decode cL_law 503 = .ok (.iaload, 1) := by decide +kernel
theorem dL_law_504 : decode cL_law 504 = .ok (.invokevirtual 133, 3) := by decide +kernel
theorem dL_law_507 : decode cL_law 507 = .ok (.istore 6, 2) := by decide +kernel
theorem dL_law_509 : decode cL_law 509 = .ok (.aload_n 2, 1) := by decide +kernel
theorem dL_law_510 : decode cL_law 510 = .ok (.invokevirtual 134, 3) := by decide +kernel
theorem dL_law_513 : decode cL_law 513 = .ok (.iload 5, 2) := by decide +kernel
theorem dL_law_515 : decode cL_law 515 = .ok (.if_icmp .eq 5, 3) := by decide +kernel
theorem dL_law_520 : decode cL_law 520 = .ok (.iload 5, 2) := by decide +kernel
theorem dL_law_522 : decode cL_law 522 = .ok (.ifCond .ne 15, 3) := by decide +kernel
theorem dL_law_525 : decode cL_law 525 = .ok (.aload_n 3, 1) := by decide +kernel
theorem dL_law_526 : decode cL_law 526 = .ok (.iconst 0, 1) := by decide +kernel
theorem dL_law_527 : decode cL_law 527 = .ok (.laload, 1) := by decide +kernel
theorem dL_law_528 : decode cL_law 528 = .ok (.iload 6, 2) := by decide +kernel
theorem dL_law_530 : decode cL_law 530 = .ok (.i2l, 1) := by decide +kernel
theorem dL_law_531 : decode cL_law 531 = .ok (.lcmp, 1) := by decide +kernel
theorem dL_law_532 : decode cL_law 532 = .ok (.ifCond .eq 5, 3) := by decide +kernel
theorem dL_law_537 : decode cL_law 537 = .ok (.goto 1048, 3) := by decide +kernel
set_option maxHeartbeats 4000000 in
set_option maxRecDepth 100000 in
theorem arm_6 {p : Program} {l : Launch} {e : Env} {s : State} {m : MethodId} {below : List Frame} {meth : Method} {c : Code} {b N : Nat} {xs : Nat → Int32} {D : va_G} {K : Nat → ClassId} {sa : sT} {o i : Nat} {cells slots : Nat} {Q : State → Prop} (hls : l.stackTraces = false) (A : LwC p s m meth c b N xs) (hi : i + 6 ≤ N) {S S1 S2 : fS} {ec : Nat} {v v2 : Int32} (hec : ec = 0 ∨ ec = 1) (h1 : F_X6_set (xs (i + 1)) (xs (i + 2)) S = some ((ec, v), S1)) (h2 : F_X7_set (xs (i + 1)) (xs (i + 2)) S1 = some (v2, S2)) (hth : ge S2 40 0 0 = (if ec = 0 then 0 else 1)) (hv9 : ec = 0 → v = v2) (hc : cells + 6 ≤ 601024) (hs : slots + 307 ≤ 7293033) (kk : LwK D K sa p l e s m below meth c b o i S2 (cells + 6) (slots + 307) Q 1585) : LwK D K sa p l e s m below meth c b o i S cells slots Q 472 := by
  intro ad n L f H locs ls B hl
  obtain ⟨C, hX, hbl, hrt, hlk, hNm⟩ := A
  obtain ⟨w, hw, hn, hprobe, hmo, hno, g0, hfo⟩ := B
  have hx := C.1
  have hb := C.2.1
  refine lv_aload_n hx hb dL_law_472 rfl (lv_at hl 1 rfl) ?_
  refine lv_aload_n hx hb dL_law_473 rfl (lv_at hl 0 rfl) ?_
  refine lv_iload hx hb dL_law_474 (lv_at hl 4 rfl) ?_
  refine lv_iconst (v := 1) hx hb dL_law_476 (by decide) ?_
  refine lv_iadd hx hb dL_law_477 ?_
  rw [show nI i + (1 : Int32) = nI (i + 1) from nI_ad2 i 1]
  refine t_sld hx hb hX hbl w (j := i + 1) (nI_clamp (by omega)) (vp_in_nI (by omega) (by omega)) dL_law_478 ?_
  refine lv_aload_n hx hb dL_law_479 rfl (lv_at hl 0 rfl) ?_
  refine lv_iload hx hb dL_law_480 (lv_at hl 4 rfl) ?_
  refine lv_iconst (v := 2) hx hb dL_law_482 (by decide) ?_
  refine lv_iadd hx hb dL_law_483 ?_
  rw [show nI i + (2 : Int32) = nI (i + 2) from nI_ad2 i 2]
  refine t_sld hx hb hX hbl w (j := i + 2) (nI_clamp (by omega)) (vp_in_nI (by omega) (by omega)) dL_law_484 ?_
  refine lv_aload_n hx hb dL_law_485 rfl (lv_at hl 3 rfl) ?_
  refine t_callH (n := 4) C w (c_L_set l hls D K _ sa _ L f ad n S hw hn hprobe (xs (i + 1)) (xs (i + 2)) o hmo hno g0 hfo ec hec v S1 h1) gw_712 gw_710 gw_711 gw_0 ⟨by decide, by decide, by decide +kernel⟩ rfl rfl ⟨Nat.le_of_ble_eq_true rfl, Nat.le_of_ble_eq_true rfl⟩ rfl hl.1 rfl (Nat.le_of_ble_eq_true rfl) dL_law_486 ⟨by show cells + 2 ≤ 601024; omega, by show slots + 12 ≤ 7293033; omega⟩ (fun v9 u H locs hp w => ?_)
  obtain ⟨ad2, L2, f2, g1, rfl, rfl, hw2, hG2, hno2, hfo2, hgv⟩ := hp
  obtain ⟨ad, n, L, f, g0, w, hw, hn, hprobe, hmo, hno, hfo, hl, hg0⟩ : ∃ (ad3 : Nat → Nat → Nat) (n3 : Nat × Nat) (L3 : List Nat) (f3 : Nat → va_E) (g3 : Nat → Int64), Wh D K s.heap.size sa s H locs L3 f3 ∧ PW K ad3 (isn n3) S1 L3 f3 ∧ S1.2.2.1 = n3 ∧ 0 < n3.1 ∧ o ∈ L3 ∧ (∀ a i : Nat, isn n3 a i → ad3 a i ≠ o) ∧ f3 o = .inl (K 6, 1, .inr (.inl g3)) ∧ lv_has ls 7 [(0, .ref b), (1, .ref (ad3 0 0)), (2, .ref (ad3 40 0)), (3, .ref o), (4, .int (nI i))] ∧ (ec = 0 → g3 0 = v.toInt64) := ⟨ad2, S1.2.2.1, L2, f2, g1, w, hw2, rfl, (hG2.1 25 0 hprobe).1, (hG2.2 o hmo).1, hno2, hfo2, (by rw [(hG2.1 0 0 (isn_f rfl rfl (by decide))).2, (hG2.1 40 0 (isn_f rfl rfl (by decide))).2]; exact hl), hgv⟩
  refine lv_istore (lv' := [(5, .int (if ec = 0 then 0 else 1)), (0, .ref b), (1, .ref (ad 0 0)), (2, .ref (ad 40 0)), (3, .ref o), (4, .int (nI i))]) hx hb dL_law_489 hl (by decide) rfl (fun ls hl => ?_)
  refine lv_aload_n hx hb dL_law_491 rfl (lv_at hl 3 rfl) ?_
  refine lv_aload_n hx hb dL_law_492 rfl (lv_at hl 1 rfl) ?_
  refine lv_iload hx hb dL_law_493 (lv_at hl 5 rfl) ?_
  refine lv_iconst (v := 1) hx hb dL_law_495 (by decide) ?_
  refine lv_iadd hx hb dL_law_496 ?_
  rw [show nI i + (1 : Int32) = nI (i + 1) from nI_ad2 i 1]
  refine t_sld hx hb hX hbl w (j := i + 1) (nI_clamp (by omega)) (vp_in_nI (by omega) (by omega)) dL_law_497 ?_
  refine lv_aload_n hx hb dL_law_498 rfl (lv_at hl 1 rfl) ?_
  refine lv_iload hx hb dL_law_499 (lv_at hl 5 rfl) ?_
  refine lv_iconst (v := 2) hx hb dL_law_501 (by decide) ?_
  refine lv_iadd hx hb dL_law_502 ?_
  rw [show nI i + (2 : Int32) = nI (i + 2) from nI_ad2 i 2]
  refine t_sld hx hb hX hbl w (j := i + 2) (nI_clamp (by omega)) (vp_in_nI (by omega) (by omega)) dL_law_503 ?_
  refine u_callV (n := 2) C w hw (isn_f rfl rfl (by decide)) rfl rfl rfl (c_X7_set l D K _ sa _ L _ ad (isn n) (fun _ _ h => h) S1 hw hn (xs (i + 1)) (xs (i + 2)) v2 S2 h2) gw_1507 gw_1504 gw_1505 gw_1506 gw_8 ⟨by decide, by decide, by decide +kernel⟩ rfl rfl ⟨Nat.le_of_ble_eq_true rfl, Nat.le_of_ble_eq_true rfl⟩ rfl hl.1 rfl (Nat.le_of_ble_eq_true rfl) dL_law_504 ⟨by show cells + 2 + 0 ≤ 601024; omega, by show slots + 12 + 0 ≤ 7293033; omega⟩ (fun v9 u H locs hp w => ?_)
  obtain ⟨f2, rfl, rfl, hw2, hn2, hk1⟩ := hp
  have hfo := (hk1 o hmo hno).trans hfo
  have hw := hw2
  have hn := hn2
  clear hw2 hn2
  generalize f2 = f at w hw hfo
  refine lv_istore (lv' := [(6, .int v2), (5, .int (if ec = 0 then 0 else 1)), (0, .ref b), (1, .ref (ad 0 0)), (2, .ref (ad 40 0)), (3, .ref o), (4, .int (nI i))]) hx hb dL_law_507 hl (by decide) rfl (fun ls hl => ?_)
  refine lv_aload_n hx hb dL_law_509 rfl (lv_at hl 4 rfl) ?_
  refine u_callV (n := 0) C w hw (isn_f rfl rfl (by decide)) rfl rfl rfl (c_X7_thrown l D K _ sa _ L _ ad (isn n) (fun _ _ h => h) S2 hw hn  (ge S2 40 0 0) S2 rfl) gw_1332 gw_1329 gw_1330 gw_1331 gw_8 ⟨by decide, by decide, by decide +kernel⟩ rfl rfl ⟨Nat.le_of_ble_eq_true rfl, Nat.le_of_ble_eq_true rfl⟩ rfl hl.1 rfl (Nat.le_of_ble_eq_true rfl) dL_law_510 ⟨by show cells + 2 + 0 + 0 ≤ 601024; omega, by show slots + 12 + 0 + 0 ≤ 7293033; omega⟩ (fun v9 u H locs hp w => ?_)
  obtain ⟨f2, rfl, rfl, hw2, hn2, hk1⟩ := hp
  have hfo := (hk1 o hmo hno).trans hfo
  have hw := hw2
  have hn := hn2
  clear hw2 hn2
  generalize f2 = f at w hw hfo
  refine lv_iload hx hb dL_law_513 (lv_at hl 1 rfl) ?_
  refine lv_icmp_eq (tgt := 520) hx hb dL_law_515 (by decide) (fun _ => ?_) (fun c0 => absurd hth c0)
  refine lv_iload hx hb dL_law_520 (lv_at hl 1 rfl) ?_
  refine lv_if_ne (tgt := 537) hx hb dL_law_522 (by decide) (fun _ => ?_) (fun hk0 => ?_)
  ·
    refine lv_goto (tgt := 1585) hx hb dL_law_537 (by decide) ?_
    exact W.widen (k := cells + 6) (n := slots + 307) (by omega) (by omega) (kk ad n L f H locs ls ⟨w, hw, hn, hprobe, hmo, hno, _, hfo⟩ (lv_sub hl [2, 3, 4, 5, 6] rfl))
  ·
    have he0 : ec = 0 := by
      rcases hec with q | q
      · exact q
      · rw [q] at hk0; exact absurd hk0 (by decide)
    have e9 := hv9 he0
    subst e9
    refine lv_aload_n hx hb dL_law_525 rfl (lv_at hl 5 rfl) ?_
    refine lv_iconst (v := 0) hx hb dL_law_526 (by decide) ?_
    refine g_lald C w hmo hfo (hg0 he0) dL_law_527 ?_
    refine lv_iload hx hb dL_law_528 (lv_at hl 0 rfl) ?_
    refine lv_i2l (v := v.toInt64) hx hb dL_law_530 rfl ?_
    refine W.lcmp hx hb dL_law_531 ?_
    refine lv_topi (fun y1 ey1 => ?_)
    obtain rfl : y1 = 0 := ey1.trans (lg_cmp_self _)
    refine lv_if_eq (tgt := 537) hx hb dL_law_532 (by decide) (fun _ => ?_) (fun c0 => absurd rfl c0)
    refine lv_goto (tgt := 1585) hx hb dL_law_537 (by decide) ?_
    exact W.widen (k := cells + 6) (n := slots + 307) (by omega) (by omega) (kk ad n L f H locs ls ⟨w, hw, hn, hprobe, hmo, hno, _, hfo⟩ (lv_sub hl [2, 3, 4, 5, 6] rfl))
theorem dL_law_540 : decode cL_law 540 = .ok (.aload_n 1, 1) := by decide +kernel
theorem dL_law_541 : decode cL_law 541 = .ok (.aload_n 0, 1) := by decide +kernel
theorem dL_law_542 : decode cL_law 542 = .ok (.iload 4, 2) := by decide +kernel
theorem dL_law_544 : decode cL_law 544 = .ok (.iconst 1, 1) := by decide +kernel
theorem dL_law_545 : decode cL_law 545 = .ok (.iadd, 1) := by decide +kernel
theorem dL_law_546 : decode cL_law 546 = .ok (.iaload, 1) := by decide +kernel
theorem dL_law_547 : decode cL_law 547 = .ok (.invokevirtual 138, 3) := by decide +kernel
theorem dL_law_550 : decode cL_law 550 = .ok (.pop, 1) := by decide +kernel
theorem dL_law_551 : decode cL_law 551 = .ok (.aload_n 2, 1) := by decide +kernel
theorem dL_law_552 : decode cL_law 552 = .ok (.aload_n 0, 1) := by decide +kernel
theorem dL_law_553 : decode cL_law 553 = .ok (.iload 4, 2) := by decide +kernel
theorem dL_law_555 : decode cL_law 555 = .ok (.iconst 1, 1) := by decide +kernel
theorem dL_law_556 : decode cL_law 556 = .ok (.iadd, 1) := by decide +kernel
theorem dL_law_557 : decode cL_law 557 = .ok (.iaload, 1) := by decide +kernel
theorem dL_law_558 : decode cL_law 558 = .ok (.invokevirtual 141, 3) := by decide +kernel
theorem dL_law_561 : decode cL_law 561 = .ok (.pop, 1) := by decide +kernel
theorem dL_law_562 : decode cL_law 562 = .ok (.goto 1023, 3) := by decide +kernel
set_option maxHeartbeats 4000000 in
set_option maxRecDepth 100000 in
theorem arm_7 {p : Program} {l : Launch} {e : Env} {s : State} {m : MethodId} {below : List Frame} {meth : Method} {c : Code} {b N : Nat} {xs : Nat → Int32} {D : va_G} {K : Nat → ClassId} {sa : sT} {o i : Nat} {cells slots : Nat} {Q : State → Prop} (hls : l.stackTraces = false) (A : LwC p s m meth c b N xs) (hi : i + 6 ≤ N) {S S1 S2 : fS} {v v2 : Int32} (h1 : F_X6_seed (xs (i + 1)) S = some (v, S1)) (h2 : F_X7_seed (xs (i + 1)) S1 = some (v2, S2)) (hc : cells + 6 ≤ 601024) (hs : slots + 307 ≤ 7293033) (kk : LwK D K sa p l e s m below meth c b o i S2 (cells + 6) (slots + 307) Q 1585) : LwK D K sa p l e s m below meth c b o i S cells slots Q 540 := by
  intro ad n L f H locs ls B hl
  obtain ⟨C, hX, hbl, hrt, hlk, hNm⟩ := A
  obtain ⟨w, hw, hn, hprobe, hmo, hno, g0, hfo⟩ := B
  have hx := C.1
  have hb := C.2.1
  refine lv_aload_n hx hb dL_law_540 rfl (lv_at hl 1 rfl) ?_
  refine lv_aload_n hx hb dL_law_541 rfl (lv_at hl 0 rfl) ?_
  refine lv_iload hx hb dL_law_542 (lv_at hl 4 rfl) ?_
  refine lv_iconst (v := 1) hx hb dL_law_544 (by decide) ?_
  refine lv_iadd hx hb dL_law_545 ?_
  rw [show nI i + (1 : Int32) = nI (i + 1) from nI_ad2 i 1]
  refine t_sld hx hb hX hbl w (j := i + 1) (nI_clamp (by omega)) (vp_in_nI (by omega) (by omega)) dL_law_546 ?_
  refine u_callV (n := 1) C w hw (isn_f rfl rfl (by decide)) rfl rfl rfl (c_X6_seed l D K _ sa _ L _ ad (isn n) (fun _ _ h => h) S hw hn (xs (i + 1)) v S1 h1) gw_345 gw_342 gw_343 gw_344 gw_1 ⟨by decide, by decide, by decide +kernel⟩ rfl rfl ⟨Nat.le_of_ble_eq_true rfl, Nat.le_of_ble_eq_true rfl⟩ rfl hl.1 rfl (Nat.le_of_ble_eq_true rfl) dL_law_547 ⟨by show cells + 0 ≤ 601024; omega, by show slots + 0 ≤ 7293033; omega⟩ (fun v9 u H locs hp w => ?_)
  obtain ⟨f2, rfl, rfl, hw2, hn2, hk1⟩ := hp
  have hfo := (hk1 o hmo hno).trans hfo
  have hw := hw2
  have hn := hn2
  clear hw2 hn2
  generalize f2 = f at w hw hfo
  refine lv_pop hx hb dL_law_550 rfl ?_
  refine lv_aload_n hx hb dL_law_551 rfl (lv_at hl 2 rfl) ?_
  refine lv_aload_n hx hb dL_law_552 rfl (lv_at hl 0 rfl) ?_
  refine lv_iload hx hb dL_law_553 (lv_at hl 4 rfl) ?_
  refine lv_iconst (v := 1) hx hb dL_law_555 (by decide) ?_
  refine lv_iadd hx hb dL_law_556 ?_
  rw [show nI i + (1 : Int32) = nI (i + 1) from nI_ad2 i 1]
  refine t_sld hx hb hX hbl w (j := i + 1) (nI_clamp (by omega)) (vp_in_nI (by omega) (by omega)) dL_law_557 ?_
  refine u_callV (n := 1) C w hw (isn_f rfl rfl (by decide)) rfl rfl rfl (c_X7_seed l D K _ sa _ L _ ad (isn n) (fun _ _ h => h) S1 hw hn (xs (i + 1)) v2 S2 h2) gw_1511 gw_1508 gw_1509 gw_1510 gw_8 ⟨by decide, by decide, by decide +kernel⟩ rfl rfl ⟨Nat.le_of_ble_eq_true rfl, Nat.le_of_ble_eq_true rfl⟩ rfl hl.1 rfl (Nat.le_of_ble_eq_true rfl) dL_law_558 ⟨by show cells + 0 + 0 ≤ 601024; omega, by show slots + 0 + 0 ≤ 7293033; omega⟩ (fun v9 u H locs hp w => ?_)
  obtain ⟨f2, rfl, rfl, hw2, hn2, hk1⟩ := hp
  have hfo := (hk1 o hmo hno).trans hfo
  have hw := hw2
  have hn := hn2
  clear hw2 hn2
  generalize f2 = f at w hw hfo
  refine lv_pop hx hb dL_law_561 rfl ?_
  refine lv_goto (tgt := 1585) hx hb dL_law_562 (by decide) ?_
  exact W.widen (k := cells + 6) (n := slots + 307) (by omega) (by omega) (kk ad n L f H locs ls ⟨w, hw, hn, hprobe, hmo, hno, _, hfo⟩ (lv_sub hl [0, 1, 2, 3, 4] rfl))
theorem dL_law_565 : decode cL_law 565 = .ok (.aload_n 1, 1) := by decide +kernel
theorem dL_law_566 : decode cL_law 566 = .ok (.aload_n 0, 1) := by decide +kernel
theorem dL_law_567 : decode cL_law 567 = .ok (.iload 4, 2) := by decide +kernel
theorem dL_law_569 : decode cL_law 569 = .ok (.iconst 1, 1) := by decide +kernel
theorem dL_law_570 : decode cL_law 570 = .ok (.iadd, 1) := by decide +kernel
theorem dL_law_571 : decode cL_law 571 = .ok (.iaload, 1) := by decide +kernel
theorem dL_law_572 : decode cL_law 572 = .ok (.aload_n 0, 1) := by decide +kernel
theorem dL_law_573 : decode cL_law 573 = .ok (.iload 4, 2) := by decide +kernel
theorem dL_law_575 : decode cL_law 575 = .ok (.iconst 2, 1) := by decide +kernel
theorem dL_law_576 : decode cL_law 576 = .ok (.iadd, 1) := by decide +kernel
theorem dL_law_577 : decode cL_law 577 = .ok (.iaload, 1) := by decide +kernel
theorem dL_law_578 : decode cL_law 578 = .ok (.aload_n 0, 1) := by decide +kernel
theorem dL_law_579 : decode cL_law 579 = .ok (.iload 4, 2) := by decide +kernel
theorem dL_law_581 : decode cL_law 581 = .ok (.iconst 3, 1) := by decide +kernel
theorem dL_law_582 : decode cL_law 582 = .ok (.iadd, 1) := by decide +kernel
theorem dL_law_583 : decode cL_law 583 = .ok (.iaload, 1) := by decide +kernel
theorem dL_law_584 : decode cL_law 584 = .ok (.aload_n 0, 1) := by decide +kernel
theorem dL_law_585 : decode cL_law 585 = .ok (.iload 4, 2) := by decide +kernel
theorem dL_law_587 : decode cL_law 587 = .ok (.iconst 4, 1) := by decide +kernel
theorem dL_law_588 : decode cL_law 588 = .ok (.iadd, 1) := by decide +kernel
theorem dL_law_589 : decode cL_law 589 = .ok (.iaload, 1) := by decide +kernel
theorem dL_law_590 : decode cL_law 590 = .ok (.aload_n 0, 1) := by decide +kernel
theorem dL_law_591 : decode cL_law 591 = .ok (.iload 4, 2) := by decide +kernel
theorem dL_law_593 : decode cL_law 593 = .ok (.iconst 5, 1) := by decide +kernel
theorem dL_law_594 : decode cL_law 594 = .ok (.iadd, 1) := by decide +kernel
theorem dL_law_595 : decode cL_law 595 = .ok (.iaload, 1) := by decide +kernel
theorem dL_law_596 : decode cL_law 596 = .ok (.invokevirtual 142, 3) := by decide +kernel
theorem dL_law_599 : decode cL_law 599 = .ok (.pop, 1) := by decide +kernel
theorem dL_law_600 : decode cL_law 600 = .ok (.aload_n 2, 1) := by decide +kernel
theorem dL_law_601 : decode cL_law 601 = .ok (.aload_n 0, 1) := by decide +kernel
theorem dL_law_602 : decode cL_law 602 = .ok (.iload 4, 2) := by decide +kernel
theorem dL_law_604 : decode cL_law 604 = .ok (.iconst 1, 1) := by decide +kernel
theorem dL_law_605 : decode cL_law 605 = .ok (.iadd, 1) := by decide +kernel
theorem dL_law_606 : decode cL_law 606 = .ok (.iaload, 1) := by decide +kernel
theorem dL_law_607 : decode cL_law 607 = .ok (.aload_n 0, 1) := by decide +kernel
theorem dL_law_608 : decode cL_law 608 = .ok (.iload 4, 2) := by decide +kernel
theorem dL_law_610 : decode cL_law 610 = .ok (.iconst 2, 1) := by decide +kernel
theorem dL_law_611 : decode cL_law 611 = .ok (.iadd, 1) := by decide +kernel
theorem dL_law_612 : decode cL_law 612 = .ok (.iaload, 1) := by decide +kernel
theorem dL_law_613 : decode cL_law 613 = .ok (.aload_n 0, 1) := by decide +kernel
theorem dL_law_614 : decode cL_law 614 = .ok (.iload 4, 2) := by decide +kernel
theorem dL_law_616 : decode cL_law 616 = .ok (.iconst 3, 1) := by decide +kernel
theorem dL_law_617 : decode cL_law 617 = .ok (.iadd, 1) := by decide +kernel
theorem dL_law_618 : decode cL_law 618 = .ok (.iaload, 1) := by decide +kernel
theorem dL_law_619 : decode cL_law 619 = .ok (.aload_n 0, 1) := by decide +kernel
theorem dL_law_620 : decode cL_law 620 = .ok (.iload 4, 2) := by decide +kernel
theorem dL_law_622 : decode cL_law 622 = .ok (.iconst 4, 1) := by decide +kernel
theorem dL_law_623 : decode cL_law 623 = .ok (.iadd, 1) := by decide +kernel
theorem dL_law_624 : decode cL_law 624 = .ok (.iaload, 1) := by decide +kernel
theorem dL_law_625 : decode cL_law 625 = .ok (.aload_n 0, 1) := by decide +kernel
theorem dL_law_626 : decode cL_law 626 = .ok (.iload 4, 2) := by decide +kernel
theorem dL_law_628 : decode cL_law 628 = .ok (.iconst 5, 1) := by decide +kernel
theorem dL_law_629 : decode cL_law 629 = .ok (.iadd, 1) := by decide +kernel
theorem dL_law_630 : decode cL_law 630 = .ok (.iaload, 1) := by decide +kernel
theorem dL_law_631 : decode cL_law 631 = .ok (.invokevirtual 145, 3) := by decide +kernel
theorem dL_law_634 : decode cL_law 634 = .ok (.pop, 1) := by decide +kernel
theorem dL_law_635 : decode cL_law 635 = .ok (.goto 950, 3) := by decide +kernel
set_option maxHeartbeats 4000000 in
set_option maxRecDepth 100000 in
theorem arm_8 {p : Program} {l : Launch} {e : Env} {s : State} {m : MethodId} {below : List Frame} {meth : Method} {c : Code} {b N : Nat} {xs : Nat → Int32} {D : va_G} {K : Nat → ClassId} {sa : sT} {o i : Nat} {cells slots : Nat} {Q : State → Prop} (hls : l.stackTraces = false) (A : LwC p s m meth c b N xs) (hi : i + 6 ≤ N) {S S1 S2 : fS} {v v2 : Int32} (h1 : F_X6_feed (xs (i + 1)) (xs (i + 2)) (xs (i + 3)) (xs (i + 4)) (xs (i + 5)) S = some (v, S1)) (h2 : F_X7_feed (xs (i + 1)) (xs (i + 2)) (xs (i + 3)) (xs (i + 4)) (xs (i + 5)) S1 = some (v2, S2)) (hc : cells + 6 ≤ 601024) (hs : slots + 307 ≤ 7293033) (kk : LwK D K sa p l e s m below meth c b o i S2 (cells + 6) (slots + 307) Q 1585) : LwK D K sa p l e s m below meth c b o i S cells slots Q 565 := by
  intro ad n L f H locs ls B hl
  obtain ⟨C, hX, hbl, hrt, hlk, hNm⟩ := A
  obtain ⟨w, hw, hn, hprobe, hmo, hno, g0, hfo⟩ := B
  have hx := C.1
  have hb := C.2.1
  refine lv_aload_n hx hb dL_law_565 rfl (lv_at hl 1 rfl) ?_
  refine lv_aload_n hx hb dL_law_566 rfl (lv_at hl 0 rfl) ?_
  refine lv_iload hx hb dL_law_567 (lv_at hl 4 rfl) ?_
  refine lv_iconst (v := 1) hx hb dL_law_569 (by decide) ?_
  refine lv_iadd hx hb dL_law_570 ?_
  rw [show nI i + (1 : Int32) = nI (i + 1) from nI_ad2 i 1]
  refine t_sld hx hb hX hbl w (j := i + 1) (nI_clamp (by omega)) (vp_in_nI (by omega) (by omega)) dL_law_571 ?_
  refine lv_aload_n hx hb dL_law_572 rfl (lv_at hl 0 rfl) ?_
  refine lv_iload hx hb dL_law_573 (lv_at hl 4 rfl) ?_
  refine lv_iconst (v := 2) hx hb dL_law_575 (by decide) ?_
  refine lv_iadd hx hb dL_law_576 ?_
  rw [show nI i + (2 : Int32) = nI (i + 2) from nI_ad2 i 2]
  refine t_sld hx hb hX hbl w (j := i + 2) (nI_clamp (by omega)) (vp_in_nI (by omega) (by omega)) dL_law_577 ?_
  refine lv_aload_n hx hb dL_law_578 rfl (lv_at hl 0 rfl) ?_
  refine lv_iload hx hb dL_law_579 (lv_at hl 4 rfl) ?_
  refine lv_iconst (v := 3) hx hb dL_law_581 (by decide) ?_
  refine lv_iadd hx hb dL_law_582 ?_
  rw [show nI i + (3 : Int32) = nI (i + 3) from nI_ad2 i 3]
  refine t_sld hx hb hX hbl w (j := i + 3) (nI_clamp (by omega)) (vp_in_nI (by omega) (by omega)) dL_law_583 ?_
  refine lv_aload_n hx hb dL_law_584 rfl (lv_at hl 0 rfl) ?_
  refine lv_iload hx hb dL_law_585 (lv_at hl 4 rfl) ?_
  refine lv_iconst (v := 4) hx hb dL_law_587 (by decide) ?_
  refine lv_iadd hx hb dL_law_588 ?_
  rw [show nI i + (4 : Int32) = nI (i + 4) from nI_ad2 i 4]
  refine t_sld hx hb hX hbl w (j := i + 4) (nI_clamp (by omega)) (vp_in_nI (by omega) (by omega)) dL_law_589 ?_
  refine lv_aload_n hx hb dL_law_590 rfl (lv_at hl 0 rfl) ?_
  refine lv_iload hx hb dL_law_591 (lv_at hl 4 rfl) ?_
  refine lv_iconst (v := 5) hx hb dL_law_593 (by decide) ?_
  refine lv_iadd hx hb dL_law_594 ?_
  rw [show nI i + (5 : Int32) = nI (i + 5) from nI_ad2 i 5]
  refine t_sld hx hb hX hbl w (j := i + 5) (nI_clamp (by omega)) (vp_in_nI (by omega) (by omega)) dL_law_595 ?_
  refine u_callV (n := 5) C w hw (isn_f rfl rfl (by decide)) rfl rfl rfl (c_X6_feed l D K _ sa _ L _ ad (isn n) (fun _ _ h => h) S hw hn (xs (i + 1)) (xs (i + 2)) (xs (i + 3)) (xs (i + 4)) (xs (i + 5)) v S1 h1) gw_349 gw_346 gw_347 gw_348 gw_1 ⟨by decide, by decide, by decide +kernel⟩ rfl rfl ⟨Nat.le_of_ble_eq_true rfl, Nat.le_of_ble_eq_true rfl⟩ rfl hl.1 rfl (Nat.le_of_ble_eq_true rfl) dL_law_596 ⟨by show cells + 0 ≤ 601024; omega, by show slots + 0 ≤ 7293033; omega⟩ (fun v9 u H locs hp w => ?_)
  obtain ⟨f2, rfl, rfl, hw2, hn2, hk1⟩ := hp
  have hfo := (hk1 o hmo hno).trans hfo
  have hw := hw2
  have hn := hn2
  clear hw2 hn2
  generalize f2 = f at w hw hfo
  refine lv_pop hx hb dL_law_599 rfl ?_
  refine lv_aload_n hx hb dL_law_600 rfl (lv_at hl 2 rfl) ?_
  refine lv_aload_n hx hb dL_law_601 rfl (lv_at hl 0 rfl) ?_
  refine lv_iload hx hb dL_law_602 (lv_at hl 4 rfl) ?_
  refine lv_iconst (v := 1) hx hb dL_law_604 (by decide) ?_
  refine lv_iadd hx hb dL_law_605 ?_
  rw [show nI i + (1 : Int32) = nI (i + 1) from nI_ad2 i 1]
  refine t_sld hx hb hX hbl w (j := i + 1) (nI_clamp (by omega)) (vp_in_nI (by omega) (by omega)) dL_law_606 ?_
  refine lv_aload_n hx hb dL_law_607 rfl (lv_at hl 0 rfl) ?_
  refine lv_iload hx hb dL_law_608 (lv_at hl 4 rfl) ?_
  refine lv_iconst (v := 2) hx hb dL_law_610 (by decide) ?_
  refine lv_iadd hx hb dL_law_611 ?_
  rw [show nI i + (2 : Int32) = nI (i + 2) from nI_ad2 i 2]
  refine t_sld hx hb hX hbl w (j := i + 2) (nI_clamp (by omega)) (vp_in_nI (by omega) (by omega)) dL_law_612 ?_
  refine lv_aload_n hx hb dL_law_613 rfl (lv_at hl 0 rfl) ?_
  refine lv_iload hx hb dL_law_614 (lv_at hl 4 rfl) ?_
  refine lv_iconst (v := 3) hx hb dL_law_616 (by decide) ?_
  refine lv_iadd hx hb dL_law_617 ?_
  rw [show nI i + (3 : Int32) = nI (i + 3) from nI_ad2 i 3]
  refine t_sld hx hb hX hbl w (j := i + 3) (nI_clamp (by omega)) (vp_in_nI (by omega) (by omega)) dL_law_618 ?_
  refine lv_aload_n hx hb dL_law_619 rfl (lv_at hl 0 rfl) ?_
  refine lv_iload hx hb dL_law_620 (lv_at hl 4 rfl) ?_
  refine lv_iconst (v := 4) hx hb dL_law_622 (by decide) ?_
  refine lv_iadd hx hb dL_law_623 ?_
  rw [show nI i + (4 : Int32) = nI (i + 4) from nI_ad2 i 4]
  refine t_sld hx hb hX hbl w (j := i + 4) (nI_clamp (by omega)) (vp_in_nI (by omega) (by omega)) dL_law_624 ?_
  refine lv_aload_n hx hb dL_law_625 rfl (lv_at hl 0 rfl) ?_
  refine lv_iload hx hb dL_law_626 (lv_at hl 4 rfl) ?_
  refine lv_iconst (v := 5) hx hb dL_law_628 (by decide) ?_
  refine lv_iadd hx hb dL_law_629 ?_
  rw [show nI i + (5 : Int32) = nI (i + 5) from nI_ad2 i 5]
  refine t_sld hx hb hX hbl w (j := i + 5) (nI_clamp (by omega)) (vp_in_nI (by omega) (by omega)) dL_law_630 ?_
  refine u_callV (n := 5) C w hw (isn_f rfl rfl (by decide)) rfl rfl rfl (c_X7_feed l D K _ sa _ L _ ad (isn n) (fun _ _ h => h) S1 hw hn (xs (i + 1)) (xs (i + 2)) (xs (i + 3)) (xs (i + 4)) (xs (i + 5)) v2 S2 h2) gw_1336 gw_1333 gw_1334 gw_1335 gw_8 ⟨by decide, by decide, by decide +kernel⟩ rfl rfl ⟨Nat.le_of_ble_eq_true rfl, Nat.le_of_ble_eq_true rfl⟩ rfl hl.1 rfl (Nat.le_of_ble_eq_true rfl) dL_law_631 ⟨by show cells + 0 + 0 ≤ 601024; omega, by show slots + 0 + 0 ≤ 7293033; omega⟩ (fun v9 u H locs hp w => ?_)
  obtain ⟨f2, rfl, rfl, hw2, hn2, hk1⟩ := hp
  have hfo := (hk1 o hmo hno).trans hfo
  have hw := hw2
  have hn := hn2
  clear hw2 hn2
  generalize f2 = f at w hw hfo
  refine lv_pop hx hb dL_law_634 rfl ?_
  refine lv_goto (tgt := 1585) hx hb dL_law_635 (by decide) ?_
  exact W.widen (k := cells + 6) (n := slots + 307) (by omega) (by omega) (kk ad n L f H locs ls ⟨w, hw, hn, hprobe, hmo, hno, _, hfo⟩ (lv_sub hl [0, 1, 2, 3, 4] rfl))
