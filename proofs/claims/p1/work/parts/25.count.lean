theorem dX2_countAt_0 : decode cX2_countAt 0 = .ok (.iconst 0, 1) := by decide +kernel
theorem dX2_countAt_1 : decode cX2_countAt 1 = .ok (.istore_n 2, 1) := by decide +kernel
theorem dX2_countAt_2 : decode cX2_countAt 2 = .ok (.iconst 0, 1) := by decide +kernel
theorem dX2_countAt_3 : decode cX2_countAt 3 = .ok (.istore_n 3, 1) := by decide +kernel
theorem dX2_countAt_4 : decode cX2_countAt 4 = .ok (.iload_n 3, 1) := by decide +kernel
theorem dX2_countAt_5 : decode cX2_countAt 5 = .ok (.aload_n 0, 1) := by decide +kernel
theorem dX2_countAt_6 : decode cX2_countAt 6 = .ok (.getfield 9, 3) := by decide +kernel
theorem dX2_countAt_9 : decode cX2_countAt 9 = .ok (.if_icmp .ge 27, 3) := by decide +kernel
theorem dX2_countAt_12 : decode cX2_countAt 12 = .ok (.iload_n 2, 1) := by decide +kernel
theorem dX2_countAt_13 : decode cX2_countAt 13 = .ok (.aload_n 0, 1) := by decide +kernel
theorem dX2_countAt_14 : decode cX2_countAt 14 = .ok (.getfield 31, 3) := by decide +kernel
theorem dX2_countAt_17 : decode cX2_countAt 17 = .ok (.iload_n 3, 1) := by decide +kernel
theorem dX2_countAt_18 : decode cX2_countAt 18 = .ok (.iaload, 1) := by decide +kernel
theorem dX2_countAt_19 : decode cX2_countAt 19 = .ok (.iload_n 1, 1) := by decide +kernel
theorem dX2_countAt_20 : decode cX2_countAt 20 = .ok (.if_icmp .ne 7, 3) := by decide +kernel
theorem dX2_countAt_23 : decode cX2_countAt 23 = .ok (.iconst 1, 1) := by decide +kernel
theorem dX2_countAt_24 : decode cX2_countAt 24 = .ok (.goto 4, 3) := by decide +kernel
theorem dX2_countAt_27 : decode cX2_countAt 27 = .ok (.iconst 0, 1) := by decide +kernel
theorem dX2_countAt_28 : decode cX2_countAt 28 = .ok (.iadd, 1) := by decide +kernel
theorem dX2_countAt_29 : decode cX2_countAt 29 = .ok (.istore_n 2, 1) := by decide +kernel
theorem dX2_countAt_30 : decode cX2_countAt 30 = .ok (.iinc 3 1, 3) := by decide +kernel
theorem dX2_countAt_33 : decode cX2_countAt 33 = .ok (.goto (-29), 3) := by decide +kernel
theorem dX2_countAt_36 : decode cX2_countAt 36 = .ok (.iload_n 2, 1) := by decide +kernel
theorem dX2_countAt_37 : decode cX2_countAt 37 = .ok (.ireturn, 1) := by decide +kernel
theorem dX6_count_0 : decode cX6_count 0 = .ok (.iload_n 1, 1) := by decide +kernel
theorem dX6_count_1 : decode cX6_count 1 = .ok (.tableswitch 210 0 13 #[71, 82, 118, 130, 143, 151, 161, 169, 177, 182, 187, 192, 197, 202], 71) := by decide +kernel
theorem dX6_count_72 : decode cX6_count 72 = .ok (.aload_n 0, 1) := by decide +kernel
theorem dX6_count_73 : decode cX6_count 73 = .ok (.getfield 10, 3) := by decide +kernel
theorem dX6_count_76 : decode cX6_count 76 = .ok (.getfield 100, 3) := by decide +kernel
theorem dX6_count_79 : decode cX6_count 79 = .ok (.getfield 110, 3) := by decide +kernel
theorem dX6_count_82 : decode cX6_count 82 = .ok (.ireturn, 1) := by decide +kernel
theorem dX6_count_83 : decode cX6_count 83 = .ok (.aload_n 0, 1) := by decide +kernel
theorem dX6_count_84 : decode cX6_count 84 = .ok (.getfield 10, 3) := by decide +kernel
theorem dX6_count_87 : decode cX6_count 87 = .ok (.getfield 100, 3) := by decide +kernel
theorem dX6_count_90 : decode cX6_count 90 = .ok (.getfield 110, 3) := by decide +kernel
theorem dX6_count_93 : decode cX6_count 93 = .ok (.aload_n 0, 1) := by decide +kernel
theorem dX6_count_94 : decode cX6_count 94 = .ok (.getfield 10, 3) := by decide +kernel
theorem dX6_count_97 : decode cX6_count 97 = .ok (.getfield 100, 3) := by decide +kernel
theorem dX6_count_100 : decode cX6_count 100 = .ok (.iconst (-1), 1) := by decide +kernel
theorem dX6_count_101 : decode cX6_count 101 = .ok (.invokevirtual 309, 3) := by decide +kernel
theorem dX6_count_104 : decode cX6_count 104 = .ok (.isub, 1) := by decide +kernel
theorem dX6_count_105 : decode cX6_count 105 = .ok (.aload_n 0, 1) := by decide +kernel
theorem dX6_count_106 : decode cX6_count 106 = .ok (.getfield 10, 3) := by decide +kernel
theorem dX6_count_109 : decode cX6_count 109 = .ok (.getfield 100, 3) := by decide +kernel
theorem dX6_count_112 : decode cX6_count 112 = .ok (.bipush (-2), 2) := by decide +kernel
theorem dX6_count_114 : decode cX6_count 114 = .ok (.invokevirtual 309, 3) := by decide +kernel
theorem dX6_count_117 : decode cX6_count 117 = .ok (.isub, 1) := by decide +kernel
theorem dX6_count_118 : decode cX6_count 118 = .ok (.ireturn, 1) := by decide +kernel
theorem dX6_count_119 : decode cX6_count 119 = .ok (.aload_n 0, 1) := by decide +kernel
theorem dX6_count_120 : decode cX6_count 120 = .ok (.getfield 10, 3) := by decide +kernel
theorem dX6_count_123 : decode cX6_count 123 = .ok (.getfield 100, 3) := by decide +kernel
theorem dX6_count_126 : decode cX6_count 126 = .ok (.iconst (-1), 1) := by decide +kernel
theorem dX6_count_127 : decode cX6_count 127 = .ok (.invokevirtual 309, 3) := by decide +kernel
theorem dX6_count_130 : decode cX6_count 130 = .ok (.ireturn, 1) := by decide +kernel
theorem dX6_count_131 : decode cX6_count 131 = .ok (.aload_n 0, 1) := by decide +kernel
theorem dX6_count_132 : decode cX6_count 132 = .ok (.getfield 10, 3) := by decide +kernel
theorem dX6_count_135 : decode cX6_count 135 = .ok (.getfield 100, 3) := by decide +kernel
theorem dX6_count_138 : decode cX6_count 138 = .ok (.bipush (-2), 2) := by decide +kernel
theorem dX6_count_140 : decode cX6_count 140 = .ok (.invokevirtual 309, 3) := by decide +kernel
theorem dX6_count_143 : decode cX6_count 143 = .ok (.ireturn, 1) := by decide +kernel
theorem dX6_count_144 : decode cX6_count 144 = .ok (.aload_n 0, 1) := by decide +kernel
theorem dX6_count_145 : decode cX6_count 145 = .ok (.getfield 10, 3) := by decide +kernel
theorem dX6_count_148 : decode cX6_count 148 = .ok (.getfield 260, 3) := by decide +kernel
theorem dX6_count_151 : decode cX6_count 151 = .ok (.ireturn, 1) := by decide +kernel
theorem dX6_count_152 : decode cX6_count 152 = .ok (.aload_n 0, 1) := by decide +kernel
theorem dX6_count_153 : decode cX6_count 153 = .ok (.getfield 10, 3) := by decide +kernel
theorem dX6_count_156 : decode cX6_count 156 = .ok (.getfield 261, 3) := by decide +kernel
theorem dX6_count_159 : decode cX6_count 159 = .ok (.iconst 1, 1) := by decide +kernel
theorem dX6_count_160 : decode cX6_count 160 = .ok (.iadd, 1) := by decide +kernel
theorem dX6_count_161 : decode cX6_count 161 = .ok (.ireturn, 1) := by decide +kernel
theorem dX6_count_162 : decode cX6_count 162 = .ok (.aload_n 0, 1) := by decide +kernel
theorem dX6_count_163 : decode cX6_count 163 = .ok (.getfield 10, 3) := by decide +kernel
theorem dX6_count_166 : decode cX6_count 166 = .ok (.getfield 262, 3) := by decide +kernel
theorem dX6_count_169 : decode cX6_count 169 = .ok (.ireturn, 1) := by decide +kernel
theorem dX6_count_170 : decode cX6_count 170 = .ok (.aload_n 0, 1) := by decide +kernel
theorem dX6_count_171 : decode cX6_count 171 = .ok (.getfield 10, 3) := by decide +kernel
theorem dX6_count_174 : decode cX6_count 174 = .ok (.getfield 263, 3) := by decide +kernel
theorem dX6_count_177 : decode cX6_count 177 = .ok (.ireturn, 1) := by decide +kernel
theorem dX6_count_178 : decode cX6_count 178 = .ok (.aload_n 0, 1) := by decide +kernel
theorem dX6_count_179 : decode cX6_count 179 = .ok (.getfield 33, 3) := by decide +kernel
theorem dX6_count_182 : decode cX6_count 182 = .ok (.ireturn, 1) := by decide +kernel
theorem dX6_count_183 : decode cX6_count 183 = .ok (.aload_n 0, 1) := by decide +kernel
theorem dX6_count_184 : decode cX6_count 184 = .ok (.getfield 39, 3) := by decide +kernel
theorem dX6_count_187 : decode cX6_count 187 = .ok (.ireturn, 1) := by decide +kernel
theorem dX6_count_188 : decode cX6_count 188 = .ok (.aload_n 0, 1) := by decide +kernel
theorem dX6_count_189 : decode cX6_count 189 = .ok (.getfield 46, 3) := by decide +kernel
theorem dX6_count_192 : decode cX6_count 192 = .ok (.ireturn, 1) := by decide +kernel
theorem dX6_count_193 : decode cX6_count 193 = .ok (.aload_n 0, 1) := by decide +kernel
theorem dX6_count_194 : decode cX6_count 194 = .ok (.getfield 23, 3) := by decide +kernel
theorem dX6_count_197 : decode cX6_count 197 = .ok (.ireturn, 1) := by decide +kernel
theorem dX6_count_198 : decode cX6_count 198 = .ok (.aload_n 0, 1) := by decide +kernel
theorem dX6_count_199 : decode cX6_count 199 = .ok (.getfield 52, 3) := by decide +kernel
theorem dX6_count_202 : decode cX6_count 202 = .ok (.ireturn, 1) := by decide +kernel
theorem dX6_count_203 : decode cX6_count 203 = .ok (.aload_n 0, 1) := by decide +kernel
theorem dX6_count_204 : decode cX6_count 204 = .ok (.getfield 10, 3) := by decide +kernel
theorem dX6_count_207 : decode cX6_count 207 = .ok (.getfield 151, 3) := by decide +kernel
theorem dX6_count_210 : decode cX6_count 210 = .ok (.ireturn, 1) := by decide +kernel
theorem dX6_count_211 : decode cX6_count 211 = .ok (.iconst (-1), 1) := by decide +kernel
theorem dX6_count_212 : decode cX6_count 212 = .ok (.ireturn, 1) := by decide +kernel
set_option maxHeartbeats 4000000 in
set_option maxRecDepth 100000 in
theorem c_X2_countAt (l : Launch) (D : va_G) (K : Nat → ClassId) (b0 : Nat) (sa : Nat × Nat × Nat) (sz : Nat) (L : List Nat) (f0 : Nat → va_E) (Ψ : Nat → Nat) (hT : TW K (gof gX1) Ψ L f0) (h : Nat) (hm_h : h ∈ L) (ht_h : Ψ h = 2) (pl : Int32) : Met l yX2_countAt (.code yX2_countAt cX2_countAt 4 (some .int) :: gt) { frames := 0, cells := 0, slots := 0, locals := 0 } (va_Pc [.ref h, .int pl] (hPre D K b0 sa sz L f0)) (hQ D K b0 (fun v9 u9 => ∃ r : Int32, v9 = some (.int r) ∧ u9 = ((gof gX1), Ψ, L, f0) ∧ (r = 0))) 0 0 (fun q => b0 ≤ q) := by
  refine t_of (own := RX2) (by decide) rfl ?_ (Nat.le_of_ble_eq_true rfl)
  intro p e s m below meth c ls C w hsz hr hlk hnm hl
  have hx := C.1
  have hb := C.2.1
  have hl : lv_has ls 4 [(0, .ref h), (1, .int pl)] := hl
  have hb_pl := ti_bd pl
  have hR : rawk Ψ L f0 f0 := rawk.rf
  refine lv_iconst (v := 0) hx hb dX2_countAt_0 (by decide) ?_
  refine lv_istore_n (lv' := [(2, .int 0), (0, .ref h), (1, .int pl)]) hx hb dX2_countAt_1 rfl hl (by decide) rfl (fun ls hl => ?_)
  refine lv_iconst (v := 0) hx hb dX2_countAt_2 (by decide) ?_
  refine lv_istore_n (lv' := [(3, .int 0), (2, .int 0), (0, .ref h), (1, .int pl)]) hx hb dX2_countAt_3 rfl hl (by decide) rfl (fun ls hl => ?_)
  refine lv_iload_n hx hb dX2_countAt_4 rfl (lv_at hl 0 rfl) ?_
  refine lv_aload_n hx hb dX2_countAt_5 rfl (lv_at hl 2 rfl) ?_
  refine t_geti C w hT hm_h ht_h (by decide) rfl cin_2 0 (by decide) rfl rfl gw_46 dX2_countAt_6 (fun x1 hg => ?_)
  obtain rfl : x1 = 0 := gof_at rfl hg
  refine lv_icmp_ge (tgt := 36) hx hb dX2_countAt_9 (by decide) (fun _ => ?_) (fun c0 => absurd c0 (by decide))
  refine lv_iload_n hx hb dX2_countAt_36 rfl (lv_at hl 1 rfl) ?_
  have n0 : (0 : Int32).toInt = 0 := by decide
  exact t_iret C hr hlk w ⟨_, rfl, rfl, rfl⟩ (by decide) (by decide) dX2_countAt_37
set_option maxHeartbeats 4000000 in
set_option maxRecDepth 100000 in
theorem c_X6_count (l : Launch) (D : va_G) (K : Nat → ClassId) (b0 : Nat) (sa : Nat × Nat × Nat) (sz : Nat) (L : List Nat) (f0 : Nat → va_E) (Ψ : Nat → Nat) (hT : TW K (gof gX0) Ψ L f0) (x : Nat) (hm_x : x ∈ L) (ht_x : Ψ x = 6) (wh : Int32) : Met l yX6_count (.code yX6_count cX6_count 2 (some .int) :: gt) { frames := 1, cells := 0, slots := 0, locals := 23 } (va_Pc [.ref x, .int wh] (hPre D K b0 sa sz L f0)) (hQ D K b0 (fun v9 u9 => ∃ r : Int32, v9 = some (.int r) ∧ u9 = ((gof gX0), Ψ, L, f0) ∧ ((r = 0 ∧ ((0 ≤ wh.toInt ∧ wh.toInt ≤ 4) ∨ (6 ≤ wh.toInt ∧ wh.toInt ≤ 12))) ∨ (r = 1 ∧ (wh.toInt = 5 ∨ wh.toInt = 13)) ∨ (r = (-1) ∧ (wh.toInt < 0 ∨ 13 < wh.toInt))))) 0 0 (fun q => b0 ≤ q) := by
  refine t_of (own := RX6) (by decide) rfl ?_ (Nat.le_of_ble_eq_true rfl)
  intro p e s m below meth c ls C w hsz hr hlk hnm hl
  have hx := C.1
  have hb := C.2.1
  have hl : lv_has ls 2 [(0, .ref x), (1, .int wh)] := hl
  have hb_wh := ti_bd wh
  have hR : rawk Ψ L f0 f0 := rawk.rf
  refine lv_iload_n hx hb dX6_count_0 rfl (lv_at hl 1 rfl) ?_
  rcases (show wh.toInt = 0 ∨ wh.toInt = 1 ∨ wh.toInt = 2 ∨ wh.toInt = 3 ∨ wh.toInt = 4 ∨ wh.toInt = 5 ∨ wh.toInt = 6 ∨ wh.toInt = 7 ∨ wh.toInt = 8 ∨ wh.toInt = 9 ∨ wh.toInt = 10 ∨ wh.toInt = 11 ∨ wh.toInt = 12 ∨ wh.toInt = 13 ∨ (wh.toInt < 0 ∨ 13 < wh.toInt) by omega) with k1 | k1 | k1 | k1 | k1 | k1 | k1 | k1 | k1 | k1 | k1 | k1 | k1 | k1 | k1
  · refine lv_tableIn (tgt := 72) hx hb dX6_count_1 (by omega) (by omega) (by rw [k1]; rfl) (by decide) ?_
    refine lv_aload_n hx hb dX6_count_72 rfl (lv_at hl 0 rfl) ?_
    refine t_getr C w hT hm_x ht_x (by decide) rfl cin_6 0 (by decide) rfl gw_287 dX6_count_73 (fun q2 hm_q2 ht_q2 => ?_)
    refine t_getr C w hT hm_q2 ht_q2 (by decide) rfl cin_0 0 (by decide) rfl gw_89 dX6_count_76 (fun q3 hm_q3 ht_q3 => ?_)
    refine t_geti C w hT hm_q3 ht_q3 (by decide) rfl cin_2 0 (by decide) rfl rfl gw_47 dX6_count_79 (fun x4 hg => ?_)
    obtain rfl : x4 = 0 := gof_at rfl hg
    have n0 : (0 : Int32).toInt = 0 := by decide
    exact t_iret C hr hlk w ⟨_, rfl, rfl, Or.inl ⟨rfl, (by omega)⟩⟩ (by decide) (by decide) dX6_count_82
  · refine lv_tableIn (tgt := 83) hx hb dX6_count_1 (by omega) (by omega) (by rw [k1]; rfl) (by decide) ?_
    refine lv_aload_n hx hb dX6_count_83 rfl (lv_at hl 0 rfl) ?_
    refine t_getr C w hT hm_x ht_x (by decide) rfl cin_6 0 (by decide) rfl gw_287 dX6_count_84 (fun q5 hm_q5 ht_q5 => ?_)
    refine t_getr C w hT hm_q5 ht_q5 (by decide) rfl cin_0 0 (by decide) rfl gw_89 dX6_count_87 (fun q6 hm_q6 ht_q6 => ?_)
    refine t_geti C w hT hm_q6 ht_q6 (by decide) rfl cin_2 0 (by decide) rfl rfl gw_47 dX6_count_90 (fun x7 hg => ?_)
    obtain rfl : x7 = 0 := gof_at rfl hg
    refine lv_aload_n hx hb dX6_count_93 rfl (lv_at hl 0 rfl) ?_
    refine t_getr C w hT hm_x ht_x (by decide) rfl cin_6 0 (by decide) rfl gw_287 dX6_count_94 (fun q8 hm_q8 ht_q8 => ?_)
    refine t_getr C w hT hm_q8 ht_q8 (by decide) rfl cin_0 0 (by decide) rfl gw_89 dX6_count_97 (fun q9 hm_q9 ht_q9 => ?_)
    refine lv_iconst (v := (-1)) hx hb dX6_count_100 (by decide) ?_
    have nm1 : ((-1) : Int32).toInt = -1 := by decide
    refine t_callV (n := 1) C w hT hm_q9 ht_q9 (by decide) rfl rfl (c_X2_countAt l D K b0 sa _ L _ Ψ (hT.mono (gof_sub rfl)) q9 hm_q9 ht_q9 (-1)) gw_542 gw_539 gw_540 gw_541 gw_3 ⟨by decide, by decide, by decide +kernel⟩ rfl rfl ⟨by decide, by decide⟩ rfl hl.1 rfl (Nat.le_of_ble_eq_true rfl) dX6_count_101 ⟨by decide, by decide⟩ (fun v u H locs hp w => ?_)
    obtain ⟨r10, rfl, rfl, hrr10⟩ := hp
    obtain rfl := hrr10
    refine lv_isub hx hb dX6_count_104 ?_
    refine lv_topi (fun y11 ey11 => ?_)
    obtain rfl : y11 = 0 := ey11.trans (by decide)
    refine lv_aload_n hx hb dX6_count_105 rfl (lv_at hl 0 rfl) ?_
    refine t_getr C w hT hm_x ht_x (by decide) rfl cin_6 0 (by decide) rfl gw_287 dX6_count_106 (fun q12 hm_q12 ht_q12 => ?_)
    refine t_getr C w hT hm_q12 ht_q12 (by decide) rfl cin_0 0 (by decide) rfl gw_89 dX6_count_109 (fun q13 hm_q13 ht_q13 => ?_)
    refine lv_bipush (v := (-2)) hx hb dX6_count_112 (by decide) ?_
    have nm2 : ((-2) : Int32).toInt = -2 := by decide
    refine t_callV (n := 1) C w hT hm_q13 ht_q13 (by decide) rfl rfl (c_X2_countAt l D K b0 sa _ L _ Ψ (hT.mono (gof_sub rfl)) q13 hm_q13 ht_q13 (-2)) gw_542 gw_539 gw_540 gw_541 gw_3 ⟨by decide, by decide, by decide +kernel⟩ rfl rfl ⟨by decide, by decide⟩ rfl hl.1 rfl (Nat.le_of_ble_eq_true rfl) dX6_count_114 ⟨by decide, by decide⟩ (fun v u H locs hp w => ?_)
    obtain ⟨r14, rfl, rfl, hrr14⟩ := hp
    obtain rfl := hrr14
    refine lv_isub hx hb dX6_count_117 ?_
    refine lv_topi (fun y15 ey15 => ?_)
    obtain rfl : y15 = 0 := ey15.trans (by decide)
    have n0 : (0 : Int32).toInt = 0 := by decide
    exact t_iret C hr hlk w ⟨_, rfl, rfl, Or.inl ⟨rfl, (by omega)⟩⟩ (by decide) (by decide) dX6_count_118
  · refine lv_tableIn (tgt := 119) hx hb dX6_count_1 (by omega) (by omega) (by rw [k1]; rfl) (by decide) ?_
    refine lv_aload_n hx hb dX6_count_119 rfl (lv_at hl 0 rfl) ?_
    refine t_getr C w hT hm_x ht_x (by decide) rfl cin_6 0 (by decide) rfl gw_287 dX6_count_120 (fun q16 hm_q16 ht_q16 => ?_)
    refine t_getr C w hT hm_q16 ht_q16 (by decide) rfl cin_0 0 (by decide) rfl gw_89 dX6_count_123 (fun q17 hm_q17 ht_q17 => ?_)
    refine lv_iconst (v := (-1)) hx hb dX6_count_126 (by decide) ?_
    have nm1 : ((-1) : Int32).toInt = -1 := by decide
    refine t_callV (n := 1) C w hT hm_q17 ht_q17 (by decide) rfl rfl (c_X2_countAt l D K b0 sa _ L _ Ψ (hT.mono (gof_sub rfl)) q17 hm_q17 ht_q17 (-1)) gw_542 gw_539 gw_540 gw_541 gw_3 ⟨by decide, by decide, by decide +kernel⟩ rfl rfl ⟨by decide, by decide⟩ rfl hl.1 rfl (Nat.le_of_ble_eq_true rfl) dX6_count_127 ⟨by decide, by decide⟩ (fun v u H locs hp w => ?_)
    obtain ⟨r18, rfl, rfl, hrr18⟩ := hp
    obtain rfl := hrr18
    have n0 : (0 : Int32).toInt = 0 := by decide
    exact t_iret C hr hlk w ⟨_, rfl, rfl, Or.inl ⟨rfl, (by omega)⟩⟩ (by decide) (by decide) dX6_count_130
  · refine lv_tableIn (tgt := 131) hx hb dX6_count_1 (by omega) (by omega) (by rw [k1]; rfl) (by decide) ?_
    refine lv_aload_n hx hb dX6_count_131 rfl (lv_at hl 0 rfl) ?_
    refine t_getr C w hT hm_x ht_x (by decide) rfl cin_6 0 (by decide) rfl gw_287 dX6_count_132 (fun q19 hm_q19 ht_q19 => ?_)
    refine t_getr C w hT hm_q19 ht_q19 (by decide) rfl cin_0 0 (by decide) rfl gw_89 dX6_count_135 (fun q20 hm_q20 ht_q20 => ?_)
    refine lv_bipush (v := (-2)) hx hb dX6_count_138 (by decide) ?_
    have nm2 : ((-2) : Int32).toInt = -2 := by decide
    refine t_callV (n := 1) C w hT hm_q20 ht_q20 (by decide) rfl rfl (c_X2_countAt l D K b0 sa _ L _ Ψ (hT.mono (gof_sub rfl)) q20 hm_q20 ht_q20 (-2)) gw_542 gw_539 gw_540 gw_541 gw_3 ⟨by decide, by decide, by decide +kernel⟩ rfl rfl ⟨by decide, by decide⟩ rfl hl.1 rfl (Nat.le_of_ble_eq_true rfl) dX6_count_140 ⟨by decide, by decide⟩ (fun v u H locs hp w => ?_)
    obtain ⟨r21, rfl, rfl, hrr21⟩ := hp
    obtain rfl := hrr21
    have n0 : (0 : Int32).toInt = 0 := by decide
    exact t_iret C hr hlk w ⟨_, rfl, rfl, Or.inl ⟨rfl, (by omega)⟩⟩ (by decide) (by decide) dX6_count_143
  · refine lv_tableIn (tgt := 144) hx hb dX6_count_1 (by omega) (by omega) (by rw [k1]; rfl) (by decide) ?_
    refine lv_aload_n hx hb dX6_count_144 rfl (lv_at hl 0 rfl) ?_
    refine t_getr C w hT hm_x ht_x (by decide) rfl cin_6 0 (by decide) rfl gw_287 dX6_count_145 (fun q22 hm_q22 ht_q22 => ?_)
    refine t_geti C w hT hm_q22 ht_q22 (by decide) rfl cin_0 7 (by decide) rfl rfl gw_109 dX6_count_148 (fun x23 hg => ?_)
    obtain rfl : x23 = 0 := gof_at rfl hg
    have n0 : (0 : Int32).toInt = 0 := by decide
    exact t_iret C hr hlk w ⟨_, rfl, rfl, Or.inl ⟨rfl, (by omega)⟩⟩ (by decide) (by decide) dX6_count_151
  · refine lv_tableIn (tgt := 152) hx hb dX6_count_1 (by omega) (by omega) (by rw [k1]; rfl) (by decide) ?_
    refine lv_aload_n hx hb dX6_count_152 rfl (lv_at hl 0 rfl) ?_
    refine t_getr C w hT hm_x ht_x (by decide) rfl cin_6 0 (by decide) rfl gw_287 dX6_count_153 (fun q24 hm_q24 ht_q24 => ?_)
    refine t_geti C w hT hm_q24 ht_q24 (by decide) rfl cin_0 8 (by decide) rfl rfl gw_112 dX6_count_156 (fun x25 hg => ?_)
    obtain rfl : x25 = 0 := gof_at rfl hg
    refine lv_iconst (v := 1) hx hb dX6_count_159 (by decide) ?_
    refine lv_iadd hx hb dX6_count_160 ?_
    refine lv_topi (fun y26 ey26 => ?_)
    obtain rfl : y26 = 1 := ey26.trans (by decide)
    have n1 : (1 : Int32).toInt = 1 := by decide
    exact t_iret C hr hlk w ⟨_, rfl, rfl, Or.inr (Or.inl ⟨rfl, (by omega)⟩)⟩ (by decide) (by decide) dX6_count_161
  · refine lv_tableIn (tgt := 162) hx hb dX6_count_1 (by omega) (by omega) (by rw [k1]; rfl) (by decide) ?_
    refine lv_aload_n hx hb dX6_count_162 rfl (lv_at hl 0 rfl) ?_
    refine t_getr C w hT hm_x ht_x (by decide) rfl cin_6 0 (by decide) rfl gw_287 dX6_count_163 (fun q27 hm_q27 ht_q27 => ?_)
    refine t_geti C w hT hm_q27 ht_q27 (by decide) rfl cin_0 9 (by decide) rfl rfl gw_115 dX6_count_166 (fun x28 hg => ?_)
    obtain rfl : x28 = 0 := gof_at rfl hg
    have n0 : (0 : Int32).toInt = 0 := by decide
    exact t_iret C hr hlk w ⟨_, rfl, rfl, Or.inl ⟨rfl, (by omega)⟩⟩ (by decide) (by decide) dX6_count_169
  · refine lv_tableIn (tgt := 170) hx hb dX6_count_1 (by omega) (by omega) (by rw [k1]; rfl) (by decide) ?_
    refine lv_aload_n hx hb dX6_count_170 rfl (lv_at hl 0 rfl) ?_
    refine t_getr C w hT hm_x ht_x (by decide) rfl cin_6 0 (by decide) rfl gw_287 dX6_count_171 (fun q29 hm_q29 ht_q29 => ?_)
    refine t_geti C w hT hm_q29 ht_q29 (by decide) rfl cin_0 10 (by decide) rfl rfl gw_118 dX6_count_174 (fun x30 hg => ?_)
    obtain rfl : x30 = 0 := gof_at rfl hg
    have n0 : (0 : Int32).toInt = 0 := by decide
    exact t_iret C hr hlk w ⟨_, rfl, rfl, Or.inl ⟨rfl, (by omega)⟩⟩ (by decide) (by decide) dX6_count_177
  · refine lv_tableIn (tgt := 178) hx hb dX6_count_1 (by omega) (by omega) (by rw [k1]; rfl) (by decide) ?_
    refine lv_aload_n hx hb dX6_count_178 rfl (lv_at hl 0 rfl) ?_
    refine t_geti C w hT hm_x ht_x (by decide) rfl cin_6 5 (by decide) rfl rfl gw_292 dX6_count_179 (fun x31 hg => ?_)
    obtain rfl : x31 = 0 := gof_at rfl hg
    have n0 : (0 : Int32).toInt = 0 := by decide
    exact t_iret C hr hlk w ⟨_, rfl, rfl, Or.inl ⟨rfl, (by omega)⟩⟩ (by decide) (by decide) dX6_count_182
  · refine lv_tableIn (tgt := 183) hx hb dX6_count_1 (by omega) (by omega) (by rw [k1]; rfl) (by decide) ?_
    refine lv_aload_n hx hb dX6_count_183 rfl (lv_at hl 0 rfl) ?_
    refine t_geti C w hT hm_x ht_x (by decide) rfl cin_6 7 (by decide) rfl rfl gw_294 dX6_count_184 (fun x32 hg => ?_)
    obtain rfl : x32 = 0 := gof_at rfl hg
    have n0 : (0 : Int32).toInt = 0 := by decide
    exact t_iret C hr hlk w ⟨_, rfl, rfl, Or.inl ⟨rfl, (by omega)⟩⟩ (by decide) (by decide) dX6_count_187
  · refine lv_tableIn (tgt := 188) hx hb dX6_count_1 (by omega) (by omega) (by rw [k1]; rfl) (by decide) ?_
    refine lv_aload_n hx hb dX6_count_188 rfl (lv_at hl 0 rfl) ?_
    refine t_geti C w hT hm_x ht_x (by decide) rfl cin_6 9 (by decide) rfl rfl gw_296 dX6_count_189 (fun x33 hg => ?_)
    obtain rfl : x33 = 0 := gof_at rfl hg
    have n0 : (0 : Int32).toInt = 0 := by decide
    exact t_iret C hr hlk w ⟨_, rfl, rfl, Or.inl ⟨rfl, (by omega)⟩⟩ (by decide) (by decide) dX6_count_192
  · refine lv_tableIn (tgt := 193) hx hb dX6_count_1 (by omega) (by omega) (by rw [k1]; rfl) (by decide) ?_
    refine lv_aload_n hx hb dX6_count_193 rfl (lv_at hl 0 rfl) ?_
    refine t_geti C w hT hm_x ht_x (by decide) rfl cin_6 3 (by decide) rfl rfl gw_290 dX6_count_194 (fun x34 hg => ?_)
    obtain rfl : x34 = 0 := gof_at rfl hg
    have n0 : (0 : Int32).toInt = 0 := by decide
    exact t_iret C hr hlk w ⟨_, rfl, rfl, Or.inl ⟨rfl, (by omega)⟩⟩ (by decide) (by decide) dX6_count_197
  · refine lv_tableIn (tgt := 198) hx hb dX6_count_1 (by omega) (by omega) (by rw [k1]; rfl) (by decide) ?_
    refine lv_aload_n hx hb dX6_count_198 rfl (lv_at hl 0 rfl) ?_
    refine t_geti C w hT hm_x ht_x (by decide) rfl cin_6 11 (by decide) rfl rfl gw_298 dX6_count_199 (fun x35 hg => ?_)
    obtain rfl : x35 = 0 := gof_at rfl hg
    have n0 : (0 : Int32).toInt = 0 := by decide
    exact t_iret C hr hlk w ⟨_, rfl, rfl, Or.inl ⟨rfl, (by omega)⟩⟩ (by decide) (by decide) dX6_count_202
  · refine lv_tableIn (tgt := 203) hx hb dX6_count_1 (by omega) (by omega) (by rw [k1]; rfl) (by decide) ?_
    refine lv_aload_n hx hb dX6_count_203 rfl (lv_at hl 0 rfl) ?_
    refine t_getr C w hT hm_x ht_x (by decide) rfl cin_6 0 (by decide) rfl gw_287 dX6_count_204 (fun q36 hm_q36 ht_q36 => ?_)
    refine t_geti C w hT hm_q36 ht_q36 (by decide) rfl cin_0 5 (by decide) rfl rfl gw_104 dX6_count_207 (fun x37 hg => ?_)
    obtain rfl : x37 = 1 := gof_at rfl hg
    have n1 : (1 : Int32).toInt = 1 := by decide
    exact t_iret C hr hlk w ⟨_, rfl, rfl, Or.inr (Or.inl ⟨rfl, (by omega)⟩)⟩ (by decide) (by decide) dX6_count_210
  · refine lv_tableOut (tgt := 211) hx hb dX6_count_1 k1 (by decide) ?_
    refine lv_iconst (v := (-1)) hx hb dX6_count_211 (by decide) ?_
    have nm1 : ((-1) : Int32).toInt = -1 := by decide
    exact t_iret C hr hlk w ⟨_, rfl, rfl, Or.inr (Or.inr (⟨rfl, (by omega)⟩))⟩ (by decide) (by decide) dX6_count_212
