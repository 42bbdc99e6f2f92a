theorem dX7_init_0 : decode cX7_init 0 = .ok (.aload_n 0, 1) := by decide +kernel
theorem dX7_init_1 : decode cX7_init 1 = .ok (.invokespecial 3, 3) := by decide +kernel
theorem dX7_init_4 : decode cX7_init 4 = .ok (.aload_n 0, 1) := by decide +kernel
theorem dX7_init_5 : decode cX7_init 5 = .ok (.iconst (-1), 1) := by decide +kernel
theorem dX7_init_6 : decode cX7_init 6 = .ok (.putfield 11, 3) := by decide +kernel
theorem dX7_init_9 : decode cX7_init 9 = .ok (.aload_n 0, 1) := by decide +kernel
theorem dX7_init_10 : decode cX7_init 10 = .ok (.sipush 300, 3) := by decide +kernel
theorem dX7_init_13 : decode cX7_init 13 = .ok (.newarray .int, 2) := by decide +kernel
theorem dX7_init_15 : decode cX7_init 15 = .ok (.putfield 15, 3) := by decide +kernel
theorem dX7_init_18 : decode cX7_init 18 = .ok (.aload_n 0, 1) := by decide +kernel
theorem dX7_init_19 : decode cX7_init 19 = .ok (.bipush 9, 2) := by decide +kernel
theorem dX7_init_21 : decode cX7_init 21 = .ok (.sipush 300, 3) := by decide +kernel
theorem dX7_init_24 : decode cX7_init 24 = .ok (.multianewarray 19 2, 4) := by decide +kernel
theorem dX7_init_28 : decode cX7_init 28 = .ok (.putfield 21, 3) := by decide +kernel
theorem dX7_init_31 : decode cX7_init 31 = .ok (.aload_n 0, 1) := by decide +kernel
theorem dX7_init_32 : decode cX7_init 32 = .ok (.bipush 9, 2) := by decide +kernel
theorem dX7_init_34 : decode cX7_init 34 = .ok (.newarray .int, 2) := by decide +kernel
theorem dX7_init_36 : decode cX7_init 36 = .ok (.putfield 24, 3) := by decide +kernel
theorem dX7_init_39 : decode cX7_init 39 = .ok (.aload_n 0, 1) := by decide +kernel
theorem dX7_init_40 : decode cX7_init 40 = .ok (.iconst (-1), 1) := by decide +kernel
theorem dX7_init_41 : decode cX7_init 41 = .ok (.putfield 27, 3) := by decide +kernel
theorem dX7_init_44 : decode cX7_init 44 = .ok (.aload_n 0, 1) := by decide +kernel
theorem dX7_init_45 : decode cX7_init 45 = .ok (.bipush 7, 2) := by decide +kernel
theorem dX7_init_47 : decode cX7_init 47 = .ok (.newarray .int, 2) := by decide +kernel
theorem dX7_init_49 : decode cX7_init 49 = .ok (.putfield 30, 3) := by decide +kernel
theorem dX7_init_52 : decode cX7_init 52 = .ok (.aload_n 0, 1) := by decide +kernel
theorem dX7_init_53 : decode cX7_init 53 = .ok (.bipush 24, 2) := by decide +kernel
theorem dX7_init_55 : decode cX7_init 55 = .ok (.newarray .int, 2) := by decide +kernel
theorem dX7_init_57 : decode cX7_init 57 = .ok (.putfield 33, 3) := by decide +kernel
theorem dX7_init_60 : decode cX7_init 60 = .ok (.aload_n 0, 1) := by decide +kernel
theorem dX7_init_61 : decode cX7_init 61 = .ok (.bipush 24, 2) := by decide +kernel
theorem dX7_init_63 : decode cX7_init 63 = .ok (.newarray .int, 2) := by decide +kernel
theorem dX7_init_65 : decode cX7_init 65 = .ok (.putfield 36, 3) := by decide +kernel
theorem dX7_init_68 : decode cX7_init 68 = .ok (.aload_n 0, 1) := by decide +kernel
theorem dX7_init_69 : decode cX7_init 69 = .ok (.bipush 24, 2) := by decide +kernel
theorem dX7_init_71 : decode cX7_init 71 = .ok (.newarray .int, 2) := by decide +kernel
theorem dX7_init_73 : decode cX7_init 73 = .ok (.putfield 39, 3) := by decide +kernel
theorem dX7_init_76 : decode cX7_init 76 = .ok (.aload_n 0, 1) := by decide +kernel
theorem dX7_init_77 : decode cX7_init 77 = .ok (.bipush 24, 2) := by decide +kernel
theorem dX7_init_79 : decode cX7_init 79 = .ok (.newarray .int, 2) := by decide +kernel
theorem dX7_init_81 : decode cX7_init 81 = .ok (.putfield 42, 3) := by decide +kernel
theorem dX7_init_84 : decode cX7_init 84 = .ok (.aload_n 0, 1) := by decide +kernel
theorem dX7_init_85 : decode cX7_init 85 = .ok (.bipush 24, 2) := by decide +kernel
theorem dX7_init_87 : decode cX7_init 87 = .ok (.newarray .int, 2) := by decide +kernel
theorem dX7_init_89 : decode cX7_init 89 = .ok (.putfield 45, 3) := by decide +kernel
theorem dX7_init_92 : decode cX7_init 92 = .ok (.aload_n 0, 1) := by decide +kernel
theorem dX7_init_93 : decode cX7_init 93 = .ok (.bipush 24, 2) := by decide +kernel
theorem dX7_init_95 : decode cX7_init 95 = .ok (.newarray .boolean, 2) := by decide +kernel
theorem dX7_init_97 : decode cX7_init 97 = .ok (.putfield 48, 3) := by decide +kernel
theorem dX7_init_100 : decode cX7_init 100 = .ok (.aload_n 0, 1) := by decide +kernel
theorem dX7_init_101 : decode cX7_init 101 = .ok (.bipush 64, 2) := by decide +kernel
theorem dX7_init_103 : decode cX7_init 103 = .ok (.bipush 24, 2) := by decide +kernel
theorem dX7_init_105 : decode cX7_init 105 = .ok (.multianewarray 19 2, 4) := by decide +kernel
theorem dX7_init_109 : decode cX7_init 109 = .ok (.putfield 52, 3) := by decide +kernel
theorem dX7_init_112 : decode cX7_init 112 = .ok (.aload_n 0, 1) := by decide +kernel
theorem dX7_init_113 : decode cX7_init 113 = .ok (.bipush 64, 2) := by decide +kernel
theorem dX7_init_115 : decode cX7_init 115 = .ok (.newarray .int, 2) := by decide +kernel
theorem dX7_init_117 : decode cX7_init 117 = .ok (.putfield 55, 3) := by decide +kernel
theorem dX7_init_120 : decode cX7_init 120 = .ok (.aload_n 0, 1) := by decide +kernel
theorem dX7_init_121 : decode cX7_init 121 = .ok (.bipush 63, 2) := by decide +kernel
theorem dX7_init_123 : decode cX7_init 123 = .ok (.putfield 58, 3) := by decide +kernel
theorem dX7_init_126 : decode cX7_init 126 = .ok (.aload_n 0, 1) := by decide +kernel
theorem dX7_init_127 : decode cX7_init 127 = .ok (.bipush 14, 2) := by decide +kernel
theorem dX7_init_129 : decode cX7_init 129 = .ok (.putfield 61, 3) := by decide +kernel
theorem dX7_init_132 : decode cX7_init 132 = .ok (.aload_n 0, 1) := by decide +kernel
theorem dX7_init_133 : decode cX7_init 133 = .ok (.iconst 1, 1) := by decide +kernel
theorem dX7_init_134 : decode cX7_init 134 = .ok (.putfield 64, 3) := by decide +kernel
theorem dX7_init_137 : decode cX7_init 137 = .ok (.aload_n 0, 1) := by decide +kernel
theorem dX7_init_138 : decode cX7_init 138 = .ok (.iconst 1, 1) := by decide +kernel
theorem dX7_init_139 : decode cX7_init 139 = .ok (.putfield 67, 3) := by decide +kernel
theorem dX7_init_142 : decode cX7_init 142 = .ok (.aload_n 0, 1) := by decide +kernel
theorem dX7_init_143 : decode cX7_init 143 = .ok (.iconst 5, 1) := by decide +kernel
theorem dX7_init_144 : decode cX7_init 144 = .ok (.newarray .int, 2) := by decide +kernel
theorem dX7_init_146 : decode cX7_init 146 = .ok (.putfield 70, 3) := by decide +kernel
theorem dX7_init_149 : decode cX7_init 149 = .ok (.aload_n 0, 1) := by decide +kernel
theorem dX7_init_150 : decode cX7_init 150 = .ok (.sipush 200, 3) := by decide +kernel
theorem dX7_init_153 : decode cX7_init 153 = .ok (.bipush 14, 2) := by decide +kernel
theorem dX7_init_155 : decode cX7_init 155 = .ok (.multianewarray 19 2, 4) := by decide +kernel
theorem dX7_init_159 : decode cX7_init 159 = .ok (.putfield 73, 3) := by decide +kernel
theorem dX7_init_162 : decode cX7_init 162 = .ok (.aload_n 0, 1) := by decide +kernel
theorem dX7_init_163 : decode cX7_init 163 = .ok (.bipush 6, 2) := by decide +kernel
theorem dX7_init_165 : decode cX7_init 165 = .ok (.bipush 9, 2) := by decide +kernel
theorem dX7_init_167 : decode cX7_init 167 = .ok (.multianewarray 19 2, 4) := by decide +kernel
theorem dX7_init_171 : decode cX7_init 171 = .ok (.putfield 76, 3) := by decide +kernel
theorem dX7_init_174 : decode cX7_init 174 = .ok (.aload_n 0, 1) := by decide +kernel
theorem dX7_init_175 : decode cX7_init 175 = .ok (.sipush 256, 3) := by decide +kernel
theorem dX7_init_178 : decode cX7_init 178 = .ok (.bipush 24, 2) := by decide +kernel
theorem dX7_init_180 : decode cX7_init 180 = .ok (.multianewarray 19 2, 4) := by decide +kernel
theorem dX7_init_184 : decode cX7_init 184 = .ok (.putfield 79, 3) := by decide +kernel
theorem dX7_init_187 : decode cX7_init 187 = .ok (.aload_n 0, 1) := by decide +kernel
theorem dX7_init_188 : decode cX7_init 188 = .ok (.iconst 4, 1) := by decide +kernel
theorem dX7_init_189 : decode cX7_init 189 = .ok (.bipush 64, 2) := by decide +kernel
theorem dX7_init_191 : decode cX7_init 191 = .ok (.multianewarray 19 2, 4) := by decide +kernel
theorem dX7_init_195 : decode cX7_init 195 = .ok (.putfield 82, 3) := by decide +kernel
theorem dX7_init_198 : decode cX7_init 198 = .ok (.aload_n 0, 1) := by decide +kernel
theorem dX7_init_199 : decode cX7_init 199 = .ok (.iconst 4, 1) := by decide +kernel
theorem dX7_init_200 : decode cX7_init 200 = .ok (.bipush 24, 2) := by decide +kernel
theorem dX7_init_202 : decode cX7_init 202 = .ok (.multianewarray 19 2, 4) := by decide +kernel
theorem dX7_init_206 : decode cX7_init 206 = .ok (.putfield 85, 3) := by decide +kernel
theorem dX7_init_209 : decode cX7_init 209 = .ok (.aload_n 0, 1) := by decide +kernel
theorem dX7_init_210 : decode cX7_init 210 = .ok (.iconst 4, 1) := by decide +kernel
theorem dX7_init_211 : decode cX7_init 211 = .ok (.bipush 11, 2) := by decide +kernel
theorem dX7_init_213 : decode cX7_init 213 = .ok (.multianewarray 19 2, 4) := by decide +kernel
theorem dX7_init_217 : decode cX7_init 217 = .ok (.putfield 88, 3) := by decide +kernel
theorem dX7_init_220 : decode cX7_init 220 = .ok (.aload_n 0, 1) := by decide +kernel
theorem dX7_init_221 : decode cX7_init 221 = .ok (.bipush 15, 2) := by decide +kernel
theorem dX7_init_223 : decode cX7_init 223 = .ok (.bipush 24, 2) := by decide +kernel
theorem dX7_init_225 : decode cX7_init 225 = .ok (.multianewarray 19 2, 4) := by decide +kernel
theorem dX7_init_229 : decode cX7_init 229 = .ok (.putfield 91, 3) := by decide +kernel
theorem dX7_init_232 : decode cX7_init 232 = .ok (.aload_n 0, 1) := by decide +kernel
theorem dX7_init_233 : decode cX7_init 233 = .ok (.sipush 600, 3) := by decide +kernel
theorem dX7_init_236 : decode cX7_init 236 = .ok (.bipush 14, 2) := by decide +kernel
theorem dX7_init_238 : decode cX7_init 238 = .ok (.multianewarray 19 2, 4) := by decide +kernel
theorem dX7_init_242 : decode cX7_init 242 = .ok (.putfield 94, 3) := by decide +kernel
theorem dX7_init_245 : decode cX7_init 245 = .ok (.return_, 1) := by decide +kernel
set_option maxHeartbeats 4000000 in
set_option maxRecDepth 100000 in
theorem c_X7_init (l : Launch) (D : va_G) (K : Nat → ClassId) (b0 : Nat) (sa : Nat × Nat × Nat) (sz : Nat) (L : List Nat) (f0 : Nat → va_E) (Ψ : Nat → Nat) (hT : TW K (gof gX0) Ψ L f0) (x : Nat) (hm_x : x ∈ L) (ht_x : Ψ x = 9) (hf_x : f0 x = .inr (7, [.int 0, .int 0, .int 0, .int 0, .int 0, .int 0, .int 0, .int 0, .int 0, .int 0, .null, .null, .null, .int 0, .int 0, .int 0, .int 0, .null, .int 0, .int 0, .int 0, .int 0, .null, .null, .null, .null, .null, .null, .null, .null, .int 0, .int 0, .int 0, .int 0, .int 0, .int 0, .int 0, .int 0, .int 0, .null, .int 0, .int 0, .int 0, .int 0, .int 0, .int 0, .int 0, .null, .int 0, .null, .null, .null, .null, .null, .null, .null, .int 0])) : Met l yX7_init (.code yX7_init cX7_init 1 none :: gt) { frames := 1, cells := 1183, slots := 24081, locals := 12 } (va_Pc [.ref x] (hPre D K b0 sa sz L f0)) (hQ D K b0 (fun v9 u9 => ∃ (Ψ2 : Nat → Nat) (L2 : List Nat) (f2 : Nat → va_E), v9 = none ∧ u9 = ((gof gX0), Ψ2, L2, f2) ∧ TW K (gof gX0) Ψ2 L2 f2 ∧ Ex [9, 30, 31, 32, 33, 34, 35, 36, 37, 38, 39, 50, 51, 52, 53, 54, 55, 56, 57, 58, 59] (fun q9 => q9 = x) Ψ L f0 Ψ2 L2 f2 ∧ Ψ2 x = 7)) 1183 24081 (fun q => b0 ≤ q) := by
  refine t_of (own := RX7) (by decide) rfl ?_ (Nat.le_of_ble_eq_true rfl)
  intro p e s m below meth c ls C w hsz hr hlk hnm hl
  have hx := C.1
  have hb := C.2.1
  have hl : lv_has ls 1 [(0, .ref x)] := hl
  have hE : Ex [9, 30, 31, 32, 33, 34, 35, 36, 37, 38, 39, 50, 51, 52, 53, 54, 55, 56, 57, 58, 59] (fun q9 => q9 = x) Ψ L f0 Ψ L f0 := Ex.rf
  have hm0_x := hm_x
  have hz_x : x ∈ L → (fun q9 => q9 = x) x := fun _ => rfl
  refine lv_aload_n hx hb dX7_init_0 rfl (lv_at hl 0 rfl) ?_
  refine t_obj0 C hl.1 gw_1153 gw_29 gw_30 dX7_init_1 (by decide) (Nat.le_of_ble_eq_true rfl) ?_
  refine lv_aload_n hx hb dX7_init_4 rfl (lv_at hl 0 rfl) ?_
  refine lv_iconst (v := (-1)) hx hb dX7_init_5 (by decide) ?_
  refine t_putR C w hT hE hm_x ht_x hf_x hz_x rfl cin_7 tyX7 tyX7_ok nmX7 3 (by decide) (Nat.le_of_ble_eq_true rfl) rfl rfl rfl (fs2 := [.int 0, .int 0, .int 0, .int (-1), .int 0, .int 0, .int 0, .int 0, .int 0, .int 0, .null, .null, .null, .int 0, .int 0, .int 0, .int 0, .null, .int 0, .int 0, .int 0, .int 0, .null, .null, .null, .null, .null, .null, .null, .null, .int 0, .int 0, .int 0, .int 0, .int 0, .int 0, .int 0, .int 0, .int 0, .null, .int 0, .int 0, .int 0, .int 0, .int 0, .int 0, .int 0, .null, .int 0, .null, .null, .null, .null, .null, .null, .null, .int 0]) rfl gw_1159 dX7_init_6 (fun f H locs w hT hE hf_x hk => ?_)
  clear hk
  refine lv_aload_n hx hb dX7_init_9 rfl (lv_at hl 0 rfl) ?_
  refine lv_sipush (v := 300) hx hb dX7_init_10 (by decide) ?_
  refine t_newI C w hT hE (by decide) (at_ := .int) (ty := .int) (ti := 0) rfl rfl (Or.inl rfl) gw_85 (N := 300) (by decide) (by decide) (by decide) (by decide) (by decide) dX7_init_13 (fun q1 Ψ2 L2 f H w hT hE hsp hm_q1 ht_q1 hf_q1 hz_q1 hnq hbk => ?_)
  have hn_x_q1 := hnq x hm_x
  have hf_x := ((hsp x hm_x).2.2 ht_x).trans hf_x
  have ht_x := (hsp x hm_x).2.1.trans ht_x
  have hm_x := (hsp x hm_x).1
  clear hsp hbk hnq
  obtain ⟨Ψ3, hT, hE, hs1, hs2, ht_q1x⟩ := t_tag (t := 30) hT hE ht_q1 hz_q1 (by decide) (t_tya (v := 0) (by decide) hf_q1 rfl rfl (fun i _ => rfl) (fun i => (gof_no rfl)))
  have ht_x := (hs2 x hn_x_q1).trans ht_x
  have ht_q1 := ht_q1x
  clear hs1 hs2 ht_q1x
  refine t_putRF C hnm w hT hE hm_x ht_x hf_x hz_x rfl cin_7 tyX7 tyX7_ok nmX7 10 (by decide) (Nat.le_of_ble_eq_true rfl) rfl rfl rfl rfl (fs2 := [.int 0, .int 0, .int 0, .int (-1), .int 0, .int 0, .int 0, .int 0, .int 0, .int 0, .ref q1, .null, .null, .int 0, .int 0, .int 0, .int 0, .null, .int 0, .int 0, .int 0, .int 0, .null, .null, .null, .null, .null, .null, .null, .null, .int 0, .int 0, .int 0, .int 0, .int 0, .int 0, .int 0, .int 0, .int 0, .null, .int 0, .int 0, .int 0, .int 0, .int 0, .int 0, .int 0, .null, .int 0, .null, .null, .null, .null, .null, .null, .null, .int 0]) rfl gw_1166 dX7_init_15 (fun f H locs w hT hE hf_x hk => ?_)
  clear hk
  refine lv_aload_n hx hb dX7_init_18 rfl (lv_at hl 0 rfl) ?_
  refine lv_bipush (v := 9) hx hb dX7_init_19 (by decide) ?_
  refine lv_sipush (v := 300) hx hb dX7_init_21 (by decide) ?_
  refine t_multi C w hT hE (t := 50) (t2 := 30) (N := 9) (M := 300) (by decide) (by decide) (by decide) rfl rfl rfl (by decide) rfl rfl (fun i => (gof_no rfl)) gw_1154 w.2.2.2.2.2.1.2.2.2.1.2.1 (by decide) (by decide) (by decide) (by decide) (by decide) (by decide) (by decide) (by decide) dX7_init_24 (fun q4 Ψ5 L5 f H locs w hT hE hsp hm_q4 ht_q4 hbk => ?_)
  have hf_x := ((hsp x hm_x).2.2 ht_x).trans hf_x
  have ht_x := (hsp x hm_x).2.1.trans ht_x
  have hm_x := (hsp x hm_x).1
  have ht_q1 := (hsp q1 hm_q1).2.1.trans ht_q1
  have hm_q1 := (hsp q1 hm_q1).1
  clear hsp hbk
  refine t_putRF C hnm w hT hE hm_x ht_x hf_x hz_x rfl cin_7 tyX7 tyX7_ok nmX7 11 (by decide) (Nat.le_of_ble_eq_true rfl) rfl rfl rfl rfl (fs2 := [.int 0, .int 0, .int 0, .int (-1), .int 0, .int 0, .int 0, .int 0, .int 0, .int 0, .ref q1, .ref q4, .null, .int 0, .int 0, .int 0, .int 0, .null, .int 0, .int 0, .int 0, .int 0, .null, .null, .null, .null, .null, .null, .null, .null, .int 0, .int 0, .int 0, .int 0, .int 0, .int 0, .int 0, .int 0, .int 0, .null, .int 0, .int 0, .int 0, .int 0, .int 0, .int 0, .int 0, .null, .int 0, .null, .null, .null, .null, .null, .null, .null, .int 0]) rfl gw_1167 dX7_init_28 (fun f H locs w hT hE hf_x hk => ?_)
  clear hk
  refine lv_aload_n hx hb dX7_init_31 rfl (lv_at hl 0 rfl) ?_
  refine lv_bipush (v := 9) hx hb dX7_init_32 (by decide) ?_
  refine t_newI C w hT hE (by decide) (at_ := .int) (ty := .int) (ti := 0) rfl rfl (Or.inl rfl) gw_85 (N := 9) (by decide) (by decide) (by decide) (by decide) (by decide) dX7_init_34 (fun q6 Ψ7 L7 f H w hT hE hsp hm_q6 ht_q6 hf_q6 hz_q6 hnq hbk => ?_)
  have hn_x_q6 := hnq x hm_x
  have hf_x := ((hsp x hm_x).2.2 ht_x).trans hf_x
  have ht_x := (hsp x hm_x).2.1.trans ht_x
  have hm_x := (hsp x hm_x).1
  have ht_q1 := (hsp q1 hm_q1).2.1.trans ht_q1
  have hm_q1 := (hsp q1 hm_q1).1
  have ht_q4 := (hsp q4 hm_q4).2.1.trans ht_q4
  have hm_q4 := (hsp q4 hm_q4).1
  clear hsp hbk hnq
  obtain ⟨Ψ8, hT, hE, hs1, hs2, ht_q6x⟩ := t_tag (t := 31) hT hE ht_q6 hz_q6 (by decide) (t_tya (v := 0) (by decide) hf_q6 rfl rfl (fun i _ => rfl) (fun i => (gof_no rfl)))
  have ht_x := (hs2 x hn_x_q6).trans ht_x
  have ht_q1 := (hs1 q1 (by rw [ht_q1]; decide)).trans ht_q1
  have ht_q4 := (hs1 q4 (by rw [ht_q4]; decide)).trans ht_q4
  have ht_q6 := ht_q6x
  clear hs1 hs2 ht_q6x
  refine t_putRF C hnm w hT hE hm_x ht_x hf_x hz_x rfl cin_7 tyX7 tyX7_ok nmX7 12 (by decide) (Nat.le_of_ble_eq_true rfl) rfl rfl rfl rfl (fs2 := [.int 0, .int 0, .int 0, .int (-1), .int 0, .int 0, .int 0, .int 0, .int 0, .int 0, .ref q1, .ref q4, .ref q6, .int 0, .int 0, .int 0, .int 0, .null, .int 0, .int 0, .int 0, .int 0, .null, .null, .null, .null, .null, .null, .null, .null, .int 0, .int 0, .int 0, .int 0, .int 0, .int 0, .int 0, .int 0, .int 0, .null, .int 0, .int 0, .int 0, .int 0, .int 0, .int 0, .int 0, .null, .int 0, .null, .null, .null, .null, .null, .null, .null, .int 0]) rfl gw_1168 dX7_init_36 (fun f H locs w hT hE hf_x hk => ?_)
  clear hk
  refine lv_aload_n hx hb dX7_init_39 rfl (lv_at hl 0 rfl) ?_
  refine lv_iconst (v := (-1)) hx hb dX7_init_40 (by decide) ?_
  refine t_putR C w hT hE hm_x ht_x hf_x hz_x rfl cin_7 tyX7 tyX7_ok nmX7 15 (by decide) (Nat.le_of_ble_eq_true rfl) rfl rfl rfl (fs2 := [.int 0, .int 0, .int 0, .int (-1), .int 0, .int 0, .int 0, .int 0, .int 0, .int 0, .ref q1, .ref q4, .ref q6, .int 0, .int 0, .int (-1), .int 0, .null, .int 0, .int 0, .int 0, .int 0, .null, .null, .null, .null, .null, .null, .null, .null, .int 0, .int 0, .int 0, .int 0, .int 0, .int 0, .int 0, .int 0, .int 0, .null, .int 0, .int 0, .int 0, .int 0, .int 0, .int 0, .int 0, .null, .int 0, .null, .null, .null, .null, .null, .null, .null, .int 0]) rfl gw_1171 dX7_init_41 (fun f H locs w hT hE hf_x hk => ?_)
  clear hk
  refine lv_aload_n hx hb dX7_init_44 rfl (lv_at hl 0 rfl) ?_
  refine lv_bipush (v := 7) hx hb dX7_init_45 (by decide) ?_
  refine t_newI C w hT hE (by decide) (at_ := .int) (ty := .int) (ti := 0) rfl rfl (Or.inl rfl) gw_85 (N := 7) (by decide) (by decide) (by decide) (by decide) (by decide) dX7_init_47 (fun q9 Ψ10 L10 f H w hT hE hsp hm_q9 ht_q9 hf_q9 hz_q9 hnq hbk => ?_)
  have hn_x_q9 := hnq x hm_x
  have hf_x := ((hsp x hm_x).2.2 ht_x).trans hf_x
  have ht_x := (hsp x hm_x).2.1.trans ht_x
  have hm_x := (hsp x hm_x).1
  have ht_q1 := (hsp q1 hm_q1).2.1.trans ht_q1
  have hm_q1 := (hsp q1 hm_q1).1
  have ht_q4 := (hsp q4 hm_q4).2.1.trans ht_q4
  have hm_q4 := (hsp q4 hm_q4).1
  have ht_q6 := (hsp q6 hm_q6).2.1.trans ht_q6
  have hm_q6 := (hsp q6 hm_q6).1
  clear hsp hbk hnq
  obtain ⟨Ψ11, hT, hE, hs1, hs2, ht_q9x⟩ := t_tag (t := 32) hT hE ht_q9 hz_q9 (by decide) (t_tya (v := 0) (by decide) hf_q9 rfl rfl (fun i _ => rfl) (fun i => (gof_no rfl)))
  have ht_x := (hs2 x hn_x_q9).trans ht_x
  have ht_q1 := (hs1 q1 (by rw [ht_q1]; decide)).trans ht_q1
  have ht_q4 := (hs1 q4 (by rw [ht_q4]; decide)).trans ht_q4
  have ht_q6 := (hs1 q6 (by rw [ht_q6]; decide)).trans ht_q6
  have ht_q9 := ht_q9x
  clear hs1 hs2 ht_q9x
  refine t_putRF C hnm w hT hE hm_x ht_x hf_x hz_x rfl cin_7 tyX7 tyX7_ok nmX7 17 (by decide) (Nat.le_of_ble_eq_true rfl) rfl rfl rfl rfl (fs2 := [.int 0, .int 0, .int 0, .int (-1), .int 0, .int 0, .int 0, .int 0, .int 0, .int 0, .ref q1, .ref q4, .ref q6, .int 0, .int 0, .int (-1), .int 0, .ref q9, .int 0, .int 0, .int 0, .int 0, .null, .null, .null, .null, .null, .null, .null, .null, .int 0, .int 0, .int 0, .int 0, .int 0, .int 0, .int 0, .int 0, .int 0, .null, .int 0, .int 0, .int 0, .int 0, .int 0, .int 0, .int 0, .null, .int 0, .null, .null, .null, .null, .null, .null, .null, .int 0]) rfl gw_1173 dX7_init_49 (fun f H locs w hT hE hf_x hk => ?_)
  clear hk
  refine lv_aload_n hx hb dX7_init_52 rfl (lv_at hl 0 rfl) ?_
  refine lv_bipush (v := 24) hx hb dX7_init_53 (by decide) ?_
  refine t_newI C w hT hE (by decide) (at_ := .int) (ty := .int) (ti := 0) rfl rfl (Or.inl rfl) gw_85 (N := 24) (by decide) (by decide) (by decide) (by decide) (by decide) dX7_init_55 (fun q12 Ψ13 L13 f H w hT hE hsp hm_q12 ht_q12 hf_q12 hz_q12 hnq hbk => ?_)
  have hn_x_q12 := hnq x hm_x
  have hf_x := ((hsp x hm_x).2.2 ht_x).trans hf_x
  have ht_x := (hsp x hm_x).2.1.trans ht_x
  have hm_x := (hsp x hm_x).1
  have ht_q1 := (hsp q1 hm_q1).2.1.trans ht_q1
  have hm_q1 := (hsp q1 hm_q1).1
  have ht_q4 := (hsp q4 hm_q4).2.1.trans ht_q4
  have hm_q4 := (hsp q4 hm_q4).1
  have ht_q6 := (hsp q6 hm_q6).2.1.trans ht_q6
  have hm_q6 := (hsp q6 hm_q6).1
  have ht_q9 := (hsp q9 hm_q9).2.1.trans ht_q9
  have hm_q9 := (hsp q9 hm_q9).1
  clear hsp hbk hnq
  obtain ⟨Ψ14, hT, hE, hs1, hs2, ht_q12x⟩ := t_tag (t := 33) hT hE ht_q12 hz_q12 (by decide) (t_tya (v := 0) (by decide) hf_q12 rfl rfl (fun i _ => rfl) (fun i => (gof_no rfl)))
  have ht_x := (hs2 x hn_x_q12).trans ht_x
  have ht_q1 := (hs1 q1 (by rw [ht_q1]; decide)).trans ht_q1
  have ht_q4 := (hs1 q4 (by rw [ht_q4]; decide)).trans ht_q4
  have ht_q6 := (hs1 q6 (by rw [ht_q6]; decide)).trans ht_q6
  have ht_q9 := (hs1 q9 (by rw [ht_q9]; decide)).trans ht_q9
  have ht_q12 := ht_q12x
  clear hs1 hs2 ht_q12x
  refine t_putRF C hnm w hT hE hm_x ht_x hf_x hz_x rfl cin_7 tyX7 tyX7_ok nmX7 22 (by decide) (Nat.le_of_ble_eq_true rfl) rfl rfl rfl rfl (fs2 := [.int 0, .int 0, .int 0, .int (-1), .int 0, .int 0, .int 0, .int 0, .int 0, .int 0, .ref q1, .ref q4, .ref q6, .int 0, .int 0, .int (-1), .int 0, .ref q9, .int 0, .int 0, .int 0, .int 0, .ref q12, .null, .null, .null, .null, .null, .null, .null, .int 0, .int 0, .int 0, .int 0, .int 0, .int 0, .int 0, .int 0, .int 0, .null, .int 0, .int 0, .int 0, .int 0, .int 0, .int 0, .int 0, .null, .int 0, .null, .null, .null, .null, .null, .null, .null, .int 0]) rfl gw_1178 dX7_init_57 (fun f H locs w hT hE hf_x hk => ?_)
  clear hk
  refine lv_aload_n hx hb dX7_init_60 rfl (lv_at hl 0 rfl) ?_
  refine lv_bipush (v := 24) hx hb dX7_init_61 (by decide) ?_
  refine t_newI C w hT hE (by decide) (at_ := .int) (ty := .int) (ti := 0) rfl rfl (Or.inl rfl) gw_85 (N := 24) (by decide) (by decide) (by decide) (by decide) (by decide) dX7_init_63 (fun q15 Ψ16 L16 f H w hT hE hsp hm_q15 ht_q15 hf_q15 hz_q15 hnq hbk => ?_)
  have hn_x_q15 := hnq x hm_x
  have hf_x := ((hsp x hm_x).2.2 ht_x).trans hf_x
  have ht_x := (hsp x hm_x).2.1.trans ht_x
  have hm_x := (hsp x hm_x).1
  have ht_q1 := (hsp q1 hm_q1).2.1.trans ht_q1
  have hm_q1 := (hsp q1 hm_q1).1
  have ht_q4 := (hsp q4 hm_q4).2.1.trans ht_q4
  have hm_q4 := (hsp q4 hm_q4).1
  have ht_q6 := (hsp q6 hm_q6).2.1.trans ht_q6
  have hm_q6 := (hsp q6 hm_q6).1
  have ht_q9 := (hsp q9 hm_q9).2.1.trans ht_q9
  have hm_q9 := (hsp q9 hm_q9).1
  have ht_q12 := (hsp q12 hm_q12).2.1.trans ht_q12
  have hm_q12 := (hsp q12 hm_q12).1
  clear hsp hbk hnq
  obtain ⟨Ψ17, hT, hE, hs1, hs2, ht_q15x⟩ := t_tag (t := 33) hT hE ht_q15 hz_q15 (by decide) (t_tya (v := 0) (by decide) hf_q15 rfl rfl (fun i _ => rfl) (fun i => (gof_no rfl)))
  have ht_x := (hs2 x hn_x_q15).trans ht_x
  have ht_q1 := (hs1 q1 (by rw [ht_q1]; decide)).trans ht_q1
  have ht_q4 := (hs1 q4 (by rw [ht_q4]; decide)).trans ht_q4
  have ht_q6 := (hs1 q6 (by rw [ht_q6]; decide)).trans ht_q6
  have ht_q9 := (hs1 q9 (by rw [ht_q9]; decide)).trans ht_q9
  have ht_q12 := (hs1 q12 (by rw [ht_q12]; decide)).trans ht_q12
  have ht_q15 := ht_q15x
  clear hs1 hs2 ht_q15x
  refine t_putRF C hnm w hT hE hm_x ht_x hf_x hz_x rfl cin_7 tyX7 tyX7_ok nmX7 23 (by decide) (Nat.le_of_ble_eq_true rfl) rfl rfl rfl rfl (fs2 := [.int 0, .int 0, .int 0, .int (-1), .int 0, .int 0, .int 0, .int 0, .int 0, .int 0, .ref q1, .ref q4, .ref q6, .int 0, .int 0, .int (-1), .int 0, .ref q9, .int 0, .int 0, .int 0, .int 0, .ref q12, .ref q15, .null, .null, .null, .null, .null, .null, .int 0, .int 0, .int 0, .int 0, .int 0, .int 0, .int 0, .int 0, .int 0, .null, .int 0, .int 0, .int 0, .int 0, .int 0, .int 0, .int 0, .null, .int 0, .null, .null, .null, .null, .null, .null, .null, .int 0]) rfl gw_1179 dX7_init_65 (fun f H locs w hT hE hf_x hk => ?_)
  clear hk
  refine lv_aload_n hx hb dX7_init_68 rfl (lv_at hl 0 rfl) ?_
  refine lv_bipush (v := 24) hx hb dX7_init_69 (by decide) ?_
  refine t_newI C w hT hE (by decide) (at_ := .int) (ty := .int) (ti := 0) rfl rfl (Or.inl rfl) gw_85 (N := 24) (by decide) (by decide) (by decide) (by decide) (by decide) dX7_init_71 (fun q18 Ψ19 L19 f H w hT hE hsp hm_q18 ht_q18 hf_q18 hz_q18 hnq hbk => ?_)
  have hn_x_q18 := hnq x hm_x
  have hf_x := ((hsp x hm_x).2.2 ht_x).trans hf_x
  have ht_x := (hsp x hm_x).2.1.trans ht_x
  have hm_x := (hsp x hm_x).1
  have ht_q1 := (hsp q1 hm_q1).2.1.trans ht_q1
  have hm_q1 := (hsp q1 hm_q1).1
  have ht_q4 := (hsp q4 hm_q4).2.1.trans ht_q4
  have hm_q4 := (hsp q4 hm_q4).1
  have ht_q6 := (hsp q6 hm_q6).2.1.trans ht_q6
  have hm_q6 := (hsp q6 hm_q6).1
  have ht_q9 := (hsp q9 hm_q9).2.1.trans ht_q9
  have hm_q9 := (hsp q9 hm_q9).1
  have ht_q12 := (hsp q12 hm_q12).2.1.trans ht_q12
  have hm_q12 := (hsp q12 hm_q12).1
  have ht_q15 := (hsp q15 hm_q15).2.1.trans ht_q15
  have hm_q15 := (hsp q15 hm_q15).1
  clear hsp hbk hnq
  obtain ⟨Ψ20, hT, hE, hs1, hs2, ht_q18x⟩ := t_tag (t := 33) hT hE ht_q18 hz_q18 (by decide) (t_tya (v := 0) (by decide) hf_q18 rfl rfl (fun i _ => rfl) (fun i => (gof_no rfl)))
  have ht_x := (hs2 x hn_x_q18).trans ht_x
  have ht_q1 := (hs1 q1 (by rw [ht_q1]; decide)).trans ht_q1
  have ht_q4 := (hs1 q4 (by rw [ht_q4]; decide)).trans ht_q4
  have ht_q6 := (hs1 q6 (by rw [ht_q6]; decide)).trans ht_q6
  have ht_q9 := (hs1 q9 (by rw [ht_q9]; decide)).trans ht_q9
  have ht_q12 := (hs1 q12 (by rw [ht_q12]; decide)).trans ht_q12
  have ht_q15 := (hs1 q15 (by rw [ht_q15]; decide)).trans ht_q15
  have ht_q18 := ht_q18x
  clear hs1 hs2 ht_q18x
  refine t_putRF C hnm w hT hE hm_x ht_x hf_x hz_x rfl cin_7 tyX7 tyX7_ok nmX7 24 (by decide) (Nat.le_of_ble_eq_true rfl) rfl rfl rfl rfl (fs2 := [.int 0, .int 0, .int 0, .int (-1), .int 0, .int 0, .int 0, .int 0, .int 0, .int 0, .ref q1, .ref q4, .ref q6, .int 0, .int 0, .int (-1), .int 0, .ref q9, .int 0, .int 0, .int 0, .int 0, .ref q12, .ref q15, .ref q18, .null, .null, .null, .null, .null, .int 0, .int 0, .int 0, .int 0, .int 0, .int 0, .int 0, .int 0, .int 0, .null, .int 0, .int 0, .int 0, .int 0, .int 0, .int 0, .int 0, .null, .int 0, .null, .null, .null, .null, .null, .null, .null, .int 0]) rfl gw_1180 dX7_init_73 (fun f H locs w hT hE hf_x hk => ?_)
  clear hk
  refine lv_aload_n hx hb dX7_init_76 rfl (lv_at hl 0 rfl) ?_
  refine lv_bipush (v := 24) hx hb dX7_init_77 (by decide) ?_
  refine t_newI C w hT hE (by decide) (at_ := .int) (ty := .int) (ti := 0) rfl rfl (Or.inl rfl) gw_85 (N := 24) (by decide) (by decide) (by decide) (by decide) (by decide) dX7_init_79 (fun q21 Ψ22 L22 f H w hT hE hsp hm_q21 ht_q21 hf_q21 hz_q21 hnq hbk => ?_)
  have hn_x_q21 := hnq x hm_x
  have hf_x := ((hsp x hm_x).2.2 ht_x).trans hf_x
  have ht_x := (hsp x hm_x).2.1.trans ht_x
  have hm_x := (hsp x hm_x).1
  have ht_q1 := (hsp q1 hm_q1).2.1.trans ht_q1
  have hm_q1 := (hsp q1 hm_q1).1
  have ht_q4 := (hsp q4 hm_q4).2.1.trans ht_q4
  have hm_q4 := (hsp q4 hm_q4).1
  have ht_q6 := (hsp q6 hm_q6).2.1.trans ht_q6
  have hm_q6 := (hsp q6 hm_q6).1
  have ht_q9 := (hsp q9 hm_q9).2.1.trans ht_q9
  have hm_q9 := (hsp q9 hm_q9).1
  have ht_q12 := (hsp q12 hm_q12).2.1.trans ht_q12
  have hm_q12 := (hsp q12 hm_q12).1
  have ht_q15 := (hsp q15 hm_q15).2.1.trans ht_q15
  have hm_q15 := (hsp q15 hm_q15).1
  have ht_q18 := (hsp q18 hm_q18).2.1.trans ht_q18
  have hm_q18 := (hsp q18 hm_q18).1
  clear hsp hbk hnq
  obtain ⟨Ψ23, hT, hE, hs1, hs2, ht_q21x⟩ := t_tag (t := 33) hT hE ht_q21 hz_q21 (by decide) (t_tya (v := 0) (by decide) hf_q21 rfl rfl (fun i _ => rfl) (fun i => (gof_no rfl)))
  have ht_x := (hs2 x hn_x_q21).trans ht_x
  have ht_q1 := (hs1 q1 (by rw [ht_q1]; decide)).trans ht_q1
  have ht_q4 := (hs1 q4 (by rw [ht_q4]; decide)).trans ht_q4
  have ht_q6 := (hs1 q6 (by rw [ht_q6]; decide)).trans ht_q6
  have ht_q9 := (hs1 q9 (by rw [ht_q9]; decide)).trans ht_q9
  have ht_q12 := (hs1 q12 (by rw [ht_q12]; decide)).trans ht_q12
  have ht_q15 := (hs1 q15 (by rw [ht_q15]; decide)).trans ht_q15
  have ht_q18 := (hs1 q18 (by rw [ht_q18]; decide)).trans ht_q18
  have ht_q21 := ht_q21x
  clear hs1 hs2 ht_q21x
  refine t_putRF C hnm w hT hE hm_x ht_x hf_x hz_x rfl cin_7 tyX7 tyX7_ok nmX7 25 (by decide) (Nat.le_of_ble_eq_true rfl) rfl rfl rfl rfl (fs2 := [.int 0, .int 0, .int 0, .int (-1), .int 0, .int 0, .int 0, .int 0, .int 0, .int 0, .ref q1, .ref q4, .ref q6, .int 0, .int 0, .int (-1), .int 0, .ref q9, .int 0, .int 0, .int 0, .int 0, .ref q12, .ref q15, .ref q18, .ref q21, .null, .null, .null, .null, .int 0, .int 0, .int 0, .int 0, .int 0, .int 0, .int 0, .int 0, .int 0, .null, .int 0, .int 0, .int 0, .int 0, .int 0, .int 0, .int 0, .null, .int 0, .null, .null, .null, .null, .null, .null, .null, .int 0]) rfl gw_1181 dX7_init_81 (fun f H locs w hT hE hf_x hk => ?_)
  clear hk
  refine lv_aload_n hx hb dX7_init_84 rfl (lv_at hl 0 rfl) ?_
  refine lv_bipush (v := 24) hx hb dX7_init_85 (by decide) ?_
  refine t_newI C w hT hE (by decide) (at_ := .int) (ty := .int) (ti := 0) rfl rfl (Or.inl rfl) gw_85 (N := 24) (by decide) (by decide) (by decide) (by decide) (by decide) dX7_init_87 (fun q24 Ψ25 L25 f H w hT hE hsp hm_q24 ht_q24 hf_q24 hz_q24 hnq hbk => ?_)
  have hn_x_q24 := hnq x hm_x
  have hf_x := ((hsp x hm_x).2.2 ht_x).trans hf_x
  have ht_x := (hsp x hm_x).2.1.trans ht_x
  have hm_x := (hsp x hm_x).1
  have ht_q1 := (hsp q1 hm_q1).2.1.trans ht_q1
  have hm_q1 := (hsp q1 hm_q1).1
  have ht_q4 := (hsp q4 hm_q4).2.1.trans ht_q4
  have hm_q4 := (hsp q4 hm_q4).1
  have ht_q6 := (hsp q6 hm_q6).2.1.trans ht_q6
  have hm_q6 := (hsp q6 hm_q6).1
  have ht_q9 := (hsp q9 hm_q9).2.1.trans ht_q9
  have hm_q9 := (hsp q9 hm_q9).1
  have ht_q12 := (hsp q12 hm_q12).2.1.trans ht_q12
  have hm_q12 := (hsp q12 hm_q12).1
  have ht_q15 := (hsp q15 hm_q15).2.1.trans ht_q15
  have hm_q15 := (hsp q15 hm_q15).1
  have ht_q18 := (hsp q18 hm_q18).2.1.trans ht_q18
  have hm_q18 := (hsp q18 hm_q18).1
  have ht_q21 := (hsp q21 hm_q21).2.1.trans ht_q21
  have hm_q21 := (hsp q21 hm_q21).1
  clear hsp hbk hnq
  obtain ⟨Ψ26, hT, hE, hs1, hs2, ht_q24x⟩ := t_tag (t := 33) hT hE ht_q24 hz_q24 (by decide) (t_tya (v := 0) (by decide) hf_q24 rfl rfl (fun i _ => rfl) (fun i => (gof_no rfl)))
  have ht_x := (hs2 x hn_x_q24).trans ht_x
  have ht_q1 := (hs1 q1 (by rw [ht_q1]; decide)).trans ht_q1
  have ht_q4 := (hs1 q4 (by rw [ht_q4]; decide)).trans ht_q4
  have ht_q6 := (hs1 q6 (by rw [ht_q6]; decide)).trans ht_q6
  have ht_q9 := (hs1 q9 (by rw [ht_q9]; decide)).trans ht_q9
  have ht_q12 := (hs1 q12 (by rw [ht_q12]; decide)).trans ht_q12
  have ht_q15 := (hs1 q15 (by rw [ht_q15]; decide)).trans ht_q15
  have ht_q18 := (hs1 q18 (by rw [ht_q18]; decide)).trans ht_q18
  have ht_q21 := (hs1 q21 (by rw [ht_q21]; decide)).trans ht_q21
  have ht_q24 := ht_q24x
  clear hs1 hs2 ht_q24x
  refine t_putRF C hnm w hT hE hm_x ht_x hf_x hz_x rfl cin_7 tyX7 tyX7_ok nmX7 26 (by decide) (Nat.le_of_ble_eq_true rfl) rfl rfl rfl rfl (fs2 := [.int 0, .int 0, .int 0, .int (-1), .int 0, .int 0, .int 0, .int 0, .int 0, .int 0, .ref q1, .ref q4, .ref q6, .int 0, .int 0, .int (-1), .int 0, .ref q9, .int 0, .int 0, .int 0, .int 0, .ref q12, .ref q15, .ref q18, .ref q21, .ref q24, .null, .null, .null, .int 0, .int 0, .int 0, .int 0, .int 0, .int 0, .int 0, .int 0, .int 0, .null, .int 0, .int 0, .int 0, .int 0, .int 0, .int 0, .int 0, .null, .int 0, .null, .null, .null, .null, .null, .null, .null, .int 0]) rfl gw_1182 dX7_init_89 (fun f H locs w hT hE hf_x hk => ?_)
  clear hk
  refine lv_aload_n hx hb dX7_init_92 rfl (lv_at hl 0 rfl) ?_
  refine lv_bipush (v := 24) hx hb dX7_init_93 (by decide) ?_
  refine t_newI C w hT hE (by decide) (at_ := .boolean) (ty := .boolean) (ti := 1) rfl rfl (Or.inr rfl) gw_1328 (N := 24) (by decide) (by decide) (by decide) (by decide) (by decide) dX7_init_95 (fun q27 Ψ28 L28 f H w hT hE hsp hm_q27 ht_q27 hf_q27 hz_q27 hnq hbk => ?_)
  have hn_x_q27 := hnq x hm_x
  have hf_x := ((hsp x hm_x).2.2 ht_x).trans hf_x
  have ht_x := (hsp x hm_x).2.1.trans ht_x
  have hm_x := (hsp x hm_x).1
  have ht_q1 := (hsp q1 hm_q1).2.1.trans ht_q1
  have hm_q1 := (hsp q1 hm_q1).1
  have ht_q4 := (hsp q4 hm_q4).2.1.trans ht_q4
  have hm_q4 := (hsp q4 hm_q4).1
  have ht_q6 := (hsp q6 hm_q6).2.1.trans ht_q6
  have hm_q6 := (hsp q6 hm_q6).1
  have ht_q9 := (hsp q9 hm_q9).2.1.trans ht_q9
  have hm_q9 := (hsp q9 hm_q9).1
  have ht_q12 := (hsp q12 hm_q12).2.1.trans ht_q12
  have hm_q12 := (hsp q12 hm_q12).1
  have ht_q15 := (hsp q15 hm_q15).2.1.trans ht_q15
  have hm_q15 := (hsp q15 hm_q15).1
  have ht_q18 := (hsp q18 hm_q18).2.1.trans ht_q18
  have hm_q18 := (hsp q18 hm_q18).1
  have ht_q21 := (hsp q21 hm_q21).2.1.trans ht_q21
  have hm_q21 := (hsp q21 hm_q21).1
  have ht_q24 := (hsp q24 hm_q24).2.1.trans ht_q24
  have hm_q24 := (hsp q24 hm_q24).1
  clear hsp hbk hnq
  obtain ⟨Ψ29, hT, hE, hs1, hs2, ht_q27x⟩ := t_tag (t := 34) hT hE ht_q27 hz_q27 (by decide) (t_tya (v := 0) (by decide) hf_q27 rfl rfl (fun i _ => rfl) (fun i => (gof_no rfl)))
  have ht_x := (hs2 x hn_x_q27).trans ht_x
  have ht_q1 := (hs1 q1 (by rw [ht_q1]; decide)).trans ht_q1
  have ht_q4 := (hs1 q4 (by rw [ht_q4]; decide)).trans ht_q4
  have ht_q6 := (hs1 q6 (by rw [ht_q6]; decide)).trans ht_q6
  have ht_q9 := (hs1 q9 (by rw [ht_q9]; decide)).trans ht_q9
  have ht_q12 := (hs1 q12 (by rw [ht_q12]; decide)).trans ht_q12
  have ht_q15 := (hs1 q15 (by rw [ht_q15]; decide)).trans ht_q15
  have ht_q18 := (hs1 q18 (by rw [ht_q18]; decide)).trans ht_q18
  have ht_q21 := (hs1 q21 (by rw [ht_q21]; decide)).trans ht_q21
  have ht_q24 := (hs1 q24 (by rw [ht_q24]; decide)).trans ht_q24
  have ht_q27 := ht_q27x
  clear hs1 hs2 ht_q27x
  refine t_putRF C hnm w hT hE hm_x ht_x hf_x hz_x rfl cin_7 tyX7 tyX7_ok nmX7 27 (by decide) (Nat.le_of_ble_eq_true rfl) rfl rfl rfl rfl (fs2 := [.int 0, .int 0, .int 0, .int (-1), .int 0, .int 0, .int 0, .int 0, .int 0, .int 0, .ref q1, .ref q4, .ref q6, .int 0, .int 0, .int (-1), .int 0, .ref q9, .int 0, .int 0, .int 0, .int 0, .ref q12, .ref q15, .ref q18, .ref q21, .ref q24, .ref q27, .null, .null, .int 0, .int 0, .int 0, .int 0, .int 0, .int 0, .int 0, .int 0, .int 0, .null, .int 0, .int 0, .int 0, .int 0, .int 0, .int 0, .int 0, .null, .int 0, .null, .null, .null, .null, .null, .null, .null, .int 0]) rfl gw_1183 dX7_init_97 (fun f H locs w hT hE hf_x hk => ?_)
  clear hk
  refine lv_aload_n hx hb dX7_init_100 rfl (lv_at hl 0 rfl) ?_
  refine lv_bipush (v := 64) hx hb dX7_init_101 (by decide) ?_
  refine lv_bipush (v := 24) hx hb dX7_init_103 (by decide) ?_
  refine t_multi C w hT hE (t := 51) (t2 := 33) (N := 64) (M := 24) (by decide) (by decide) (by decide) rfl rfl rfl (by decide) rfl rfl (fun i => (gof_no rfl)) gw_1154 w.2.2.2.2.2.1.2.2.2.1.2.1 (by decide) (by decide) (by decide) (by decide) (by decide) (by decide) (by decide) (by decide) dX7_init_105 (fun q30 Ψ31 L31 f H locs w hT hE hsp hm_q30 ht_q30 hbk => ?_)
  have hf_x := ((hsp x hm_x).2.2 ht_x).trans hf_x
  have ht_x := (hsp x hm_x).2.1.trans ht_x
  have hm_x := (hsp x hm_x).1
  have ht_q1 := (hsp q1 hm_q1).2.1.trans ht_q1
  have hm_q1 := (hsp q1 hm_q1).1
  have ht_q4 := (hsp q4 hm_q4).2.1.trans ht_q4
  have hm_q4 := (hsp q4 hm_q4).1
  have ht_q6 := (hsp q6 hm_q6).2.1.trans ht_q6
  have hm_q6 := (hsp q6 hm_q6).1
  have ht_q9 := (hsp q9 hm_q9).2.1.trans ht_q9
  have hm_q9 := (hsp q9 hm_q9).1
  have ht_q12 := (hsp q12 hm_q12).2.1.trans ht_q12
  have hm_q12 := (hsp q12 hm_q12).1
  have ht_q15 := (hsp q15 hm_q15).2.1.trans ht_q15
  have hm_q15 := (hsp q15 hm_q15).1
  have ht_q18 := (hsp q18 hm_q18).2.1.trans ht_q18
  have hm_q18 := (hsp q18 hm_q18).1
  have ht_q21 := (hsp q21 hm_q21).2.1.trans ht_q21
  have hm_q21 := (hsp q21 hm_q21).1
  have ht_q24 := (hsp q24 hm_q24).2.1.trans ht_q24
  have hm_q24 := (hsp q24 hm_q24).1
  have ht_q27 := (hsp q27 hm_q27).2.1.trans ht_q27
  have hm_q27 := (hsp q27 hm_q27).1
  clear hsp hbk
  refine t_putRF C hnm w hT hE hm_x ht_x hf_x hz_x rfl cin_7 tyX7 tyX7_ok nmX7 28 (by decide) (Nat.le_of_ble_eq_true rfl) rfl rfl rfl rfl (fs2 := [.int 0, .int 0, .int 0, .int (-1), .int 0, .int 0, .int 0, .int 0, .int 0, .int 0, .ref q1, .ref q4, .ref q6, .int 0, .int 0, .int (-1), .int 0, .ref q9, .int 0, .int 0, .int 0, .int 0, .ref q12, .ref q15, .ref q18, .ref q21, .ref q24, .ref q27, .ref q30, .null, .int 0, .int 0, .int 0, .int 0, .int 0, .int 0, .int 0, .int 0, .int 0, .null, .int 0, .int 0, .int 0, .int 0, .int 0, .int 0, .int 0, .null, .int 0, .null, .null, .null, .null, .null, .null, .null, .int 0]) rfl gw_1184 dX7_init_109 (fun f H locs w hT hE hf_x hk => ?_)
  clear hk
  refine lv_aload_n hx hb dX7_init_112 rfl (lv_at hl 0 rfl) ?_
  refine lv_bipush (v := 64) hx hb dX7_init_113 (by decide) ?_
  refine t_newI C w hT hE (by decide) (at_ := .int) (ty := .int) (ti := 0) rfl rfl (Or.inl rfl) gw_85 (N := 64) (by decide) (by decide) (by decide) (by decide) (by decide) dX7_init_115 (fun q32 Ψ33 L33 f H w hT hE hsp hm_q32 ht_q32 hf_q32 hz_q32 hnq hbk => ?_)
  have hn_x_q32 := hnq x hm_x
  have hf_x := ((hsp x hm_x).2.2 ht_x).trans hf_x
  have ht_x := (hsp x hm_x).2.1.trans ht_x
  have hm_x := (hsp x hm_x).1
  have ht_q1 := (hsp q1 hm_q1).2.1.trans ht_q1
  have hm_q1 := (hsp q1 hm_q1).1
  have ht_q4 := (hsp q4 hm_q4).2.1.trans ht_q4
  have hm_q4 := (hsp q4 hm_q4).1
  have ht_q6 := (hsp q6 hm_q6).2.1.trans ht_q6
  have hm_q6 := (hsp q6 hm_q6).1
  have ht_q9 := (hsp q9 hm_q9).2.1.trans ht_q9
  have hm_q9 := (hsp q9 hm_q9).1
  have ht_q12 := (hsp q12 hm_q12).2.1.trans ht_q12
  have hm_q12 := (hsp q12 hm_q12).1
  have ht_q15 := (hsp q15 hm_q15).2.1.trans ht_q15
  have hm_q15 := (hsp q15 hm_q15).1
  have ht_q18 := (hsp q18 hm_q18).2.1.trans ht_q18
  have hm_q18 := (hsp q18 hm_q18).1
  have ht_q21 := (hsp q21 hm_q21).2.1.trans ht_q21
  have hm_q21 := (hsp q21 hm_q21).1
  have ht_q24 := (hsp q24 hm_q24).2.1.trans ht_q24
  have hm_q24 := (hsp q24 hm_q24).1
  have ht_q27 := (hsp q27 hm_q27).2.1.trans ht_q27
  have hm_q27 := (hsp q27 hm_q27).1
  have ht_q30 := (hsp q30 hm_q30).2.1.trans ht_q30
  have hm_q30 := (hsp q30 hm_q30).1
  clear hsp hbk hnq
  obtain ⟨Ψ34, hT, hE, hs1, hs2, ht_q32x⟩ := t_tag (t := 35) hT hE ht_q32 hz_q32 (by decide) (t_tya (v := 0) (by decide) hf_q32 rfl rfl (fun i _ => rfl) (fun i => (gof_is rfl)))
  have ht_x := (hs2 x hn_x_q32).trans ht_x
  have ht_q1 := (hs1 q1 (by rw [ht_q1]; decide)).trans ht_q1
  have ht_q4 := (hs1 q4 (by rw [ht_q4]; decide)).trans ht_q4
  have ht_q6 := (hs1 q6 (by rw [ht_q6]; decide)).trans ht_q6
  have ht_q9 := (hs1 q9 (by rw [ht_q9]; decide)).trans ht_q9
  have ht_q12 := (hs1 q12 (by rw [ht_q12]; decide)).trans ht_q12
  have ht_q15 := (hs1 q15 (by rw [ht_q15]; decide)).trans ht_q15
  have ht_q18 := (hs1 q18 (by rw [ht_q18]; decide)).trans ht_q18
  have ht_q21 := (hs1 q21 (by rw [ht_q21]; decide)).trans ht_q21
  have ht_q24 := (hs1 q24 (by rw [ht_q24]; decide)).trans ht_q24
  have ht_q27 := (hs1 q27 (by rw [ht_q27]; decide)).trans ht_q27
  have ht_q30 := (hs1 q30 (by rw [ht_q30]; decide)).trans ht_q30
  have ht_q32 := ht_q32x
  clear hs1 hs2 ht_q32x
  refine t_putRF C hnm w hT hE hm_x ht_x hf_x hz_x rfl cin_7 tyX7 tyX7_ok nmX7 29 (by decide) (Nat.le_of_ble_eq_true rfl) rfl rfl rfl rfl (fs2 := [.int 0, .int 0, .int 0, .int (-1), .int 0, .int 0, .int 0, .int 0, .int 0, .int 0, .ref q1, .ref q4, .ref q6, .int 0, .int 0, .int (-1), .int 0, .ref q9, .int 0, .int 0, .int 0, .int 0, .ref q12, .ref q15, .ref q18, .ref q21, .ref q24, .ref q27, .ref q30, .ref q32, .int 0, .int 0, .int 0, .int 0, .int 0, .int 0, .int 0, .int 0, .int 0, .null, .int 0, .int 0, .int 0, .int 0, .int 0, .int 0, .int 0, .null, .int 0, .null, .null, .null, .null, .null, .null, .null, .int 0]) rfl gw_1185 dX7_init_117 (fun f H locs w hT hE hf_x hk => ?_)
  clear hk
  refine lv_aload_n hx hb dX7_init_120 rfl (lv_at hl 0 rfl) ?_
  refine lv_bipush (v := 63) hx hb dX7_init_121 (by decide) ?_
  refine t_putR C w hT hE hm_x ht_x hf_x hz_x rfl cin_7 tyX7 tyX7_ok nmX7 30 (by decide) (Nat.le_of_ble_eq_true rfl) rfl rfl rfl (fs2 := [.int 0, .int 0, .int 0, .int (-1), .int 0, .int 0, .int 0, .int 0, .int 0, .int 0, .ref q1, .ref q4, .ref q6, .int 0, .int 0, .int (-1), .int 0, .ref q9, .int 0, .int 0, .int 0, .int 0, .ref q12, .ref q15, .ref q18, .ref q21, .ref q24, .ref q27, .ref q30, .ref q32, .int 63, .int 0, .int 0, .int 0, .int 0, .int 0, .int 0, .int 0, .int 0, .null, .int 0, .int 0, .int 0, .int 0, .int 0, .int 0, .int 0, .null, .int 0, .null, .null, .null, .null, .null, .null, .null, .int 0]) rfl gw_1186 dX7_init_123 (fun f H locs w hT hE hf_x hk => ?_)
  clear hk
  refine lv_aload_n hx hb dX7_init_126 rfl (lv_at hl 0 rfl) ?_
  refine lv_bipush (v := 14) hx hb dX7_init_127 (by decide) ?_
  refine t_putR C w hT hE hm_x ht_x hf_x hz_x rfl cin_7 tyX7 tyX7_ok nmX7 31 (by decide) (Nat.le_of_ble_eq_true rfl) rfl rfl rfl (fs2 := [.int 0, .int 0, .int 0, .int (-1), .int 0, .int 0, .int 0, .int 0, .int 0, .int 0, .ref q1, .ref q4, .ref q6, .int 0, .int 0, .int (-1), .int 0, .ref q9, .int 0, .int 0, .int 0, .int 0, .ref q12, .ref q15, .ref q18, .ref q21, .ref q24, .ref q27, .ref q30, .ref q32, .int 63, .int 14, .int 0, .int 0, .int 0, .int 0, .int 0, .int 0, .int 0, .null, .int 0, .int 0, .int 0, .int 0, .int 0, .int 0, .int 0, .null, .int 0, .null, .null, .null, .null, .null, .null, .null, .int 0]) rfl gw_1187 dX7_init_129 (fun f H locs w hT hE hf_x hk => ?_)
  clear hk
  refine lv_aload_n hx hb dX7_init_132 rfl (lv_at hl 0 rfl) ?_
  refine lv_iconst (v := 1) hx hb dX7_init_133 (by decide) ?_
  refine t_putR C w hT hE hm_x ht_x hf_x hz_x rfl cin_7 tyX7 tyX7_ok nmX7 32 (by decide) (Nat.le_of_ble_eq_true rfl) rfl rfl rfl (fs2 := [.int 0, .int 0, .int 0, .int (-1), .int 0, .int 0, .int 0, .int 0, .int 0, .int 0, .ref q1, .ref q4, .ref q6, .int 0, .int 0, .int (-1), .int 0, .ref q9, .int 0, .int 0, .int 0, .int 0, .ref q12, .ref q15, .ref q18, .ref q21, .ref q24, .ref q27, .ref q30, .ref q32, .int 63, .int 14, .int 1, .int 0, .int 0, .int 0, .int 0, .int 0, .int 0, .null, .int 0, .int 0, .int 0, .int 0, .int 0, .int 0, .int 0, .null, .int 0, .null, .null, .null, .null, .null, .null, .null, .int 0]) rfl gw_1188 dX7_init_134 (fun f H locs w hT hE hf_x hk => ?_)
  clear hk
  refine lv_aload_n hx hb dX7_init_137 rfl (lv_at hl 0 rfl) ?_
  refine lv_iconst (v := 1) hx hb dX7_init_138 (by decide) ?_
  refine t_putR C w hT hE hm_x ht_x hf_x hz_x rfl cin_7 tyX7 tyX7_ok nmX7 34 (by decide) (Nat.le_of_ble_eq_true rfl) rfl rfl rfl (fs2 := [.int 0, .int 0, .int 0, .int (-1), .int 0, .int 0, .int 0, .int 0, .int 0, .int 0, .ref q1, .ref q4, .ref q6, .int 0, .int 0, .int (-1), .int 0, .ref q9, .int 0, .int 0, .int 0, .int 0, .ref q12, .ref q15, .ref q18, .ref q21, .ref q24, .ref q27, .ref q30, .ref q32, .int 63, .int 14, .int 1, .int 0, .int 1, .int 0, .int 0, .int 0, .int 0, .null, .int 0, .int 0, .int 0, .int 0, .int 0, .int 0, .int 0, .null, .int 0, .null, .null, .null, .null, .null, .null, .null, .int 0]) rfl gw_1190 dX7_init_139 (fun f H locs w hT hE hf_x hk => ?_)
  clear hk
  refine lv_aload_n hx hb dX7_init_142 rfl (lv_at hl 0 rfl) ?_
  refine lv_iconst (v := 5) hx hb dX7_init_143 (by decide) ?_
  refine t_newI C w hT hE (by decide) (at_ := .int) (ty := .int) (ti := 0) rfl rfl (Or.inl rfl) gw_85 (N := 5) (by decide) (by decide) (by decide) (by decide) (by decide) dX7_init_144 (fun q35 Ψ36 L36 f H w hT hE hsp hm_q35 ht_q35 hf_q35 hz_q35 hnq hbk => ?_)
  have hn_x_q35 := hnq x hm_x
  have hf_x := ((hsp x hm_x).2.2 ht_x).trans hf_x
  have ht_x := (hsp x hm_x).2.1.trans ht_x
  have hm_x := (hsp x hm_x).1
  have ht_q1 := (hsp q1 hm_q1).2.1.trans ht_q1
  have hm_q1 := (hsp q1 hm_q1).1
  have ht_q4 := (hsp q4 hm_q4).2.1.trans ht_q4
  have hm_q4 := (hsp q4 hm_q4).1
  have ht_q6 := (hsp q6 hm_q6).2.1.trans ht_q6
  have hm_q6 := (hsp q6 hm_q6).1
  have ht_q9 := (hsp q9 hm_q9).2.1.trans ht_q9
  have hm_q9 := (hsp q9 hm_q9).1
  have ht_q12 := (hsp q12 hm_q12).2.1.trans ht_q12
  have hm_q12 := (hsp q12 hm_q12).1
  have ht_q15 := (hsp q15 hm_q15).2.1.trans ht_q15
  have hm_q15 := (hsp q15 hm_q15).1
  have ht_q18 := (hsp q18 hm_q18).2.1.trans ht_q18
  have hm_q18 := (hsp q18 hm_q18).1
  have ht_q21 := (hsp q21 hm_q21).2.1.trans ht_q21
  have hm_q21 := (hsp q21 hm_q21).1
  have ht_q24 := (hsp q24 hm_q24).2.1.trans ht_q24
  have hm_q24 := (hsp q24 hm_q24).1
  have ht_q27 := (hsp q27 hm_q27).2.1.trans ht_q27
  have hm_q27 := (hsp q27 hm_q27).1
  have ht_q30 := (hsp q30 hm_q30).2.1.trans ht_q30
  have hm_q30 := (hsp q30 hm_q30).1
  have ht_q32 := (hsp q32 hm_q32).2.1.trans ht_q32
  have hm_q32 := (hsp q32 hm_q32).1
  clear hsp hbk hnq
  obtain ⟨Ψ37, hT, hE, hs1, hs2, ht_q35x⟩ := t_tag (t := 36) hT hE ht_q35 hz_q35 (by decide) (t_tya (v := 0) (by decide) hf_q35 rfl rfl (fun i _ => rfl) (fun i => (gof_no rfl)))
  have ht_x := (hs2 x hn_x_q35).trans ht_x
  have ht_q1 := (hs1 q1 (by rw [ht_q1]; decide)).trans ht_q1
  have ht_q4 := (hs1 q4 (by rw [ht_q4]; decide)).trans ht_q4
  have ht_q6 := (hs1 q6 (by rw [ht_q6]; decide)).trans ht_q6
  have ht_q9 := (hs1 q9 (by rw [ht_q9]; decide)).trans ht_q9
  have ht_q12 := (hs1 q12 (by rw [ht_q12]; decide)).trans ht_q12
  have ht_q15 := (hs1 q15 (by rw [ht_q15]; decide)).trans ht_q15
  have ht_q18 := (hs1 q18 (by rw [ht_q18]; decide)).trans ht_q18
  have ht_q21 := (hs1 q21 (by rw [ht_q21]; decide)).trans ht_q21
  have ht_q24 := (hs1 q24 (by rw [ht_q24]; decide)).trans ht_q24
  have ht_q27 := (hs1 q27 (by rw [ht_q27]; decide)).trans ht_q27
  have ht_q30 := (hs1 q30 (by rw [ht_q30]; decide)).trans ht_q30
  have ht_q32 := (hs1 q32 (by rw [ht_q32]; decide)).trans ht_q32
  have ht_q35 := ht_q35x
  clear hs1 hs2 ht_q35x
  refine t_putRF C hnm w hT hE hm_x ht_x hf_x hz_x rfl cin_7 tyX7 tyX7_ok nmX7 39 (by decide) (Nat.le_of_ble_eq_true rfl) rfl rfl rfl rfl (fs2 := [.int 0, .int 0, .int 0, .int (-1), .int 0, .int 0, .int 0, .int 0, .int 0, .int 0, .ref q1, .ref q4, .ref q6, .int 0, .int 0, .int (-1), .int 0, .ref q9, .int 0, .int 0, .int 0, .int 0, .ref q12, .ref q15, .ref q18, .ref q21, .ref q24, .ref q27, .ref q30, .ref q32, .int 63, .int 14, .int 1, .int 0, .int 1, .int 0, .int 0, .int 0, .int 0, .ref q35, .int 0, .int 0, .int 0, .int 0, .int 0, .int 0, .int 0, .null, .int 0, .null, .null, .null, .null, .null, .null, .null, .int 0]) rfl gw_1195 dX7_init_146 (fun f H locs w hT hE hf_x hk => ?_)
  clear hk
  refine lv_aload_n hx hb dX7_init_149 rfl (lv_at hl 0 rfl) ?_
  refine lv_sipush (v := 200) hx hb dX7_init_150 (by decide) ?_
  refine lv_bipush (v := 14) hx hb dX7_init_153 (by decide) ?_
  refine t_multi C w hT hE (t := 52) (t2 := 37) (N := 200) (M := 14) (by decide) (by decide) (by decide) rfl rfl rfl (by decide) rfl rfl (fun i => (gof_no rfl)) gw_1154 w.2.2.2.2.2.1.2.2.2.1.2.1 (by decide) (by decide) (by decide) (by decide) (by decide) (by decide) (by decide) (by decide) dX7_init_155 (fun q38 Ψ39 L39 f H locs w hT hE hsp hm_q38 ht_q38 hbk => ?_)
  have hf_x := ((hsp x hm_x).2.2 ht_x).trans hf_x
  have ht_x := (hsp x hm_x).2.1.trans ht_x
  have hm_x := (hsp x hm_x).1
  have ht_q1 := (hsp q1 hm_q1).2.1.trans ht_q1
  have hm_q1 := (hsp q1 hm_q1).1
  have ht_q4 := (hsp q4 hm_q4).2.1.trans ht_q4
  have hm_q4 := (hsp q4 hm_q4).1
  have ht_q6 := (hsp q6 hm_q6).2.1.trans ht_q6
  have hm_q6 := (hsp q6 hm_q6).1
  have ht_q9 := (hsp q9 hm_q9).2.1.trans ht_q9
  have hm_q9 := (hsp q9 hm_q9).1
  have ht_q12 := (hsp q12 hm_q12).2.1.trans ht_q12
  have hm_q12 := (hsp q12 hm_q12).1
  have ht_q15 := (hsp q15 hm_q15).2.1.trans ht_q15
  have hm_q15 := (hsp q15 hm_q15).1
  have ht_q18 := (hsp q18 hm_q18).2.1.trans ht_q18
  have hm_q18 := (hsp q18 hm_q18).1
  have ht_q21 := (hsp q21 hm_q21).2.1.trans ht_q21
  have hm_q21 := (hsp q21 hm_q21).1
  have ht_q24 := (hsp q24 hm_q24).2.1.trans ht_q24
  have hm_q24 := (hsp q24 hm_q24).1
  have ht_q27 := (hsp q27 hm_q27).2.1.trans ht_q27
  have hm_q27 := (hsp q27 hm_q27).1
  have ht_q30 := (hsp q30 hm_q30).2.1.trans ht_q30
  have hm_q30 := (hsp q30 hm_q30).1
  have ht_q32 := (hsp q32 hm_q32).2.1.trans ht_q32
  have hm_q32 := (hsp q32 hm_q32).1
  have ht_q35 := (hsp q35 hm_q35).2.1.trans ht_q35
  have hm_q35 := (hsp q35 hm_q35).1
  clear hsp hbk
  refine t_putRF C hnm w hT hE hm_x ht_x hf_x hz_x rfl cin_7 tyX7 tyX7_ok nmX7 47 (by decide) (Nat.le_of_ble_eq_true rfl) rfl rfl rfl rfl (fs2 := [.int 0, .int 0, .int 0, .int (-1), .int 0, .int 0, .int 0, .int 0, .int 0, .int 0, .ref q1, .ref q4, .ref q6, .int 0, .int 0, .int (-1), .int 0, .ref q9, .int 0, .int 0, .int 0, .int 0, .ref q12, .ref q15, .ref q18, .ref q21, .ref q24, .ref q27, .ref q30, .ref q32, .int 63, .int 14, .int 1, .int 0, .int 1, .int 0, .int 0, .int 0, .int 0, .ref q35, .int 0, .int 0, .int 0, .int 0, .int 0, .int 0, .int 0, .ref q38, .int 0, .null, .null, .null, .null, .null, .null, .null, .int 0]) rfl gw_1203 dX7_init_159 (fun f H locs w hT hE hf_x hk => ?_)
  clear hk
  refine lv_aload_n hx hb dX7_init_162 rfl (lv_at hl 0 rfl) ?_
  refine lv_bipush (v := 6) hx hb dX7_init_163 (by decide) ?_
  refine lv_bipush (v := 9) hx hb dX7_init_165 (by decide) ?_
  refine t_multi C w hT hE (t := 53) (t2 := 38) (N := 6) (M := 9) (by decide) (by decide) (by decide) rfl rfl rfl (by decide) rfl rfl (fun i => (gof_no rfl)) gw_1154 w.2.2.2.2.2.1.2.2.2.1.2.1 (by decide) (by decide) (by decide) (by decide) (by decide) (by decide) (by decide) (by decide) dX7_init_167 (fun q40 Ψ41 L41 f H locs w hT hE hsp hm_q40 ht_q40 hbk => ?_)
  have hf_x := ((hsp x hm_x).2.2 ht_x).trans hf_x
  have ht_x := (hsp x hm_x).2.1.trans ht_x
  have hm_x := (hsp x hm_x).1
  have ht_q1 := (hsp q1 hm_q1).2.1.trans ht_q1
  have hm_q1 := (hsp q1 hm_q1).1
  have ht_q4 := (hsp q4 hm_q4).2.1.trans ht_q4
  have hm_q4 := (hsp q4 hm_q4).1
  have ht_q6 := (hsp q6 hm_q6).2.1.trans ht_q6
  have hm_q6 := (hsp q6 hm_q6).1
  have ht_q9 := (hsp q9 hm_q9).2.1.trans ht_q9
  have hm_q9 := (hsp q9 hm_q9).1
  have ht_q12 := (hsp q12 hm_q12).2.1.trans ht_q12
  have hm_q12 := (hsp q12 hm_q12).1
  have ht_q15 := (hsp q15 hm_q15).2.1.trans ht_q15
  have hm_q15 := (hsp q15 hm_q15).1
  have ht_q18 := (hsp q18 hm_q18).2.1.trans ht_q18
  have hm_q18 := (hsp q18 hm_q18).1
  have ht_q21 := (hsp q21 hm_q21).2.1.trans ht_q21
  have hm_q21 := (hsp q21 hm_q21).1
  have ht_q24 := (hsp q24 hm_q24).2.1.trans ht_q24
  have hm_q24 := (hsp q24 hm_q24).1
  have ht_q27 := (hsp q27 hm_q27).2.1.trans ht_q27
  have hm_q27 := (hsp q27 hm_q27).1
  have ht_q30 := (hsp q30 hm_q30).2.1.trans ht_q30
  have hm_q30 := (hsp q30 hm_q30).1
  have ht_q32 := (hsp q32 hm_q32).2.1.trans ht_q32
  have hm_q32 := (hsp q32 hm_q32).1
  have ht_q35 := (hsp q35 hm_q35).2.1.trans ht_q35
  have hm_q35 := (hsp q35 hm_q35).1
  have ht_q38 := (hsp q38 hm_q38).2.1.trans ht_q38
  have hm_q38 := (hsp q38 hm_q38).1
  clear hsp hbk
  refine t_putRF C hnm w hT hE hm_x ht_x hf_x hz_x rfl cin_7 tyX7 tyX7_ok nmX7 49 (by decide) (Nat.le_of_ble_eq_true rfl) rfl rfl rfl rfl (fs2 := [.int 0, .int 0, .int 0, .int (-1), .int 0, .int 0, .int 0, .int 0, .int 0, .int 0, .ref q1, .ref q4, .ref q6, .int 0, .int 0, .int (-1), .int 0, .ref q9, .int 0, .int 0, .int 0, .int 0, .ref q12, .ref q15, .ref q18, .ref q21, .ref q24, .ref q27, .ref q30, .ref q32, .int 63, .int 14, .int 1, .int 0, .int 1, .int 0, .int 0, .int 0, .int 0, .ref q35, .int 0, .int 0, .int 0, .int 0, .int 0, .int 0, .int 0, .ref q38, .int 0, .ref q40, .null, .null, .null, .null, .null, .null, .int 0]) rfl gw_1205 dX7_init_171 (fun f H locs w hT hE hf_x hk => ?_)
  clear hk
  refine lv_aload_n hx hb dX7_init_174 rfl (lv_at hl 0 rfl) ?_
  refine lv_sipush (v := 256) hx hb dX7_init_175 (by decide) ?_
  refine lv_bipush (v := 24) hx hb dX7_init_178 (by decide) ?_
  refine t_multi C w hT hE (t := 54) (t2 := 33) (N := 256) (M := 24) (by decide) (by decide) (by decide) rfl rfl rfl (by decide) rfl rfl (fun i => (gof_no rfl)) gw_1154 w.2.2.2.2.2.1.2.2.2.1.2.1 (by decide) (by decide) (by decide) (by decide) (by decide) (by decide) (by decide) (by decide) dX7_init_180 (fun q42 Ψ43 L43 f H locs w hT hE hsp hm_q42 ht_q42 hbk => ?_)
  have hf_x := ((hsp x hm_x).2.2 ht_x).trans hf_x
  have ht_x := (hsp x hm_x).2.1.trans ht_x
  have hm_x := (hsp x hm_x).1
  have ht_q1 := (hsp q1 hm_q1).2.1.trans ht_q1
  have hm_q1 := (hsp q1 hm_q1).1
  have ht_q4 := (hsp q4 hm_q4).2.1.trans ht_q4
  have hm_q4 := (hsp q4 hm_q4).1
  have ht_q6 := (hsp q6 hm_q6).2.1.trans ht_q6
  have hm_q6 := (hsp q6 hm_q6).1
  have ht_q9 := (hsp q9 hm_q9).2.1.trans ht_q9
  have hm_q9 := (hsp q9 hm_q9).1
  have ht_q12 := (hsp q12 hm_q12).2.1.trans ht_q12
  have hm_q12 := (hsp q12 hm_q12).1
  have ht_q15 := (hsp q15 hm_q15).2.1.trans ht_q15
  have hm_q15 := (hsp q15 hm_q15).1
  have ht_q18 := (hsp q18 hm_q18).2.1.trans ht_q18
  have hm_q18 := (hsp q18 hm_q18).1
  have ht_q21 := (hsp q21 hm_q21).2.1.trans ht_q21
  have hm_q21 := (hsp q21 hm_q21).1
  have ht_q24 := (hsp q24 hm_q24).2.1.trans ht_q24
  have hm_q24 := (hsp q24 hm_q24).1
  have ht_q27 := (hsp q27 hm_q27).2.1.trans ht_q27
  have hm_q27 := (hsp q27 hm_q27).1
  have ht_q30 := (hsp q30 hm_q30).2.1.trans ht_q30
  have hm_q30 := (hsp q30 hm_q30).1
  have ht_q32 := (hsp q32 hm_q32).2.1.trans ht_q32
  have hm_q32 := (hsp q32 hm_q32).1
  have ht_q35 := (hsp q35 hm_q35).2.1.trans ht_q35
  have hm_q35 := (hsp q35 hm_q35).1
  have ht_q38 := (hsp q38 hm_q38).2.1.trans ht_q38
  have hm_q38 := (hsp q38 hm_q38).1
  have ht_q40 := (hsp q40 hm_q40).2.1.trans ht_q40
  have hm_q40 := (hsp q40 hm_q40).1
  clear hsp hbk
  refine t_putRF C hnm w hT hE hm_x ht_x hf_x hz_x rfl cin_7 tyX7 tyX7_ok nmX7 50 (by decide) (Nat.le_of_ble_eq_true rfl) rfl rfl rfl rfl (fs2 := [.int 0, .int 0, .int 0, .int (-1), .int 0, .int 0, .int 0, .int 0, .int 0, .int 0, .ref q1, .ref q4, .ref q6, .int 0, .int 0, .int (-1), .int 0, .ref q9, .int 0, .int 0, .int 0, .int 0, .ref q12, .ref q15, .ref q18, .ref q21, .ref q24, .ref q27, .ref q30, .ref q32, .int 63, .int 14, .int 1, .int 0, .int 1, .int 0, .int 0, .int 0, .int 0, .ref q35, .int 0, .int 0, .int 0, .int 0, .int 0, .int 0, .int 0, .ref q38, .int 0, .ref q40, .ref q42, .null, .null, .null, .null, .null, .int 0]) rfl gw_1206 dX7_init_184 (fun f H locs w hT hE hf_x hk => ?_)
  clear hk
  refine lv_aload_n hx hb dX7_init_187 rfl (lv_at hl 0 rfl) ?_
  refine lv_iconst (v := 4) hx hb dX7_init_188 (by decide) ?_
  refine lv_bipush (v := 64) hx hb dX7_init_189 (by decide) ?_
  refine t_multi C w hT hE (t := 55) (t2 := 35) (N := 4) (M := 64) (by decide) (by decide) (by decide) rfl rfl rfl (by decide) rfl rfl (fun i => (gof_is rfl)) gw_1154 w.2.2.2.2.2.1.2.2.2.1.2.1 (by decide) (by decide) (by decide) (by decide) (by decide) (by decide) (by decide) (by decide) dX7_init_191 (fun q44 Ψ45 L45 f H locs w hT hE hsp hm_q44 ht_q44 hbk => ?_)
  have hf_x := ((hsp x hm_x).2.2 ht_x).trans hf_x
  have ht_x := (hsp x hm_x).2.1.trans ht_x
  have hm_x := (hsp x hm_x).1
  have ht_q1 := (hsp q1 hm_q1).2.1.trans ht_q1
  have hm_q1 := (hsp q1 hm_q1).1
  have ht_q4 := (hsp q4 hm_q4).2.1.trans ht_q4
  have hm_q4 := (hsp q4 hm_q4).1
  have ht_q6 := (hsp q6 hm_q6).2.1.trans ht_q6
  have hm_q6 := (hsp q6 hm_q6).1
  have ht_q9 := (hsp q9 hm_q9).2.1.trans ht_q9
  have hm_q9 := (hsp q9 hm_q9).1
  have ht_q12 := (hsp q12 hm_q12).2.1.trans ht_q12
  have hm_q12 := (hsp q12 hm_q12).1
  have ht_q15 := (hsp q15 hm_q15).2.1.trans ht_q15
  have hm_q15 := (hsp q15 hm_q15).1
  have ht_q18 := (hsp q18 hm_q18).2.1.trans ht_q18
  have hm_q18 := (hsp q18 hm_q18).1
  have ht_q21 := (hsp q21 hm_q21).2.1.trans ht_q21
  have hm_q21 := (hsp q21 hm_q21).1
  have ht_q24 := (hsp q24 hm_q24).2.1.trans ht_q24
  have hm_q24 := (hsp q24 hm_q24).1
  have ht_q27 := (hsp q27 hm_q27).2.1.trans ht_q27
  have hm_q27 := (hsp q27 hm_q27).1
  have ht_q30 := (hsp q30 hm_q30).2.1.trans ht_q30
  have hm_q30 := (hsp q30 hm_q30).1
  have ht_q32 := (hsp q32 hm_q32).2.1.trans ht_q32
  have hm_q32 := (hsp q32 hm_q32).1
  have ht_q35 := (hsp q35 hm_q35).2.1.trans ht_q35
  have hm_q35 := (hsp q35 hm_q35).1
  have ht_q38 := (hsp q38 hm_q38).2.1.trans ht_q38
  have hm_q38 := (hsp q38 hm_q38).1
  have ht_q40 := (hsp q40 hm_q40).2.1.trans ht_q40
  have hm_q40 := (hsp q40 hm_q40).1
  have ht_q42 := (hsp q42 hm_q42).2.1.trans ht_q42
  have hm_q42 := (hsp q42 hm_q42).1
  clear hsp hbk
  refine t_putRF C hnm w hT hE hm_x ht_x hf_x hz_x rfl cin_7 tyX7 tyX7_ok nmX7 51 (by decide) (Nat.le_of_ble_eq_true rfl) rfl rfl rfl rfl (fs2 := [.int 0, .int 0, .int 0, .int (-1), .int 0, .int 0, .int 0, .int 0, .int 0, .int 0, .ref q1, .ref q4, .ref q6, .int 0, .int 0, .int (-1), .int 0, .ref q9, .int 0, .int 0, .int 0, .int 0, .ref q12, .ref q15, .ref q18, .ref q21, .ref q24, .ref q27, .ref q30, .ref q32, .int 63, .int 14, .int 1, .int 0, .int 1, .int 0, .int 0, .int 0, .int 0, .ref q35, .int 0, .int 0, .int 0, .int 0, .int 0, .int 0, .int 0, .ref q38, .int 0, .ref q40, .ref q42, .ref q44, .null, .null, .null, .null, .int 0]) rfl gw_1207 dX7_init_195 (fun f H locs w hT hE hf_x hk => ?_)
  clear hk
  refine lv_aload_n hx hb dX7_init_198 rfl (lv_at hl 0 rfl) ?_
  refine lv_iconst (v := 4) hx hb dX7_init_199 (by decide) ?_
  refine lv_bipush (v := 24) hx hb dX7_init_200 (by decide) ?_
  refine t_multi C w hT hE (t := 56) (t2 := 33) (N := 4) (M := 24) (by decide) (by decide) (by decide) rfl rfl rfl (by decide) rfl rfl (fun i => (gof_no rfl)) gw_1154 w.2.2.2.2.2.1.2.2.2.1.2.1 (by decide) (by decide) (by decide) (by decide) (by decide) (by decide) (by decide) (by decide) dX7_init_202 (fun q46 Ψ47 L47 f H locs w hT hE hsp hm_q46 ht_q46 hbk => ?_)
  have hf_x := ((hsp x hm_x).2.2 ht_x).trans hf_x
  have ht_x := (hsp x hm_x).2.1.trans ht_x
  have hm_x := (hsp x hm_x).1
  have ht_q1 := (hsp q1 hm_q1).2.1.trans ht_q1
  have hm_q1 := (hsp q1 hm_q1).1
  have ht_q4 := (hsp q4 hm_q4).2.1.trans ht_q4
  have hm_q4 := (hsp q4 hm_q4).1
  have ht_q6 := (hsp q6 hm_q6).2.1.trans ht_q6
  have hm_q6 := (hsp q6 hm_q6).1
  have ht_q9 := (hsp q9 hm_q9).2.1.trans ht_q9
  have hm_q9 := (hsp q9 hm_q9).1
  have ht_q12 := (hsp q12 hm_q12).2.1.trans ht_q12
  have hm_q12 := (hsp q12 hm_q12).1
  have ht_q15 := (hsp q15 hm_q15).2.1.trans ht_q15
  have hm_q15 := (hsp q15 hm_q15).1
  have ht_q18 := (hsp q18 hm_q18).2.1.trans ht_q18
  have hm_q18 := (hsp q18 hm_q18).1
  have ht_q21 := (hsp q21 hm_q21).2.1.trans ht_q21
  have hm_q21 := (hsp q21 hm_q21).1
  have ht_q24 := (hsp q24 hm_q24).2.1.trans ht_q24
  have hm_q24 := (hsp q24 hm_q24).1
  have ht_q27 := (hsp q27 hm_q27).2.1.trans ht_q27
  have hm_q27 := (hsp q27 hm_q27).1
  have ht_q30 := (hsp q30 hm_q30).2.1.trans ht_q30
  have hm_q30 := (hsp q30 hm_q30).1
  have ht_q32 := (hsp q32 hm_q32).2.1.trans ht_q32
  have hm_q32 := (hsp q32 hm_q32).1
  have ht_q35 := (hsp q35 hm_q35).2.1.trans ht_q35
  have hm_q35 := (hsp q35 hm_q35).1
  have ht_q38 := (hsp q38 hm_q38).2.1.trans ht_q38
  have hm_q38 := (hsp q38 hm_q38).1
  have ht_q40 := (hsp q40 hm_q40).2.1.trans ht_q40
  have hm_q40 := (hsp q40 hm_q40).1
  have ht_q42 := (hsp q42 hm_q42).2.1.trans ht_q42
  have hm_q42 := (hsp q42 hm_q42).1
  have ht_q44 := (hsp q44 hm_q44).2.1.trans ht_q44
  have hm_q44 := (hsp q44 hm_q44).1
  clear hsp hbk
  refine t_putRF C hnm w hT hE hm_x ht_x hf_x hz_x rfl cin_7 tyX7 tyX7_ok nmX7 52 (by decide) (Nat.le_of_ble_eq_true rfl) rfl rfl rfl rfl (fs2 := [.int 0, .int 0, .int 0, .int (-1), .int 0, .int 0, .int 0, .int 0, .int 0, .int 0, .ref q1, .ref q4, .ref q6, .int 0, .int 0, .int (-1), .int 0, .ref q9, .int 0, .int 0, .int 0, .int 0, .ref q12, .ref q15, .ref q18, .ref q21, .ref q24, .ref q27, .ref q30, .ref q32, .int 63, .int 14, .int 1, .int 0, .int 1, .int 0, .int 0, .int 0, .int 0, .ref q35, .int 0, .int 0, .int 0, .int 0, .int 0, .int 0, .int 0, .ref q38, .int 0, .ref q40, .ref q42, .ref q44, .ref q46, .null, .null, .null, .int 0]) rfl gw_1208 dX7_init_206 (fun f H locs w hT hE hf_x hk => ?_)
  clear hk
  refine lv_aload_n hx hb dX7_init_209 rfl (lv_at hl 0 rfl) ?_
  refine lv_iconst (v := 4) hx hb dX7_init_210 (by decide) ?_
  refine lv_bipush (v := 11) hx hb dX7_init_211 (by decide) ?_
  refine t_multi C w hT hE (t := 57) (t2 := 39) (N := 4) (M := 11) (by decide) (by decide) (by decide) rfl rfl rfl (by decide) rfl rfl (fun i => (gof_no rfl)) gw_1154 w.2.2.2.2.2.1.2.2.2.1.2.1 (by decide) (by decide) (by decide) (by decide) (by decide) (by decide) (by decide) (by decide) dX7_init_213 (fun q48 Ψ49 L49 f H locs w hT hE hsp hm_q48 ht_q48 hbk => ?_)
  have hf_x := ((hsp x hm_x).2.2 ht_x).trans hf_x
  have ht_x := (hsp x hm_x).2.1.trans ht_x
  have hm_x := (hsp x hm_x).1
  have ht_q1 := (hsp q1 hm_q1).2.1.trans ht_q1
  have hm_q1 := (hsp q1 hm_q1).1
  have ht_q4 := (hsp q4 hm_q4).2.1.trans ht_q4
  have hm_q4 := (hsp q4 hm_q4).1
  have ht_q6 := (hsp q6 hm_q6).2.1.trans ht_q6
  have hm_q6 := (hsp q6 hm_q6).1
  have ht_q9 := (hsp q9 hm_q9).2.1.trans ht_q9
  have hm_q9 := (hsp q9 hm_q9).1
  have ht_q12 := (hsp q12 hm_q12).2.1.trans ht_q12
  have hm_q12 := (hsp q12 hm_q12).1
  have ht_q15 := (hsp q15 hm_q15).2.1.trans ht_q15
  have hm_q15 := (hsp q15 hm_q15).1
  have ht_q18 := (hsp q18 hm_q18).2.1.trans ht_q18
  have hm_q18 := (hsp q18 hm_q18).1
  have ht_q21 := (hsp q21 hm_q21).2.1.trans ht_q21
  have hm_q21 := (hsp q21 hm_q21).1
  have ht_q24 := (hsp q24 hm_q24).2.1.trans ht_q24
  have hm_q24 := (hsp q24 hm_q24).1
  have ht_q27 := (hsp q27 hm_q27).2.1.trans ht_q27
  have hm_q27 := (hsp q27 hm_q27).1
  have ht_q30 := (hsp q30 hm_q30).2.1.trans ht_q30
  have hm_q30 := (hsp q30 hm_q30).1
  have ht_q32 := (hsp q32 hm_q32).2.1.trans ht_q32
  have hm_q32 := (hsp q32 hm_q32).1
  have ht_q35 := (hsp q35 hm_q35).2.1.trans ht_q35
  have hm_q35 := (hsp q35 hm_q35).1
  have ht_q38 := (hsp q38 hm_q38).2.1.trans ht_q38
  have hm_q38 := (hsp q38 hm_q38).1
  have ht_q40 := (hsp q40 hm_q40).2.1.trans ht_q40
  have hm_q40 := (hsp q40 hm_q40).1
  have ht_q42 := (hsp q42 hm_q42).2.1.trans ht_q42
  have hm_q42 := (hsp q42 hm_q42).1
  have ht_q44 := (hsp q44 hm_q44).2.1.trans ht_q44
  have hm_q44 := (hsp q44 hm_q44).1
  have ht_q46 := (hsp q46 hm_q46).2.1.trans ht_q46
  have hm_q46 := (hsp q46 hm_q46).1
  clear hsp hbk
  refine t_putRF C hnm w hT hE hm_x ht_x hf_x hz_x rfl cin_7 tyX7 tyX7_ok nmX7 53 (by decide) (Nat.le_of_ble_eq_true rfl) rfl rfl rfl rfl (fs2 := [.int 0, .int 0, .int 0, .int (-1), .int 0, .int 0, .int 0, .int 0, .int 0, .int 0, .ref q1, .ref q4, .ref q6, .int 0, .int 0, .int (-1), .int 0, .ref q9, .int 0, .int 0, .int 0, .int 0, .ref q12, .ref q15, .ref q18, .ref q21, .ref q24, .ref q27, .ref q30, .ref q32, .int 63, .int 14, .int 1, .int 0, .int 1, .int 0, .int 0, .int 0, .int 0, .ref q35, .int 0, .int 0, .int 0, .int 0, .int 0, .int 0, .int 0, .ref q38, .int 0, .ref q40, .ref q42, .ref q44, .ref q46, .ref q48, .null, .null, .int 0]) rfl gw_1209 dX7_init_217 (fun f H locs w hT hE hf_x hk => ?_)
  clear hk
  refine lv_aload_n hx hb dX7_init_220 rfl (lv_at hl 0 rfl) ?_
  refine lv_bipush (v := 15) hx hb dX7_init_221 (by decide) ?_
  refine lv_bipush (v := 24) hx hb dX7_init_223 (by decide) ?_
  refine t_multi C w hT hE (t := 58) (t2 := 33) (N := 15) (M := 24) (by decide) (by decide) (by decide) rfl rfl rfl (by decide) rfl rfl (fun i => (gof_no rfl)) gw_1154 w.2.2.2.2.2.1.2.2.2.1.2.1 (by decide) (by decide) (by decide) (by decide) (by decide) (by decide) (by decide) (by decide) dX7_init_225 (fun q50 Ψ51 L51 f H locs w hT hE hsp hm_q50 ht_q50 hbk => ?_)
  have hf_x := ((hsp x hm_x).2.2 ht_x).trans hf_x
  have ht_x := (hsp x hm_x).2.1.trans ht_x
  have hm_x := (hsp x hm_x).1
  have ht_q1 := (hsp q1 hm_q1).2.1.trans ht_q1
  have hm_q1 := (hsp q1 hm_q1).1
  have ht_q4 := (hsp q4 hm_q4).2.1.trans ht_q4
  have hm_q4 := (hsp q4 hm_q4).1
  have ht_q6 := (hsp q6 hm_q6).2.1.trans ht_q6
  have hm_q6 := (hsp q6 hm_q6).1
  have ht_q9 := (hsp q9 hm_q9).2.1.trans ht_q9
  have hm_q9 := (hsp q9 hm_q9).1
  have ht_q12 := (hsp q12 hm_q12).2.1.trans ht_q12
  have hm_q12 := (hsp q12 hm_q12).1
  have ht_q15 := (hsp q15 hm_q15).2.1.trans ht_q15
  have hm_q15 := (hsp q15 hm_q15).1
  have ht_q18 := (hsp q18 hm_q18).2.1.trans ht_q18
  have hm_q18 := (hsp q18 hm_q18).1
  have ht_q21 := (hsp q21 hm_q21).2.1.trans ht_q21
  have hm_q21 := (hsp q21 hm_q21).1
  have ht_q24 := (hsp q24 hm_q24).2.1.trans ht_q24
  have hm_q24 := (hsp q24 hm_q24).1
  have ht_q27 := (hsp q27 hm_q27).2.1.trans ht_q27
  have hm_q27 := (hsp q27 hm_q27).1
  have ht_q30 := (hsp q30 hm_q30).2.1.trans ht_q30
  have hm_q30 := (hsp q30 hm_q30).1
  have ht_q32 := (hsp q32 hm_q32).2.1.trans ht_q32
  have hm_q32 := (hsp q32 hm_q32).1
  have ht_q35 := (hsp q35 hm_q35).2.1.trans ht_q35
  have hm_q35 := (hsp q35 hm_q35).1
  have ht_q38 := (hsp q38 hm_q38).2.1.trans ht_q38
  have hm_q38 := (hsp q38 hm_q38).1
  have ht_q40 := (hsp q40 hm_q40).2.1.trans ht_q40
  have hm_q40 := (hsp q40 hm_q40).1
  have ht_q42 := (hsp q42 hm_q42).2.1.trans ht_q42
  have hm_q42 := (hsp q42 hm_q42).1
  have ht_q44 := (hsp q44 hm_q44).2.1.trans ht_q44
  have hm_q44 := (hsp q44 hm_q44).1
  have ht_q46 := (hsp q46 hm_q46).2.1.trans ht_q46
  have hm_q46 := (hsp q46 hm_q46).1
  have ht_q48 := (hsp q48 hm_q48).2.1.trans ht_q48
  have hm_q48 := (hsp q48 hm_q48).1
  clear hsp hbk
  refine t_putRF C hnm w hT hE hm_x ht_x hf_x hz_x rfl cin_7 tyX7 tyX7_ok nmX7 54 (by decide) (Nat.le_of_ble_eq_true rfl) rfl rfl rfl rfl (fs2 := [.int 0, .int 0, .int 0, .int (-1), .int 0, .int 0, .int 0, .int 0, .int 0, .int 0, .ref q1, .ref q4, .ref q6, .int 0, .int 0, .int (-1), .int 0, .ref q9, .int 0, .int 0, .int 0, .int 0, .ref q12, .ref q15, .ref q18, .ref q21, .ref q24, .ref q27, .ref q30, .ref q32, .int 63, .int 14, .int 1, .int 0, .int 1, .int 0, .int 0, .int 0, .int 0, .ref q35, .int 0, .int 0, .int 0, .int 0, .int 0, .int 0, .int 0, .ref q38, .int 0, .ref q40, .ref q42, .ref q44, .ref q46, .ref q48, .ref q50, .null, .int 0]) rfl gw_1210 dX7_init_229 (fun f H locs w hT hE hf_x hk => ?_)
  clear hk
  refine lv_aload_n hx hb dX7_init_232 rfl (lv_at hl 0 rfl) ?_
  refine lv_sipush (v := 600) hx hb dX7_init_233 (by decide) ?_
  refine lv_bipush (v := 14) hx hb dX7_init_236 (by decide) ?_
  refine t_multi C w hT hE (t := 59) (t2 := 37) (N := 600) (M := 14) (by decide) (by decide) (by decide) rfl rfl rfl (by decide) rfl rfl (fun i => (gof_no rfl)) gw_1154 w.2.2.2.2.2.1.2.2.2.1.2.1 (by decide) (by decide) (by decide) (by decide) (by decide) (by decide) (by decide) (by decide) dX7_init_238 (fun q52 Ψ53 L53 f H locs w hT hE hsp hm_q52 ht_q52 hbk => ?_)
  have hf_x := ((hsp x hm_x).2.2 ht_x).trans hf_x
  have ht_x := (hsp x hm_x).2.1.trans ht_x
  have hm_x := (hsp x hm_x).1
  have ht_q1 := (hsp q1 hm_q1).2.1.trans ht_q1
  have hm_q1 := (hsp q1 hm_q1).1
  have ht_q4 := (hsp q4 hm_q4).2.1.trans ht_q4
  have hm_q4 := (hsp q4 hm_q4).1
  have ht_q6 := (hsp q6 hm_q6).2.1.trans ht_q6
  have hm_q6 := (hsp q6 hm_q6).1
  have ht_q9 := (hsp q9 hm_q9).2.1.trans ht_q9
  have hm_q9 := (hsp q9 hm_q9).1
  have ht_q12 := (hsp q12 hm_q12).2.1.trans ht_q12
  have hm_q12 := (hsp q12 hm_q12).1
  have ht_q15 := (hsp q15 hm_q15).2.1.trans ht_q15
  have hm_q15 := (hsp q15 hm_q15).1
  have ht_q18 := (hsp q18 hm_q18).2.1.trans ht_q18
  have hm_q18 := (hsp q18 hm_q18).1
  have ht_q21 := (hsp q21 hm_q21).2.1.trans ht_q21
  have hm_q21 := (hsp q21 hm_q21).1
  have ht_q24 := (hsp q24 hm_q24).2.1.trans ht_q24
  have hm_q24 := (hsp q24 hm_q24).1
  have ht_q27 := (hsp q27 hm_q27).2.1.trans ht_q27
  have hm_q27 := (hsp q27 hm_q27).1
  have ht_q30 := (hsp q30 hm_q30).2.1.trans ht_q30
  have hm_q30 := (hsp q30 hm_q30).1
  have ht_q32 := (hsp q32 hm_q32).2.1.trans ht_q32
  have hm_q32 := (hsp q32 hm_q32).1
  have ht_q35 := (hsp q35 hm_q35).2.1.trans ht_q35
  have hm_q35 := (hsp q35 hm_q35).1
  have ht_q38 := (hsp q38 hm_q38).2.1.trans ht_q38
  have hm_q38 := (hsp q38 hm_q38).1
  have ht_q40 := (hsp q40 hm_q40).2.1.trans ht_q40
  have hm_q40 := (hsp q40 hm_q40).1
  have ht_q42 := (hsp q42 hm_q42).2.1.trans ht_q42
  have hm_q42 := (hsp q42 hm_q42).1
  have ht_q44 := (hsp q44 hm_q44).2.1.trans ht_q44
  have hm_q44 := (hsp q44 hm_q44).1
  have ht_q46 := (hsp q46 hm_q46).2.1.trans ht_q46
  have hm_q46 := (hsp q46 hm_q46).1
  have ht_q48 := (hsp q48 hm_q48).2.1.trans ht_q48
  have hm_q48 := (hsp q48 hm_q48).1
  have ht_q50 := (hsp q50 hm_q50).2.1.trans ht_q50
  have hm_q50 := (hsp q50 hm_q50).1
  clear hsp hbk
  refine t_putRF C hnm w hT hE hm_x ht_x hf_x hz_x rfl cin_7 tyX7 tyX7_ok nmX7 55 (by decide) (Nat.le_of_ble_eq_true rfl) rfl rfl rfl rfl (fs2 := [.int 0, .int 0, .int 0, .int (-1), .int 0, .int 0, .int 0, .int 0, .int 0, .int 0, .ref q1, .ref q4, .ref q6, .int 0, .int 0, .int (-1), .int 0, .ref q9, .int 0, .int 0, .int 0, .int 0, .ref q12, .ref q15, .ref q18, .ref q21, .ref q24, .ref q27, .ref q30, .ref q32, .int 63, .int 14, .int 1, .int 0, .int 1, .int 0, .int 0, .int 0, .int 0, .ref q35, .int 0, .int 0, .int 0, .int 0, .int 0, .int 0, .int 0, .ref q38, .int 0, .ref q40, .ref q42, .ref q44, .ref q46, .ref q48, .ref q50, .ref q52, .int 0]) rfl gw_1211 dX7_init_242 (fun f H locs w hT hE hf_x hk => ?_)
  clear hk
  obtain ⟨Ψ54, hT, hE, hs1, hs2, ht_xx⟩ := t_tagX (t := 7) hT hE ht_x hm0_x rfl (t_tyo (by decide) hf_x (ds := [(0, 0), (0, 0), (0, 0), (0, 0), (0, 0), (0, 0), (0, 0), (0, 0), (0, 0), (0, 0), (1, 30), (1, 50), (1, 31), (0, 0), (0, 0), (0, 0), (0, 0), (1, 32), (0, 0), (0, 0), (0, 0), (0, 0), (1, 33), (1, 33), (1, 33), (1, 33), (1, 33), (1, 34), (1, 51), (1, 35), (0, 0), (0, 0), (0, 0), (0, 0), (0, 0), (0, 0), (0, 0), (0, 0), (0, 0), (1, 36), (0, 0), (0, 0), (0, 0), (0, 0), (0, 0), (0, 0), (0, 0), (1, 52), (0, 0), (1, 53), (1, 54), (1, 55), (1, 56), (1, 57), (1, 58), (1, 59), (0, 0)]) rfl (tyL_c (tyv_i (gof_is rfl)) (tyL_c (tyv_i (gof_is rfl)) (tyL_c (tyv_i (gof_is rfl)) (tyL_c (tyv_i (gof_is rfl)) (tyL_c (tyv_i (gof_is rfl)) (tyL_c (tyv_i (gof_is rfl)) (tyL_c (tyv_i (gof_is rfl)) (tyL_c (tyv_i (gof_no rfl)) (tyL_c (tyv_i (gof_no rfl)) (tyL_c (tyv_i (gof_no rfl)) (tyL_c (tyv_r hm_q1 ht_q1) (tyL_c (tyv_r hm_q4 ht_q4) (tyL_c (tyv_r hm_q6 ht_q6) (tyL_c (tyv_i (gof_is rfl)) (tyL_c (tyv_i (gof_is rfl)) (tyL_c (tyv_i (gof_is rfl)) (tyL_c (tyv_i (gof_no rfl)) (tyL_c (tyv_r hm_q9 ht_q9) (tyL_c (tyv_i (gof_no rfl)) (tyL_c (tyv_i (gof_no rfl)) (tyL_c (tyv_i (gof_no rfl)) (tyL_c (tyv_i (gof_is rfl)) (tyL_c (tyv_r hm_q12 ht_q12) (tyL_c (tyv_r hm_q15 ht_q15) (tyL_c (tyv_r hm_q18 ht_q18) (tyL_c (tyv_r hm_q21 ht_q21) (tyL_c (tyv_r hm_q24 ht_q24) (tyL_c (tyv_r hm_q27 ht_q27) (tyL_c (tyv_r hm_q30 ht_q30) (tyL_c (tyv_r hm_q32 ht_q32) (tyL_c (tyv_i (gof_is rfl)) (tyL_c (tyv_i (gof_is rfl)) (tyL_c (tyv_i (gof_is rfl)) (tyL_c (tyv_i (gof_is rfl)) (tyL_c (tyv_i (gof_is rfl)) (tyL_c (tyv_i (gof_is rfl)) (tyL_c (tyv_i (gof_is rfl)) (tyL_c (tyv_i (gof_is rfl)) (tyL_c (tyv_i (gof_is rfl)) (tyL_c (tyv_r hm_q35 ht_q35) (tyL_c (tyv_i (gof_is rfl)) (tyL_c (tyv_i (gof_is rfl)) (tyL_c (tyv_i (gof_no rfl)) (tyL_c (tyv_i (gof_is rfl)) (tyL_c (tyv_i (gof_no rfl)) (tyL_c (tyv_i (gof_no rfl)) (tyL_c (tyv_i (gof_is rfl)) (tyL_c (tyv_r hm_q38 ht_q38) (tyL_c (tyv_i (gof_is rfl)) (tyL_c (tyv_r hm_q40 ht_q40) (tyL_c (tyv_r hm_q42 ht_q42) (tyL_c (tyv_r hm_q44 ht_q44) (tyL_c (tyv_r hm_q46 ht_q46) (tyL_c (tyv_r hm_q48 ht_q48) (tyL_c (tyv_r hm_q50 ht_q50) (tyL_c (tyv_r hm_q52 ht_q52) (tyL_c (tyv_i (gof_is rfl)) trivial))))))))))))))))))))))))))))))))))))))))))))))))))))))))))
  have ht_x := ht_xx
  clear hs1 hs2 ht_xx
  exact t_vret C hr hlk w ⟨_, _, _, rfl, rfl, hT, hE, ht_x⟩ (by decide) (by decide) dX7_init_245
set_option maxRecDepth 100000 in
theorem c_X7_thrown (l : Launch) (D : va_G) (K : Nat → ClassId) (b0 : Nat) (sa : Nat × Nat × Nat) (sz : Nat) (L : List Nat) (f0 : Nat → va_E) (Ψ : Nat → Nat) (th : Int32) (hT : TW K (gof [(700, th)]) Ψ L f0) (m_ : Nat) (hm_m_ : m_ ∈ L) (ht_m_ : Ψ m_ = 7) : Met l yX7_thrown (.code yX7_thrown cX7_thrown 1 (some .int) :: gt) { frames := 0, cells := 0, slots := 0, locals := 0 } (va_Pc [.ref m_] (hPre D K b0 sa sz L f0)) (hQ D K b0 (fun v9 u9 => v9 = some (.int th) ∧ u9 = (gof [(700, th)], Ψ, L, f0))) 0 0 (fun q => b0 ≤ q) := by
  refine t_of (own := RX7) (by decide) rfl ?_ (Nat.le_of_ble_eq_true rfl)
  intro p e s m below meth c ls C w hsz hr hlk hnm hl
  have hx := C.1
  have hb := C.2.1
  have hl : lv_has ls 1 [(0, .ref m_)] := hl
  refine lv_aload_n hx hb dX7_thrown_0 rfl (lv_at hl 0 rfl) ?_
  refine t_geti C w hT hm_m_ ht_m_ (by decide) rfl cin_7 0 (by decide) rfl rfl gw_1156 dX7_thrown_1 (fun x1 hg => ?_)
  obtain rfl : x1 = th := gof_at rfl hg
  exact t_iret C hr hlk w ⟨rfl, rfl⟩ (by decide) (by decide) dX7_thrown_4
