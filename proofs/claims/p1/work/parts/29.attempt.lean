theorem dX0_keep_0 : decode cX0_keep 0 = .ok (.aload_n 0, 1) := by decide +kernel
theorem dX0_keep_1 : decode cX0_keep 1 = .ok (.getfield 55, 3) := by decide +kernel
theorem dX0_keep_4 : decode cX0_keep 4 = .ok (.sipush 200, 3) := by decide +kernel
theorem dX0_keep_7 : decode cX0_keep 7 = .ok (.if_icmp .ge 23, 3) := by decide +kernel
theorem dX0_keep_10 : decode cX0_keep 10 = .ok (.aload_n 0, 1) := by decide +kernel
theorem dX0_keep_11 : decode cX0_keep 11 = .ok (.getfield 51, 3) := by decide +kernel
theorem dX0_keep_14 : decode cX0_keep 14 = .ok (.aload_n 0, 1) := by decide +kernel
theorem dX0_keep_15 : decode cX0_keep 15 = .ok (.getfield 55, 3) := by decide +kernel
theorem dX0_keep_18 : decode cX0_keep 18 = .ok (.aload_n 1, 1) := by decide +kernel
theorem dX0_keep_19 : decode cX0_keep 19 = .ok (.aastore, 1) := by decide +kernel
theorem dX0_keep_20 : decode cX0_keep 20 = .ok (.aload_n 0, 1) := by decide +kernel
theorem dX0_keep_21 : decode cX0_keep 21 = .ok (.dup, 1) := by decide +kernel
theorem dX0_keep_22 : decode cX0_keep 22 = .ok (.getfield 55, 3) := by decide +kernel
theorem dX0_keep_25 : decode cX0_keep 25 = .ok (.iconst 1, 1) := by decide +kernel
theorem dX0_keep_26 : decode cX0_keep 26 = .ok (.iadd, 1) := by decide +kernel
theorem dX0_keep_27 : decode cX0_keep 27 = .ok (.putfield 55, 3) := by decide +kernel
theorem dX0_keep_30 : decode cX0_keep 30 = .ok (.return_, 1) := by decide +kernel
theorem dX6_tryAt_0 : decode cX6_tryAt 0 = .ok (.new 72, 3) := by decide +kernel
theorem dX6_tryAt_3 : decode cX6_tryAt 3 = .ok (.dup, 1) := by decide +kernel
theorem dX6_tryAt_4 : decode cX6_tryAt 4 = .ok (.invokespecial 74, 3) := by decide +kernel
theorem dX6_tryAt_7 : decode cX6_tryAt 7 = .ok (.astore_n 2, 1) := by decide +kernel
theorem dX6_tryAt_8 : decode cX6_tryAt 8 = .ok (.aload_n 2, 1) := by decide +kernel
theorem dX6_tryAt_9 : decode cX6_tryAt 9 = .ok (.aload_n 0, 1) := by decide +kernel
theorem dX6_tryAt_10 : decode cX6_tryAt 10 = .ok (.getfield 10, 3) := by decide +kernel
theorem dX6_tryAt_13 : decode cX6_tryAt 13 = .ok (.invokevirtual 178, 3) := by decide +kernel
theorem dX6_tryAt_16 : decode cX6_tryAt 16 = .ok (.aload_n 2, 1) := by decide +kernel
theorem dX6_tryAt_17 : decode cX6_tryAt 17 = .ok (.aload_n 0, 1) := by decide +kernel
theorem dX6_tryAt_18 : decode cX6_tryAt 18 = .ok (.iconst 0, 1) := by decide +kernel
theorem dX6_tryAt_19 : decode cX6_tryAt 19 = .ok (.invokevirtual 226, 3) := by decide +kernel
theorem dX6_tryAt_22 : decode cX6_tryAt 22 = .ok (.iconst (-1), 1) := by decide +kernel
theorem dX6_tryAt_23 : decode cX6_tryAt 23 = .ok (.if_icmp .ne 7, 3) := by decide +kernel
theorem dX6_tryAt_26 : decode cX6_tryAt 26 = .ok (.iconst 0, 1) := by decide +kernel
theorem dX6_tryAt_27 : decode cX6_tryAt 27 = .ok (.goto 4, 3) := by decide +kernel
theorem dX6_tryAt_30 : decode cX6_tryAt 30 = .ok (.iconst 1, 1) := by decide +kernel
theorem dX6_tryAt_31 : decode cX6_tryAt 31 = .ok (.putfield 291, 3) := by decide +kernel
theorem dX6_tryAt_34 : decode cX6_tryAt 34 = .ok (.aload_n 0, 1) := by decide +kernel
theorem dX6_tryAt_35 : decode cX6_tryAt 35 = .ok (.invokevirtual 182, 3) := by decide +kernel
theorem dX6_tryAt_38 : decode cX6_tryAt 38 = .ok (.astore_n 3, 1) := by decide +kernel
theorem dX6_tryAt_39 : decode cX6_tryAt 39 = .ok (.aload_n 0, 1) := by decide +kernel
theorem dX6_tryAt_40 : decode cX6_tryAt 40 = .ok (.getfield 68, 3) := by decide +kernel
theorem dX6_tryAt_43 : decode cX6_tryAt 43 = .ok (.aload_n 3, 1) := by decide +kernel
theorem dX6_tryAt_44 : decode cX6_tryAt 44 = .ok (.aload_n 2, 1) := by decide +kernel
theorem dX6_tryAt_45 : decode cX6_tryAt 45 = .ok (.iconst 0, 1) := by decide +kernel
theorem dX6_tryAt_46 : decode cX6_tryAt 46 = .ok (.invokevirtual 186, 3) := by decide +kernel
theorem dX6_tryAt_49 : decode cX6_tryAt 49 = .ok (.aload_n 0, 1) := by decide +kernel
theorem dX6_tryAt_50 : decode cX6_tryAt 50 = .ok (.getfield 68, 3) := by decide +kernel
theorem dX6_tryAt_53 : decode cX6_tryAt 53 = .ok (.invokevirtual 196, 3) := by decide +kernel
theorem dX6_tryAt_56 : decode cX6_tryAt 56 = .ok (.istore 4, 2) := by decide +kernel
theorem dX6_tryAt_58 : decode cX6_tryAt 58 = .ok (.aload_n 2, 1) := by decide +kernel
theorem dX6_tryAt_59 : decode cX6_tryAt 59 = .ok (.iload 4, 2) := by decide +kernel
theorem dX6_tryAt_61 : decode cX6_tryAt 61 = .ok (.iconst 1, 1) := by decide +kernel
theorem dX6_tryAt_62 : decode cX6_tryAt 62 = .ok (.if_icmp .ne 7, 3) := by decide +kernel
theorem dX6_tryAt_65 : decode cX6_tryAt 65 = .ok (.iconst 0, 1) := by decide +kernel
theorem dX6_tryAt_66 : decode cX6_tryAt 66 = .ok (.goto 12, 3) := by decide +kernel
theorem dX6_tryAt_69 : decode cX6_tryAt 69 = .ok (.aload_n 0, 1) := by decide +kernel
theorem dX6_tryAt_70 : decode cX6_tryAt 70 = .ok (.getfield 10, 3) := by decide +kernel
theorem dX6_tryAt_73 : decode cX6_tryAt 73 = .ok (.iload 4, 2) := by decide +kernel
theorem dX6_tryAt_75 : decode cX6_tryAt 75 = .ok (.invokevirtual 216, 3) := by decide +kernel
theorem dX6_tryAt_78 : decode cX6_tryAt 78 = .ok (.putfield 332, 3) := by decide +kernel
theorem dX6_tryAt_81 : decode cX6_tryAt 81 = .ok (.aload_n 0, 1) := by decide +kernel
theorem dX6_tryAt_82 : decode cX6_tryAt 82 = .ok (.getfield 68, 3) := by decide +kernel
theorem dX6_tryAt_85 : decode cX6_tryAt 85 = .ok (.aload_n 3, 1) := by decide +kernel
theorem dX6_tryAt_86 : decode cX6_tryAt 86 = .ok (.aload_n 2, 1) := by decide +kernel
theorem dX6_tryAt_87 : decode cX6_tryAt 87 = .ok (.aload_n 2, 1) := by decide +kernel
theorem dX6_tryAt_88 : decode cX6_tryAt 88 = .ok (.getfield 332, 3) := by decide +kernel
theorem dX6_tryAt_91 : decode cX6_tryAt 91 = .ok (.invokevirtual 186, 3) := by decide +kernel
theorem dX6_tryAt_94 : decode cX6_tryAt 94 = .ok (.aload_n 2, 1) := by decide +kernel
theorem dX6_tryAt_95 : decode cX6_tryAt 95 = .ok (.aload_n 0, 1) := by decide +kernel
theorem dX6_tryAt_96 : decode cX6_tryAt 96 = .ok (.getfield 10, 3) := by decide +kernel
theorem dX6_tryAt_99 : decode cX6_tryAt 99 = .ok (.iload_n 1, 1) := by decide +kernel
theorem dX6_tryAt_100 : decode cX6_tryAt 100 = .ok (.invokevirtual 234, 3) := by decide +kernel
theorem dX6_tryAt_103 : decode cX6_tryAt 103 = .ok (.aload_n 2, 1) := by decide +kernel
theorem dX6_tryAt_104 : decode cX6_tryAt 104 = .ok (.aload_n 0, 1) := by decide +kernel
theorem dX6_tryAt_105 : decode cX6_tryAt 105 = .ok (.getfield 68, 3) := by decide +kernel
theorem dX6_tryAt_108 : decode cX6_tryAt 108 = .ok (.invokevirtual 190, 3) := by decide +kernel
theorem dX6_tryAt_111 : decode cX6_tryAt 111 = .ok (.aload_n 0, 1) := by decide +kernel
theorem dX6_tryAt_112 : decode cX6_tryAt 112 = .ok (.getfield 68, 3) := by decide +kernel
theorem dX6_tryAt_115 : decode cX6_tryAt 115 = .ok (.invokevirtual 193, 3) := by decide +kernel
theorem dX6_tryAt_118 : decode cX6_tryAt 118 = .ok (.invokevirtual 335, 3) := by decide +kernel
theorem dX6_tryAt_121 : decode cX6_tryAt 121 = .ok (.aload_n 0, 1) := by decide +kernel
theorem dX6_tryAt_122 : decode cX6_tryAt 122 = .ok (.getfield 10, 3) := by decide +kernel
theorem dX6_tryAt_125 : decode cX6_tryAt 125 = .ok (.aload_n 2, 1) := by decide +kernel
theorem dX6_tryAt_126 : decode cX6_tryAt 126 = .ok (.invokevirtual 338, 3) := by decide +kernel
theorem dX6_tryAt_129 : decode cX6_tryAt 129 = .ok (.aload_n 0, 1) := by decide +kernel
theorem dX6_tryAt_130 : decode cX6_tryAt 130 = .ok (.getfield 10, 3) := by decide +kernel
theorem dX6_tryAt_133 : decode cX6_tryAt 133 = .ok (.aload_n 2, 1) := by decide +kernel
theorem dX6_tryAt_134 : decode cX6_tryAt 134 = .ok (.invokevirtual 342, 3) := by decide +kernel
theorem dX6_tryAt_137 : decode cX6_tryAt 137 = .ok (.aload_n 2, 1) := by decide +kernel
theorem dX6_tryAt_138 : decode cX6_tryAt 138 = .ok (.getfield 345, 3) := by decide +kernel
theorem dX6_tryAt_141 : decode cX6_tryAt 141 = .ok (.ireturn, 1) := by decide +kernel
theorem dX6_attempt_0 : decode cX6_attempt 0 = .ok (.iload_n 1, 1) := by decide +kernel
theorem dX6_attempt_1 : decode cX6_attempt 1 = .ok (.invokestatic 85, 3) := by decide +kernel
theorem dX6_attempt_4 : decode cX6_attempt 4 = .ok (.aload_n 0, 1) := by decide +kernel
theorem dX6_attempt_5 : decode cX6_attempt 5 = .ok (.getfield 10, 3) := by decide +kernel
theorem dX6_attempt_8 : decode cX6_attempt 8 = .ok (.getfield 199, 3) := by decide +kernel
theorem dX6_attempt_11 : decode cX6_attempt 11 = .ok (.sipush 200, 3) := by decide +kernel
theorem dX6_attempt_14 : decode cX6_attempt 14 = .ok (.if_icmp .lt 7, 3) := by decide +kernel
theorem dX6_attempt_17 : decode cX6_attempt 17 = .ok (.iconst (-1), 1) := by decide +kernel
theorem dX6_attempt_18 : decode cX6_attempt 18 = .ok (.goto 8, 3) := by decide +kernel
theorem dX6_attempt_21 : decode cX6_attempt 21 = .ok (.aload_n 0, 1) := by decide +kernel
theorem dX6_attempt_22 : decode cX6_attempt 22 = .ok (.iload_n 1, 1) := by decide +kernel
theorem dX6_attempt_23 : decode cX6_attempt 23 = .ok (.invokevirtual 202, 3) := by decide +kernel
theorem dX6_attempt_26 : decode cX6_attempt 26 = .ok (.ireturn, 1) := by decide +kernel
set_option maxHeartbeats 4000000 in
set_option maxRecDepth 100000 in
theorem c_X0_keep (l : Launch) (D : va_G) (K : Nat → ClassId) (b0 : Nat) (sa : Nat × Nat × Nat) (sz : Nat) (L : List Nat) (f0 : Nat → va_E) (Ψ : Nat → Nat) (hT : TW K (gof gX1) Ψ L f0) (bx : Nat) (hm_bx : bx ∈ L) (ht_bx : Ψ bx = 0) (y : Nat) (hm_y : y ∈ L) (ht_y : Ψ y = 5) : Met l yX0_keep (.code yX0_keep cX0_keep 2 none :: gt) { frames := 0, cells := 0, slots := 0, locals := 0 } (va_Pc [.ref bx, .ref y] (hPre D K b0 sa sz L f0)) (hQ D K b0 (fun v9 u9 => ∃ (Ψ2 : Nat → Nat) (L2 : List Nat) (f2 : Nat → va_E), v9 = none ∧ u9 = ((gof (gdrop 12 gX1)), Ψ2, L2, f2) ∧ TW K (gof (gdrop 12 gX1)) Ψ2 L2 f2 ∧ Ex [9] (fun _ => False) Ψ L f0 Ψ2 L2 f2)) 0 0 (fun q => b0 ≤ q) := by
  refine t_of (own := RX0) (by decide) rfl ?_ (Nat.le_of_ble_eq_true rfl)
  intro p e s m below meth c ls C w hsz hr hlk hnm hl
  have hx := C.1
  have hb := C.2.1
  have hl : lv_has ls 2 [(0, .ref bx), (1, .ref y)] := hl
  have hE : Ex [9] (fun _ => False) Ψ L f0 Ψ L f0 := Ex.rf
  refine lv_aload_n hx hb dX0_keep_0 rfl (lv_at hl 0 rfl) ?_
  refine t_geti C w hT hm_bx ht_bx (by decide) rfl cin_0 12 (by decide) rfl rfl gw_120 dX0_keep_1 (fun x1 hg => ?_)
  obtain rfl : x1 = 0 := gof_at rfl hg
  refine lv_sipush (v := 200) hx hb dX0_keep_4 (by decide) ?_
  refine lv_icmp_ge (tgt := 30) hx hb dX0_keep_7 (by decide) (fun c0 => absurd c0 (by decide)) (fun _ => ?_)
  refine lv_aload_n hx hb dX0_keep_10 rfl (lv_at hl 0 rfl) ?_
  refine t_getr C w hT hm_bx ht_bx (by decide) rfl cin_0 11 (by decide) rfl gw_119 dX0_keep_11 (fun q2 hm_q2 ht_q2 => ?_)
  refine lv_aload_n hx hb dX0_keep_14 rfl (lv_at hl 0 rfl) ?_
  refine t_geti C w hT hm_bx ht_bx (by decide) rfl cin_0 12 (by decide) rfl rfl gw_120 dX0_keep_15 (fun x3 hg => ?_)
  obtain rfl : x3 = 0 := gof_at rfl hg
  refine lv_aload_n hx hb dX0_keep_18 rfl (lv_at hl 1 rfl) ?_
  refine t_aast C w hT hm_q2 ht_q2 (by decide) hm_y ht_y rfl (by decide) rfl rfl (vp_in_iff.mpr ⟨by decide, by decide⟩) dX0_keep_19 (fun f H locs w hT hR1 => ?_)
  have hE := hE.up hR1
  refine lv_aload_n hx hb dX0_keep_20 rfl (lv_at hl 0 rfl) ?_
  refine lv_dup hx hb dX0_keep_21 rfl ?_
  refine t_geti C w hT hm_bx ht_bx (by decide) rfl cin_0 12 (by decide) rfl rfl gw_120 dX0_keep_22 (fun x4 hg => ?_)
  obtain rfl : x4 = 0 := gof_at rfl hg
  refine lv_iconst (v := 1) hx hb dX0_keep_25 (by decide) ?_
  refine lv_iadd hx hb dX0_keep_26 ?_
  refine lv_topi (fun y5 ey5 => ?_)
  obtain rfl : y5 = 1 := ey5.trans (by decide)
  have hT := hT.mono (gof_sub (l2 := (gdrop 12 gX1)) rfl)
  refine t_puti C w hT hm_bx ht_bx (by decide) rfl cin_0 tyX0 tyX0_ok nmX0 12 (by decide) rfl rfl rfl rfl rfl (gof_no rfl) gw_120 dX0_keep_27 (fun f H locs w hT hR1 => ?_)
  have hE := hE.up hR1
  exact t_vret C hr hlk w ⟨_, _, _, rfl, rfl, hT, hE⟩ (by decide) (by decide) dX0_keep_30
set_option maxHeartbeats 4000000 in
set_option maxRecDepth 100000 in
theorem c_X6_tryAt (l : Launch) (D : va_G) (K : Nat → ClassId) (b0 : Nat) (sa : Nat × Nat × Nat) (sz : Nat) (L : List Nat) (f0 : Nat → va_E) (Ψ : Nat → Nat) (hT : TW K (gof gX1) Ψ L f0) (x : Nat) (hm_x : x ∈ L) (ht_x : Ψ x = 6) (ce : Int32) (hl_ce : 0 ≤ ce.toInt) (hh_ce : ce.toInt ≤ 63) : Met l yX6_tryAt (.code yX6_tryAt cX6_tryAt 5 (some .int) :: gt) { frames := 4, cells := 2, slots := 22, locals := 94 } (va_Pc [.ref x, .int ce] (hPre D K b0 sa sz L f0)) (hQ D K b0 (fun v9 u9 => ∃ (r : Int32) (Ψ2 : Nat → Nat) (L2 : List Nat) (f2 : Nat → va_E), v9 = some (.int r) ∧ u9 = ((gof gM0), Ψ2, L2, f2) ∧ TW K (gof gM0) Ψ2 L2 f2 ∧ Ex [9, 5, 15] (fun _ => False) Ψ L f0 Ψ2 L2 f2 ∧ (r = 0))) 2 22 (fun q => b0 ≤ q) := by
  refine t_of (own := RX6) (by decide) rfl ?_ (Nat.le_of_ble_eq_true rfl)
  intro p e s m below meth c ls C w hsz hr hlk hnm hl
  have hx := C.1
  have hb := C.2.1
  have hl : lv_has ls 5 [(0, .ref x), (1, .int ce)] := hl
  have hb_ce := ti_bd ce
  have hE : Ex [9, 5, 15] (fun _ => False) Ψ L f0 Ψ L f0 := Ex.rf
  refine t_new C w hT hE (by decide) (t := 5) rfl cin_5 tyX5 tyX5_ok gw_213 gw_214 gw_7 (fs := [.int 0, .int 0, .int 0, .int 0, .int 0, .int 0, .int 0, .int 0, .int 0, .int 0, .int 0, .int 0, .int 0, .int 0, .int 0, .null, .int 0]) dfl_5 (by decide) (by decide) dX6_tryAt_0 (fun q1 Ψ2 L2 f H w hT hE hsp hm_q1 ht_q1 hf_q1 hz_q1 hnq hbk => ?_)
  have ht_x := (hsp x hm_x).2.1.trans ht_x
  have hm_x := (hsp x hm_x).1
  clear hsp hbk hnq
  refine lv_dup hx hb dX6_tryAt_3 rfl ?_
  refine t_callIN (host := RX6) (n := 0) C w (c_X5_init1 l D K b0 sa _ L2 _ Ψ2 hT q1 hm_q1 ht_q1 hf_q1) gw_217 (List.mem_of_getElem? (i := 3) rfl) rfl gw_216 gw_7 ⟨by decide, by decide, by decide +kernel⟩ rfl rfl ⟨by decide, by decide⟩ rfl hl.1 rfl (Nat.le_of_ble_eq_true rfl) dX6_tryAt_4 ⟨by decide, by decide⟩ (fun v u H locs hp w => ?_)
  obtain ⟨Ψ3, L3, f2, rfl, rfl, hT2, hE2, ht_q1x⟩ := hp
  have hE := hE.tr hE2 (by decide) (fun b e9 h => by have e9 : b = q1 := e9; subst e9; exact hz_q1 h) (fun b e9 => by have e9 : b = q1 := e9; subst e9; rw [ht_q1x]; decide)
  have hsp := hE2.sp hm_x (fun e9 => by have e9 : x = q1 := e9; rw [e9, ht_q1] at ht_x; exact absurd ht_x (by decide))
  have ht_x := hsp.2.1.trans ht_x
  have hm_x := hsp.1
  have hm_q1 := (hE2.1 q1 hm_q1).1
  have ht_q1 := ht_q1x
  clear hT
  have hT := hT2
  clear hT2 hE2 ht_q1x
  generalize f2 = f at w hT hE
  refine lv_astore_n (lv' := [(2, .ref q1), (0, .ref x), (1, .int ce)]) hx hb dX6_tryAt_7 rfl hl (by decide) rfl (fun ls hl => ?_)
  refine lv_aload_n hx hb dX6_tryAt_8 rfl (lv_at hl 0 rfl) ?_
  refine lv_aload_n hx hb dX6_tryAt_9 rfl (lv_at hl 1 rfl) ?_
  refine t_getr C w hT hm_x ht_x (by decide) rfl cin_6 0 (by decide) rfl gw_287 dX6_tryAt_10 (fun q4 hm_q4 ht_q4 => ?_)
  refine t_callV (n := 1) C w hT hm_q1 ht_q1 (by decide) rfl rfl (c_X5_nameNext l D K b0 sa _ L3 _ Ψ3 hT q1 hm_q1 ht_q1 q4 hm_q4 ht_q4) gw_380 gw_377 gw_378 gw_379 gw_7 ⟨by decide, by decide, by decide +kernel⟩ rfl rfl ⟨by decide, by decide⟩ rfl hl.1 rfl (Nat.le_of_ble_eq_true rfl) dX6_tryAt_13 ⟨by decide, by decide⟩ (fun v u H locs hp w => ?_)
  obtain ⟨f2, rfl, rfl, hT2, hR1⟩ := hp
  have hE := hE.up hR1
  clear hT
  have hT := hT2
  clear hT2
  generalize f2 = f at w hT hE
  refine lv_aload_n hx hb dX6_tryAt_16 rfl (lv_at hl 0 rfl) ?_
  refine lv_aload_n hx hb dX6_tryAt_17 rfl (lv_at hl 1 rfl) ?_
  refine lv_iconst (v := 0) hx hb dX6_tryAt_18 (by decide) ?_
  have n0 : (0 : Int32).toInt = 0 := by decide
  refine t_callV (n := 1) C w hT hm_x ht_x (by decide) rfl rfl (c_X6_leastPaying l D K b0 sa _ L3 _ Ψ3 hT x hm_x ht_x 0) gw_365 gw_362 gw_364 gs_1 gw_1 ⟨by decide, by decide, by decide +kernel⟩ rfl rfl ⟨by decide, by decide⟩ rfl hl.1 rfl (Nat.le_of_ble_eq_true rfl) dX6_tryAt_19 ⟨by decide, by decide⟩ (fun v u H locs hp w => ?_)
  obtain ⟨r5, f2, rfl, rfl, hT2, hR1, hrr5⟩ := hp
  have hE := hE.up hR1
  clear hT
  have hT := hT2
  clear hT2
  generalize f2 = f at w hT hE
  obtain rfl := hrr5
  refine lv_iconst (v := (-1)) hx hb dX6_tryAt_22 (by decide) ?_
  refine lv_icmp_ne (tgt := 30) hx hb dX6_tryAt_23 (by decide) (fun c0 => absurd c0 (by decide)) (fun _ => ?_)
  refine lv_iconst (v := 0) hx hb dX6_tryAt_26 (by decide) ?_
  refine lv_goto (tgt := 31) hx hb dX6_tryAt_27 (by decide) ?_
  refine t_puti C w hT hm_q1 ht_q1 (by decide) rfl cin_5 tyX5 tyX5_ok nmX5 9 (by decide) rfl rfl rfl rfl rfl (gof_no rfl) gw_242 dX6_tryAt_31 (fun f H locs w hT hR1 => ?_)
  have hE := hE.up hR1
  refine lv_aload_n hx hb dX6_tryAt_34 rfl (lv_at hl 1 rfl) ?_
  refine t_callV (n := 0) C w hT hm_x ht_x (by decide) rfl rfl (c_X6_codeInForce l D K b0 sa _ L3 _ Ψ3 hT x hm_x ht_x) gw_373 gw_370 gw_372 gs_3 gw_1 ⟨by decide, by decide, by decide +kernel⟩ rfl rfl ⟨by decide, by decide⟩ rfl hl.1 rfl (Nat.le_of_ble_eq_true rfl) dX6_tryAt_35 ⟨by decide, by decide⟩ (fun v u H locs hp w => ?_)
  obtain ⟨r6, rfl, rfl, hrr6⟩ := hp
  subst hrr6
  refine lv_astore_nN (lv' := [(3, .null), (2, .ref q1), (0, .ref x), (1, .int ce)]) hx hb dX6_tryAt_38 rfl hl (by decide) rfl (fun ls hl => ?_)
  refine lv_aload_n hx hb dX6_tryAt_39 rfl (lv_at hl 2 rfl) ?_
  refine t_getr C w hT hm_x ht_x (by decide) rfl cin_6 14 (by decide) rfl gw_301 dX6_tryAt_40 (fun q7 hm_q7 ht_q7 => ?_)
  refine lv_aload_nN hx hb dX6_tryAt_43 rfl (lv_at hl 0 rfl) ?_
  refine lv_aload_n hx hb dX6_tryAt_44 rfl (lv_at hl 1 rfl) ?_
  refine lv_iconst (v := 0) hx hb dX6_tryAt_45 (by decide) ?_
  refine t_callV (n := 3) C w hT hm_q7 ht_q7 (by decide) rfl rfl (c_X3_run l D K b0 sa _ L3 _ Ψ3 hT q7 hm_q7 ht_q7 q1 hm_q1 ht_q1 0) gw_384 gw_381 gw_382 gw_383 gw_6 ⟨by decide, by decide, by decide +kernel⟩ rfl rfl ⟨by decide, by decide⟩ rfl hl.1 rfl (Nat.le_of_ble_eq_true rfl) dX6_tryAt_46 ⟨by decide, by decide⟩ (fun v u H locs hp w => ?_)
  obtain ⟨f2, rfl, rfl, hT2, hR1⟩ := hp
  have hE := hE.up hR1
  clear hT
  have hT := hT2
  clear hT2
  generalize f2 = f at w hT hE
  refine lv_aload_n hx hb dX6_tryAt_49 rfl (lv_at hl 2 rfl) ?_
  refine t_getr C w hT hm_x ht_x (by decide) rfl cin_6 14 (by decide) rfl gw_301 dX6_tryAt_50 (fun q8 hm_q8 ht_q8 => ?_)
  refine t_callV (n := 0) C w hT hm_q8 ht_q8 (by decide) rfl rfl (c_X3_lots l D K b0 sa _ L3 _ Ψ3 hT q8 hm_q8 ht_q8) gw_417 gw_414 gw_415 gw_416 gw_6 ⟨by decide, by decide, by decide +kernel⟩ rfl rfl ⟨by decide, by decide⟩ rfl hl.1 rfl (Nat.le_of_ble_eq_true rfl) dX6_tryAt_53 ⟨by decide, by decide⟩ (fun v u H locs hp w => ?_)
  obtain ⟨r9, rfl, rfl, hrr9⟩ := hp
  obtain rfl := hrr9
  refine lv_istore (lv' := [(4, .int 1), (3, .null), (2, .ref q1), (0, .ref x), (1, .int ce)]) hx hb dX6_tryAt_56 hl (by decide) rfl (fun ls hl => ?_)
  refine lv_aload_n hx hb dX6_tryAt_58 rfl (lv_at hl 2 rfl) ?_
  refine lv_iload hx hb dX6_tryAt_59 (lv_at hl 0 rfl) ?_
  refine lv_iconst (v := 1) hx hb dX6_tryAt_61 (by decide) ?_
  refine lv_icmp_ne (tgt := 69) hx hb dX6_tryAt_62 (by decide) (fun c0 => absurd c0 (by decide)) (fun _ => ?_)
  refine lv_iconst (v := 0) hx hb dX6_tryAt_65 (by decide) ?_
  refine lv_goto (tgt := 78) hx hb dX6_tryAt_66 (by decide) ?_
  refine t_puti C w hT hm_q1 ht_q1 (by decide) rfl cin_5 tyX5 tyX5_ok nmX5 3 (by decide) rfl rfl rfl rfl rfl (gof_no rfl) gw_226 dX6_tryAt_78 (fun f H locs w hT hR1 => ?_)
  have hE := hE.up hR1
  refine lv_aload_n hx hb dX6_tryAt_81 rfl (lv_at hl 3 rfl) ?_
  refine t_getr C w hT hm_x ht_x (by decide) rfl cin_6 14 (by decide) rfl gw_301 dX6_tryAt_82 (fun q10 hm_q10 ht_q10 => ?_)
  refine lv_aload_nN hx hb dX6_tryAt_85 rfl (lv_at hl 1 rfl) ?_
  refine lv_aload_n hx hb dX6_tryAt_86 rfl (lv_at hl 2 rfl) ?_
  refine lv_aload_n hx hb dX6_tryAt_87 rfl (lv_at hl 2 rfl) ?_
  refine t_geti C w hT hm_q1 ht_q1 (by decide) rfl cin_5 3 (by decide) rfl rfl gw_226 dX6_tryAt_88 (fun x11 hg => ?_)
  refine t_callV (n := 3) C w hT hm_q10 ht_q10 (by decide) rfl rfl (c_X3_run l D K b0 sa _ L3 _ Ψ3 hT q10 hm_q10 ht_q10 q1 hm_q1 ht_q1 x11) gw_384 gw_381 gw_382 gw_383 gw_6 ⟨by decide, by decide, by decide +kernel⟩ rfl rfl ⟨by decide, by decide⟩ rfl hl.1 rfl (Nat.le_of_ble_eq_true rfl) dX6_tryAt_91 ⟨by decide, by decide⟩ (fun v u H locs hp w => ?_)
  obtain ⟨f2, rfl, rfl, hT2, hR1⟩ := hp
  have hE := hE.up hR1
  clear hT
  have hT := hT2
  clear hT2
  generalize f2 = f at w hT hE
  refine lv_aload_n hx hb dX6_tryAt_94 rfl (lv_at hl 2 rfl) ?_
  refine lv_aload_n hx hb dX6_tryAt_95 rfl (lv_at hl 3 rfl) ?_
  refine t_getr C w hT hm_x ht_x (by decide) rfl cin_6 0 (by decide) rfl gw_287 dX6_tryAt_96 (fun q12 hm_q12 ht_q12 => ?_)
  refine lv_iload_n hx hb dX6_tryAt_99 rfl (lv_at hl 4 rfl) ?_
  refine t_callV (n := 2) C w hT hm_q1 ht_q1 (by decide) rfl rfl (c_X5_look l D K b0 sa _ L3 _ Ψ3 hT q1 hm_q1 ht_q1 q12 hm_q12 ht_q12 ce) gw_429 gw_426 gw_427 gw_428 gw_7 ⟨by decide, by decide, by decide +kernel⟩ rfl rfl ⟨by decide, by decide⟩ rfl hl.1 rfl (Nat.le_of_ble_eq_true rfl) dX6_tryAt_100 ⟨by decide, by decide⟩ (fun v u H locs hp w => ?_)
  obtain ⟨f2, rfl, rfl, hT2, hR1⟩ := hp
  have hE := hE.up hR1
  clear hT
  have hT := hT2
  clear hT2
  generalize f2 = f at w hT hE
  refine lv_aload_n hx hb dX6_tryAt_103 rfl (lv_at hl 2 rfl) ?_
  refine lv_aload_n hx hb dX6_tryAt_104 rfl (lv_at hl 3 rfl) ?_
  refine t_getr C w hT hm_x ht_x (by decide) rfl cin_6 14 (by decide) rfl gw_301 dX6_tryAt_105 (fun q13 hm_q13 ht_q13 => ?_)
  refine t_callV (n := 0) C w hT hm_q13 ht_q13 (by decide) rfl rfl (c_X3_grip l D K b0 sa _ L3 _ Ψ3 hT q13 hm_q13 ht_q13) gw_421 gw_418 gw_419 gw_420 gw_6 ⟨by decide, by decide, by decide +kernel⟩ rfl rfl ⟨by decide, by decide⟩ rfl hl.1 rfl (Nat.le_of_ble_eq_true rfl) dX6_tryAt_108 ⟨by decide, by decide⟩ (fun v u H locs hp w => ?_)
  obtain ⟨r14, rfl, rfl, hrr14⟩ := hp
  obtain rfl := hrr14
  refine lv_aload_n hx hb dX6_tryAt_111 rfl (lv_at hl 3 rfl) ?_
  refine t_getr C w hT hm_x ht_x (by decide) rfl cin_6 14 (by decide) rfl gw_301 dX6_tryAt_112 (fun q15 hm_q15 ht_q15 => ?_)
  refine t_callV (n := 0) C w hT hm_q15 ht_q15 (by decide) rfl rfl (c_X3_slip l D K b0 sa _ L3 _ Ψ3 hT q15 hm_q15 ht_q15) gw_425 gw_422 gw_423 gw_424 gw_6 ⟨by decide, by decide, by decide +kernel⟩ rfl rfl ⟨by decide, by decide⟩ rfl hl.1 rfl (Nat.le_of_ble_eq_true rfl) dX6_tryAt_115 ⟨by decide, by decide⟩ (fun v u H locs hp w => ?_)
  obtain ⟨r16, rfl, rfl, hrr16⟩ := hp
  obtain rfl := hrr16
  refine t_callV (n := 2) C w hT hm_q1 ht_q1 (by decide) rfl rfl (c_X5_carry l D K b0 sa _ L3 _ Ψ3 hT q1 hm_q1 ht_q1 0 0) gw_956 gw_953 gw_954 gw_955 gw_7 ⟨by decide, by decide, by decide +kernel⟩ rfl rfl ⟨by decide, by decide⟩ rfl hl.1 rfl (Nat.le_of_ble_eq_true rfl) dX6_tryAt_118 ⟨by decide, by decide⟩ (fun v u H locs hp w => ?_)
  obtain ⟨f2, rfl, rfl, hT2, hR1⟩ := hp
  have hE := hE.up hR1
  clear hT
  have hT := hT2
  clear hT2
  generalize f2 = f at w hT hE
  refine lv_aload_n hx hb dX6_tryAt_121 rfl (lv_at hl 3 rfl) ?_
  refine t_getr C w hT hm_x ht_x (by decide) rfl cin_6 0 (by decide) rfl gw_287 dX6_tryAt_122 (fun q17 hm_q17 ht_q17 => ?_)
  refine lv_aload_n hx hb dX6_tryAt_125 rfl (lv_at hl 2 rfl) ?_
  refine t_callV (n := 1) C w hT hm_q17 ht_q17 (by decide) rfl rfl (c_X0_move l D K b0 sa _ L3 _ Ψ3 hT q17 hm_q17 ht_q17 q1 hm_q1 ht_q1) gw_960 gw_957 gw_958 gw_959 gw_2 ⟨by decide, by decide, by decide +kernel⟩ rfl rfl ⟨by decide, by decide⟩ rfl hl.1 rfl (Nat.le_of_ble_eq_true rfl) dX6_tryAt_126 ⟨by decide, by decide⟩ (fun v u H locs hp w => ?_)
  obtain ⟨f2, rfl, rfl, hT2, hR1⟩ := hp
  have hE := hE.up hR1
  clear hT
  have hT := hT2
  clear hT2
  generalize f2 = f at w hT hE
  refine lv_aload_n hx hb dX6_tryAt_129 rfl (lv_at hl 3 rfl) ?_
  refine t_getr C w hT hm_x ht_x (by decide) rfl cin_6 0 (by decide) rfl gw_287 dX6_tryAt_130 (fun q18 hm_q18 ht_q18 => ?_)
  refine lv_aload_n hx hb dX6_tryAt_133 rfl (lv_at hl 2 rfl) ?_
  refine t_callV (n := 1) C w hT hm_q18 ht_q18 (by decide) rfl rfl (c_X0_keep l D K b0 sa _ L3 _ Ψ3 hT q18 hm_q18 ht_q18 q1 hm_q1 ht_q1) gw_979 gw_976 gw_977 gw_978 gw_2 ⟨by decide, by decide, by decide +kernel⟩ rfl rfl ⟨by decide, by decide⟩ rfl hl.1 rfl (Nat.le_of_ble_eq_true rfl) dX6_tryAt_134 ⟨by decide, by decide⟩ (fun v u H locs hp w => ?_)
  obtain ⟨Ψ19, L19, f2, rfl, rfl, hT2, hE2⟩ := hp
  have hE := hE.tr hE2 (by decide) (fun b e9 => e9.elim) (fun b e9 => e9.elim)
  have hsp := hE2.sp hm_q1 (fun e9 => e9)
  have ht_q1 := hsp.2.1.trans ht_q1
  have hm_q1 := hsp.1
  have hsp := hE2.sp hm_x (fun e9 => e9)
  have ht_x := hsp.2.1.trans ht_x
  have hm_x := hsp.1
  clear hT
  have hT := hT2
  clear hT2 hE2
  generalize f2 = f at w hT hE
  refine lv_aload_n hx hb dX6_tryAt_137 rfl (lv_at hl 2 rfl) ?_
  refine t_geti C w hT hm_q1 ht_q1 (by decide) rfl cin_5 1 (by decide) rfl rfl gw_222 dX6_tryAt_138 (fun x21 hg => ?_)
  obtain rfl : x21 = 0 := gof_at rfl hg
  exact t_iret C hr hlk w ⟨_, _, _, _, rfl, rfl, (hT.mono (gof_sub rfl)), hE, rfl⟩ (by decide) (by decide) dX6_tryAt_141
set_option maxHeartbeats 4000000 in
set_option maxRecDepth 100000 in
theorem c_X6_attempt (l : Launch) (hls : l.stackTraces = false) (D : va_G) (K : Nat → ClassId) (b0 : Nat) (sa : Nat × Nat × Nat) (sz : Nat) (L : List Nat) (f0 : Nat → va_E) (Ψ : Nat → Nat) (hT : TW K (gof gX1) Ψ L f0) (x : Nat) (hm_x : x ∈ L) (ht_x : Ψ x = 6) (ce : Int32) : vx_Met l yX6_attempt (.code yX6_attempt cX6_attempt 2 (some .int) :: gt) { frames := 7, cells := 3, slots := 28, locals := 118 } (va_Pc [.ref x, .int ce] (hPre D K b0 sa sz L f0)) (hQ D K b0 (fun v9 u9 => ∃ (r : Int32) (Ψ2 : Nat → Nat) (L2 : List Nat) (f2 : Nat → va_E), v9 = some (.int r) ∧ u9 = ((gof gM0), Ψ2, L2, f2) ∧ TW K (gof gM0) Ψ2 L2 f2 ∧ Ex [9, 5, 15] (fun _ => False) Ψ L f0 Ψ2 L2 f2 ∧ (r = 0 ∧ (0 ≤ ce.toInt) ∧ (ce.toInt ≤ 63)))) (hX D K b0 (fun E u9 => ∃ f2 : Nat → va_E, u9 = ((gof gM0), Ψ, L, f2) ∧ TW K (gof gM0) Ψ L f2 ∧ rawk Ψ L f0 f2 ∧ (E = "java/lang/IndexOutOfBoundsException" ∧ (¬ (0 ≤ ce.toInt ∧ ce.toInt ≤ 63))))) 3 28 (fun q => b0 ≤ q) := by
  refine t_xof (own := RX6) (by decide) rfl ?_ (Nat.le_of_ble_eq_true rfl)
  intro p e s m below meth c ls C w hsz hr hlk htb hl
  have hx := C.1
  have hb := C.2.1
  have hl : lv_has ls 2 [(0, .ref x), (1, .int ce)] := hl
  have hb_ce := ti_bd ce
  have hE : Ex [9, 5, 15] (fun _ => False) Ψ L f0 Ψ L f0 := Ex.rf
  refine lv_iload_n hx hb dX6_attempt_0 rfl (lv_at hl 1 rfl) ?_
  refine t_xcallS (n := 1) C w (c_X6_needCell l hls D K b0 sa _ L _ Ψ (gof gX1) hT ce) gw_554 gw_552 gw_553 gw_1 ⟨by decide, by decide, by decide +kernel⟩ rfl rfl ⟨by decide, by decide⟩ rfl hl.1 rfl (Nat.le_of_ble_eq_true rfl) dX6_attempt_1 ⟨by decide, by decide⟩ (fun E ce q9 u H locs hp w hcell hv0 hcl => ?_) (fun v u H locs hp w => ?_)
  · obtain ⟨f2, rfl, hT2, hR1, hpx⟩ := hp
    have hR : rawk Ψ L f0 f2 := fun b hb h9 => (hR1 b (hE.1 b hb).1 (((hE.1 b hb).2 (fun e9 => e9)).1.trans h9)).trans (((hE.1 b hb).2 (fun e9 => e9)).2 h9)
    obtain ⟨rfl, hx0⟩ := hpx
    exact t_xout w htb hlk hcell hv0 hcl ⟨_, rfl, (hT2.mono (gof_sub rfl)), hR, ⟨rfl, (by omega)⟩⟩ (by decide) (by decide)
  ·
    obtain ⟨rfl, rfl, hpv0, hpv1⟩ := hp
    refine lv_aload_n hx hb dX6_attempt_4 rfl (lv_at hl 0 rfl) ?_
    refine t_getr C w hT hm_x ht_x (by decide) rfl cin_6 0 (by decide) rfl gw_287 dX6_attempt_5 (fun q1 hm_q1 ht_q1 => ?_)
    refine t_geti C w hT hm_q1 ht_q1 (by decide) rfl cin_0 12 (by decide) rfl rfl gw_121 dX6_attempt_8 (fun x2 hg => ?_)
    obtain rfl : x2 = 0 := gof_at rfl hg
    refine lv_sipush (v := 200) hx hb dX6_attempt_11 (by decide) ?_
    refine lv_icmp_lt (tgt := 21) hx hb dX6_attempt_14 (by decide) (fun _ => ?_) (fun c0 => absurd c0 (by decide))
    refine lv_aload_n hx hb dX6_attempt_21 rfl (lv_at hl 0 rfl) ?_
    refine lv_iload_n hx hb dX6_attempt_22 rfl (lv_at hl 1 rfl) ?_
    refine t_callV (n := 1) C w hT hm_x ht_x (by decide) rfl rfl (c_X6_tryAt l D K b0 sa _ L _ Ψ hT x hm_x ht_x ce (by omega) (by omega)) gw_947 gw_944 gw_946 gs_16 gw_1 ⟨by decide, by decide, by decide +kernel⟩ rfl rfl ⟨by decide, by decide⟩ rfl hl.1 rfl (Nat.le_of_ble_eq_true rfl) dX6_attempt_23 ⟨by decide, by decide⟩ (fun v u H locs hp w => ?_)
    obtain ⟨r4, Ψ3, L3, f2, rfl, rfl, hT2, hE2, hrr4⟩ := hp
    have hE := hE.tr hE2 (by decide) (fun b e9 => e9.elim) (fun b e9 => e9.elim)
    have hsp := hE2.sp hm_x (fun e9 => e9)
    have ht_x := hsp.2.1.trans ht_x
    have hm_x := hsp.1
    clear hT
    have hT := hT2
    clear hT2 hE2
    generalize f2 = f at w hT hE
    obtain rfl := hrr4
    have n0 : (0 : Int32).toInt = 0 := by decide
    refine vx_ret ?_
    exact t_iret C hr hlk w ⟨_, _, _, _, rfl, rfl, hT, hE, ⟨rfl, (by omega), (by omega)⟩⟩ (by decide) (by decide) dX6_attempt_26
