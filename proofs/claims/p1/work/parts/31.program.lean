theorem dJ7_copyOf_59c91_0 : decode cJ7_copyOf_59c91 0 = .ok (.iload_n 1, 1) := by decide +kernel
theorem dJ7_copyOf_59c91_1 : decode cJ7_copyOf_59c91 1 = .ok (.aload_n 0, 1) := by decide +kernel
theorem dJ7_copyOf_59c91_2 : decode cJ7_copyOf_59c91 2 = .ok (.arraylength, 1) := by decide +kernel
theorem dJ7_copyOf_59c91_3 : decode cJ7_copyOf_59c91 3 = .ok (.if_icmp .ne 11, 3) := by decide +kernel
theorem dJ7_copyOf_59c91_6 : decode cJ7_copyOf_59c91 6 = .ok (.aload_n 0, 1) := by decide +kernel
theorem dJ7_copyOf_59c91_7 : decode cJ7_copyOf_59c91 7 = .ok (.invokevirtual 316, 3) := by decide +kernel
theorem dJ7_copyOf_59c91_10 : decode cJ7_copyOf_59c91 10 = .ok (.checkcast 317, 3) := by decide +kernel
theorem dJ7_copyOf_59c91_13 : decode cJ7_copyOf_59c91 13 = .ok (.areturn, 1) := by decide +kernel
theorem dJ7_copyOf_59c91_14 : decode cJ7_copyOf_59c91 14 = .ok (.iload_n 1, 1) := by decide +kernel
theorem dJ7_copyOf_59c91_15 : decode cJ7_copyOf_59c91 15 = .ok (.newarray .int, 2) := by decide +kernel
theorem dJ7_copyOf_59c91_17 : decode cJ7_copyOf_59c91 17 = .ok (.astore_n 2, 1) := by decide +kernel
theorem dJ7_copyOf_59c91_18 : decode cJ7_copyOf_59c91 18 = .ok (.aload_n 0, 1) := by decide +kernel
theorem dJ7_copyOf_59c91_19 : decode cJ7_copyOf_59c91 19 = .ok (.iconst 0, 1) := by decide +kernel
theorem dJ7_copyOf_59c91_20 : decode cJ7_copyOf_59c91 20 = .ok (.aload_n 2, 1) := by decide +kernel
theorem dJ7_copyOf_59c91_21 : decode cJ7_copyOf_59c91 21 = .ok (.iconst 0, 1) := by decide +kernel
theorem dJ7_copyOf_59c91_22 : decode cJ7_copyOf_59c91 22 = .ok (.aload_n 0, 1) := by decide +kernel
theorem dJ7_copyOf_59c91_23 : decode cJ7_copyOf_59c91 23 = .ok (.arraylength, 1) := by decide +kernel
theorem dJ7_copyOf_59c91_24 : decode cJ7_copyOf_59c91 24 = .ok (.iload_n 1, 1) := by decide +kernel
theorem dJ7_copyOf_59c91_25 : decode cJ7_copyOf_59c91 25 = .ok (.invokestatic 304, 3) := by decide +kernel
theorem dJ7_copyOf_59c91_28 : decode cJ7_copyOf_59c91 28 = .ok (.invokestatic 150, 3) := by decide +kernel
theorem dJ7_copyOf_59c91_31 : decode cJ7_copyOf_59c91 31 = .ok (.aload_n 2, 1) := by decide +kernel
theorem dJ7_copyOf_59c91_32 : decode cJ7_copyOf_59c91 32 = .ok (.areturn, 1) := by decide +kernel
theorem dX1_init_0 : decode cX1_init 0 = .ok (.aload_n 0, 1) := by decide +kernel
theorem dX1_init_1 : decode cX1_init 1 = .ok (.invokespecial 1, 3) := by decide +kernel
theorem dX1_init_4 : decode cX1_init 4 = .ok (.aload_n 0, 1) := by decide +kernel
theorem dX1_init_5 : decode cX1_init 5 = .ok (.aload_n 1, 1) := by decide +kernel
theorem dX1_init_6 : decode cX1_init 6 = .ok (.iconst 0, 1) := by decide +kernel
theorem dX1_init_7 : decode cX1_init 7 = .ok (.iload_n 2, 1) := by decide +kernel
theorem dX1_init_8 : decode cX1_init 8 = .ok (.invokestatic 7, 3) := by decide +kernel
theorem dX1_init_11 : decode cX1_init 11 = .ok (.invokestatic 13, 3) := by decide +kernel
theorem dX1_init_14 : decode cX1_init 14 = .ok (.putfield 19, 3) := by decide +kernel
theorem dX1_init_17 : decode cX1_init 17 = .ok (.return_, 1) := by decide +kernel
theorem dX4_codeRead_0 : decode cX4_codeRead 0 = .ok (.new 72, 3) := by decide +kernel
theorem dX4_codeRead_3 : decode cX4_codeRead 3 = .ok (.dup, 1) := by decide +kernel
theorem dX4_codeRead_4 : decode cX4_codeRead 4 = .ok (.aload_n 0, 1) := by decide +kernel
theorem dX4_codeRead_5 : decode cX4_codeRead 5 = .ok (.getfield 31, 3) := by decide +kernel
theorem dX4_codeRead_8 : decode cX4_codeRead 8 = .ok (.aload_n 0, 1) := by decide +kernel
theorem dX4_codeRead_9 : decode cX4_codeRead 9 = .ok (.getfield 34, 3) := by decide +kernel
theorem dX4_codeRead_12 : decode cX4_codeRead 12 = .ok (.invokespecial 74, 3) := by decide +kernel
theorem dX4_codeRead_15 : decode cX4_codeRead 15 = .ok (.areturn, 1) := by decide +kernel
theorem dX6_keepProgram_0 : decode cX6_keepProgram 0 = .ok (.aload_n 0, 1) := by decide +kernel
theorem dX6_keepProgram_1 : decode cX6_keepProgram 1 = .ok (.getfield 33, 3) := by decide +kernel
theorem dX6_keepProgram_4 : decode cX6_keepProgram 4 = .ok (.bipush 6, 2) := by decide +kernel
theorem dX6_keepProgram_6 : decode cX6_keepProgram 6 = .ok (.if_icmp .lt 5, 3) := by decide +kernel
theorem dX6_keepProgram_9 : decode cX6_keepProgram 9 = .ok (.iconst (-1), 1) := by decide +kernel
theorem dX6_keepProgram_10 : decode cX6_keepProgram 10 = .ok (.ireturn, 1) := by decide +kernel
theorem dX6_keepProgram_11 : decode cX6_keepProgram 11 = .ok (.aload_n 0, 1) := by decide +kernel
theorem dX6_keepProgram_12 : decode cX6_keepProgram 12 = .ok (.getfield 29, 3) := by decide +kernel
theorem dX6_keepProgram_15 : decode cX6_keepProgram 15 = .ok (.aload_n 0, 1) := by decide +kernel
theorem dX6_keepProgram_16 : decode cX6_keepProgram 16 = .ok (.getfield 33, 3) := by decide +kernel
theorem dX6_keepProgram_19 : decode cX6_keepProgram 19 = .ok (.aload_n 0, 1) := by decide +kernel
theorem dX6_keepProgram_20 : decode cX6_keepProgram 20 = .ok (.getfield 61, 3) := by decide +kernel
theorem dX6_keepProgram_23 : decode cX6_keepProgram 23 = .ok (.invokevirtual 329, 3) := by decide +kernel
theorem dX6_keepProgram_26 : decode cX6_keepProgram 26 = .ok (.aastore, 1) := by decide +kernel
theorem dX6_keepProgram_27 : decode cX6_keepProgram 27 = .ok (.aload_n 0, 1) := by decide +kernel
theorem dX6_keepProgram_28 : decode cX6_keepProgram 28 = .ok (.dup, 1) := by decide +kernel
theorem dX6_keepProgram_29 : decode cX6_keepProgram 29 = .ok (.getfield 33, 3) := by decide +kernel
theorem dX6_keepProgram_32 : decode cX6_keepProgram 32 = .ok (.iconst 1, 1) := by decide +kernel
theorem dX6_keepProgram_33 : decode cX6_keepProgram 33 = .ok (.iadd, 1) := by decide +kernel
theorem dX6_keepProgram_34 : decode cX6_keepProgram 34 = .ok (.putfield 33, 3) := by decide +kernel
theorem dX6_keepProgram_37 : decode cX6_keepProgram 37 = .ok (.aload_n 0, 1) := by decide +kernel
theorem dX6_keepProgram_38 : decode cX6_keepProgram 38 = .ok (.getfield 33, 3) := by decide +kernel
theorem dX6_keepProgram_41 : decode cX6_keepProgram 41 = .ok (.iconst 1, 1) := by decide +kernel
theorem dX6_keepProgram_42 : decode cX6_keepProgram 42 = .ok (.isub, 1) := by decide +kernel
theorem dX6_keepProgram_43 : decode cX6_keepProgram 43 = .ok (.ireturn, 1) := by decide +kernel
theorem dX6_program_0 : decode cX6_program 0 = .ok (.iload_n 1, 1) := by decide +kernel
theorem dX6_program_1 : decode cX6_program 1 = .ok (.iconst 0, 1) := by decide +kernel
theorem dX6_program_2 : decode cX6_program 2 = .ok (.aload_n 0, 1) := by decide +kernel
theorem dX6_program_3 : decode cX6_program 3 = .ok (.getfield 52, 3) := by decide +kernel
theorem dX6_program_6 : decode cX6_program 6 = .ok (.invokestatic 92, 3) := by decide +kernel
theorem dX6_program_9 : decode cX6_program 9 = .ok (.invokestatic 96, 3) := by decide +kernel
theorem dX6_program_12 : decode cX6_program 12 = .ok (.aload_n 0, 1) := by decide +kernel
theorem dX6_program_13 : decode cX6_program 13 = .ok (.iconst 0, 1) := by decide +kernel
theorem dX6_program_14 : decode cX6_program 14 = .ok (.putfield 52, 3) := by decide +kernel
theorem dX6_program_17 : decode cX6_program 17 = .ok (.iload_n 2, 1) := by decide +kernel
theorem dX6_program_18 : decode cX6_program 18 = .ok (.ifCond .eq 18, 3) := by decide +kernel
theorem dX6_program_21 : decode cX6_program 21 = .ok (.aload_n 0, 1) := by decide +kernel
theorem dX6_program_22 : decode cX6_program 22 = .ok (.getfield 61, 3) := by decide +kernel
theorem dX6_program_25 : decode cX6_program 25 = .ok (.aload_n 0, 1) := by decide +kernel
theorem dX6_program_26 : decode cX6_program 26 = .ok (.getfield 49, 3) := by decide +kernel
theorem dX6_program_29 : decode cX6_program 29 = .ok (.iload_n 1, 1) := by decide +kernel
theorem dX6_program_30 : decode cX6_program 30 = .ok (.invokevirtual 157, 3) := by decide +kernel
theorem dX6_program_33 : decode cX6_program 33 = .ok (.goto 15, 3) := by decide +kernel
theorem dX6_program_36 : decode cX6_program 36 = .ok (.aload_n 0, 1) := by decide +kernel
theorem dX6_program_37 : decode cX6_program 37 = .ok (.getfield 61, 3) := by decide +kernel
theorem dX6_program_40 : decode cX6_program 40 = .ok (.aload_n 0, 1) := by decide +kernel
theorem dX6_program_41 : decode cX6_program 41 = .ok (.getfield 49, 3) := by decide +kernel
theorem dX6_program_44 : decode cX6_program 44 = .ok (.iload_n 1, 1) := by decide +kernel
theorem dX6_program_45 : decode cX6_program 45 = .ok (.invokevirtual 161, 3) := by decide +kernel
theorem dX6_program_48 : decode cX6_program 48 = .ok (.istore_n 3, 1) := by decide +kernel
theorem dX6_program_49 : decode cX6_program 49 = .ok (.aload_n 0, 1) := by decide +kernel
theorem dX6_program_50 : decode cX6_program 50 = .ok (.aload_n 0, 1) := by decide +kernel
theorem dX6_program_51 : decode cX6_program 51 = .ok (.getfield 61, 3) := by decide +kernel
theorem dX6_program_54 : decode cX6_program 54 = .ok (.getfield 164, 3) := by decide +kernel
theorem dX6_program_57 : decode cX6_program 57 = .ok (.putfield 55, 3) := by decide +kernel
theorem dX6_program_60 : decode cX6_program 60 = .ok (.iload_n 3, 1) := by decide +kernel
theorem dX6_program_61 : decode cX6_program 61 = .ok (.ifCond .ne 14, 3) := by decide +kernel
theorem dX6_program_64 : decode cX6_program 64 = .ok (.aload_n 0, 1) := by decide +kernel
theorem dX6_program_65 : decode cX6_program 65 = .ok (.getfield 61, 3) := by decide +kernel
theorem dX6_program_68 : decode cX6_program 68 = .ok (.getfield 165, 3) := by decide +kernel
theorem dX6_program_71 : decode cX6_program 71 = .ok (.bipush 10, 2) := by decide +kernel
theorem dX6_program_73 : decode cX6_program 73 = .ok (.isub, 1) := by decide +kernel
theorem dX6_program_74 : decode cX6_program 74 = .ok (.ireturn, 1) := by decide +kernel
theorem dX6_program_75 : decode cX6_program 75 = .ok (.iload_n 2, 1) := by decide +kernel
theorem dX6_program_76 : decode cX6_program 76 = .ok (.ifCond .eq 10, 3) := by decide +kernel
theorem dX6_program_79 : decode cX6_program 79 = .ok (.aload_n 0, 1) := by decide +kernel
theorem dX6_program_80 : decode cX6_program 80 = .ok (.invokevirtual 168, 3) := by decide +kernel
theorem dX6_program_83 : decode cX6_program 83 = .ok (.goto 7, 3) := by decide +kernel
theorem dX6_program_86 : decode cX6_program 86 = .ok (.aload_n 0, 1) := by decide +kernel
theorem dX6_program_87 : decode cX6_program 87 = .ok (.invokevirtual 172, 3) := by decide +kernel
theorem dX6_program_90 : decode cX6_program 90 = .ok (.ireturn, 1) := by decide +kernel
set_option maxHeartbeats 4000000 in
set_option maxRecDepth 100000 in
theorem c_copyOf0 (l : Launch) (D : va_G) (K : Nat → ClassId) (b0 : Nat) (sa : Nat × Nat × Nat) (sz : Nat) (L : List Nat) (f0 : Nat → va_E) (Ψ : Nat → Nat) (hT : TW K (gof (gdrop 612 gX1)) Ψ L f0) (ar : Nat) (hm_ar : ar ∈ L) (ht_ar : Ψ ar = 13) : Met l yJ7_copyOf_59c91 (.code yJ7_copyOf_59c91 cJ7_copyOf_59c91 3 (some (.array .int)) :: gt) { frames := 1, cells := 1, slots := 0, locals := 60 } (va_Pc [.ref ar, .int 0] (hPre D K b0 sa sz L f0)) (hQ D K b0 (fun v9 u9 => ∃ (r : Nat) (Ψ2 : Nat → Nat) (L2 : List Nat) (f2 : Nat → va_E), v9 = some (.ref r) ∧ u9 = ((gof (gdrop 612 gX1)), Ψ2, L2, f2) ∧ TW K (gof (gdrop 612 gX1)) Ψ2 L2 f2 ∧ Ex [9, 17] (fun _ => False) Ψ L f0 Ψ2 L2 f2 ∧ r ∈ L2 ∧ Ψ2 r = 17)) 1 0 (fun q => b0 ≤ q) := by
  refine t_of (own := RJ7) (by decide) rfl ?_ (Nat.le_of_ble_eq_true rfl)
  intro p e s m below meth c ls C w hsz hr hlk hnm hl
  have hx := C.1
  have hb := C.2.1
  have hl : lv_has ls 3 [(0, .ref ar), (1, .int 0)] := hl
  have hE : Ex [9, 17] (fun _ => False) Ψ L f0 Ψ L f0 := Ex.rf
  refine lv_iload_n hx hb dJ7_copyOf_59c91_0 rfl (lv_at hl 1 rfl) ?_
  refine lv_aload_n hx hb dJ7_copyOf_59c91_1 rfl (lv_at hl 0 rfl) ?_
  refine t_alen C w hT hm_ar ht_ar (by decide) rfl (v := 300) (by decide) dJ7_copyOf_59c91_2 ?_
  refine lv_icmp_ne (tgt := 14) hx hb dJ7_copyOf_59c91_3 (by decide) (fun _ => ?_) (fun c0 => absurd c0 (by decide))
  refine lv_iload_n hx hb dJ7_copyOf_59c91_14 rfl (lv_at hl 1 rfl) ?_
  refine t_newI C w hT hE (by decide) (at_ := .int) (ty := .int) (ti := 0) rfl rfl (Or.inl rfl) gw_85 (N := 0) (by decide) (by decide) (by decide) (by decide) (by decide) dJ7_copyOf_59c91_15 (fun q1 Ψ2 L2 f H w hT hE hsp hm_q1 ht_q1 hf_q1 hz_q1 hnq hbk => ?_)
  have ht_ar := (hsp ar hm_ar).2.1.trans ht_ar
  have hm_ar := (hsp ar hm_ar).1
  clear hsp hbk hnq
  obtain ⟨Ψ3, hT, hE, hs1, hs2, ht_q1x⟩ := t_tag (t := 17) hT hE ht_q1 hz_q1 (by decide) (t_tya (v := 0) (by decide) hf_q1 rfl rfl (fun i _ => rfl) (fun i => (gof_no rfl)))
  have ht_ar := (hs1 ar (by rw [ht_ar]; decide)).trans ht_ar
  have ht_q1 := ht_q1x
  clear hs1 hs2 ht_q1x
  refine lv_astore_n (lv' := [(2, .ref q1), (0, .ref ar), (1, .int 0)]) hx hb dJ7_copyOf_59c91_17 rfl hl (by decide) rfl (fun ls hl => ?_)
  refine lv_aload_n hx hb dJ7_copyOf_59c91_18 rfl (lv_at hl 1 rfl) ?_
  refine lv_iconst (v := 0) hx hb dJ7_copyOf_59c91_19 (by decide) ?_
  refine lv_aload_n hx hb dJ7_copyOf_59c91_20 rfl (lv_at hl 0 rfl) ?_
  refine lv_iconst (v := 0) hx hb dJ7_copyOf_59c91_21 (by decide) ?_
  refine lv_aload_n hx hb dJ7_copyOf_59c91_22 rfl (lv_at hl 1 rfl) ?_
  refine t_alen C w hT hm_ar ht_ar (by decide) rfl (v := 300) (by decide) dJ7_copyOf_59c91_23 ?_
  refine lv_iload_n hx hb dJ7_copyOf_59c91_24 rfl (lv_at hl 2 rfl) ?_
  refine va_mmin hx hb (C.2.2.1.trans hl.1.symm) C.2.2.2.1 (C.2.2.2.2 _ gw_912) (C.2.2.2.2 _ gw_409) (C.2.2.2.2 _ gw_15) (C.2.2.2.2 _ gw_410) (by decide) (Nat.le_of_ble_eq_true rfl) (by decide) (by decide) dJ7_copyOf_59c91_25 ?_
  refine lv_topi (fun y4 ey4 => ?_)
  obtain rfl : y4 = 0 := ey4.trans (by decide)
  refine t_copy0 C w hT hm_ar ht_ar hm_q1 ht_q1 (by decide) (by decide) (by decide) (by decide) hl.1 gw_913 gw_530 gw_529 gw_21 (by decide) (Nat.le_of_ble_eq_true rfl) dJ7_copyOf_59c91_28 (fun f H locs w hT hR1 => ?_)
  have hE := hE.up hR1
  refine lv_aload_n hx hb dJ7_copyOf_59c91_31 rfl (lv_at hl 0 rfl) ?_
  exact t_aret C hr (Or.inr ⟨_, rfl⟩) hlk w (Or.inr ⟨_, rfl⟩) ⟨_, _, _, _, rfl, rfl, hT, hE, hm_q1, ht_q1⟩ (by decide) (by decide) dJ7_copyOf_59c91_32
set_option maxHeartbeats 4000000 in
set_option maxRecDepth 100000 in
theorem c_X1_init (l : Launch) (D : va_G) (K : Nat → ClassId) (b0 : Nat) (sa : Nat × Nat × Nat) (sz : Nat) (L : List Nat) (f0 : Nat → va_E) (Ψ : Nat → Nat) (hT : TW K (gof (gdrop 612 gX1)) Ψ L f0) (x : Nat) (hm_x : x ∈ L) (ht_x : Ψ x = 9) (hf_x : f0 x = .inr (1, [.null])) (ar : Nat) (hm_ar : ar ∈ L) (ht_ar : Ψ ar = 13) : Met l yX1_init (.code yX1_init cX1_init 3 none :: gt) { frames := 2, cells := 1, slots := 0, locals := 82 } (va_Pc [.ref x, .ref ar, .int 0] (hPre D K b0 sa sz L f0)) (hQ D K b0 (fun v9 u9 => ∃ (Ψ2 : Nat → Nat) (L2 : List Nat) (f2 : Nat → va_E), v9 = none ∧ u9 = ((gof (gdrop 612 gX1)), Ψ2, L2, f2) ∧ TW K (gof (gdrop 612 gX1)) Ψ2 L2 f2 ∧ Ex [9, 17] (fun q9 => q9 = x) Ψ L f0 Ψ2 L2 f2 ∧ Ψ2 x = 1)) 1 0 (fun q => b0 ≤ q) := by
  refine t_of (own := RX1) (by decide) rfl ?_ (Nat.le_of_ble_eq_true rfl)
  intro p e s m below meth c ls C w hsz hr hlk hnm hl
  have hx := C.1
  have hb := C.2.1
  have hl : lv_has ls 3 [(0, .ref x), (1, .ref ar), (2, .int 0)] := hl
  have hE : Ex [9, 17] (fun q9 => q9 = x) Ψ L f0 Ψ L f0 := Ex.rf
  have hm0_x := hm_x
  have hz_x : x ∈ L → (fun q9 => q9 = x) x := fun _ => rfl
  refine lv_aload_n hx hb dX1_init_0 rfl (lv_at hl 0 rfl) ?_
  refine t_obj0 C hl.1 gw_900 gw_29 gw_30 dX1_init_1 (by decide) (Nat.le_of_ble_eq_true rfl) ?_
  refine lv_aload_n hx hb dX1_init_4 rfl (lv_at hl 0 rfl) ?_
  refine lv_aload_n hx hb dX1_init_5 rfl (lv_at hl 1 rfl) ?_
  refine lv_iconst (v := 0) hx hb dX1_init_6 (by decide) ?_
  refine lv_iload_n hx hb dX1_init_7 rfl (lv_at hl 2 rfl) ?_
  refine va_mmax hx hb (C.2.2.1.trans hl.1.symm) C.2.2.2.1 (C.2.2.2.2 _ gw_901) (C.2.2.2.2 _ gw_412) (C.2.2.2.2 _ gw_15) (C.2.2.2.2 _ gw_413) (by decide) (Nat.le_of_ble_eq_true rfl) (by decide) (by decide) dX1_init_8 ?_
  refine lv_topi (fun y1 ey1 => ?_)
  obtain rfl : y1 = 0 := ey1.trans (by decide)
  refine t_callS (n := 2) C w (c_copyOf0 l D K b0 sa _ L _ Ψ hT ar hm_ar ht_ar) gw_904 gw_902 gw_903 gw_4 ⟨by decide, by decide, by decide +kernel⟩ rfl rfl ⟨by decide, by decide⟩ rfl hl.1 rfl (Nat.le_of_ble_eq_true rfl) dX1_init_11 ⟨by decide, by decide⟩ (fun v u H locs hp w => ?_)
  obtain ⟨r3, Ψ2, L2, f2, rfl, rfl, hT2, hE2, hm_r3, ht_r3⟩ := hp
  have hE := hE.tr hE2 (by decide) (fun b e9 => e9.elim) (fun b e9 => e9.elim)
  have hsp := hE2.sp hm_x (fun e9 => e9)
  have hf_x := (hsp.2.2 ht_x).trans hf_x
  have ht_x := hsp.2.1.trans ht_x
  have hm_x := hsp.1
  have hsp := hE2.sp hm_ar (fun e9 => e9)
  have ht_ar := hsp.2.1.trans ht_ar
  have hm_ar := hsp.1
  clear hT
  have hT := hT2
  clear hT2 hE2
  generalize f2 = f at w hT hE hf_x
  refine t_putRF C hnm w hT hE hm_x ht_x hf_x hz_x rfl cin_1 tyX1 tyX1_ok nmX1 0 (by decide) (Nat.le_of_ble_eq_true rfl) rfl rfl rfl rfl (fs2 := [.ref r3]) rfl gw_914 dX1_init_14 (fun f H locs w hT hE hf_x hk => ?_)
  clear hk
  obtain ⟨Ψ4, hT, hE, hs1, hs2, ht_xx⟩ := t_tagX (t := 1) hT hE ht_x hm0_x rfl (t_tyo (by decide) hf_x (ds := [(1, 17)]) rfl (tyL_c (tyv_r hm_r3 ht_r3) trivial))
  have ht_ar := (hs1 ar (by rw [ht_ar]; decide)).trans ht_ar
  have ht_x := ht_xx
  clear hs1 hs2 ht_xx
  exact t_vret C hr hlk w ⟨_, _, _, rfl, rfl, hT, hE, ht_x⟩ (by decide) (by decide) dX1_init_17
set_option maxHeartbeats 4000000 in
set_option maxRecDepth 100000 in
theorem c_X4_codeRead (l : Launch) (D : va_G) (K : Nat → ClassId) (b0 : Nat) (sa : Nat × Nat × Nat) (sz : Nat) (L : List Nat) (f0 : Nat → va_E) (Ψ : Nat → Nat) (hT : TW K (gof (gdrop 612 gX1)) Ψ L f0) (rd : Nat) (hm_rd : rd ∈ L) (ht_rd : Ψ rd = 4) : Met l yX4_codeRead (.code yX4_codeRead cX4_codeRead 1 (some (.object "ClawBoxes$Code")) :: gt) { frames := 3, cells := 2, slots := 1, locals := 104 } (va_Pc [.ref rd] (hPre D K b0 sa sz L f0)) (hQ D K b0 (fun v9 u9 => ∃ (r : Nat) (Ψ2 : Nat → Nat) (L2 : List Nat) (f2 : Nat → va_E), v9 = some (.ref r) ∧ u9 = ((gof (gdrop 612 gX1)), Ψ2, L2, f2) ∧ TW K (gof (gdrop 612 gX1)) Ψ2 L2 f2 ∧ Ex [9, 1, 17] (fun _ => False) Ψ L f0 Ψ2 L2 f2 ∧ r ∈ L2 ∧ Ψ2 r = 1)) 2 1 (fun q => b0 ≤ q) := by
  refine t_of (own := RX4) (by decide) rfl ?_ (Nat.le_of_ble_eq_true rfl)
  intro p e s m below meth c ls C w hsz hr hlk hnm hl
  have hx := C.1
  have hb := C.2.1
  have hl : lv_has ls 1 [(0, .ref rd)] := hl
  have hE : Ex [9, 1, 17] (fun _ => False) Ψ L f0 Ψ L f0 := Ex.rf
  refine t_new C w hT hE (by decide) (t := 1) rfl cin_1 tyX1 tyX1_ok gw_895 gw_896 gw_20 (fs := [.null]) dfl_1 (by decide) (by decide) dX4_codeRead_0 (fun q1 Ψ2 L2 f H w hT hE hsp hm_q1 ht_q1 hf_q1 hz_q1 hnq hbk => ?_)
  have ht_rd := (hsp rd hm_rd).2.1.trans ht_rd
  have hm_rd := (hsp rd hm_rd).1
  clear hsp hbk hnq
  refine lv_dup hx hb dX4_codeRead_3 rfl ?_
  refine lv_aload_n hx hb dX4_codeRead_4 rfl (lv_at hl 0 rfl) ?_
  refine t_getr C w hT hm_rd ht_rd (by decide) rfl cin_4 6 (by decide) rfl gw_164 dX4_codeRead_5 (fun q3 hm_q3 ht_q3 => ?_)
  refine lv_aload_n hx hb dX4_codeRead_8 rfl (lv_at hl 0 rfl) ?_
  refine t_geti C w hT hm_rd ht_rd (by decide) rfl cin_4 7 (by decide) rfl rfl gw_165 dX4_codeRead_9 (fun x4 hg => ?_)
  obtain rfl : x4 = 0 := gof_at rfl hg
  refine t_callI (n := 2) C w (c_X1_init l D K b0 sa _ L2 _ Ψ2 hT q1 hm_q1 ht_q1 hf_q1 q3 hm_q3 ht_q3) gw_899 gw_897 rfl gw_898 gw_20 ⟨by decide, by decide, by decide +kernel⟩ rfl rfl ⟨by decide, by decide⟩ rfl hl.1 rfl (Nat.le_of_ble_eq_true rfl) dX4_codeRead_12 ⟨by decide, by decide⟩ (fun v u H locs hp w => ?_)
  obtain ⟨Ψ5, L5, f2, rfl, rfl, hT2, hE2, ht_q1x⟩ := hp
  have hE := hE.tr hE2 (by decide) (fun b e9 h => by have e9 : b = q1 := e9; subst e9; exact hz_q1 h) (fun b e9 => by have e9 : b = q1 := e9; subst e9; rw [ht_q1x]; decide)
  have hsp := hE2.sp hm_rd (fun e9 => by have e9 : rd = q1 := e9; rw [e9, ht_q1] at ht_rd; exact absurd ht_rd (by decide))
  have ht_rd := hsp.2.1.trans ht_rd
  have hm_rd := hsp.1
  have hm_q1 := (hE2.1 q1 hm_q1).1
  have ht_q1 := ht_q1x
  clear hT
  have hT := hT2
  clear hT2 hE2 ht_q1x
  generalize f2 = f at w hT hE
  exact t_aret C hr (Or.inl ⟨_, rfl⟩) hlk w (Or.inr ⟨_, rfl⟩) ⟨_, _, _, _, rfl, rfl, hT, hE, hm_q1, ht_q1⟩ (by decide) (by decide) dX4_codeRead_15
set_option maxHeartbeats 4000000 in
set_option maxRecDepth 100000 in
theorem c_X6_keepProgram (l : Launch) (D : va_G) (K : Nat → ClassId) (b0 : Nat) (sa : Nat × Nat × Nat) (sz : Nat) (L : List Nat) (f0 : Nat → va_E) (Ψ : Nat → Nat) (hT : TW K (gof (gdrop 612 gX1)) Ψ L f0) (x : Nat) (hm_x : x ∈ L) (ht_x : Ψ x = 6) (hu_6 : ∀ b c : Nat, b ∈ L → c ∈ L → Ψ b = 6 → Ψ c = 6 → b = c) : Met l yX6_keepProgram (.code yX6_keepProgram cX6_keepProgram 1 (some .int) :: gt) { frames := 4, cells := 2, slots := 1, locals := 124 } (va_Pc [.ref x] (hPre D K b0 sa sz L f0)) (hQ D K b0 (fun v9 u9 => ∃ (r : Int32) (Ψ2 : Nat → Nat) (L2 : List Nat) (f2 : Nat → va_E), v9 = some (.int r) ∧ u9 = ((gof gM0), Ψ2, L2, f2) ∧ TW K (gof gM0) Ψ2 L2 f2 ∧ Ex [9, 1, 17] (fun _ => False) Ψ L f0 Ψ2 L2 f2 ∧ (r = 0))) 2 1 (fun q => b0 ≤ q) := by
  refine t_of (own := RX6) (by decide) rfl ?_ (Nat.le_of_ble_eq_true rfl)
  intro p e s m below meth c ls C w hsz hr hlk hnm hl
  have hx := C.1
  have hb := C.2.1
  have hl : lv_has ls 1 [(0, .ref x)] := hl
  have hE : Ex [9, 1, 17] (fun _ => False) Ψ L f0 Ψ L f0 := Ex.rf
  have hno_6 : No (fun b => b = x) 6 Ψ L := fun b h1 h2 => hu_6 b x h1 hm_x h2 ht_x
  refine lv_aload_n hx hb dX6_keepProgram_0 rfl (lv_at hl 0 rfl) ?_
  refine t_geti C w hT hm_x ht_x (by decide) rfl cin_6 5 (by decide) rfl rfl gw_292 dX6_keepProgram_1 (fun x1 hg => ?_)
  obtain rfl : x1 = 0 := gof_at rfl hg
  refine lv_bipush (v := 6) hx hb dX6_keepProgram_4 (by decide) ?_
  refine lv_icmp_lt (tgt := 11) hx hb dX6_keepProgram_6 (by decide) (fun _ => ?_) (fun c0 => absurd c0 (by decide))
  refine lv_aload_n hx hb dX6_keepProgram_11 rfl (lv_at hl 0 rfl) ?_
  refine t_getr C w hT hm_x ht_x (by decide) rfl cin_6 4 (by decide) rfl gw_291 dX6_keepProgram_12 (fun q2 hm_q2 ht_q2 => ?_)
  refine lv_aload_n hx hb dX6_keepProgram_15 rfl (lv_at hl 0 rfl) ?_
  refine t_geti C w hT hm_x ht_x (by decide) rfl cin_6 5 (by decide) rfl rfl gw_292 dX6_keepProgram_16 (fun x3 hg => ?_)
  obtain rfl : x3 = 0 := gof_at rfl hg
  refine lv_aload_n hx hb dX6_keepProgram_19 rfl (lv_at hl 0 rfl) ?_
  refine t_getr C w hT hm_x ht_x (by decide) rfl cin_6 13 (by decide) rfl gw_300 dX6_keepProgram_20 (fun q4 hm_q4 ht_q4 => ?_)
  refine t_callV (n := 0) C w hT hm_q4 ht_q4 (by decide) rfl rfl (c_X4_codeRead l D K b0 sa _ L _ Ψ hT q4 hm_q4 ht_q4) gw_894 gw_891 gw_892 gw_893 gw_5 ⟨by decide, by decide, by decide +kernel⟩ rfl rfl ⟨by decide, by decide⟩ rfl hl.1 rfl (Nat.le_of_ble_eq_true rfl) dX6_keepProgram_23 ⟨by decide, by decide⟩ (fun v u H locs hp w => ?_)
  obtain ⟨r6, Ψ5, L5, f2, rfl, rfl, hT2, hE2, hm_r6, ht_r6⟩ := hp
  have hE := hE.tr hE2 (by decide) (fun b e9 => e9.elim) (fun b e9 => e9.elim)
  have hsp := hE2.sp hm_x (fun e9 => e9)
  have ht_x := hsp.2.1.trans ht_x
  have hm_x := hsp.1
  have hsp := hE2.sp hm_q2 (fun e9 => e9)
  have ht_q2 := hsp.2.1.trans ht_q2
  have hm_q2 := hsp.1
  have hno_6 := hno_6.call hE2 (by decide) (fun b e9 => e9.elim)
  clear hT
  have hT := hT2
  clear hT2 hE2
  generalize f2 = f at w hT hE
  refine t_aast C w hT hm_q2 ht_q2 (by decide) hm_r6 ht_r6 rfl (by decide) rfl rfl (vp_in_iff.mpr ⟨by decide, by decide⟩) dX6_keepProgram_26 (fun f H locs w hT hR1 => ?_)
  have hE := hE.up hR1
  refine lv_aload_n hx hb dX6_keepProgram_27 rfl (lv_at hl 0 rfl) ?_
  refine lv_dup hx hb dX6_keepProgram_28 rfl ?_
  refine t_geti C w hT hm_x ht_x (by decide) rfl cin_6 5 (by decide) rfl rfl gw_292 dX6_keepProgram_29 (fun x7 hg => ?_)
  obtain rfl : x7 = 0 := gof_at rfl hg
  refine lv_iconst (v := 1) hx hb dX6_keepProgram_32 (by decide) ?_
  refine lv_iadd hx hb dX6_keepProgram_33 ?_
  refine lv_topi (fun y8 ey8 => ?_)
  obtain rfl : y8 = 1 := ey8.trans (by decide)
  refine t_putS C w hT hm_x ht_x (fun b h1 h2 => (hno_6 b h1 h2).trans (hno_6 x hm_x ht_x).symm) (by decide) rfl cin_6 tyX6 tyX6_ok nmX6 5 (by decide) rfl rfl rfl rfl rfl gw_292 dX6_keepProgram_34 (fun f H locs w hT hR1 => ?_)
  have hT := hT.mono gof_set
  have hE := hE.up hR1
  refine lv_aload_n hx hb dX6_keepProgram_37 rfl (lv_at hl 0 rfl) ?_
  refine t_geti C w hT hm_x ht_x (by decide) rfl cin_6 5 (by decide) rfl rfl gw_292 dX6_keepProgram_38 (fun x9 hg => ?_)
  obtain rfl : x9 = 1 := gof_at rfl hg
  refine lv_iconst (v := 1) hx hb dX6_keepProgram_41 (by decide) ?_
  refine lv_isub hx hb dX6_keepProgram_42 ?_
  refine lv_topi (fun y10 ey10 => ?_)
  obtain rfl : y10 = 0 := ey10.trans (by decide)
  have n0 : (0 : Int32).toInt = 0 := by decide
  exact t_iret C hr hlk w ⟨_, _, _, _, rfl, rfl, (hT.mono (gof_sub rfl)), hE, rfl⟩ (by decide) (by decide) dX6_keepProgram_43
set_option maxHeartbeats 4000000 in
set_option maxRecDepth 100000 in
theorem c_X6_program (l : Launch) (hls : l.stackTraces = false) (D : va_G) (K : Nat → ClassId) (b0 : Nat) (sa : Nat × Nat × Nat) (sz : Nat) (L : List Nat) (f0 : Nat → va_E) (Ψ : Nat → Nat) (hT : TW K (gof gX1) Ψ L f0) (x : Nat) (hm_x : x ∈ L) (ht_x : Ψ x = 6) (n : Int32) (la : Int32) (hl_la : 0 ≤ la.toInt) (hh_la : la.toInt ≤ 1) (z4 : Nat) (hno_4 : No (fun b => b = z4) 4 Ψ L) (hu_6 : ∀ b c : Nat, b ∈ L → c ∈ L → Ψ b = 6 → Ψ c = 6 → b = c) : vx_Met l yX6_program (.code yX6_program cX6_program 4 (some .int) :: gt) { frames := 7, cells := 3, slots := 7, locals := 144 } (va_Pc [.ref x, .int n, .int la] (hPre D K b0 sa sz L f0)) (hQ D K b0 (fun v9 u9 => ∃ (r : Int32) (Ψ2 : Nat → Nat) (L2 : List Nat) (f2 : Nat → va_E), v9 = some (.int r) ∧ u9 = ((gof gM0), Ψ2, L2, f2) ∧ TW K (gof gM0) Ψ2 L2 f2 ∧ Ex [9, 1, 17] (fun _ => False) Ψ L f0 Ψ2 L2 f2 ∧ ((r = 0 ∧ (n.toInt = 0) ∧ (la.toInt = 0)) ∨ (r = (-9) ∧ (n.toInt = 0) ∧ (la.toInt = 1))))) (hX D K b0 (fun E u9 => ∃ f2 : Nat → va_E, u9 = ((gof gM0), Ψ, L, f2) ∧ TW K (gof gM0) Ψ L f2 ∧ rawk Ψ L f0 f2 ∧ (E = "java/lang/IllegalArgumentException" ∧ (¬ n.toInt = 0)))) 3 7 (fun q => b0 ≤ q) := by
  refine t_xof (own := RX6) (by decide) rfl ?_ (Nat.le_of_ble_eq_true rfl)
  intro p e s m below meth c ls C w hsz hr hlk htb hl
  have hx := C.1
  have hb := C.2.1
  have hl : lv_has ls 4 [(0, .ref x), (1, .int n), (2, .int la)] := hl
  have hb_n := ti_bd n
  have hb_la := ti_bd la
  have hE : Ex [9, 1, 17] (fun _ => False) Ψ L f0 Ψ L f0 := Ex.rf
  have hno_6 : No (fun b => b = x) 6 Ψ L := fun b h1 h2 => hu_6 b x h1 hm_x h2 ht_x
  refine lv_iload_n hx hb dX6_program_0 rfl (lv_at hl 1 rfl) ?_
  refine lv_iconst (v := 0) hx hb dX6_program_1 (by decide) ?_
  refine lv_aload_n hx hb dX6_program_2 rfl (lv_at hl 0 rfl) ?_
  refine t_geti C w hT hm_x ht_x (by decide) rfl cin_6 11 (by decide) rfl rfl gw_298 dX6_program_3 (fun x1 hg => ?_)
  obtain rfl : x1 = 0 := gof_at rfl hg
  have n0 : (0 : Int32).toInt = 0 := by decide
  refine t_callS (n := 3) C w (c_X6_within l D K b0 sa _ L _ Ψ (gof gX1) hT n 0 0) gw_376 gw_374 gw_375 gw_1 ⟨by decide, by decide, by decide +kernel⟩ rfl rfl ⟨by decide, by decide⟩ rfl hl.1 rfl (Nat.le_of_ble_eq_true rfl) dX6_program_6 ⟨by decide, by decide⟩ (fun v u H locs hp w => ?_)
  obtain ⟨r2, rfl, rfl, hrr2⟩ := hp
  rcases hrr2 with ⟨rfl, hf0_r2, hf1_r2⟩ | ⟨rfl, hf0_r2⟩
  ·
    have n1 : (1 : Int32).toInt = 1 := by decide
    refine t_xcallS (n := 1) C w (c_X6_need l hls D K b0 sa _ L _ Ψ (gof gX1) hT 1) gw_625 gw_623 gw_624 gw_1 ⟨by decide, by decide, by decide +kernel⟩ rfl rfl ⟨by decide, by decide⟩ rfl hl.1 rfl (Nat.le_of_ble_eq_true rfl) dX6_program_9 ⟨by decide, by decide⟩ (fun E ce q9 u H locs hp w hcell hv0 hcl => ?_) (fun v u H locs hp w => ?_)
    · obtain ⟨f2, rfl, hT2, hR1, hpx⟩ := hp
      have hR : rawk Ψ L f0 f2 := fun b hb h9 => (hR1 b (hE.1 b hb).1 (((hE.1 b hb).2 (fun e9 => e9)).1.trans h9)).trans (((hE.1 b hb).2 (fun e9 => e9)).2 h9)
      obtain ⟨rfl, hx0⟩ := hpx
      exfalso; omega
    ·
      obtain ⟨rfl, rfl, hpv0⟩ := hp
      obtain rfl : n = 0 := of_toInt (by have n0 : (0 : Int32).toInt = 0 := (by decide); omega)
      refine lv_aload_n hx hb dX6_program_12 rfl (lv_at hl 0 rfl) ?_
      refine lv_iconst (v := 0) hx hb dX6_program_13 (by decide) ?_
      refine t_puti C w hT hm_x ht_x (by decide) rfl cin_6 tyX6 tyX6_ok nmX6 11 (by decide) rfl rfl rfl rfl rfl (gof_is rfl) gw_298 dX6_program_14 (fun f H locs w hT hR1 => ?_)
      have hE := hE.up hR1
      refine lv_iload_n hx hb dX6_program_17 rfl (lv_at hl 2 rfl) ?_
      refine lv_if_eq (tgt := 36) hx hb dX6_program_18 (by decide) (fun c3 => ?_) (fun c3 => ?_)
      · have c3 := eq_toInt c3
        refine lv_aload_n hx hb dX6_program_36 rfl (lv_at hl 0 rfl) ?_
        refine t_getr C w hT hm_x ht_x (by decide) rfl cin_6 13 (by decide) rfl gw_300 dX6_program_37 (fun q4 hm_q4 ht_q4 => ?_)
        refine lv_aload_n hx hb dX6_program_40 rfl (lv_at hl 0 rfl) ?_
        refine t_getr C w hT hm_x ht_x (by decide) rfl cin_6 10 (by decide) rfl gw_297 dX6_program_41 (fun q5 hm_q5 ht_q5 => ?_)
        refine lv_iload_n hx hb dX6_program_44 rfl (lv_at hl 1 rfl) ?_
        refine t_callV (n := 2) C w hT hm_q4 ht_q4 (by decide) rfl rfl (c_X4_readProgram l D K b0 sa _ L _ Ψ hT q4 hm_q4 ht_q4 q5 hm_q5 ht_q5) gw_882 gw_879 gw_880 gw_881 gw_5 ⟨by decide, by decide, by decide +kernel⟩ rfl rfl ⟨by decide, by decide⟩ rfl hl.1 rfl (Nat.le_of_ble_eq_true rfl) dX6_program_45 ⟨by decide, by decide⟩ (fun v u H locs hp w => ?_)
        obtain ⟨r6, f2, rfl, rfl, hT2, hR1, hrr6⟩ := hp
        have hE := hE.up hR1
        clear hT
        have hT := hT2
        clear hT2
        generalize f2 = f at w hT hE
        obtain rfl := hrr6
        refine lv_istore_n (lv' := [(3, .int 1), (0, .ref x), (1, .int 0), (2, .int la)]) hx hb dX6_program_48 rfl hl (by decide) rfl (fun ls hl => ?_)
        refine lv_aload_n hx hb dX6_program_49 rfl (lv_at hl 1 rfl) ?_
        refine lv_aload_n hx hb dX6_program_50 rfl (lv_at hl 1 rfl) ?_
        refine t_getr C w hT hm_x ht_x (by decide) rfl cin_6 13 (by decide) rfl gw_300 dX6_program_51 (fun q7 hm_q7 ht_q7 => ?_)
        refine t_geti C w hT hm_q7 ht_q7 (by decide) rfl cin_4 11 (by decide) rfl rfl gw_171 dX6_program_54 (fun x8 hg => ?_)
        have hT := hT.mono (gof_sub (l2 := (gdrop 612 gX1)) rfl)
        refine t_puti C w hT hm_x ht_x (by decide) rfl cin_6 tyX6 tyX6_ok nmX6 12 (by decide) rfl rfl rfl rfl rfl (gof_no rfl) gw_299 dX6_program_57 (fun f H locs w hT hR1 => ?_)
        have hE := hE.up hR1
        refine lv_iload_n hx hb dX6_program_60 rfl (lv_at hl 0 rfl) ?_
        refine lv_if_ne (tgt := 75) hx hb dX6_program_61 (by decide) (fun _ => ?_) (fun c0 => absurd c0 (by decide))
        refine lv_iload_n hx hb dX6_program_75 rfl (lv_at hl 3 rfl) ?_
        refine lv_if_eq (tgt := 86) hx hb dX6_program_76 (by decide) (fun c9 => ?_) (fun c9 => ?_)
        · have c9 := eq_toInt c9
          refine lv_aload_n hx hb dX6_program_86 rfl (lv_at hl 1 rfl) ?_
          refine t_callV (n := 0) C w hT hm_x ht_x (by decide) rfl rfl (c_X6_keepProgram l D K b0 sa _ L _ Ψ hT x hm_x ht_x (fun b c h1 h2 h3 h4 => (hno_6 b h1 h3).trans (hno_6 c h2 h4).symm)) gw_922 gw_919 gw_921 gs_15 gw_1 ⟨by decide, by decide, by decide +kernel⟩ rfl rfl ⟨by decide, by decide⟩ rfl hl.1 rfl (Nat.le_of_ble_eq_true rfl) dX6_program_87 ⟨by decide, by decide⟩ (fun v u H locs hp w => ?_)
          obtain ⟨r11, Ψ10, L10, f2, rfl, rfl, hT2, hE2, hrr11⟩ := hp
          have hE := hE.tr hE2 (by decide) (fun b e9 => e9.elim) (fun b e9 => e9.elim)
          have hsp := hE2.sp hm_x (fun e9 => e9)
          have ht_x := hsp.2.1.trans ht_x
          have hm_x := hsp.1
          have hno_4 := hno_4.call hE2 (by decide) (fun b e9 => e9.elim)
          have hno_6 := hno_6.call hE2 (by decide) (fun b e9 => e9.elim)
          clear hT
          have hT := hT2
          clear hT2 hE2
          generalize f2 = f at w hT hE
          obtain rfl := hrr11
          refine vx_ret ?_
          exact t_iret C hr hlk w ⟨_, _, _, _, rfl, rfl, hT, hE, Or.inl ⟨rfl, (by decide), (by omega)⟩⟩ (by decide) (by decide) dX6_program_90
        · exact absurd (ne_toInt c9) (by omega)
      · have c3 := ne_toInt c3
        refine lv_aload_n hx hb dX6_program_21 rfl (lv_at hl 0 rfl) ?_
        refine t_getr C w hT hm_x ht_x (by decide) rfl cin_6 13 (by decide) rfl gw_300 dX6_program_22 (fun q12 hm_q12 ht_q12 => ?_)
        refine lv_aload_n hx hb dX6_program_25 rfl (lv_at hl 0 rfl) ?_
        refine t_getr C w hT hm_x ht_x (by decide) rfl cin_6 10 (by decide) rfl gw_297 dX6_program_26 (fun q13 hm_q13 ht_q13 => ?_)
        refine lv_iload_n hx hb dX6_program_29 rfl (lv_at hl 1 rfl) ?_
        refine t_callV (n := 2) C w hT hm_q12 ht_q12 (by decide) rfl rfl (c_X4_readLaw l D K b0 sa _ L _ Ψ hT q12 hm_q12 ht_q12 q13 hm_q13 ht_q13 (fun b c h1 h2 h3 h4 => (hno_4 b h1 h3).trans (hno_4 c h2 h4).symm)) gw_727 gw_724 gw_725 gw_726 gw_5 ⟨by decide, by decide, by decide +kernel⟩ rfl rfl ⟨by decide, by decide⟩ rfl hl.1 rfl (Nat.le_of_ble_eq_true rfl) dX6_program_30 ⟨by decide, by decide⟩ (fun v u H locs hp w => ?_)
        obtain ⟨r14, f2, rfl, rfl, hT2, hR1, hrr14⟩ := hp
        have hE := hE.up hR1
        clear hT
        have hT := hT2
        clear hT2
        generalize f2 = f at w hT hE
        obtain rfl := hrr14
        refine lv_goto (tgt := 48) hx hb dX6_program_33 (by decide) ?_
        refine lv_istore_n (lv' := [(3, .int 0), (0, .ref x), (1, .int 0), (2, .int la)]) hx hb dX6_program_48 rfl hl (by decide) rfl (fun ls hl => ?_)
        refine lv_aload_n hx hb dX6_program_49 rfl (lv_at hl 1 rfl) ?_
        refine lv_aload_n hx hb dX6_program_50 rfl (lv_at hl 1 rfl) ?_
        refine t_getr C w hT hm_x ht_x (by decide) rfl cin_6 13 (by decide) rfl gw_300 dX6_program_51 (fun q15 hm_q15 ht_q15 => ?_)
        refine t_geti C w hT hm_q15 ht_q15 (by decide) rfl cin_4 11 (by decide) rfl rfl gw_171 dX6_program_54 (fun x16 hg => ?_)
        have hT := hT.mono (gof_sub (l2 := (gdrop 612 ((410, 1) :: gX1))) rfl)
        refine t_puti C w hT hm_x ht_x (by decide) rfl cin_6 tyX6 tyX6_ok nmX6 12 (by decide) rfl rfl rfl rfl rfl (gof_no rfl) gw_299 dX6_program_57 (fun f H locs w hT hR1 => ?_)
        have hE := hE.up hR1
        refine lv_iload_n hx hb dX6_program_60 rfl (lv_at hl 0 rfl) ?_
        refine lv_if_ne (tgt := 75) hx hb dX6_program_61 (by decide) (fun c0 => absurd c0 (by decide)) (fun _ => ?_)
        refine lv_aload_n hx hb dX6_program_64 rfl (lv_at hl 1 rfl) ?_
        refine t_getr C w hT hm_x ht_x (by decide) rfl cin_6 13 (by decide) rfl gw_300 dX6_program_65 (fun q17 hm_q17 ht_q17 => ?_)
        refine t_geti C w hT hm_q17 ht_q17 (by decide) rfl cin_4 10 (by decide) rfl rfl gw_169 dX6_program_68 (fun x18 hg => ?_)
        obtain rfl : x18 = 1 := gof_at rfl hg
        refine lv_bipush (v := 10) hx hb dX6_program_71 (by decide) ?_
        refine lv_isub hx hb dX6_program_73 ?_
        refine lv_topi (fun y19 ey19 => ?_)
        obtain rfl : y19 = (-9) := ey19.trans (by decide)
        have nm9 : ((-9) : Int32).toInt = -9 := by decide
        refine vx_ret ?_
        exact t_iret C hr hlk w ⟨_, _, _, _, rfl, rfl, (hT.mono (gof_sub rfl)), hE, Or.inr (⟨rfl, (by decide), (by omega)⟩)⟩ (by decide) (by decide) dX6_program_74
  ·
    refine t_xcallS (n := 1) C w (c_X6_need l hls D K b0 sa _ L _ Ψ (gof gX1) hT 0) gw_625 gw_623 gw_624 gw_1 ⟨by decide, by decide, by decide +kernel⟩ rfl rfl ⟨by decide, by decide⟩ rfl hl.1 rfl (Nat.le_of_ble_eq_true rfl) dX6_program_9 ⟨by decide, by decide⟩ (fun E ce q9 u H locs hp w hcell hv0 hcl => ?_) (fun v u H locs hp w => ?_)
    · obtain ⟨f2, rfl, hT2, hR1, hpx⟩ := hp
      have hR : rawk Ψ L f0 f2 := fun b hb h9 => (hR1 b (hE.1 b hb).1 (((hE.1 b hb).2 (fun e9 => e9)).1.trans h9)).trans (((hE.1 b hb).2 (fun e9 => e9)).2 h9)
      obtain ⟨rfl, hx0⟩ := hpx
      exact t_xout w htb hlk hcell hv0 hcl ⟨_, rfl, (hT2.mono (gof_sub rfl)), hR, ⟨rfl, (by omega)⟩⟩ (by decide) (by decide)
    ·
      obtain ⟨rfl, rfl, hpv0⟩ := hp
      exfalso; omega
