theorem dX3_grip_0 : decode cX3_grip 0 = .ok (.iconst 0, 1) := by decide +kernel
theorem dX3_grip_1 : decode cX3_grip 1 = .ok (.sipush 999, 3) := by decide +kernel
theorem dX3_grip_4 : decode cX3_grip 4 = .ok (.aload_n 0, 1) := by decide +kernel
theorem dX3_grip_5 : decode cX3_grip 5 = .ok (.getfield 19, 3) := by decide +kernel
theorem dX3_grip_8 : decode cX3_grip 8 = .ok (.iconst 0, 1) := by decide +kernel
theorem dX3_grip_9 : decode cX3_grip 9 = .ok (.iaload, 1) := by decide +kernel
theorem dX3_grip_10 : decode cX3_grip 10 = .ok (.invokestatic 22, 3) := by decide +kernel
theorem dX3_grip_13 : decode cX3_grip 13 = .ok (.invokestatic 28, 3) := by decide +kernel
theorem dX3_grip_16 : decode cX3_grip 16 = .ok (.ireturn, 1) := by decide +kernel
theorem dX3_slip_0 : decode cX3_slip 0 = .ok (.iconst 0, 1) := by decide +kernel
theorem dX3_slip_1 : decode cX3_slip 1 = .ok (.sipush 999, 3) := by decide +kernel
theorem dX3_slip_4 : decode cX3_slip 4 = .ok (.aload_n 0, 1) := by decide +kernel
theorem dX3_slip_5 : decode cX3_slip 5 = .ok (.getfield 19, 3) := by decide +kernel
theorem dX3_slip_8 : decode cX3_slip 8 = .ok (.iconst 1, 1) := by decide +kernel
theorem dX3_slip_9 : decode cX3_slip 9 = .ok (.iaload, 1) := by decide +kernel
theorem dX3_slip_10 : decode cX3_slip 10 = .ok (.invokestatic 22, 3) := by decide +kernel
theorem dX3_slip_13 : decode cX3_slip 13 = .ok (.invokestatic 28, 3) := by decide +kernel
theorem dX3_slip_16 : decode cX3_slip 16 = .ok (.ireturn, 1) := by decide +kernel
theorem dX3_lots_0 : decode cX3_lots 0 = .ok (.iconst 1, 1) := by decide +kernel
theorem dX3_lots_1 : decode cX3_lots 1 = .ok (.bipush 36, 2) := by decide +kernel
theorem dX3_lots_3 : decode cX3_lots 3 = .ok (.aload_n 0, 1) := by decide +kernel
theorem dX3_lots_4 : decode cX3_lots 4 = .ok (.getfield 19, 3) := by decide +kernel
theorem dX3_lots_7 : decode cX3_lots 7 = .ok (.iconst 2, 1) := by decide +kernel
theorem dX3_lots_8 : decode cX3_lots 8 = .ok (.iaload, 1) := by decide +kernel
theorem dX3_lots_9 : decode cX3_lots 9 = .ok (.invokestatic 22, 3) := by decide +kernel
theorem dX3_lots_12 : decode cX3_lots 12 = .ok (.invokestatic 28, 3) := by decide +kernel
theorem dX3_lots_15 : decode cX3_lots 15 = .ok (.ireturn, 1) := by decide +kernel
theorem dX3_run_0 : decode cX3_run 0 = .ok (.aload_n 0, 1) := by decide +kernel
theorem dX3_run_1 : decode cX3_run 1 = .ok (.iconst 0, 1) := by decide +kernel
theorem dX3_run_2 : decode cX3_run 2 = .ok (.putfield 15, 3) := by decide +kernel
theorem dX3_run_5 : decode cX3_run 5 = .ok (.aload_n 0, 1) := by decide +kernel
theorem dX3_run_6 : decode cX3_run 6 = .ok (.getfield 19, 3) := by decide +kernel
theorem dX3_run_9 : decode cX3_run 9 = .ok (.iconst 0, 1) := by decide +kernel
theorem dX3_run_10 : decode cX3_run 10 = .ok (.invokestatic 39, 3) := by decide +kernel
theorem dX3_run_13 : decode cX3_run 13 = .ok (.aload_n 1, 1) := by decide +kernel
theorem dX3_run_14 : decode cX3_run 14 = .ok (.ifnonnull 4, 3) := by decide +kernel
theorem dX3_run_17 : decode cX3_run 17 = .ok (.return_, 1) := by decide +kernel
theorem dX3_run_18 : decode cX3_run 18 = .ok (.iconst 0, 1) := by decide +kernel
theorem dX3_run_19 : decode cX3_run 19 = .ok (.istore 4, 2) := by decide +kernel
theorem dX3_run_21 : decode cX3_run 21 = .ok (.iload 4, 2) := by decide +kernel
theorem dX3_run_23 : decode cX3_run 23 = .ok (.aload_n 1, 1) := by decide +kernel
theorem dX3_run_24 : decode cX3_run 24 = .ok (.getfield 45, 3) := by decide +kernel
theorem dX3_run_27 : decode cX3_run 27 = .ok (.arraylength, 1) := by decide +kernel
theorem dX3_run_28 : decode cX3_run 28 = .ok (.if_icmp .ge 67, 3) := by decide +kernel
theorem dX3_run_31 : decode cX3_run 31 = .ok (.aload_n 1, 1) := by decide +kernel
theorem dX3_run_32 : decode cX3_run 32 = .ok (.getfield 45, 3) := by decide +kernel
theorem dX3_run_35 : decode cX3_run 35 = .ok (.iload 4, 2) := by decide +kernel
theorem dX3_run_37 : decode cX3_run 37 = .ok (.iaload, 1) := by decide +kernel
theorem dX3_run_38 : decode cX3_run 38 = .ok (.istore 5, 2) := by decide +kernel
theorem dX3_run_40 : decode cX3_run 40 = .ok (.iload 5, 2) := by decide +kernel
theorem dX3_run_42 : decode cX3_run 42 = .ok (.sipush 1000, 3) := by decide +kernel
theorem dX3_run_45 : decode cX3_run 45 = .ok (.if_icmp .ge 12, 3) := by decide +kernel
theorem dX3_run_48 : decode cX3_run 48 = .ok (.aload_n 0, 1) := by decide +kernel
theorem dX3_run_49 : decode cX3_run 49 = .ok (.iload 5, 2) := by decide +kernel
theorem dX3_run_51 : decode cX3_run 51 = .ok (.invokevirtual 50, 3) := by decide +kernel
theorem dX3_run_54 : decode cX3_run 54 = .ok (.goto 35, 3) := by decide +kernel
theorem dX3_run_57 : decode cX3_run 57 = .ok (.iload 5, 2) := by decide +kernel
theorem dX3_run_59 : decode cX3_run 59 = .ok (.sipush 2000, 3) := by decide +kernel
theorem dX3_run_62 : decode cX3_run 62 = .ok (.if_icmp .ge 21, 3) := by decide +kernel
theorem dX3_run_65 : decode cX3_run 65 = .ok (.aload_n 0, 1) := by decide +kernel
theorem dX3_run_66 : decode cX3_run 66 = .ok (.iload 5, 2) := by decide +kernel
theorem dX3_run_68 : decode cX3_run 68 = .ok (.sipush 1000, 3) := by decide +kernel
theorem dX3_run_71 : decode cX3_run 71 = .ok (.isub, 1) := by decide +kernel
theorem dX3_run_72 : decode cX3_run 72 = .ok (.aload_n 2, 1) := by decide +kernel
theorem dX3_run_73 : decode cX3_run 73 = .ok (.iload_n 3, 1) := by decide +kernel
theorem dX3_run_74 : decode cX3_run 74 = .ok (.invokestatic 54, 3) := by decide +kernel
theorem dX3_run_77 : decode cX3_run 77 = .ok (.invokevirtual 50, 3) := by decide +kernel
theorem dX3_run_80 : decode cX3_run 80 = .ok (.goto 9, 3) := by decide +kernel
theorem dX3_run_83 : decode cX3_run 83 = .ok (.aload_n 0, 1) := by decide +kernel
theorem dX3_run_84 : decode cX3_run 84 = .ok (.iload 5, 2) := by decide +kernel
theorem dX3_run_86 : decode cX3_run 86 = .ok (.invokevirtual 58, 3) := by decide +kernel
theorem dX3_run_89 : decode cX3_run 89 = .ok (.iinc 4 1, 3) := by decide +kernel
theorem dX3_run_92 : decode cX3_run 92 = .ok (.goto (-71), 3) := by decide +kernel
theorem dX3_run_95 : decode cX3_run 95 = .ok (.return_, 1) := by decide +kernel
set_option maxHeartbeats 4000000 in
set_option maxRecDepth 100000 in
theorem c_X3_grip (l : Launch) (D : va_G) (K : Nat → ClassId) (b0 : Nat) (sa : Nat × Nat × Nat) (sz : Nat) (L : List Nat) (f0 : Nat → va_E) (Ψ : Nat → Nat) (hT : TW K (gof gX1) Ψ L f0) (mc_ : Nat) (hm_mc_ : mc_ ∈ L) (ht_mc_ : Ψ mc_ = 3) : Met l yX3_grip (.code yX3_grip cX3_grip 1 (some .int) :: gt) { frames := 1, cells := 0, slots := 0, locals := 19 } (va_Pc [.ref mc_] (hPre D K b0 sa sz L f0)) (hQ D K b0 (fun v9 u9 => ∃ r : Int32, v9 = some (.int r) ∧ u9 = ((gof gX1), Ψ, L, f0) ∧ (r = 0))) 0 0 (fun q => b0 ≤ q) := by
  refine t_of (own := RX3) (by decide) rfl ?_ (Nat.le_of_ble_eq_true rfl)
  intro p e s m below meth c ls C w hsz hr hlk hnm hl
  have hx := C.1
  have hb := C.2.1
  have hl : lv_has ls 1 [(0, .ref mc_)] := hl
  have hR : rawk Ψ L f0 f0 := rawk.rf
  refine lv_iconst (v := 0) hx hb dX3_grip_0 (by decide) ?_
  refine lv_sipush (v := 999) hx hb dX3_grip_1 (by decide) ?_
  refine lv_aload_n hx hb dX3_grip_4 rfl (lv_at hl 0 rfl) ?_
  refine t_getr C w hT hm_mc_ ht_mc_ (by decide) rfl cin_3 2 (by decide) rfl gw_205 dX3_grip_5 (fun q1 hm_q1 ht_q1 => ?_)
  refine lv_iconst (v := 0) hx hb dX3_grip_8 (by decide) ?_
  refine t_iald C w hT hm_q1 ht_q1 (by decide) (by decide) rfl (vp_in_iff.mpr ⟨by decide, by decide⟩) dX3_grip_9 (fun x2 hg => ?_)
  obtain rfl : x2 = 0 := gof_at rfl hg
  refine va_mmin hx hb (C.2.2.1.trans hl.1.symm) C.2.2.2.1 (C.2.2.2.2 _ gw_408) (C.2.2.2.2 _ gw_409) (C.2.2.2.2 _ gw_15) (C.2.2.2.2 _ gw_410) (by decide) (Nat.le_of_ble_eq_true rfl) (by decide) (by decide) dX3_grip_10 ?_
  refine lv_topi (fun y3 ey3 => ?_)
  obtain rfl : y3 = 0 := ey3.trans (by decide)
  refine va_mmax hx hb (C.2.2.1.trans hl.1.symm) C.2.2.2.1 (C.2.2.2.2 _ gw_411) (C.2.2.2.2 _ gw_412) (C.2.2.2.2 _ gw_15) (C.2.2.2.2 _ gw_413) (by decide) (Nat.le_of_ble_eq_true rfl) (by decide) (by decide) dX3_grip_13 ?_
  refine lv_topi (fun y4 ey4 => ?_)
  obtain rfl : y4 = 0 := ey4.trans (by decide)
  have n0 : (0 : Int32).toInt = 0 := by decide
  exact t_iret C hr hlk w ⟨_, rfl, rfl, rfl⟩ (by decide) (by decide) dX3_grip_16
set_option maxHeartbeats 4000000 in
set_option maxRecDepth 100000 in
theorem c_X3_slip (l : Launch) (D : va_G) (K : Nat → ClassId) (b0 : Nat) (sa : Nat × Nat × Nat) (sz : Nat) (L : List Nat) (f0 : Nat → va_E) (Ψ : Nat → Nat) (hT : TW K (gof gX1) Ψ L f0) (mc_ : Nat) (hm_mc_ : mc_ ∈ L) (ht_mc_ : Ψ mc_ = 3) : Met l yX3_slip (.code yX3_slip cX3_slip 1 (some .int) :: gt) { frames := 1, cells := 0, slots := 0, locals := 19 } (va_Pc [.ref mc_] (hPre D K b0 sa sz L f0)) (hQ D K b0 (fun v9 u9 => ∃ r : Int32, v9 = some (.int r) ∧ u9 = ((gof gX1), Ψ, L, f0) ∧ (r = 0))) 0 0 (fun q => b0 ≤ q) := by
  refine t_of (own := RX3) (by decide) rfl ?_ (Nat.le_of_ble_eq_true rfl)
  intro p e s m below meth c ls C w hsz hr hlk hnm hl
  have hx := C.1
  have hb := C.2.1
  have hl : lv_has ls 1 [(0, .ref mc_)] := hl
  have hR : rawk Ψ L f0 f0 := rawk.rf
  refine lv_iconst (v := 0) hx hb dX3_slip_0 (by decide) ?_
  refine lv_sipush (v := 999) hx hb dX3_slip_1 (by decide) ?_
  refine lv_aload_n hx hb dX3_slip_4 rfl (lv_at hl 0 rfl) ?_
  refine t_getr C w hT hm_mc_ ht_mc_ (by decide) rfl cin_3 2 (by decide) rfl gw_205 dX3_slip_5 (fun q1 hm_q1 ht_q1 => ?_)
  refine lv_iconst (v := 1) hx hb dX3_slip_8 (by decide) ?_
  refine t_iald C w hT hm_q1 ht_q1 (by decide) (by decide) rfl (vp_in_iff.mpr ⟨by decide, by decide⟩) dX3_slip_9 (fun x2 hg => ?_)
  obtain rfl : x2 = 0 := gof_at rfl hg
  refine va_mmin hx hb (C.2.2.1.trans hl.1.symm) C.2.2.2.1 (C.2.2.2.2 _ gw_408) (C.2.2.2.2 _ gw_409) (C.2.2.2.2 _ gw_15) (C.2.2.2.2 _ gw_410) (by decide) (Nat.le_of_ble_eq_true rfl) (by decide) (by decide) dX3_slip_10 ?_
  refine lv_topi (fun y3 ey3 => ?_)
  obtain rfl : y3 = 0 := ey3.trans (by decide)
  refine va_mmax hx hb (C.2.2.1.trans hl.1.symm) C.2.2.2.1 (C.2.2.2.2 _ gw_411) (C.2.2.2.2 _ gw_412) (C.2.2.2.2 _ gw_15) (C.2.2.2.2 _ gw_413) (by decide) (Nat.le_of_ble_eq_true rfl) (by decide) (by decide) dX3_slip_13 ?_
  refine lv_topi (fun y4 ey4 => ?_)
  obtain rfl : y4 = 0 := ey4.trans (by decide)
  have n0 : (0 : Int32).toInt = 0 := by decide
  exact t_iret C hr hlk w ⟨_, rfl, rfl, rfl⟩ (by decide) (by decide) dX3_slip_16
set_option maxHeartbeats 4000000 in
set_option maxRecDepth 100000 in
theorem c_X3_lots (l : Launch) (D : va_G) (K : Nat → ClassId) (b0 : Nat) (sa : Nat × Nat × Nat) (sz : Nat) (L : List Nat) (f0 : Nat → va_E) (Ψ : Nat → Nat) (hT : TW K (gof gX1) Ψ L f0) (mc_ : Nat) (hm_mc_ : mc_ ∈ L) (ht_mc_ : Ψ mc_ = 3) : Met l yX3_lots (.code yX3_lots cX3_lots 1 (some .int) :: gt) { frames := 1, cells := 0, slots := 0, locals := 19 } (va_Pc [.ref mc_] (hPre D K b0 sa sz L f0)) (hQ D K b0 (fun v9 u9 => ∃ r : Int32, v9 = some (.int r) ∧ u9 = ((gof gX1), Ψ, L, f0) ∧ (r = 1))) 0 0 (fun q => b0 ≤ q) := by
  refine t_of (own := RX3) (by decide) rfl ?_ (Nat.le_of_ble_eq_true rfl)
  intro p e s m below meth c ls C w hsz hr hlk hnm hl
  have hx := C.1
  have hb := C.2.1
  have hl : lv_has ls 1 [(0, .ref mc_)] := hl
  have hR : rawk Ψ L f0 f0 := rawk.rf
  refine lv_iconst (v := 1) hx hb dX3_lots_0 (by decide) ?_
  refine lv_bipush (v := 36) hx hb dX3_lots_1 (by decide) ?_
  refine lv_aload_n hx hb dX3_lots_3 rfl (lv_at hl 0 rfl) ?_
  refine t_getr C w hT hm_mc_ ht_mc_ (by decide) rfl cin_3 2 (by decide) rfl gw_205 dX3_lots_4 (fun q1 hm_q1 ht_q1 => ?_)
  refine lv_iconst (v := 2) hx hb dX3_lots_7 (by decide) ?_
  refine t_iald C w hT hm_q1 ht_q1 (by decide) (by decide) rfl (vp_in_iff.mpr ⟨by decide, by decide⟩) dX3_lots_8 (fun x2 hg => ?_)
  obtain rfl : x2 = 0 := gof_at rfl hg
  refine va_mmin hx hb (C.2.2.1.trans hl.1.symm) C.2.2.2.1 (C.2.2.2.2 _ gw_408) (C.2.2.2.2 _ gw_409) (C.2.2.2.2 _ gw_15) (C.2.2.2.2 _ gw_410) (by decide) (Nat.le_of_ble_eq_true rfl) (by decide) (by decide) dX3_lots_9 ?_
  refine lv_topi (fun y3 ey3 => ?_)
  obtain rfl : y3 = 0 := ey3.trans (by decide)
  refine va_mmax hx hb (C.2.2.1.trans hl.1.symm) C.2.2.2.1 (C.2.2.2.2 _ gw_411) (C.2.2.2.2 _ gw_412) (C.2.2.2.2 _ gw_15) (C.2.2.2.2 _ gw_413) (by decide) (Nat.le_of_ble_eq_true rfl) (by decide) (by decide) dX3_lots_12 ?_
  refine lv_topi (fun y4 ey4 => ?_)
  obtain rfl : y4 = 1 := ey4.trans (by decide)
  have n1 : (1 : Int32).toInt = 1 := by decide
  exact t_iret C hr hlk w ⟨_, rfl, rfl, rfl⟩ (by decide) (by decide) dX3_lots_15
set_option maxHeartbeats 4000000 in
set_option maxRecDepth 100000 in
theorem c_X3_run (l : Launch) (D : va_G) (K : Nat → ClassId) (b0 : Nat) (sa : Nat × Nat × Nat) (sz : Nat) (L : List Nat) (f0 : Nat → va_E) (Ψ : Nat → Nat) (hT : TW K (gof gX1) Ψ L f0) (mc_ : Nat) (hm_mc_ : mc_ ∈ L) (ht_mc_ : Ψ mc_ = 3) (y : Nat) (hm_y : y ∈ L) (ht_y : Ψ y = 5) (lt : Int32) : Met l yX3_run (.code yX3_run cX3_run 6 none :: gt) { frames := 1, cells := 0, slots := 0, locals := 23 } (va_Pc [.ref mc_, .null, .ref y, .int lt] (hPre D K b0 sa sz L f0)) (hQ D K b0 (fun v9 u9 => ∃ f2 : Nat → va_E, v9 = none ∧ u9 = ((gof gX1), Ψ, L, f2) ∧ TW K (gof gX1) Ψ L f2 ∧ rawk Ψ L f0 f2)) 0 0 (fun q => b0 ≤ q) := by
  refine t_of (own := RX3) (by decide) rfl ?_ (Nat.le_of_ble_eq_true rfl)
  intro p e s m below meth c ls C w hsz hr hlk hnm hl
  have hx := C.1
  have hb := C.2.1
  have hl : lv_has ls 6 [(0, .ref mc_), (1, .null), (2, .ref y), (3, .int lt)] := hl
  have hb_lt := ti_bd lt
  have hR : rawk Ψ L f0 f0 := rawk.rf
  refine lv_aload_n hx hb dX3_run_0 rfl (lv_at hl 0 rfl) ?_
  refine lv_iconst (v := 0) hx hb dX3_run_1 (by decide) ?_
  refine t_puti C w hT hm_mc_ ht_mc_ (by decide) rfl cin_3 tyX3 tyX3_ok nmX3 1 (by decide) rfl rfl rfl rfl rfl (gof_no rfl) gw_204 dX3_run_2 (fun f H locs w hT hR1 => ?_)
  have hR := hR.tr hR1
  refine lv_aload_n hx hb dX3_run_5 rfl (lv_at hl 0 rfl) ?_
  refine t_getr C w hT hm_mc_ ht_mc_ (by decide) rfl cin_3 2 (by decide) rfl gw_205 dX3_run_6 (fun q1 hm_q1 ht_q1 => ?_)
  refine lv_iconst (v := 0) hx hb dX3_run_9 (by decide) ?_
  refine t_callS (n := 2) C w (c_fill3 l D K b0 sa _ L _ Ψ hT q1 hm_q1 ht_q1) gw_45 gw_385 gw_44 gw_4 ⟨by decide, by decide, by decide +kernel⟩ rfl rfl ⟨by decide, by decide⟩ rfl hl.1 rfl (Nat.le_of_ble_eq_true rfl) dX3_run_10 ⟨by decide, by decide⟩ (fun v u H locs hp w => ?_)
  obtain ⟨f2, rfl, rfl, hT2, hR1⟩ := hp
  have hR := hR.tr hR1
  clear hT
  have hT := hT2
  clear hT2
  generalize f2 = f at w hT hR
  refine lv_aload_nN hx hb dX3_run_13 rfl (lv_at hl 1 rfl) ?_
  refine lv_ifnonnullN hx hb dX3_run_14 ?_
  exact t_vret C hr hlk w ⟨_, rfl, rfl, hT, hR⟩ (by decide) (by decide) dX3_run_17
