theorem dX2_known_0 : decode cX2_known 0 = .ok (.iload_n 1, 1) := by decide +kernel
theorem dX2_known_1 : decode cX2_known 1 = .ok (.ifCond .lt 21, 3) := by decide +kernel
theorem dX2_known_4 : decode cX2_known 4 = .ok (.iload_n 1, 1) := by decide +kernel
theorem dX2_known_5 : decode cX2_known 5 = .ok (.aload_n 0, 1) := by decide +kernel
theorem dX2_known_6 : decode cX2_known 6 = .ok (.getfield 9, 3) := by decide +kernel
theorem dX2_known_9 : decode cX2_known 9 = .ok (.if_icmp .ge 13, 3) := by decide +kernel
theorem dX2_known_12 : decode cX2_known 12 = .ok (.iload_n 1, 1) := by decide +kernel
theorem dX2_known_13 : decode cX2_known 13 = .ok (.bipush 24, 2) := by decide +kernel
theorem dX2_known_15 : decode cX2_known 15 = .ok (.if_icmp .ge 7, 3) := by decide +kernel
theorem dX2_known_18 : decode cX2_known 18 = .ok (.iconst 1, 1) := by decide +kernel
theorem dX2_known_19 : decode cX2_known 19 = .ok (.goto 4, 3) := by decide +kernel
theorem dX2_known_22 : decode cX2_known 22 = .ok (.iconst 0, 1) := by decide +kernel
theorem dX2_known_23 : decode cX2_known 23 = .ok (.ireturn, 1) := by decide +kernel
theorem dX2_levelOf_0 : decode cX2_levelOf 0 = .ok (.aload_n 0, 1) := by decide +kernel
theorem dX2_levelOf_1 : decode cX2_levelOf 1 = .ok (.iload_n 1, 1) := by decide +kernel
theorem dX2_levelOf_2 : decode cX2_levelOf 2 = .ok (.invokevirtual 50, 3) := by decide +kernel
theorem dX2_levelOf_5 : decode cX2_levelOf 5 = .ok (.ifCond .eq 12, 3) := by decide +kernel
theorem dX2_levelOf_8 : decode cX2_levelOf 8 = .ok (.aload_n 0, 1) := by decide +kernel
theorem dX2_levelOf_9 : decode cX2_levelOf 9 = .ok (.getfield 31, 3) := by decide +kernel
theorem dX2_levelOf_12 : decode cX2_levelOf 12 = .ok (.iload_n 1, 1) := by decide +kernel
theorem dX2_levelOf_13 : decode cX2_levelOf 13 = .ok (.iaload, 1) := by decide +kernel
theorem dX2_levelOf_14 : decode cX2_levelOf 14 = .ok (.ifCond .ge 5, 3) := by decide +kernel
theorem dX2_levelOf_17 : decode cX2_levelOf 17 = .ok (.iconst (-1), 1) := by decide +kernel
theorem dX2_levelOf_18 : decode cX2_levelOf 18 = .ok (.ireturn, 1) := by decide +kernel
theorem dX2_levelOf_19 : decode cX2_levelOf 19 = .ok (.iconst 0, 1) := by decide +kernel
theorem dX2_levelOf_20 : decode cX2_levelOf 20 = .ok (.istore_n 2, 1) := by decide +kernel
theorem dX2_levelOf_21 : decode cX2_levelOf 21 = .ok (.aload_n 0, 1) := by decide +kernel
theorem dX2_levelOf_22 : decode cX2_levelOf 22 = .ok (.getfield 34, 3) := by decide +kernel
theorem dX2_levelOf_25 : decode cX2_levelOf 25 = .ok (.iload_n 1, 1) := by decide +kernel
theorem dX2_levelOf_26 : decode cX2_levelOf 26 = .ok (.iaload, 1) := by decide +kernel
theorem dX2_levelOf_27 : decode cX2_levelOf 27 = .ok (.istore_n 3, 1) := by decide +kernel
theorem dX2_levelOf_28 : decode cX2_levelOf 28 = .ok (.iconst 0, 1) := by decide +kernel
theorem dX2_levelOf_29 : decode cX2_levelOf 29 = .ok (.istore 4, 2) := by decide +kernel
theorem dX2_levelOf_31 : decode cX2_levelOf 31 = .ok (.iload 4, 2) := by decide +kernel
theorem dX2_levelOf_33 : decode cX2_levelOf 33 = .ok (.bipush 24, 2) := by decide +kernel
theorem dX2_levelOf_35 : decode cX2_levelOf 35 = .ok (.if_icmp .ge 27, 3) := by decide +kernel
theorem dX2_levelOf_38 : decode cX2_levelOf 38 = .ok (.aload_n 0, 1) := by decide +kernel
theorem dX2_levelOf_39 : decode cX2_levelOf 39 = .ok (.iload_n 3, 1) := by decide +kernel
theorem dX2_levelOf_40 : decode cX2_levelOf 40 = .ok (.invokevirtual 50, 3) := by decide +kernel
theorem dX2_levelOf_43 : decode cX2_levelOf 43 = .ok (.ifCond .eq 19, 3) := by decide +kernel
theorem dX2_levelOf_46 : decode cX2_levelOf 46 = .ok (.iinc 2 1, 3) := by decide +kernel
theorem dX2_levelOf_49 : decode cX2_levelOf 49 = .ok (.aload_n 0, 1) := by decide +kernel
theorem dX2_levelOf_50 : decode cX2_levelOf 50 = .ok (.getfield 34, 3) := by decide +kernel
theorem dX2_levelOf_53 : decode cX2_levelOf 53 = .ok (.iload_n 3, 1) := by decide +kernel
theorem dX2_levelOf_54 : decode cX2_levelOf 54 = .ok (.iaload, 1) := by decide +kernel
theorem dX2_levelOf_55 : decode cX2_levelOf 55 = .ok (.istore_n 3, 1) := by decide +kernel
theorem dX2_levelOf_56 : decode cX2_levelOf 56 = .ok (.iinc 4 1, 3) := by decide +kernel
theorem dX2_levelOf_59 : decode cX2_levelOf 59 = .ok (.goto (-28), 3) := by decide +kernel
theorem dX2_levelOf_62 : decode cX2_levelOf 62 = .ok (.iload_n 2, 1) := by decide +kernel
theorem dX2_levelOf_63 : decode cX2_levelOf 63 = .ok (.ireturn, 1) := by decide +kernel
set_option maxHeartbeats 4000000 in
set_option maxRecDepth 100000 in
theorem c_X2_known (l : Launch) (D : va_G) (K : Nat → ClassId) (b0 : Nat) (sa : Nat × Nat × Nat) (sz : Nat) (L : List Nat) (f0 : Nat → va_E) (Ψ : Nat → Nat) (hT : TW K (gof gX1) Ψ L f0) (h : Nat) (hm_h : h ∈ L) (ht_h : Ψ h = 2) (t : Int32) : Met l yX2_known (.code yX2_known cX2_known 2 (some .boolean) :: gt) { frames := 0, cells := 0, slots := 0, locals := 0 } (va_Pc [.ref h, .int t] (hPre D K b0 sa sz L f0)) (hQ D K b0 (fun v9 u9 => ∃ r : Int32, v9 = some (.int r) ∧ u9 = ((gof gX1), Ψ, L, f0) ∧ (r = 0))) 0 0 (fun q => b0 ≤ q) := by
  refine t_of (own := RX2) (by decide) rfl ?_ (Nat.le_of_ble_eq_true rfl)
  intro p e s m below meth c ls C w hsz hr hlk hnm hl
  have hx := C.1
  have hb := C.2.1
  have hl : lv_has ls 2 [(0, .ref h), (1, .int t)] := hl
  have hb_t := ti_bd t
  have hR : rawk Ψ L f0 f0 := rawk.rf
  refine lv_iload_n hx hb dX2_known_0 rfl (lv_at hl 1 rfl) ?_
  have n0 : (0 : Int32).toInt = 0 := by decide
  refine lv_if_lt (tgt := 22) hx hb dX2_known_1 (by decide) (fun c1 => ?_) (fun c1 => ?_)
  · have c1 := lt_toInt c1
    refine lv_iconst (v := 0) hx hb dX2_known_22 (by decide) ?_
    exact t_zret C hr hlk w (by decide) ⟨_, rfl, rfl, rfl⟩ (by decide) (by decide) dX2_known_23
  · have c1 := nlt_toInt c1
    refine lv_iload_n hx hb dX2_known_4 rfl (lv_at hl 1 rfl) ?_
    refine lv_aload_n hx hb dX2_known_5 rfl (lv_at hl 0 rfl) ?_
    refine t_geti C w hT hm_h ht_h (by decide) rfl cin_2 0 (by decide) rfl rfl gw_46 dX2_known_6 (fun x2 hg => ?_)
    obtain rfl : x2 = 0 := gof_at rfl hg
    refine lv_icmp_ge (tgt := 22) hx hb dX2_known_9 (by decide) (fun c3 => ?_) (fun c3 => ?_)
    · have c3 := le_toInt c3
      refine lv_iconst (v := 0) hx hb dX2_known_22 (by decide) ?_
      exact t_zret C hr hlk w (by decide) ⟨_, rfl, rfl, rfl⟩ (by decide) (by decide) dX2_known_23
    · exact absurd (nle_toInt c3) (by omega)
set_option maxHeartbeats 4000000 in
set_option maxRecDepth 100000 in
theorem c_X2_levelOf (l : Launch) (D : va_G) (K : Nat → ClassId) (b0 : Nat) (sa : Nat × Nat × Nat) (sz : Nat) (L : List Nat) (f0 : Nat → va_E) (Ψ : Nat → Nat) (hT : TW K (gof gX1) Ψ L f0) (h : Nat) (hm_h : h ∈ L) (ht_h : Ψ h = 2) (t : Int32) : Met l yX2_levelOf (.code yX2_levelOf cX2_levelOf 5 (some .int) :: gt) { frames := 1, cells := 0, slots := 0, locals := 21 } (va_Pc [.ref h, .int t] (hPre D K b0 sa sz L f0)) (hQ D K b0 (fun v9 u9 => ∃ r : Int32, v9 = some (.int r) ∧ u9 = ((gof gX1), Ψ, L, f0) ∧ (r = (-1)))) 0 0 (fun q => b0 ≤ q) := by
  refine t_of (own := RX2) (by decide) rfl ?_ (Nat.le_of_ble_eq_true rfl)
  intro p e s m below meth c ls C w hsz hr hlk hnm hl
  have hx := C.1
  have hb := C.2.1
  have hl : lv_has ls 5 [(0, .ref h), (1, .int t)] := hl
  have hb_t := ti_bd t
  have hR : rawk Ψ L f0 f0 := rawk.rf
  refine lv_aload_n hx hb dX2_levelOf_0 rfl (lv_at hl 0 rfl) ?_
  refine lv_iload_n hx hb dX2_levelOf_1 rfl (lv_at hl 1 rfl) ?_
  refine t_callV (n := 1) C w hT hm_h ht_h (by decide) rfl rfl (c_X2_known l D K b0 sa _ L _ Ψ hT h hm_h ht_h t) gw_434 gw_439 gw_432 gw_433 gw_3 ⟨by decide, by decide, by decide +kernel⟩ rfl rfl ⟨by decide, by decide⟩ rfl hl.1 rfl (Nat.le_of_ble_eq_true rfl) dX2_levelOf_2 ⟨by decide, by decide⟩ (fun v u H locs hp w => ?_)
  obtain ⟨r1, rfl, rfl, hrr1⟩ := hp
  obtain rfl := hrr1
  refine lv_if_eq (tgt := 17) hx hb dX2_levelOf_5 (by decide) (fun _ => ?_) (fun c0 => absurd c0 (by decide))
  refine lv_iconst (v := (-1)) hx hb dX2_levelOf_17 (by decide) ?_
  have nm1 : ((-1) : Int32).toInt = -1 := by decide
  exact t_iret C hr hlk w ⟨_, rfl, rfl, rfl⟩ (by decide) (by decide) dX2_levelOf_18
