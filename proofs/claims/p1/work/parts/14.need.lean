theorem dX6_need_0 : decode cX6_need 0 = .ok (.iload_n 0, 1) := by decide +kernel
theorem dX6_need_1 : decode cX6_need 1 = .ok (.ifCond .ne 14, 3) := by decide +kernel
theorem dX6_need_4 : decode cX6_need 4 = .ok (.new 312, 3) := by decide +kernel
theorem dX6_need_7 : decode cX6_need 7 = .ok (.dup, 1) := by decide +kernel
theorem dX6_need_8 : decode cX6_need 8 = .ok (.ldc_w 314, 3) := by decide +kernel
theorem dX6_need_11 : decode cX6_need 11 = .ok (.invokespecial 316, 3) := by decide +kernel
theorem dX6_need_14 : decode cX6_need 14 = .ok (.athrow, 1) := by decide +kernel
theorem dX6_need_15 : decode cX6_need 15 = .ok (.return_, 1) := by decide +kernel
theorem dX6_needCell_0 : decode cX6_needCell 0 = .ok (.iload_n 0, 1) := by decide +kernel
theorem dX6_needCell_1 : decode cX6_needCell 1 = .ok (.iconst 0, 1) := by decide +kernel
theorem dX6_needCell_2 : decode cX6_needCell 2 = .ok (.bipush 63, 2) := by decide +kernel
theorem dX6_needCell_4 : decode cX6_needCell 4 = .ok (.invokestatic 92, 3) := by decide +kernel
theorem dX6_needCell_7 : decode cX6_needCell 7 = .ok (.ifCond .ne 14, 3) := by decide +kernel
theorem dX6_needCell_10 : decode cX6_needCell 10 = .ok (.new 319, 3) := by decide +kernel
theorem dX6_needCell_13 : decode cX6_needCell 13 = .ok (.dup, 1) := by decide +kernel
theorem dX6_needCell_14 : decode cX6_needCell 14 = .ok (.ldc_w 321, 3) := by decide +kernel
theorem dX6_needCell_17 : decode cX6_needCell 17 = .ok (.invokespecial 323, 3) := by decide +kernel
theorem dX6_needCell_20 : decode cX6_needCell 20 = .ok (.athrow, 1) := by decide +kernel
theorem dX6_needCell_21 : decode cX6_needCell 21 = .ok (.return_, 1) := by decide +kernel
theorem dX6_needElement_0 : decode cX6_needElement 0 = .ok (.iload_n 0, 1) := by decide +kernel
theorem dX6_needElement_1 : decode cX6_needElement 1 = .ok (.iconst 0, 1) := by decide +kernel
theorem dX6_needElement_2 : decode cX6_needElement 2 = .ok (.iload_n 1, 1) := by decide +kernel
theorem dX6_needElement_3 : decode cX6_needElement 3 = .ok (.iconst 1, 1) := by decide +kernel
theorem dX6_needElement_4 : decode cX6_needElement 4 = .ok (.isub, 1) := by decide +kernel
theorem dX6_needElement_5 : decode cX6_needElement 5 = .ok (.invokestatic 92, 3) := by decide +kernel
theorem dX6_needElement_8 : decode cX6_needElement 8 = .ok (.ifCond .ne 14, 3) := by decide +kernel
theorem dX6_needElement_11 : decode cX6_needElement 11 = .ok (.new 324, 3) := by decide +kernel
theorem dX6_needElement_14 : decode cX6_needElement 14 = .ok (.dup, 1) := by decide +kernel
theorem dX6_needElement_15 : decode cX6_needElement 15 = .ok (.ldc_w 326, 3) := by decide +kernel
theorem dX6_needElement_18 : decode cX6_needElement 18 = .ok (.invokespecial 328, 3) := by decide +kernel
theorem dX6_needElement_21 : decode cX6_needElement 21 = .ok (.athrow, 1) := by decide +kernel
theorem dX6_needElement_22 : decode cX6_needElement 22 = .ok (.return_, 1) := by decide +kernel
set_option maxHeartbeats 4000000 in
set_option maxRecDepth 100000 in
theorem c_X6_need (l : Launch) (hls : l.stackTraces = false) (D : va_G) (K : Nat → ClassId) (b0 : Nat) (sa : Nat × Nat × Nat) (sz : Nat) (L : List Nat) (f0 : Nat → va_E) (Ψ : Nat → Nat) (G : tG) (hT : TW K G Ψ L f0) (x : Int32) : vx_Met l yX6_need (.code yX6_need cX6_need 1 none :: gt) { frames := 6, cells := 1, slots := 6, locals := 82 } (va_Pc [.int x] (hPre D K b0 sa sz L f0)) (hQ D K b0 (fun v9 u9 => v9 = none ∧ u9 = (G, Ψ, L, f0) ∧ ((¬ x.toInt = 0)))) (hX D K b0 (fun E u9 => ∃ f2 : Nat → va_E, u9 = (G, Ψ, L, f2) ∧ TW K G Ψ L f2 ∧ rawk Ψ L f0 f2 ∧ (E = "java/lang/IllegalArgumentException" ∧ (x.toInt = 0)))) 1 6 (fun q => b0 ≤ q) := by
  refine t_xof (own := RX6) (by decide) rfl ?_ (Nat.le_of_ble_eq_true rfl)
  intro p e s m below meth c ls C w hsz hr hlk htb hl
  have hx := C.1
  have hb := C.2.1
  have hl : lv_has ls 1 [(0, .int x)] := hl
  have hb_x := ti_bd x
  have hR : rawk Ψ L f0 f0 := rawk.rf
  refine lv_iload_n hx hb dX6_need_0 rfl (lv_at hl 0 rfl) ?_
  have n0 : (0 : Int32).toInt = 0 := by decide
  refine lv_if_ne (tgt := 15) hx hb dX6_need_1 (by decide) (fun c1 => ?_) (fun c1 => ?_)
  · have c1 := ne_toInt c1
    refine vx_ret ?_
    exact t_vret C hr hlk w ⟨rfl, rfl, (by omega)⟩ (by decide) (by decide) dX6_need_15
  · have c1 := eq_toInt c1
    exact t_throw hls C w (by decide) gw_626 gw_13 w.2.2.2.2.2.2.1 xg_316 nw_316 og_316 hl.1 htb dX6_need_4 dX6_need_7 dX6_need_8 dX6_need_11 dX6_need_14 (by decide) (by decide) (by decide) (by decide) hlk ⟨_, rfl, hT, hR, rfl, (by omega)⟩ (by decide) (by decide)
set_option maxHeartbeats 4000000 in
set_option maxRecDepth 100000 in
theorem c_X6_needCell (l : Launch) (hls : l.stackTraces = false) (D : va_G) (K : Nat → ClassId) (b0 : Nat) (sa : Nat × Nat × Nat) (sz : Nat) (L : List Nat) (f0 : Nat → va_E) (Ψ : Nat → Nat) (G : tG) (hT : TW K G Ψ L f0) (x : Int32) : vx_Met l yX6_needCell (.code yX6_needCell cX6_needCell 1 none :: gt) { frames := 6, cells := 1, slots := 6, locals := 82 } (va_Pc [.int x] (hPre D K b0 sa sz L f0)) (hQ D K b0 (fun v9 u9 => v9 = none ∧ u9 = (G, Ψ, L, f0) ∧ ((0 ≤ x.toInt) ∧ (x.toInt ≤ 63)))) (hX D K b0 (fun E u9 => ∃ f2 : Nat → va_E, u9 = (G, Ψ, L, f2) ∧ TW K G Ψ L f2 ∧ rawk Ψ L f0 f2 ∧ (E = "java/lang/IndexOutOfBoundsException" ∧ (¬ (0 ≤ x.toInt ∧ x.toInt ≤ 63))))) 1 6 (fun q => b0 ≤ q) := by
  refine t_xof (own := RX6) (by decide) rfl ?_ (Nat.le_of_ble_eq_true rfl)
  intro p e s m below meth c ls C w hsz hr hlk htb hl
  have hx := C.1
  have hb := C.2.1
  have hl : lv_has ls 1 [(0, .int x)] := hl
  have hb_x := ti_bd x
  have hR : rawk Ψ L f0 f0 := rawk.rf
  refine lv_iload_n hx hb dX6_needCell_0 rfl (lv_at hl 0 rfl) ?_
  refine lv_iconst (v := 0) hx hb dX6_needCell_1 (by decide) ?_
  refine lv_bipush (v := 63) hx hb dX6_needCell_2 (by decide) ?_
  have n0 : (0 : Int32).toInt = 0 := by decide
  have n63 : (63 : Int32).toInt = 63 := by decide
  refine t_callS (n := 3) C w (c_X6_within l D K b0 sa _ L _ Ψ G hT x 0 63) gw_376 gw_374 gw_375 gw_1 ⟨by decide, by decide, by decide +kernel⟩ rfl rfl ⟨by decide, by decide⟩ rfl hl.1 rfl (Nat.le_of_ble_eq_true rfl) dX6_needCell_4 ⟨by decide, by decide⟩ (fun v u H locs hp w => ?_)
  obtain ⟨r1, rfl, rfl, hrr1⟩ := hp
  rcases hrr1 with ⟨rfl, hf0_r1, hf1_r1⟩ | ⟨rfl, hf0_r1⟩
  ·
    refine lv_if_ne (tgt := 21) hx hb dX6_needCell_7 (by decide) (fun _ => ?_) (fun c0 => absurd c0 (by decide))
    refine vx_ret ?_
    exact t_vret C hr hlk w ⟨rfl, rfl, (by omega), (by omega)⟩ (by decide) (by decide) dX6_needCell_21
  ·
    refine lv_if_ne (tgt := 21) hx hb dX6_needCell_7 (by decide) (fun c0 => absurd c0 (by decide)) (fun _ => ?_)
    exact t_throw hls C w (by decide) gw_555 gw_12 w.2.2.2.2.2.2.2.1 xg_323 nw_323 og_323 hl.1 htb dX6_needCell_10 dX6_needCell_13 dX6_needCell_14 dX6_needCell_17 dX6_needCell_20 (by decide) (by decide) (by decide) (by decide) hlk ⟨_, rfl, hT, hR, rfl, (by omega)⟩ (by decide) (by decide)
set_option maxHeartbeats 4000000 in
set_option maxRecDepth 100000 in
theorem c_X6_needElement (l : Launch) (hls : l.stackTraces = false) (D : va_G) (K : Nat → ClassId) (b0 : Nat) (sa : Nat × Nat × Nat) (sz : Nat) (L : List Nat) (f0 : Nat → va_E) (Ψ : Nat → Nat) (G : tG) (hT : TW K G Ψ L f0) (x : Int32) : vx_Met l yX6_needElement (.code yX6_needElement cX6_needElement 2 none :: gt) { frames := 6, cells := 1, slots := 6, locals := 82 } (va_Pc [.int x, .int 0] (hPre D K b0 sa sz L f0)) (hQ D K b0 (fun v9 u9 => v9 = none ∧ u9 = (G, Ψ, L, f0) ∧ ((False)))) (hX D K b0 (fun E u9 => ∃ f2 : Nat → va_E, u9 = (G, Ψ, L, f2) ∧ TW K G Ψ L f2 ∧ rawk Ψ L f0 f2 ∧ (E = "java/util/NoSuchElementException"))) 1 6 (fun q => b0 ≤ q) := by
  refine t_xof (own := RX6) (by decide) rfl ?_ (Nat.le_of_ble_eq_true rfl)
  intro p e s m below meth c ls C w hsz hr hlk htb hl
  have hx := C.1
  have hb := C.2.1
  have hl : lv_has ls 2 [(0, .int x), (1, .int 0)] := hl
  have hb_x := ti_bd x
  have hR : rawk Ψ L f0 f0 := rawk.rf
  refine lv_iload_n hx hb dX6_needElement_0 rfl (lv_at hl 0 rfl) ?_
  refine lv_iconst (v := 0) hx hb dX6_needElement_1 (by decide) ?_
  refine lv_iload_n hx hb dX6_needElement_2 rfl (lv_at hl 1 rfl) ?_
  refine lv_iconst (v := 1) hx hb dX6_needElement_3 (by decide) ?_
  refine lv_isub hx hb dX6_needElement_4 ?_
  refine lv_topi (fun y1 ey1 => ?_)
  obtain rfl : y1 = (-1) := ey1.trans (by decide)
  have n0 : (0 : Int32).toInt = 0 := by decide
  have nm1 : ((-1) : Int32).toInt = -1 := by decide
  refine t_callS (n := 3) C w (c_X6_within l D K b0 sa _ L _ Ψ G hT x 0 (-1)) gw_376 gw_374 gw_375 gw_1 ⟨by decide, by decide, by decide +kernel⟩ rfl rfl ⟨by decide, by decide⟩ rfl hl.1 rfl (Nat.le_of_ble_eq_true rfl) dX6_needElement_5 ⟨by decide, by decide⟩ (fun v u H locs hp w => ?_)
  obtain ⟨r2, rfl, rfl, hrr2⟩ := hp
  rcases hrr2 with ⟨rfl, hf0_r2, hf1_r2⟩ | ⟨rfl, hf0_r2⟩
  · exfalso; omega
  ·
    refine lv_if_ne (tgt := 22) hx hb dX6_needElement_8 (by decide) (fun c0 => absurd c0 (by decide)) (fun _ => ?_)
    exact t_throwN hls C w gw_657 gw_14 w.2.2.2.2.2.2.2.2.1 xg_328 nw_328 og_328 hl.1 htb dX6_needElement_11 dX6_needElement_14 dX6_needElement_15 dX6_needElement_18 dX6_needElement_21 (by decide) (by decide) (by decide) (by decide) hlk ⟨_, rfl, hT, hR, rfl⟩ (by decide) (by decide)
