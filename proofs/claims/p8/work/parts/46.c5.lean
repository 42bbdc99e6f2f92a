theorem dX6_need_0 : decode cX6_need 0 = .ok (.iload_n 0, 1) := by decide +kernel
theorem dX6_need_1 : decode cX6_need 1 = .ok (.ifCond .ne 14, 3) := by decide +kernel
theorem dX6_need_4 : decode cX6_need 4 = .ok (.new 312, 3) := by decide +kernel
theorem dX6_need_7 : decode cX6_need 7 = .ok (.dup, 1) := by decide +kernel
theorem dX6_need_8 : decode cX6_need 8 = .ok (.ldc_w 314, 3) := by decide +kernel
theorem dX6_need_11 : decode cX6_need 11 = .ok (.invokespecial 316, 3) := by decide +kernel
theorem dX6_need_14 : decode cX6_need 14 = .ok (.athrow, 1) := by decide +kernel
theorem dX6_need_15 : decode cX6_need 15 = .ok (.return_, 1) := by decide +kernel
noncomputable def F_X6_need (p0 : Int32) (S0 : fS) : Option ((Nat × Int32) × fS) := bb (p0 = (0 : Int32)) (some ((1, 0), S0)) (some ((0, 0), S0))
set_option maxHeartbeats 4000000 in
set_option maxRecDepth 100000 in
theorem c_X6_need (l : Launch) (hls : l.stackTraces = false) (D : va_G) (K : Nat → ClassId) (b0 : Nat) (sa : sT) (sz : Nat) (L : List Nat) (f0 : Nat → va_E) (ad : Nat → Nat → Nat) (P : Nat → Nat → Prop) {n : Nat × Nat} (hP : ∀ a i : Nat, isn n a i → P a i) (S0 : fS) (hw : PW K ad P S0 L f0) (hn : S0.2.2.1 = n) (p0 : Int32) (ec : Nat) (v : Int32) (S1 : fS) (h : F_X6_need p0 S0 = some ((ec, v), S1)) : vx_Met l yX6_need (.code yX6_need cX6_need 1 none :: gt) { frames := 6, cells := 1, slots := 6, locals := 82 } (va_Pc [.int p0] (hPre D K b0 sa sz L f0)) (hQ D K b0 (fun v9 u9 => ec = 0 ∧ v9 = none ∧ ∃ f2 : Nat → va_E, u9 = lU L f2 ∧ PW K ad P S1 L f2 ∧ S1.2.2.1 = n ∧ Kp ad P L f0 f2)) (hX D K b0 (fun E u9 => (ec ≠ 0 ∧ E = exn ec) ∧ ∃ f2 : Nat → va_E, u9 = lU L f2 ∧ PW K ad P S1 L f2 ∧ S1.2.2.1 = n ∧ Kp ad P L f0 f2)) 1 6 (fun q => b0 ≤ q) := by
  refine t_xof (own := RX6) (by decide) rfl ?_ (Nat.le_of_ble_eq_true rfl)
  intro p e s m below meth c ls C w hsz hr hlk htb hl
  have hx := C.1
  have hb := C.2.1
  have hl : lv_has ls 1 [(0, .int p0)] := hl
  dsimp only [F_X6_need] at h
  obtain ⟨f, ef⟩ : ∃ z, z = f0 := ⟨_, rfl⟩
  rw [← ef] at w hw
  have hk : Kp ad P L f0 f := by rw [ef]; exact Kp.rf
  obtain ⟨H, eH⟩ : ∃ z, z = s.heap := ⟨_, rfl⟩
  obtain ⟨locs, el⟩ : ∃ z : List Loc, z = [] := ⟨_, rfl⟩
  rw [← eH, ← el] at w ⊢
  refine lv_iload_n hx hb dX6_need_0 rfl (lv_at hl 0 rfl) ?_
  refine lv_if_ne (tgt := 15) hx hb dX6_need_1 (by decide) (fun c1 => ?_) (fun c1 => ?_)
  · have h := bb_f h c1
    refine vx_ret ?_
    exact t_vret C hr hlk w ⟨sx_e h, rfl, _, rfl, sx_w h hw, sx_n h hn, hk⟩ (by decide) (by decide) dX6_need_15
  · have h := bb_t h c1
    exact t_throw hls C w (by decide) gw_626 gw_13 w.2.2.2.2.2.2.1 xg_316 nw_316 og_316 hl.1 htb dX6_need_4 dX6_need_7 dX6_need_8 dX6_need_11 dX6_need_14 (by decide) (by decide) (by decide) (by decide) hlk ⟨⟨sy_n h, sy_E h⟩, _, rfl, sx_w h hw, sx_n h hn, hk⟩ (by decide) (by decide)
theorem dX6_needCell_0 : decode cX6_needCell 0 = .ok (.iload_n 0, 1) := by decide +kernel
theorem dX6_needCell_1 : decode cX6_needCell 1 = .ok (.iconst 0, 1) := by decide +kernel
theorem dX6_needCell_2 : decode cX6_needCell 2 = .ok (.bipush 63, 2) := by decide +kernel
theorem dX6_needCell_4 : decode cX6_needCell 4 = .ok (.invokestatic 92, 3) := by decide +kernel
theorem dX6_needCell_7 : decode cX6_needCell 7 = .ok (.ifCond .ne 14, 3) := by decide +kernel
theorem dX6_needCell_10 : decode cX6_needCell 10 = .ok (.new 319, 3) := by decide +kernel
theorem dX6_needCell_13 : decode cX6_needCell 13 = .ok (.dup, 1) := by decide +kernel
theorem dX6_needCell_14 : decode cX6_needCell 14 = .ok (.ldc_w 321, 3) := by decide +kernel
theorem dX6_needCell_17 : decode cX6_needCell 17 = .ok (.invokespecial 323, 3) := by decide +kernel
theorem dX6_needCell_20 : decode cX6_needCell 20 = .ok (.athrow, 1) := by decide +kernel
theorem dX6_needCell_21 : decode cX6_needCell 21 = .ok (.return_, 1) := by decide +kernel
noncomputable def F_X6_needCell (p0 : Int32) (S0 : fS) : Option ((Nat × Int32) × fS) := bd (F_X6_within p0 0 63 S0) (fun v1 S2 => bb (v1 = (0 : Int32)) (some ((2, 0), S2)) (some ((0, 0), S2)))
set_option maxHeartbeats 4000000 in
set_option maxRecDepth 100000 in
theorem c_X6_needCell (l : Launch) (hls : l.stackTraces = false) (D : va_G) (K : Nat → ClassId) (b0 : Nat) (sa : sT) (sz : Nat) (L : List Nat) (f0 : Nat → va_E) (ad : Nat → Nat → Nat) (P : Nat → Nat → Prop) {n : Nat × Nat} (hP : ∀ a i : Nat, isn n a i → P a i) (S0 : fS) (hw : PW K ad P S0 L f0) (hn : S0.2.2.1 = n) (p0 : Int32) (ec : Nat) (v : Int32) (S1 : fS) (h : F_X6_needCell p0 S0 = some ((ec, v), S1)) : vx_Met l yX6_needCell (.code yX6_needCell cX6_needCell 1 none :: gt) { frames := 6, cells := 1, slots := 6, locals := 82 } (va_Pc [.int p0] (hPre D K b0 sa sz L f0)) (hQ D K b0 (fun v9 u9 => ec = 0 ∧ v9 = none ∧ ∃ f2 : Nat → va_E, u9 = lU L f2 ∧ PW K ad P S1 L f2 ∧ S1.2.2.1 = n ∧ Kp ad P L f0 f2)) (hX D K b0 (fun E u9 => (ec ≠ 0 ∧ E = exn ec) ∧ ∃ f2 : Nat → va_E, u9 = lU L f2 ∧ PW K ad P S1 L f2 ∧ S1.2.2.1 = n ∧ Kp ad P L f0 f2)) 1 6 (fun q => b0 ≤ q) := by
  refine t_xof (own := RX6) (by decide) rfl ?_ (Nat.le_of_ble_eq_true rfl)
  intro p e s m below meth c ls C w hsz hr hlk htb hl
  have hx := C.1
  have hb := C.2.1
  have hl : lv_has ls 1 [(0, .int p0)] := hl
  dsimp only [F_X6_needCell] at h
  obtain ⟨f, ef⟩ : ∃ z, z = f0 := ⟨_, rfl⟩
  rw [← ef] at w hw
  have hk : Kp ad P L f0 f := by rw [ef]; exact Kp.rf
  obtain ⟨H, eH⟩ : ∃ z, z = s.heap := ⟨_, rfl⟩
  obtain ⟨locs, el⟩ : ∃ z : List Loc, z = [] := ⟨_, rfl⟩
  rw [← eH, ← el] at w ⊢
  refine lv_iload_n hx hb dX6_needCell_0 rfl (lv_at hl 0 rfl) ?_
  refine lv_iconst (v := 0) hx hb dX6_needCell_1 (by decide) ?_
  refine lv_bipush (v := 63) hx hb dX6_needCell_2 (by decide) ?_
  obtain ⟨v1, S2, h3, h⟩ := bd_some h
  refine t_callS (n := 3) C w (c_X6_within l D K b0 sa _ L _ ad P hP S0 hw hn p0 0 63 v1 S2 h3) gw_376 gw_374 gw_375 gw_1 ⟨by decide, by decide, by decide +kernel⟩ rfl rfl ⟨by decide, by decide⟩ rfl hl.1 rfl (Nat.le_of_ble_eq_true rfl) dX6_needCell_4 ⟨Nat.le_of_ble_eq_true rfl, Nat.le_of_ble_eq_true rfl⟩ (fun v9 u H locs hp w => ?_)
  obtain ⟨f2, rfl, rfl, hw, hn, hk1⟩ := hp
  have hk := hk.tr hk1
  generalize f2 = f at w hw hk
  refine lv_if_ne (tgt := 21) hx hb dX6_needCell_7 (by decide) (fun c4 => ?_) (fun c4 => ?_)
  · have h := bb_f h c4
    refine vx_ret ?_
    exact t_vret C hr hlk w ⟨sx_e h, rfl, _, rfl, sx_w h hw, sx_n h hn, hk⟩ (by decide) (by decide) dX6_needCell_21
  · have h := bb_t h c4
    exact t_throw hls C w (by decide) gw_555 gw_12 w.2.2.2.2.2.2.2.1 xg_323 nw_323 og_323 hl.1 htb dX6_needCell_10 dX6_needCell_13 dX6_needCell_14 dX6_needCell_17 dX6_needCell_20 (by decide) (by decide) (by decide) (by decide) hlk ⟨⟨sy_n h, sy_E h⟩, _, rfl, sx_w h hw, sx_n h hn, hk⟩ (by decide) (by decide)
theorem dX6_needElement_0 : decode cX6_needElement 0 = .ok (.iload_n 0, 1) := by decide +kernel
theorem dX6_needElement_1 : decode cX6_needElement 1 = .ok (.iconst 0, 1) := by decide +kernel
theorem dX6_needElement_2 : decode cX6_needElement 2 = .ok (.iload_n 1, 1) := by decide +kernel
theorem dX6_needElement_3 : decode cX6_needElement 3 = .ok (.iconst 1, 1) := by decide +kernel
theorem dX6_needElement_4 : decode cX6_needElement 4 = .ok (.isub, 1) := by decide +kernel
theorem dX6_needElement_5 : decode cX6_needElement 5 = .ok (.invokestatic 92, 3) := by decide +kernel
theorem dX6_needElement_8 : decode cX6_needElement 8 = .ok (.ifCond .ne 14, 3) := by decide +kernel
theorem dX6_needElement_11 : decode cX6_needElement 11 = .ok (.new 324, 3) := by decide +kernel
theorem dX6_needElement_14 : decode cX6_needElement 14 = .ok (.dup, 1) := by decide +kernel
theorem dX6_needElement_15 : decode cX6_needElement 15 = .ok (.ldc_w 326, 3) := by decide +kernel
theorem dX6_needElement_18 : decode cX6_needElement 18 = .ok (.invokespecial 328, 3) := by decide +kernel
theorem dX6_needElement_21 : decode cX6_needElement 21 = .ok (.athrow, 1) := by decide +kernel
theorem dX6_needElement_22 : decode cX6_needElement 22 = .ok (.return_, 1) := by decide +kernel
noncomputable def F_X6_needElement (p0 : Int32) (p1 : Int32) (S0 : fS) : Option ((Nat × Int32) × fS) := iv (p1 - (1 : Int32)) (fun x1 => bd (F_X6_within p0 0 x1 S0) (fun v2 S3 => bb (v2 = (0 : Int32)) (some ((3, 0), S3)) (some ((0, 0), S3))))
set_option maxHeartbeats 4000000 in
set_option maxRecDepth 100000 in
theorem c_X6_needElement (l : Launch) (hls : l.stackTraces = false) (D : va_G) (K : Nat → ClassId) (b0 : Nat) (sa : sT) (sz : Nat) (L : List Nat) (f0 : Nat → va_E) (ad : Nat → Nat → Nat) (P : Nat → Nat → Prop) {n : Nat × Nat} (hP : ∀ a i : Nat, isn n a i → P a i) (S0 : fS) (hw : PW K ad P S0 L f0) (hn : S0.2.2.1 = n) (p0 : Int32) (p1 : Int32) (ec : Nat) (v : Int32) (S1 : fS) (h : F_X6_needElement p0 p1 S0 = some ((ec, v), S1)) : vx_Met l yX6_needElement (.code yX6_needElement cX6_needElement 2 none :: gt) { frames := 6, cells := 1, slots := 6, locals := 82 } (va_Pc [.int p0, .int p1] (hPre D K b0 sa sz L f0)) (hQ D K b0 (fun v9 u9 => ec = 0 ∧ v9 = none ∧ ∃ f2 : Nat → va_E, u9 = lU L f2 ∧ PW K ad P S1 L f2 ∧ S1.2.2.1 = n ∧ Kp ad P L f0 f2)) (hX D K b0 (fun E u9 => (ec ≠ 0 ∧ E = exn ec) ∧ ∃ f2 : Nat → va_E, u9 = lU L f2 ∧ PW K ad P S1 L f2 ∧ S1.2.2.1 = n ∧ Kp ad P L f0 f2)) 1 6 (fun q => b0 ≤ q) := by
  refine t_xof (own := RX6) (by decide) rfl ?_ (Nat.le_of_ble_eq_true rfl)
  intro p e s m below meth c ls C w hsz hr hlk htb hl
  have hx := C.1
  have hb := C.2.1
  have hl : lv_has ls 2 [(0, .int p0), (1, .int p1)] := hl
  dsimp only [F_X6_needElement] at h
  obtain ⟨f, ef⟩ : ∃ z, z = f0 := ⟨_, rfl⟩
  rw [← ef] at w hw
  have hk : Kp ad P L f0 f := by rw [ef]; exact Kp.rf
  obtain ⟨H, eH⟩ : ∃ z, z = s.heap := ⟨_, rfl⟩
  obtain ⟨locs, el⟩ : ∃ z : List Loc, z = [] := ⟨_, rfl⟩
  rw [← eH, ← el] at w ⊢
  refine lv_iload_n hx hb dX6_needElement_0 rfl (lv_at hl 0 rfl) ?_
  refine lv_iconst (v := 0) hx hb dX6_needElement_1 (by decide) ?_
  refine lv_iload_n hx hb dX6_needElement_2 rfl (lv_at hl 1 rfl) ?_
  refine lv_iconst (v := 1) hx hb dX6_needElement_3 (by decide) ?_
  refine lv_isub hx hb dX6_needElement_4 ?_
  refine u_iv h (fun x1 h => ?_)
  obtain ⟨v2, S3, h4, h⟩ := bd_some h
  refine t_callS (n := 3) C w (c_X6_within l D K b0 sa _ L _ ad P hP S0 hw hn p0 0 x1 v2 S3 h4) gw_376 gw_374 gw_375 gw_1 ⟨by decide, by decide, by decide +kernel⟩ rfl rfl ⟨by decide, by decide⟩ rfl hl.1 rfl (Nat.le_of_ble_eq_true rfl) dX6_needElement_5 ⟨Nat.le_of_ble_eq_true rfl, Nat.le_of_ble_eq_true rfl⟩ (fun v9 u H locs hp w => ?_)
  obtain ⟨f2, rfl, rfl, hw, hn, hk1⟩ := hp
  have hk := hk.tr hk1
  generalize f2 = f at w hw hk
  refine lv_if_ne (tgt := 22) hx hb dX6_needElement_8 (by decide) (fun c5 => ?_) (fun c5 => ?_)
  · have h := bb_f h c5
    refine vx_ret ?_
    exact t_vret C hr hlk w ⟨sx_e h, rfl, _, rfl, sx_w h hw, sx_n h hn, hk⟩ (by decide) (by decide) dX6_needElement_22
  · have h := bb_t h c5
    exact t_throwN hls C w gw_657 gw_14 w.2.2.2.2.2.2.2.2.1 xg_328 nw_328 og_328 hl.1 htb dX6_needElement_11 dX6_needElement_14 dX6_needElement_15 dX6_needElement_18 dX6_needElement_21 (by decide) (by decide) (by decide) (by decide) hlk ⟨⟨sy_n h, sy_E h⟩, _, rfl, sx_w h hw, sx_n h hn, hk⟩ (by decide) (by decide)
theorem dX6_lay_0 : decode cX6_lay 0 = .ok (.iload_n 1, 1) := by decide +kernel
theorem dX6_lay_1 : decode cX6_lay 1 = .ok (.invokestatic 85, 3) := by decide +kernel
theorem dX6_lay_4 : decode cX6_lay 4 = .ok (.iload_n 1, 1) := by decide +kernel
theorem dX6_lay_5 : decode cX6_lay 5 = .ok (.aload_n 0, 1) := by decide +kernel
theorem dX6_lay_6 : decode cX6_lay 6 = .ok (.getfield 10, 3) := by decide +kernel
theorem dX6_lay_9 : decode cX6_lay 9 = .ok (.getfield 89, 3) := by decide +kernel
theorem dX6_lay_12 : decode cX6_lay 12 = .ok (.if_icmp .eq 39, 3) := by decide +kernel
theorem dX6_lay_15 : decode cX6_lay 15 = .ok (.iload_n 2, 1) := by decide +kernel
theorem dX6_lay_16 : decode cX6_lay 16 = .ok (.iconst 1, 1) := by decide +kernel
theorem dX6_lay_17 : decode cX6_lay 17 = .ok (.bipush 99, 2) := by decide +kernel
theorem dX6_lay_19 : decode cX6_lay 19 = .ok (.invokestatic 92, 3) := by decide +kernel
theorem dX6_lay_22 : decode cX6_lay 22 = .ok (.ifCond .eq 29, 3) := by decide +kernel
theorem dX6_lay_25 : decode cX6_lay 25 = .ok (.iload_n 3, 1) := by decide +kernel
theorem dX6_lay_26 : decode cX6_lay 26 = .ok (.iconst 0, 1) := by decide +kernel
theorem dX6_lay_27 : decode cX6_lay 27 = .ok (.bipush 7, 2) := by decide +kernel
theorem dX6_lay_29 : decode cX6_lay 29 = .ok (.invokestatic 92, 3) := by decide +kernel
theorem dX6_lay_32 : decode cX6_lay 32 = .ok (.ifCond .eq 19, 3) := by decide +kernel
theorem dX6_lay_35 : decode cX6_lay 35 = .ok (.iload 4, 2) := by decide +kernel
theorem dX6_lay_37 : decode cX6_lay 37 = .ok (.iconst 0, 1) := by decide +kernel
theorem dX6_lay_38 : decode cX6_lay 38 = .ok (.sipush 999, 3) := by decide +kernel
theorem dX6_lay_41 : decode cX6_lay 41 = .ok (.invokestatic 92, 3) := by decide +kernel
theorem dX6_lay_44 : decode cX6_lay 44 = .ok (.ifCond .eq 7, 3) := by decide +kernel
theorem dX6_lay_47 : decode cX6_lay 47 = .ok (.iconst 1, 1) := by decide +kernel
theorem dX6_lay_48 : decode cX6_lay 48 = .ok (.goto 4, 3) := by decide +kernel
theorem dX6_lay_51 : decode cX6_lay 51 = .ok (.iconst 0, 1) := by decide +kernel
theorem dX6_lay_52 : decode cX6_lay 52 = .ok (.invokestatic 96, 3) := by decide +kernel
theorem dX6_lay_55 : decode cX6_lay 55 = .ok (.aload_n 0, 1) := by decide +kernel
theorem dX6_lay_56 : decode cX6_lay 56 = .ok (.getfield 10, 3) := by decide +kernel
theorem dX6_lay_59 : decode cX6_lay 59 = .ok (.getfield 100, 3) := by decide +kernel
theorem dX6_lay_62 : decode cX6_lay 62 = .ok (.iload_n 1, 1) := by decide +kernel
theorem dX6_lay_63 : decode cX6_lay 63 = .ok (.iload_n 2, 1) := by decide +kernel
theorem dX6_lay_64 : decode cX6_lay 64 = .ok (.iload_n 3, 1) := by decide +kernel
theorem dX6_lay_65 : decode cX6_lay 65 = .ok (.iload 4, 2) := by decide +kernel
theorem dX6_lay_67 : decode cX6_lay 67 = .ok (.invokevirtual 104, 3) := by decide +kernel
theorem dX6_lay_70 : decode cX6_lay 70 = .ok (.ireturn, 1) := by decide +kernel
noncomputable def B_X6_lay_52 (a1 : Int32) (a2 : Int32) (a3 : Int32) (a4 : Int32) (t0 : Int32) (S : fS) : Option ((Nat × Int32) × fS) := bx (F_X6_need t0 S) (fun v1 S2 => bd (F_X2_add 0 a1 a2 a3 a4 S2) (fun v5 S6 => some ((0, v5), S6)))
noncomputable def B_X6_lay_51 (a1 : Int32) (a2 : Int32) (a3 : Int32) (a4 : Int32) (S : fS) : Option ((Nat × Int32) × fS) := B_X6_lay_52  a1 a2 a3 a4 0 S
noncomputable def F_X6_lay (p1 : Int32) (p2 : Int32) (p3 : Int32) (p4 : Int32) (S0 : fS) : Option ((Nat × Int32) × fS) := bx (F_X6_needCell p1 S0) (fun v8 S9 => iv (ge S9 1 0 1) (fun x12 => bb (p1 = x12) (B_X6_lay_51  p1 p2 p3 p4 S9) (bd (F_X6_within p2 1 99 S9) (fun v14 S15 => bb (v14 = (0 : Int32)) (B_X6_lay_51  p1 p2 p3 p4 S15) (bd (F_X6_within p3 0 7 S15) (fun v18 S19 => bb (v18 = (0 : Int32)) (B_X6_lay_51  p1 p2 p3 p4 S19) (bd (F_X6_within p4 0 999 S19) (fun v22 S23 => bb (v22 = (0 : Int32)) (B_X6_lay_51  p1 p2 p3 p4 S23) (B_X6_lay_52  p1 p2 p3 p4 1 S23)))))))))
set_option maxHeartbeats 4000000 in
set_option maxRecDepth 100000 in
theorem c_X6_lay (l : Launch) (hls : l.stackTraces = false) (D : va_G) (K : Nat → ClassId) (b0 : Nat) (sa : sT) (sz : Nat) (L : List Nat) (f0 : Nat → va_E) (ad : Nat → Nat → Nat) (P : Nat → Nat → Prop) {n : Nat × Nat} (hP : ∀ a i : Nat, isn n a i → P a i) (S0 : fS) (hw : PW K ad P S0 L f0) (hn : S0.2.2.1 = n) (p1 : Int32) (p2 : Int32) (p3 : Int32) (p4 : Int32) (ec : Nat) (v : Int32) (S1 : fS) (h : F_X6_lay p1 p2 p3 p4 S0 = some ((ec, v), S1)) : vx_Met l yX6_lay (.code yX6_lay cX6_lay 5 (some .int) :: gt) { frames := 7, cells := 2, slots := 12, locals := 102 } (va_Pc [.ref (ad 0 0), .int p1, .int p2, .int p3, .int p4] (hPre D K b0 sa sz L f0)) (hQ D K b0 (fun v9 u9 => ec = 0 ∧ v9 = some (.int v) ∧ ∃ f2 : Nat → va_E, u9 = lU L f2 ∧ PW K ad P S1 L f2 ∧ S1.2.2.1 = n ∧ Kp ad P L f0 f2)) (hX D K b0 (fun E u9 => (ec ≠ 0 ∧ E = exn ec) ∧ ∃ f2 : Nat → va_E, u9 = lU L f2 ∧ PW K ad P S1 L f2 ∧ S1.2.2.1 = n ∧ Kp ad P L f0 f2)) 2 12 (fun q => b0 ≤ q) := by
  refine t_xof (own := RX6) (by decide) rfl ?_ (Nat.le_of_ble_eq_true rfl)
  intro p e s m below meth c ls C w hsz hr hlk htb hl
  have hx := C.1
  have hb := C.2.1
  have hl : lv_has ls 5 [(0, .ref (ad 0 0)), (1, .int p1), (2, .int p2), (3, .int p3), (4, .int p4)] := hl
  have J52 : ∀ (a1 : Int32) (a2 : Int32) (a3 : Int32) (a4 : Int32) (t0 : Int32) (S : fS), B_X6_lay_52  a1 a2 a3 a4 t0 S = some ((ec, v), S1) → Gw D K b0 sa ad P n L f0 p l e { frames := 7, cells := 2, slots := 12, locals := 102 } s m [.ref (ad 0 0), .int p1, .int p2, .int p3, .int p4].toArray below meth c 5 (vx_MQ below (hQ D K b0 (fun v9 u9 => ec = 0 ∧ v9 = some (.int v) ∧ ∃ f2 : Nat → va_E, u9 = lU L f2 ∧ PW K ad P S1 L f2 ∧ S1.2.2.1 = n ∧ Kp ad P L f0 f2)) (hX D K b0 (fun E u9 => (ec ≠ 0 ∧ E = exn ec) ∧ ∃ f2 : Nat → va_E, u9 = lU L f2 ∧ PW K ad P S1 L f2 ∧ S1.2.2.1 = n ∧ Kp ad P L f0 f2)) [.ref (ad 0 0), .int p1, .int p2, .int p3, .int p4].toArray s 2 12 (fun q => b0 ≤ q)) 1 6 52 [(0, .ref (ad 0 0)), (1, .int a1), (2, .int a2), (3, .int a3), (4, .int a4)] [.int t0] S := by
    intro a1 a2 a3 a4 t0 S h
    dsimp only [B_X6_lay_52] at h
    intro f H locs w hw hn hk ls hl
    rcases bx_some h with ⟨v1, S2, h3, h⟩ | ⟨e4, v1, S2, h3, h⟩
    rotate_left
    · refine t_xcallS (n := 1) C w (c_X6_need l hls D K b0 sa _ L _ ad P hP S hw hn t0 (e4 + 1) v1 S2 h3) gw_625 gw_623 gw_624 gw_1 ⟨by decide, by decide, by decide +kernel⟩ rfl rfl ⟨by decide, by decide⟩ rfl hl.1 rfl (Nat.le_of_ble_eq_true rfl) dX6_lay_52 ⟨Nat.le_of_ble_eq_true rfl, Nat.le_of_ble_eq_true rfl⟩ (fun E ce q9 u H locs hp w hcell hv0 hcl => ?_) (fun v9 u H locs hp w => absurd hp.1 (Nat.succ_ne_zero _))
      obtain ⟨⟨he, hE⟩, f2, rfl, hw, hn, hk1⟩ := hp
      exact t_xout w htb hlk hcell hv0 hcl ⟨sz_e h he hE, _, rfl, sz_w h hw, sz_n h hn, hk.tr hk1⟩ (by decide) (by decide)
    refine t_xcallS (n := 1) C w (c_X6_need l hls D K b0 sa _ L _ ad P hP S hw hn t0 0 v1 S2 h3) gw_625 gw_623 gw_624 gw_1 ⟨by decide, by decide, by decide +kernel⟩ rfl rfl ⟨by decide, by decide⟩ rfl hl.1 rfl (Nat.le_of_ble_eq_true rfl) dX6_lay_52 ⟨Nat.le_of_ble_eq_true rfl, Nat.le_of_ble_eq_true rfl⟩ (fun E ce q9 u H locs hp w hcell hv0 hcl => absurd rfl hp.1.1) (fun v9 u H locs hp w => ?_)
    obtain ⟨-, rfl, f2, rfl, hw, hn, hk1⟩ := hp
    have hk := hk.tr hk1
    generalize f2 = f at w hw hk
    refine lv_aload_n hx hb dX6_lay_55 rfl (lv_at hl 0 rfl) ?_
    refine u_getr C w hw (hP _ _ (isn_f rfl rfl (by decide))) rfl (N := 18) rfl rfl cin_6 0 (by decide) (by decide) (a2 := 1) (i2 := 0) rfl gw_287 dX6_lay_56 ?_
    refine u_getr C w hw (hP _ _ (isn_f rfl rfl (by decide))) rfl (N := 13) rfl rfl cin_0 0 (by decide) (by decide) (a2 := 2) (i2 := 0) rfl gw_89 dX6_lay_59 ?_
    refine lv_iload_n hx hb dX6_lay_62 rfl (lv_at hl 1 rfl) ?_
    refine lv_iload_n hx hb dX6_lay_63 rfl (lv_at hl 2 rfl) ?_
    refine lv_iload_n hx hb dX6_lay_64 rfl (lv_at hl 3 rfl) ?_
    refine lv_iload hx hb dX6_lay_65 (lv_at hl 4 rfl) ?_
    obtain ⟨v5, S6, h7, h⟩ := bd_some h
    refine u_callV (n := 4) C w hw (hP _ _ (isn_f rfl rfl (by decide))) rfl rfl rfl (c_X2_add l D K b0 sa _ L _ ad P hP S2 hw hn 0 (by decide) a1 a2 a3 a4 v5 S6 h7) gw_645 gw_642 gw_643 gw_644 gw_3 ⟨by decide, by decide, by decide +kernel⟩ rfl rfl ⟨by decide, by decide⟩ rfl hl.1 rfl (Nat.le_of_ble_eq_true rfl) dX6_lay_67 ⟨Nat.le_of_ble_eq_true rfl, Nat.le_of_ble_eq_true rfl⟩ (fun v9 u H locs hp w => ?_)
    obtain ⟨f2, rfl, rfl, hw, hn, hk1⟩ := hp
    have hk := hk.tr hk1
    generalize f2 = f at w hw hk
    refine vx_ret ?_
    exact t_iret C hr hlk w ⟨sx_e h, sx_v h, _, rfl, sx_w h hw, sx_n h hn, hk⟩ (by decide) (by decide) dX6_lay_70
  have J51 : ∀ (a1 : Int32) (a2 : Int32) (a3 : Int32) (a4 : Int32) (S : fS), B_X6_lay_51  a1 a2 a3 a4 S = some ((ec, v), S1) → Gw D K b0 sa ad P n L f0 p l e { frames := 7, cells := 2, slots := 12, locals := 102 } s m [.ref (ad 0 0), .int p1, .int p2, .int p3, .int p4].toArray below meth c 5 (vx_MQ below (hQ D K b0 (fun v9 u9 => ec = 0 ∧ v9 = some (.int v) ∧ ∃ f2 : Nat → va_E, u9 = lU L f2 ∧ PW K ad P S1 L f2 ∧ S1.2.2.1 = n ∧ Kp ad P L f0 f2)) (hX D K b0 (fun E u9 => (ec ≠ 0 ∧ E = exn ec) ∧ ∃ f2 : Nat → va_E, u9 = lU L f2 ∧ PW K ad P S1 L f2 ∧ S1.2.2.1 = n ∧ Kp ad P L f0 f2)) [.ref (ad 0 0), .int p1, .int p2, .int p3, .int p4].toArray s 2 12 (fun q => b0 ≤ q)) 1 6 51 [(0, .ref (ad 0 0)), (1, .int a1), (2, .int a2), (3, .int a3), (4, .int a4)] [] S := by
    intro a1 a2 a3 a4 S h
    dsimp only [B_X6_lay_51] at h
    intro f H locs w hw hn hk ls hl
    refine lv_iconst (v := 0) hx hb dX6_lay_51 (by decide) ?_
    exact J52  a1 a2 a3 a4 0 S h f H locs w hw hn hk ls (lv_sub hl [0, 1, 2, 3, 4] rfl)
  dsimp only [F_X6_lay] at h
  obtain ⟨f, ef⟩ : ∃ z, z = f0 := ⟨_, rfl⟩
  rw [← ef] at w hw
  have hk : Kp ad P L f0 f := by rw [ef]; exact Kp.rf
  obtain ⟨H, eH⟩ : ∃ z, z = s.heap := ⟨_, rfl⟩
  obtain ⟨locs, el⟩ : ∃ z : List Loc, z = [] := ⟨_, rfl⟩
  rw [← eH, ← el] at w ⊢
  refine lv_iload_n hx hb dX6_lay_0 rfl (lv_at hl 1 rfl) ?_
  rcases bx_some h with ⟨v8, S9, h10, h⟩ | ⟨e11, v8, S9, h10, h⟩
  rotate_left
  · refine t_xcallS (n := 1) C w (c_X6_needCell l hls D K b0 sa _ L _ ad P hP S0 hw hn p1 (e11 + 1) v8 S9 h10) gw_554 gw_552 gw_553 gw_1 ⟨by decide, by decide, by decide +kernel⟩ rfl rfl ⟨by decide, by decide⟩ rfl hl.1 rfl (Nat.le_of_ble_eq_true rfl) dX6_lay_1 ⟨Nat.le_of_ble_eq_true rfl, Nat.le_of_ble_eq_true rfl⟩ (fun E ce q9 u H locs hp w hcell hv0 hcl => ?_) (fun v9 u H locs hp w => absurd hp.1 (Nat.succ_ne_zero _))
    obtain ⟨⟨he, hE⟩, f2, rfl, hw, hn, hk1⟩ := hp
    exact t_xout w htb hlk hcell hv0 hcl ⟨sz_e h he hE, _, rfl, sz_w h hw, sz_n h hn, hk.tr hk1⟩ (by decide) (by decide)
  refine t_xcallS (n := 1) C w (c_X6_needCell l hls D K b0 sa _ L _ ad P hP S0 hw hn p1 0 v8 S9 h10) gw_554 gw_552 gw_553 gw_1 ⟨by decide, by decide, by decide +kernel⟩ rfl rfl ⟨by decide, by decide⟩ rfl hl.1 rfl (Nat.le_of_ble_eq_true rfl) dX6_lay_1 ⟨Nat.le_of_ble_eq_true rfl, Nat.le_of_ble_eq_true rfl⟩ (fun E ce q9 u H locs hp w hcell hv0 hcl => absurd rfl hp.1.1) (fun v9 u H locs hp w => ?_)
  obtain ⟨-, rfl, f2, rfl, hw, hn, hk1⟩ := hp
  have hk := hk.tr hk1
  generalize f2 = f at w hw hk
  refine lv_iload_n hx hb dX6_lay_4 rfl (lv_at hl 1 rfl) ?_
  refine lv_aload_n hx hb dX6_lay_5 rfl (lv_at hl 0 rfl) ?_
  refine u_getr C w hw (hP _ _ (isn_f rfl rfl (by decide))) rfl (N := 18) rfl rfl cin_6 0 (by decide) (by decide) (a2 := 1) (i2 := 0) rfl gw_287 dX6_lay_6 ?_
  refine u_geti C w hw (hP _ _ (isn_f rfl rfl (by decide))) rfl (N := 13) rfl rfl cin_0 1 (by decide) rfl gw_92 dX6_lay_9 ?_
  refine u_iv h (fun x12 h => ?_)
  refine lv_icmp_eq (tgt := 51) hx hb dX6_lay_12 (by decide) (fun c13 => ?_) (fun c13 => ?_)
  · have h := bb_t h c13
    exact J51  p1 p2 p3 p4 S9 h f H locs w hw hn hk ls (lv_sub hl [0, 1, 2, 3, 4] rfl)
  · have h := bb_f h c13
    refine lv_iload_n hx hb dX6_lay_15 rfl (lv_at hl 2 rfl) ?_
    refine lv_iconst (v := 1) hx hb dX6_lay_16 (by decide) ?_
    refine lv_bipush (v := 99) hx hb dX6_lay_17 (by decide) ?_
    obtain ⟨v14, S15, h16, h⟩ := bd_some h
    refine t_callS (n := 3) C w (c_X6_within l D K b0 sa _ L _ ad P hP S9 hw hn p2 1 99 v14 S15 h16) gw_376 gw_374 gw_375 gw_1 ⟨by decide, by decide, by decide +kernel⟩ rfl rfl ⟨by decide, by decide⟩ rfl hl.1 rfl (Nat.le_of_ble_eq_true rfl) dX6_lay_19 ⟨Nat.le_of_ble_eq_true rfl, Nat.le_of_ble_eq_true rfl⟩ (fun v9 u H locs hp w => ?_)
    obtain ⟨f2, rfl, rfl, hw, hn, hk1⟩ := hp
    have hk := hk.tr hk1
    generalize f2 = f at w hw hk
    refine lv_if_eq (tgt := 51) hx hb dX6_lay_22 (by decide) (fun c17 => ?_) (fun c17 => ?_)
    · have h := bb_t h c17
      exact J51  p1 p2 p3 p4 S15 h f H locs w hw hn hk ls (lv_sub hl [0, 1, 2, 3, 4] rfl)
    · have h := bb_f h c17
      refine lv_iload_n hx hb dX6_lay_25 rfl (lv_at hl 3 rfl) ?_
      refine lv_iconst (v := 0) hx hb dX6_lay_26 (by decide) ?_
      refine lv_bipush (v := 7) hx hb dX6_lay_27 (by decide) ?_
      obtain ⟨v18, S19, h20, h⟩ := bd_some h
      refine t_callS (n := 3) C w (c_X6_within l D K b0 sa _ L _ ad P hP S15 hw hn p3 0 7 v18 S19 h20) gw_376 gw_374 gw_375 gw_1 ⟨by decide, by decide, by decide +kernel⟩ rfl rfl ⟨by decide, by decide⟩ rfl hl.1 rfl (Nat.le_of_ble_eq_true rfl) dX6_lay_29 ⟨Nat.le_of_ble_eq_true rfl, Nat.le_of_ble_eq_true rfl⟩ (fun v9 u H locs hp w => ?_)
      obtain ⟨f2, rfl, rfl, hw, hn, hk1⟩ := hp
      have hk := hk.tr hk1
      generalize f2 = f at w hw hk
      refine lv_if_eq (tgt := 51) hx hb dX6_lay_32 (by decide) (fun c21 => ?_) (fun c21 => ?_)
      · have h := bb_t h c21
        exact J51  p1 p2 p3 p4 S19 h f H locs w hw hn hk ls (lv_sub hl [0, 1, 2, 3, 4] rfl)
      · have h := bb_f h c21
        refine lv_iload hx hb dX6_lay_35 (lv_at hl 4 rfl) ?_
        refine lv_iconst (v := 0) hx hb dX6_lay_37 (by decide) ?_
        refine lv_sipush (v := 999) hx hb dX6_lay_38 (by decide) ?_
        obtain ⟨v22, S23, h24, h⟩ := bd_some h
        refine t_callS (n := 3) C w (c_X6_within l D K b0 sa _ L _ ad P hP S19 hw hn p4 0 999 v22 S23 h24) gw_376 gw_374 gw_375 gw_1 ⟨by decide, by decide, by decide +kernel⟩ rfl rfl ⟨by decide, by decide⟩ rfl hl.1 rfl (Nat.le_of_ble_eq_true rfl) dX6_lay_41 ⟨Nat.le_of_ble_eq_true rfl, Nat.le_of_ble_eq_true rfl⟩ (fun v9 u H locs hp w => ?_)
        obtain ⟨f2, rfl, rfl, hw, hn, hk1⟩ := hp
        have hk := hk.tr hk1
        generalize f2 = f at w hw hk
        refine lv_if_eq (tgt := 51) hx hb dX6_lay_44 (by decide) (fun c25 => ?_) (fun c25 => ?_)
        · have h := bb_t h c25
          exact J51  p1 p2 p3 p4 S23 h f H locs w hw hn hk ls (lv_sub hl [0, 1, 2, 3, 4] rfl)
        · have h := bb_f h c25
          refine lv_iconst (v := 1) hx hb dX6_lay_47 (by decide) ?_
          refine lv_goto (tgt := 52) hx hb dX6_lay_48 (by decide) ?_
          exact J52  p1 p2 p3 p4 1 S23 h f H locs w hw hn hk ls (lv_sub hl [0, 1, 2, 3, 4] rfl)
theorem dX6_wire_0 : decode cX6_wire 0 = .ok (.iload_n 1, 1) := by decide +kernel
theorem dX6_wire_1 : decode cX6_wire 1 = .ok (.aload_n 0, 1) := by decide +kernel
theorem dX6_wire_2 : decode cX6_wire 2 = .ok (.getfield 10, 3) := by decide +kernel
theorem dX6_wire_5 : decode cX6_wire 5 = .ok (.getfield 100, 3) := by decide +kernel
theorem dX6_wire_8 : decode cX6_wire 8 = .ok (.getfield 110, 3) := by decide +kernel
theorem dX6_wire_11 : decode cX6_wire 11 = .ok (.invokestatic 113, 3) := by decide +kernel
theorem dX6_wire_14 : decode cX6_wire 14 = .ok (.aload_n 0, 1) := by decide +kernel
theorem dX6_wire_15 : decode cX6_wire 15 = .ok (.getfield 10, 3) := by decide +kernel
theorem dX6_wire_18 : decode cX6_wire 18 = .ok (.getfield 100, 3) := by decide +kernel
theorem dX6_wire_21 : decode cX6_wire 21 = .ok (.getfield 117, 3) := by decide +kernel
theorem dX6_wire_24 : decode cX6_wire 24 = .ok (.iload_n 1, 1) := by decide +kernel
theorem dX6_wire_25 : decode cX6_wire 25 = .ok (.iaload, 1) := by decide +kernel
theorem dX6_wire_26 : decode cX6_wire 26 = .ok (.iconst 1, 1) := by decide +kernel
theorem dX6_wire_27 : decode cX6_wire 27 = .ok (.if_icmp .ne 7, 3) := by decide +kernel
theorem dX6_wire_30 : decode cX6_wire 30 = .ok (.iconst 1, 1) := by decide +kernel
theorem dX6_wire_31 : decode cX6_wire 31 = .ok (.goto 4, 3) := by decide +kernel
theorem dX6_wire_34 : decode cX6_wire 34 = .ok (.iconst 0, 1) := by decide +kernel
theorem dX6_wire_35 : decode cX6_wire 35 = .ok (.istore_n 3, 1) := by decide +kernel
theorem dX6_wire_36 : decode cX6_wire 36 = .ok (.aload_n 0, 1) := by decide +kernel
theorem dX6_wire_37 : decode cX6_wire 37 = .ok (.getfield 10, 3) := by decide +kernel
theorem dX6_wire_40 : decode cX6_wire 40 = .ok (.getfield 100, 3) := by decide +kernel
theorem dX6_wire_43 : decode cX6_wire 43 = .ok (.getfield 117, 3) := by decide +kernel
theorem dX6_wire_46 : decode cX6_wire 46 = .ok (.iload_n 1, 1) := by decide +kernel
theorem dX6_wire_47 : decode cX6_wire 47 = .ok (.iload_n 2, 1) := by decide +kernel
theorem dX6_wire_48 : decode cX6_wire 48 = .ok (.ifCond .eq 7, 3) := by decide +kernel
theorem dX6_wire_51 : decode cX6_wire 51 = .ok (.iconst 1, 1) := by decide +kernel
theorem dX6_wire_52 : decode cX6_wire 52 = .ok (.goto 4, 3) := by decide +kernel
theorem dX6_wire_55 : decode cX6_wire 55 = .ok (.iconst 0, 1) := by decide +kernel
theorem dX6_wire_56 : decode cX6_wire 56 = .ok (.iastore, 1) := by decide +kernel
theorem dX6_wire_57 : decode cX6_wire 57 = .ok (.iload_n 3, 1) := by decide +kernel
theorem dX6_wire_58 : decode cX6_wire 58 = .ok (.ireturn, 1) := by decide +kernel
noncomputable def B_X6_wire_56 (a3 : Int32) (t0 : Int32) (t1 : Int32) (S : fS) : Option ((Nat × Int32) × fS) := gd (ib t1 24) (sv (pu S 6 0 (t1 : Int32).toNatClampNeg t0) (fun S2 => gd (a3 = 0 ∨ a3 = 1) (some ((0, a3), S2))))
noncomputable def B_X6_wire_35 (a1 : Int32) (a2 : Int32) (t0 : Int32) (S : fS) : Option ((Nat × Int32) × fS) := bb (a2 = (0 : Int32)) (B_X6_wire_56  t0 0 a1 S) (B_X6_wire_56  t0 1 a1 S)
noncomputable def F_X6_wire (p1 : Int32) (p2 : Int32) (S0 : fS) : Option ((Nat × Int32) × fS) := iv (ge S0 2 0 0) (fun x5 => bx (F_X6_needElement p1 x5 S0) (fun v6 S7 => gd (ib p1 24) (iv (ge S7 6 0 (p1 : Int32).toNatClampNeg) (fun x11 => bb (x11 = (1 : Int32)) (B_X6_wire_35  p1 p2 1 S7) (B_X6_wire_35  p1 p2 0 S7)))))
set_option maxHeartbeats 4000000 in
set_option maxRecDepth 100000 in
theorem c_X6_wire (l : Launch) (hls : l.stackTraces = false) (D : va_G) (K : Nat → ClassId) (b0 : Nat) (sa : sT) (sz : Nat) (L : List Nat) (f0 : Nat → va_E) (ad : Nat → Nat → Nat) (P : Nat → Nat → Prop) {n : Nat × Nat} (hP : ∀ a i : Nat, isn n a i → P a i) (S0 : fS) (hw : PW K ad P S0 L f0) (hn : S0.2.2.1 = n) (p1 : Int32) (p2 : Int32) (ec : Nat) (v : Int32) (S1 : fS) (h : F_X6_wire p1 p2 S0 = some ((ec, v), S1)) : vx_Met l yX6_wire (.code yX6_wire cX6_wire 4 (some .boolean) :: gt) { frames := 7, cells := 1, slots := 6, locals := 103 } (va_Pc [.ref (ad 0 0), .int p1, .int p2] (hPre D K b0 sa sz L f0)) (hQ D K b0 (fun v9 u9 => ec = 0 ∧ v9 = some (.int v) ∧ ∃ f2 : Nat → va_E, u9 = lU L f2 ∧ PW K ad P S1 L f2 ∧ S1.2.2.1 = n ∧ Kp ad P L f0 f2)) (hX D K b0 (fun E u9 => (ec ≠ 0 ∧ E = exn ec) ∧ ∃ f2 : Nat → va_E, u9 = lU L f2 ∧ PW K ad P S1 L f2 ∧ S1.2.2.1 = n ∧ Kp ad P L f0 f2)) 1 6 (fun q => b0 ≤ q) := by
  refine t_xof (own := RX6) (by decide) rfl ?_ (Nat.le_of_ble_eq_true rfl)
  intro p e s m below meth c ls C w hsz hr hlk htb hl
  have hx := C.1
  have hb := C.2.1
  have hl : lv_has ls 4 [(0, .ref (ad 0 0)), (1, .int p1), (2, .int p2)] := hl
  have J56 : ∀ (a3 : Int32) (t0 : Int32) (t1 : Int32) (S : fS), B_X6_wire_56  a3 t0 t1 S = some ((ec, v), S1) → Gw D K b0 sa ad P n L f0 p l e { frames := 7, cells := 1, slots := 6, locals := 103 } s m [.ref (ad 0 0), .int p1, .int p2].toArray below meth c 4 (vx_MQ below (hQ D K b0 (fun v9 u9 => ec = 0 ∧ v9 = some (.int v) ∧ ∃ f2 : Nat → va_E, u9 = lU L f2 ∧ PW K ad P S1 L f2 ∧ S1.2.2.1 = n ∧ Kp ad P L f0 f2)) (hX D K b0 (fun E u9 => (ec ≠ 0 ∧ E = exn ec) ∧ ∃ f2 : Nat → va_E, u9 = lU L f2 ∧ PW K ad P S1 L f2 ∧ S1.2.2.1 = n ∧ Kp ad P L f0 f2)) [.ref (ad 0 0), .int p1, .int p2].toArray s 1 6 (fun q => b0 ≤ q)) 1 6 56 [(3, .int a3)] [.int t0, .int t1, .ref (ad 6 0)] S := by
    intro a3 t0 t1 S h
    dsimp only [B_X6_wire_56] at h
    intro f H locs w hw hn hk ls hl
    obtain ⟨g1, h⟩ := gd_some h
    refine u_iast C w hw (hP _ _ (isn_f rfl rfl (by decide))) rfl rfl (n := 24) rfl (vp_in_iff.mpr g1) dX6_wire_56 (fun f H locs w hw hk1 => ?_)
    have hk := hk.tr hk1
    refine u_sv h hw hn (fun S2 h hw hn => ?_)
    refine lv_iload_n hx hb dX6_wire_57 rfl (lv_at hl 0 rfl) ?_
    obtain ⟨g3, h⟩ := gd_some h
    refine vx_ret ?_
    exact t_zret C hr hlk w (narb g3) ⟨sx_e h, sx_v h, _, rfl, sx_w h hw, sx_n h hn, hk⟩ (by decide) (by decide) dX6_wire_58
  have J35 : ∀ (a1 : Int32) (a2 : Int32) (t0 : Int32) (S : fS), B_X6_wire_35  a1 a2 t0 S = some ((ec, v), S1) → Gw D K b0 sa ad P n L f0 p l e { frames := 7, cells := 1, slots := 6, locals := 103 } s m [.ref (ad 0 0), .int p1, .int p2].toArray below meth c 4 (vx_MQ below (hQ D K b0 (fun v9 u9 => ec = 0 ∧ v9 = some (.int v) ∧ ∃ f2 : Nat → va_E, u9 = lU L f2 ∧ PW K ad P S1 L f2 ∧ S1.2.2.1 = n ∧ Kp ad P L f0 f2)) (hX D K b0 (fun E u9 => (ec ≠ 0 ∧ E = exn ec) ∧ ∃ f2 : Nat → va_E, u9 = lU L f2 ∧ PW K ad P S1 L f2 ∧ S1.2.2.1 = n ∧ Kp ad P L f0 f2)) [.ref (ad 0 0), .int p1, .int p2].toArray s 1 6 (fun q => b0 ≤ q)) 1 6 35 [(0, .ref (ad 0 0)), (1, .int a1), (2, .int a2)] [.int t0] S := by
    intro a1 a2 t0 S h
    dsimp only [B_X6_wire_35] at h
    intro f H locs w hw hn hk ls hl
    refine lv_istore_n (lv' := [(3, .int t0), (0, .ref (ad 0 0)), (1, .int a1), (2, .int a2)]) hx hb dX6_wire_35 rfl hl (by decide) rfl (fun ls hl => ?_)
    refine lv_aload_n hx hb dX6_wire_36 rfl (lv_at hl 1 rfl) ?_
    refine u_getr C w hw (hP _ _ (isn_f rfl rfl (by decide))) rfl (N := 18) rfl rfl cin_6 0 (by decide) (by decide) (a2 := 1) (i2 := 0) rfl gw_287 dX6_wire_37 ?_
    refine u_getr C w hw (hP _ _ (isn_f rfl rfl (by decide))) rfl (N := 13) rfl rfl cin_0 0 (by decide) (by decide) (a2 := 2) (i2 := 0) rfl gw_89 dX6_wire_40 ?_
    refine u_getr C w hw (hP _ _ (isn_f rfl rfl (by decide))) rfl (N := 9) rfl rfl cin_2 4 (by decide) (by decide) (a2 := 6) (i2 := 0) rfl gw_57 dX6_wire_43 ?_
    refine lv_iload_n hx hb dX6_wire_46 rfl (lv_at hl 2 rfl) ?_
    refine lv_iload_n hx hb dX6_wire_47 rfl (lv_at hl 3 rfl) ?_
    refine lv_if_eq (tgt := 55) hx hb dX6_wire_48 (by decide) (fun c4 => ?_) (fun c4 => ?_)
    · have h := bb_t h c4
      refine lv_iconst (v := 0) hx hb dX6_wire_55 (by decide) ?_
      exact J56  t0 0 a1 S h f H locs w hw hn hk ls (lv_sub hl [0] rfl)
    · have h := bb_f h c4
      refine lv_iconst (v := 1) hx hb dX6_wire_51 (by decide) ?_
      refine lv_goto (tgt := 56) hx hb dX6_wire_52 (by decide) ?_
      exact J56  t0 1 a1 S h f H locs w hw hn hk ls (lv_sub hl [0] rfl)
  dsimp only [F_X6_wire] at h
  obtain ⟨f, ef⟩ : ∃ z, z = f0 := ⟨_, rfl⟩
  rw [← ef] at w hw
  have hk : Kp ad P L f0 f := by rw [ef]; exact Kp.rf
  obtain ⟨H, eH⟩ : ∃ z, z = s.heap := ⟨_, rfl⟩
  obtain ⟨locs, el⟩ : ∃ z : List Loc, z = [] := ⟨_, rfl⟩
  rw [← eH, ← el] at w ⊢
  refine lv_iload_n hx hb dX6_wire_0 rfl (lv_at hl 1 rfl) ?_
  refine lv_aload_n hx hb dX6_wire_1 rfl (lv_at hl 0 rfl) ?_
  refine u_getr C w hw (hP _ _ (isn_f rfl rfl (by decide))) rfl (N := 18) rfl rfl cin_6 0 (by decide) (by decide) (a2 := 1) (i2 := 0) rfl gw_287 dX6_wire_2 ?_
  refine u_getr C w hw (hP _ _ (isn_f rfl rfl (by decide))) rfl (N := 13) rfl rfl cin_0 0 (by decide) (by decide) (a2 := 2) (i2 := 0) rfl gw_89 dX6_wire_5 ?_
  refine u_geti C w hw (hP _ _ (isn_f rfl rfl (by decide))) rfl (N := 9) rfl rfl cin_2 0 (by decide) rfl gw_47 dX6_wire_8 ?_
  refine u_iv h (fun x5 h => ?_)
  rcases bx_some h with ⟨v6, S7, h8, h⟩ | ⟨e9, v6, S7, h8, h⟩
  rotate_left
  · refine t_xcallS (n := 2) C w (c_X6_needElement l hls D K b0 sa _ L _ ad P hP S0 hw hn p1 x5 (e9 + 1) v6 S7 h8) gw_656 gw_654 gw_655 gw_1 ⟨by decide, by decide, by decide +kernel⟩ rfl rfl ⟨by decide, by decide⟩ rfl hl.1 rfl (Nat.le_of_ble_eq_true rfl) dX6_wire_11 ⟨Nat.le_of_ble_eq_true rfl, Nat.le_of_ble_eq_true rfl⟩ (fun E ce q9 u H locs hp w hcell hv0 hcl => ?_) (fun v9 u H locs hp w => absurd hp.1 (Nat.succ_ne_zero _))
    obtain ⟨⟨he, hE⟩, f2, rfl, hw, hn, hk1⟩ := hp
    exact t_xout w htb hlk hcell hv0 hcl ⟨sz_e h he hE, _, rfl, sz_w h hw, sz_n h hn, hk.tr hk1⟩ (by decide) (by decide)
  refine t_xcallS (n := 2) C w (c_X6_needElement l hls D K b0 sa _ L _ ad P hP S0 hw hn p1 x5 0 v6 S7 h8) gw_656 gw_654 gw_655 gw_1 ⟨by decide, by decide, by decide +kernel⟩ rfl rfl ⟨by decide, by decide⟩ rfl hl.1 rfl (Nat.le_of_ble_eq_true rfl) dX6_wire_11 ⟨Nat.le_of_ble_eq_true rfl, Nat.le_of_ble_eq_true rfl⟩ (fun E ce q9 u H locs hp w hcell hv0 hcl => absurd rfl hp.1.1) (fun v9 u H locs hp w => ?_)
  obtain ⟨-, rfl, f2, rfl, hw, hn, hk1⟩ := hp
  have hk := hk.tr hk1
  generalize f2 = f at w hw hk
  refine lv_aload_n hx hb dX6_wire_14 rfl (lv_at hl 0 rfl) ?_
  refine u_getr C w hw (hP _ _ (isn_f rfl rfl (by decide))) rfl (N := 18) rfl rfl cin_6 0 (by decide) (by decide) (a2 := 1) (i2 := 0) rfl gw_287 dX6_wire_15 ?_
  refine u_getr C w hw (hP _ _ (isn_f rfl rfl (by decide))) rfl (N := 13) rfl rfl cin_0 0 (by decide) (by decide) (a2 := 2) (i2 := 0) rfl gw_89 dX6_wire_18 ?_
  refine u_getr C w hw (hP _ _ (isn_f rfl rfl (by decide))) rfl (N := 9) rfl rfl cin_2 4 (by decide) (by decide) (a2 := 6) (i2 := 0) rfl gw_57 dX6_wire_21 ?_
  refine lv_iload_n hx hb dX6_wire_24 rfl (lv_at hl 1 rfl) ?_
  obtain ⟨g10, h⟩ := gd_some h
  refine u_iald C w hw (hP _ _ (isn_f rfl rfl (by decide))) rfl rfl (n := 24) rfl (vp_in_iff.mpr g10) dX6_wire_25 ?_
  refine u_iv h (fun x11 h => ?_)
  refine lv_iconst (v := 1) hx hb dX6_wire_26 (by decide) ?_
  refine lv_icmp_ne (tgt := 34) hx hb dX6_wire_27 (by decide) (fun c12 => ?_) (fun c12 => ?_)
  · have h := bb_f h c12
    refine lv_iconst (v := 0) hx hb dX6_wire_34 (by decide) ?_
    exact J35  p1 p2 0 S7 h f H locs w hw hn hk ls (lv_sub hl [0, 1, 2] rfl)
  · have h := bb_t h c12
    refine lv_iconst (v := 1) hx hb dX6_wire_30 (by decide) ?_
    refine lv_goto (tgt := 35) hx hb dX6_wire_31 (by decide) ?_
    exact J35  p1 p2 1 S7 h f H locs w hw hn hk ls (lv_sub hl [0, 1, 2] rfl)
theorem dX6_key_0 : decode cX6_key 0 = .ok (.iload_n 1, 1) := by decide +kernel
theorem dX6_key_1 : decode cX6_key 1 = .ok (.aload_n 0, 1) := by decide +kernel
theorem dX6_key_2 : decode cX6_key 2 = .ok (.getfield 10, 3) := by decide +kernel
theorem dX6_key_5 : decode cX6_key 5 = .ok (.getfield 100, 3) := by decide +kernel
theorem dX6_key_8 : decode cX6_key 8 = .ok (.getfield 110, 3) := by decide +kernel
theorem dX6_key_11 : decode cX6_key 11 = .ok (.invokestatic 113, 3) := by decide +kernel
theorem dX6_key_14 : decode cX6_key 14 = .ok (.aload_n 0, 1) := by decide +kernel
theorem dX6_key_15 : decode cX6_key 15 = .ok (.getfield 10, 3) := by decide +kernel
theorem dX6_key_18 : decode cX6_key 18 = .ok (.getfield 100, 3) := by decide +kernel
theorem dX6_key_21 : decode cX6_key 21 = .ok (.getfield 120, 3) := by decide +kernel
theorem dX6_key_24 : decode cX6_key 24 = .ok (.iload_n 1, 1) := by decide +kernel
theorem dX6_key_25 : decode cX6_key 25 = .ok (.iaload, 1) := by decide +kernel
theorem dX6_key_26 : decode cX6_key 26 = .ok (.ifCond .ge 5, 3) := by decide +kernel
theorem dX6_key_29 : decode cX6_key 29 = .ok (.iconst 0, 1) := by decide +kernel
theorem dX6_key_30 : decode cX6_key 30 = .ok (.ireturn, 1) := by decide +kernel
theorem dX6_key_31 : decode cX6_key 31 = .ok (.aload_n 0, 1) := by decide +kernel
theorem dX6_key_32 : decode cX6_key 32 = .ok (.getfield 10, 3) := by decide +kernel
theorem dX6_key_35 : decode cX6_key 35 = .ok (.getfield 100, 3) := by decide +kernel
theorem dX6_key_38 : decode cX6_key 38 = .ok (.iload_n 1, 1) := by decide +kernel
theorem dX6_key_39 : decode cX6_key 39 = .ok (.bipush (-2), 2) := by decide +kernel
theorem dX6_key_41 : decode cX6_key 41 = .ok (.invokevirtual 123, 3) := by decide +kernel
theorem dX6_key_44 : decode cX6_key 44 = .ok (.iconst 1, 1) := by decide +kernel
theorem dX6_key_45 : decode cX6_key 45 = .ok (.ireturn, 1) := by decide +kernel
noncomputable def F_X6_key (p1 : Int32) (S0 : fS) : Option ((Nat × Int32) × fS) := iv (ge S0 2 0 0) (fun x1 => bx (F_X6_needElement p1 x1 S0) (fun v2 S3 => gd (ib p1 24) (iv (ge S3 8 0 (p1 : Int32).toNatClampNeg) (fun x7 => bb ((0 : Int32) ≤ x7) (bd (F_X2_takeOut 0 p1 (-2) S3) (fun v9 S10 => some ((0, 1), S10))) (some ((0, 0), S3))))))
set_option maxHeartbeats 4000000 in
set_option maxRecDepth 100000 in
theorem c_X6_key (l : Launch) (hls : l.stackTraces = false) (D : va_G) (K : Nat → ClassId) (b0 : Nat) (sa : sT) (sz : Nat) (L : List Nat) (f0 : Nat → va_E) (ad : Nat → Nat → Nat) (P : Nat → Nat → Prop) {n : Nat × Nat} (hP : ∀ a i : Nat, isn n a i → P a i) (S0 : fS) (hw : PW K ad P S0 L f0) (hn : S0.2.2.1 = n) (p1 : Int32) (ec : Nat) (v : Int32) (S1 : fS) (h : F_X6_key p1 S0 = some ((ec, v), S1)) : vx_Met l yX6_key (.code yX6_key cX6_key 2 (some .int) :: gt) { frames := 7, cells := 1, slots := 6, locals := 103 } (va_Pc [.ref (ad 0 0), .int p1] (hPre D K b0 sa sz L f0)) (hQ D K b0 (fun v9 u9 => ec = 0 ∧ v9 = some (.int v) ∧ ∃ f2 : Nat → va_E, u9 = lU L f2 ∧ PW K ad P S1 L f2 ∧ S1.2.2.1 = n ∧ Kp ad P L f0 f2)) (hX D K b0 (fun E u9 => (ec ≠ 0 ∧ E = exn ec) ∧ ∃ f2 : Nat → va_E, u9 = lU L f2 ∧ PW K ad P S1 L f2 ∧ S1.2.2.1 = n ∧ Kp ad P L f0 f2)) 1 6 (fun q => b0 ≤ q) := by
  refine t_xof (own := RX6) (by decide) rfl ?_ (Nat.le_of_ble_eq_true rfl)
  intro p e s m below meth c ls C w hsz hr hlk htb hl
  have hx := C.1
  have hb := C.2.1
  have hl : lv_has ls 2 [(0, .ref (ad 0 0)), (1, .int p1)] := hl
  dsimp only [F_X6_key] at h
  obtain ⟨f, ef⟩ : ∃ z, z = f0 := ⟨_, rfl⟩
  rw [← ef] at w hw
  have hk : Kp ad P L f0 f := by rw [ef]; exact Kp.rf
  obtain ⟨H, eH⟩ : ∃ z, z = s.heap := ⟨_, rfl⟩
  obtain ⟨locs, el⟩ : ∃ z : List Loc, z = [] := ⟨_, rfl⟩
  rw [← eH, ← el] at w ⊢
  refine lv_iload_n hx hb dX6_key_0 rfl (lv_at hl 1 rfl) ?_
  refine lv_aload_n hx hb dX6_key_1 rfl (lv_at hl 0 rfl) ?_
  refine u_getr C w hw (hP _ _ (isn_f rfl rfl (by decide))) rfl (N := 18) rfl rfl cin_6 0 (by decide) (by decide) (a2 := 1) (i2 := 0) rfl gw_287 dX6_key_2 ?_
  refine u_getr C w hw (hP _ _ (isn_f rfl rfl (by decide))) rfl (N := 13) rfl rfl cin_0 0 (by decide) (by decide) (a2 := 2) (i2 := 0) rfl gw_89 dX6_key_5 ?_
  refine u_geti C w hw (hP _ _ (isn_f rfl rfl (by decide))) rfl (N := 9) rfl rfl cin_2 0 (by decide) rfl gw_47 dX6_key_8 ?_
  refine u_iv h (fun x1 h => ?_)
  rcases bx_some h with ⟨v2, S3, h4, h⟩ | ⟨e5, v2, S3, h4, h⟩
  rotate_left
  · refine t_xcallS (n := 2) C w (c_X6_needElement l hls D K b0 sa _ L _ ad P hP S0 hw hn p1 x1 (e5 + 1) v2 S3 h4) gw_656 gw_654 gw_655 gw_1 ⟨by decide, by decide, by decide +kernel⟩ rfl rfl ⟨by decide, by decide⟩ rfl hl.1 rfl (Nat.le_of_ble_eq_true rfl) dX6_key_11 ⟨Nat.le_of_ble_eq_true rfl, Nat.le_of_ble_eq_true rfl⟩ (fun E ce q9 u H locs hp w hcell hv0 hcl => ?_) (fun v9 u H locs hp w => absurd hp.1 (Nat.succ_ne_zero _))
    obtain ⟨⟨he, hE⟩, f2, rfl, hw, hn, hk1⟩ := hp
    exact t_xout w htb hlk hcell hv0 hcl ⟨sz_e h he hE, _, rfl, sz_w h hw, sz_n h hn, hk.tr hk1⟩ (by decide) (by decide)
  refine t_xcallS (n := 2) C w (c_X6_needElement l hls D K b0 sa _ L _ ad P hP S0 hw hn p1 x1 0 v2 S3 h4) gw_656 gw_654 gw_655 gw_1 ⟨by decide, by decide, by decide +kernel⟩ rfl rfl ⟨by decide, by decide⟩ rfl hl.1 rfl (Nat.le_of_ble_eq_true rfl) dX6_key_11 ⟨Nat.le_of_ble_eq_true rfl, Nat.le_of_ble_eq_true rfl⟩ (fun E ce q9 u H locs hp w hcell hv0 hcl => absurd rfl hp.1.1) (fun v9 u H locs hp w => ?_)
  obtain ⟨-, rfl, f2, rfl, hw, hn, hk1⟩ := hp
  have hk := hk.tr hk1
  generalize f2 = f at w hw hk
  refine lv_aload_n hx hb dX6_key_14 rfl (lv_at hl 0 rfl) ?_
  refine u_getr C w hw (hP _ _ (isn_f rfl rfl (by decide))) rfl (N := 18) rfl rfl cin_6 0 (by decide) (by decide) (a2 := 1) (i2 := 0) rfl gw_287 dX6_key_15 ?_
  refine u_getr C w hw (hP _ _ (isn_f rfl rfl (by decide))) rfl (N := 13) rfl rfl cin_0 0 (by decide) (by decide) (a2 := 2) (i2 := 0) rfl gw_89 dX6_key_18 ?_
  refine u_getr C w hw (hP _ _ (isn_f rfl rfl (by decide))) rfl (N := 9) rfl rfl cin_2 6 (by decide) (by decide) (a2 := 8) (i2 := 0) rfl gw_61 dX6_key_21 ?_
  refine lv_iload_n hx hb dX6_key_24 rfl (lv_at hl 1 rfl) ?_
  obtain ⟨g6, h⟩ := gd_some h
  refine u_iald C w hw (hP _ _ (isn_f rfl rfl (by decide))) rfl rfl (n := 24) rfl (vp_in_iff.mpr g6) dX6_key_25 ?_
  refine u_iv h (fun x7 h => ?_)
  refine lv_if_ge (tgt := 31) hx hb dX6_key_26 (by decide) (fun c8 => ?_) (fun c8 => ?_)
  · have h := bb_t h c8
    refine lv_aload_n hx hb dX6_key_31 rfl (lv_at hl 0 rfl) ?_
    refine u_getr C w hw (hP _ _ (isn_f rfl rfl (by decide))) rfl (N := 18) rfl rfl cin_6 0 (by decide) (by decide) (a2 := 1) (i2 := 0) rfl gw_287 dX6_key_32 ?_
    refine u_getr C w hw (hP _ _ (isn_f rfl rfl (by decide))) rfl (N := 13) rfl rfl cin_0 0 (by decide) (by decide) (a2 := 2) (i2 := 0) rfl gw_89 dX6_key_35 ?_
    refine lv_iload_n hx hb dX6_key_38 rfl (lv_at hl 1 rfl) ?_
    refine lv_bipush (v := (-2)) hx hb dX6_key_39 (by decide) ?_
    obtain ⟨v9, S10, h11, h⟩ := bd_some h
    refine u_callV (n := 2) C w hw (hP _ _ (isn_f rfl rfl (by decide))) rfl rfl rfl (c_X2_takeOut l D K b0 sa _ L _ ad P hP S3 hw hn 0 (by decide) p1 (-2) v9 S10 h11) gw_683 gw_680 gw_681 gw_682 gw_3 ⟨by decide, by decide, by decide +kernel⟩ rfl rfl ⟨by decide, by decide⟩ rfl hl.1 rfl (Nat.le_of_ble_eq_true rfl) dX6_key_41 ⟨Nat.le_of_ble_eq_true rfl, Nat.le_of_ble_eq_true rfl⟩ (fun v9 u H locs hp w => ?_)
    obtain ⟨f2, rfl, rfl, hw, hn, hk1⟩ := hp
    have hk := hk.tr hk1
    generalize f2 = f at w hw hk
    refine lv_iconst (v := 1) hx hb dX6_key_44 (by decide) ?_
    refine vx_ret ?_
    exact t_iret C hr hlk w ⟨sx_e h, sx_v h, _, rfl, sx_w h hw, sx_n h hn, hk⟩ (by decide) (by decide) dX6_key_45
  · have h := bb_f h c8
    refine lv_iconst (v := 0) hx hb dX6_key_29 (by decide) ?_
    refine vx_ret ?_
    exact t_iret C hr hlk w ⟨sx_e h, sx_v h, _, rfl, sx_w h hw, sx_n h hn, hk⟩ (by decide) (by decide) dX6_key_30
theorem dX6_thing_0 : decode cX6_thing 0 = .ok (.iload_n 1, 1) := by decide +kernel
theorem dX6_thing_1 : decode cX6_thing 1 = .ok (.aload_n 0, 1) := by decide +kernel
theorem dX6_thing_2 : decode cX6_thing 2 = .ok (.getfield 10, 3) := by decide +kernel
theorem dX6_thing_5 : decode cX6_thing 5 = .ok (.getfield 100, 3) := by decide +kernel
theorem dX6_thing_8 : decode cX6_thing 8 = .ok (.getfield 110, 3) := by decide +kernel
theorem dX6_thing_11 : decode cX6_thing 11 = .ok (.invokestatic 113, 3) := by decide +kernel
theorem dX6_thing_14 : decode cX6_thing 14 = .ok (.iload_n 2, 1) := by decide +kernel
theorem dX6_thing_15 : decode cX6_thing 15 = .ok (.iconst 0, 1) := by decide +kernel
theorem dX6_thing_16 : decode cX6_thing 16 = .ok (.iconst 5, 1) := by decide +kernel
theorem dX6_thing_17 : decode cX6_thing 17 = .ok (.invokestatic 92, 3) := by decide +kernel
theorem dX6_thing_20 : decode cX6_thing 20 = .ok (.invokestatic 96, 3) := by decide +kernel
theorem dX6_thing_23 : decode cX6_thing 23 = .ok (.iload_n 2, 1) := by decide +kernel
theorem dX6_thing_24 : decode cX6_thing 24 = .ok (.tableswitch 100 0 4 #[36, 49, 61, 74, 87], 36) := by decide +kernel
theorem dX6_thing_60 : decode cX6_thing 60 = .ok (.aload_n 0, 1) := by decide +kernel
theorem dX6_thing_61 : decode cX6_thing 61 = .ok (.getfield 10, 3) := by decide +kernel
theorem dX6_thing_64 : decode cX6_thing 64 = .ok (.getfield 100, 3) := by decide +kernel
theorem dX6_thing_67 : decode cX6_thing 67 = .ok (.getfield 120, 3) := by decide +kernel
theorem dX6_thing_70 : decode cX6_thing 70 = .ok (.iload_n 1, 1) := by decide +kernel
theorem dX6_thing_71 : decode cX6_thing 71 = .ok (.iaload, 1) := by decide +kernel
theorem dX6_thing_72 : decode cX6_thing 72 = .ok (.ireturn, 1) := by decide +kernel
theorem dX6_thing_73 : decode cX6_thing 73 = .ok (.aload_n 0, 1) := by decide +kernel
theorem dX6_thing_74 : decode cX6_thing 74 = .ok (.getfield 10, 3) := by decide +kernel
theorem dX6_thing_77 : decode cX6_thing 77 = .ok (.getfield 100, 3) := by decide +kernel
theorem dX6_thing_80 : decode cX6_thing 80 = .ok (.iload_n 1, 1) := by decide +kernel
theorem dX6_thing_81 : decode cX6_thing 81 = .ok (.invokevirtual 126, 3) := by decide +kernel
theorem dX6_thing_84 : decode cX6_thing 84 = .ok (.ireturn, 1) := by decide +kernel
theorem dX6_thing_85 : decode cX6_thing 85 = .ok (.aload_n 0, 1) := by decide +kernel
theorem dX6_thing_86 : decode cX6_thing 86 = .ok (.getfield 10, 3) := by decide +kernel
theorem dX6_thing_89 : decode cX6_thing 89 = .ok (.getfield 100, 3) := by decide +kernel
theorem dX6_thing_92 : decode cX6_thing 92 = .ok (.getfield 130, 3) := by decide +kernel
theorem dX6_thing_95 : decode cX6_thing 95 = .ok (.iload_n 1, 1) := by decide +kernel
theorem dX6_thing_96 : decode cX6_thing 96 = .ok (.iaload, 1) := by decide +kernel
theorem dX6_thing_97 : decode cX6_thing 97 = .ok (.ireturn, 1) := by decide +kernel
theorem dX6_thing_98 : decode cX6_thing 98 = .ok (.aload_n 0, 1) := by decide +kernel
theorem dX6_thing_99 : decode cX6_thing 99 = .ok (.getfield 10, 3) := by decide +kernel
theorem dX6_thing_102 : decode cX6_thing 102 = .ok (.getfield 100, 3) := by decide +kernel
theorem dX6_thing_105 : decode cX6_thing 105 = .ok (.getfield 133, 3) := by decide +kernel
theorem dX6_thing_108 : decode cX6_thing 108 = .ok (.iload_n 1, 1) := by decide +kernel
theorem dX6_thing_109 : decode cX6_thing 109 = .ok (.iaload, 1) := by decide +kernel
theorem dX6_thing_110 : decode cX6_thing 110 = .ok (.ireturn, 1) := by decide +kernel
theorem dX6_thing_111 : decode cX6_thing 111 = .ok (.aload_n 0, 1) := by decide +kernel
theorem dX6_thing_112 : decode cX6_thing 112 = .ok (.getfield 10, 3) := by decide +kernel
theorem dX6_thing_115 : decode cX6_thing 115 = .ok (.getfield 100, 3) := by decide +kernel
theorem dX6_thing_118 : decode cX6_thing 118 = .ok (.getfield 136, 3) := by decide +kernel
theorem dX6_thing_121 : decode cX6_thing 121 = .ok (.iload_n 1, 1) := by decide +kernel
theorem dX6_thing_122 : decode cX6_thing 122 = .ok (.iaload, 1) := by decide +kernel
theorem dX6_thing_123 : decode cX6_thing 123 = .ok (.ireturn, 1) := by decide +kernel
theorem dX6_thing_124 : decode cX6_thing 124 = .ok (.aload_n 0, 1) := by decide +kernel
theorem dX6_thing_125 : decode cX6_thing 125 = .ok (.getfield 10, 3) := by decide +kernel
theorem dX6_thing_128 : decode cX6_thing 128 = .ok (.getfield 100, 3) := by decide +kernel
theorem dX6_thing_131 : decode cX6_thing 131 = .ok (.getfield 117, 3) := by decide +kernel
theorem dX6_thing_134 : decode cX6_thing 134 = .ok (.iload_n 1, 1) := by decide +kernel
theorem dX6_thing_135 : decode cX6_thing 135 = .ok (.iaload, 1) := by decide +kernel
theorem dX6_thing_136 : decode cX6_thing 136 = .ok (.ireturn, 1) := by decide +kernel
noncomputable def F_X6_thing (p1 : Int32) (p2 : Int32) (S0 : fS) : Option ((Nat × Int32) × fS) := iv (ge S0 2 0 0) (fun x1 => bx (F_X6_needElement p1 x1 S0) (fun v2 S3 => bd (F_X6_within p2 0 5 S3) (fun v6 S7 => bx (F_X6_need v6 S7) (fun v9 S10 => bb (p2.toInt = 0) (gd (ib p1 24) (iv (ge S10 8 0 (p1 : Int32).toNatClampNeg) (fun x15 => some ((0, x15), S10)))) (bb (p2.toInt = 1) (bd (F_X2_levelOf 0 p1 S10) (fun v17 S18 => some ((0, v17), S18))) (bb (p2.toInt = 2) (gd (ib p1 24) (iv (ge S10 3 0 (p1 : Int32).toNatClampNeg) (fun x22 => some ((0, x22), S10)))) (bb (p2.toInt = 3) (gd (ib p1 24) (iv (ge S10 4 0 (p1 : Int32).toNatClampNeg) (fun x25 => some ((0, x25), S10)))) (bb (p2.toInt = 4) (gd (ib p1 24) (iv (ge S10 5 0 (p1 : Int32).toNatClampNeg) (fun x28 => some ((0, x28), S10)))) (gd (ib p1 24) (iv (ge S10 6 0 (p1 : Int32).toNatClampNeg) (fun x30 => some ((0, x30), S10))))))))))))
set_option maxHeartbeats 4000000 in
set_option maxRecDepth 100000 in
theorem c_X6_thing (l : Launch) (hls : l.stackTraces = false) (D : va_G) (K : Nat → ClassId) (b0 : Nat) (sa : sT) (sz : Nat) (L : List Nat) (f0 : Nat → va_E) (ad : Nat → Nat → Nat) (P : Nat → Nat → Prop) {n : Nat × Nat} (hP : ∀ a i : Nat, isn n a i → P a i) (S0 : fS) (hw : PW K ad P S0 L f0) (hn : S0.2.2.1 = n) (p1 : Int32) (p2 : Int32) (ec : Nat) (v : Int32) (S1 : fS) (h : F_X6_thing p1 p2 S0 = some ((ec, v), S1)) : vx_Met l yX6_thing (.code yX6_thing cX6_thing 3 (some .int) :: gt) { frames := 7, cells := 2, slots := 12, locals := 103 } (va_Pc [.ref (ad 0 0), .int p1, .int p2] (hPre D K b0 sa sz L f0)) (hQ D K b0 (fun v9 u9 => ec = 0 ∧ v9 = some (.int v) ∧ ∃ f2 : Nat → va_E, u9 = lU L f2 ∧ PW K ad P S1 L f2 ∧ S1.2.2.1 = n ∧ Kp ad P L f0 f2)) (hX D K b0 (fun E u9 => (ec ≠ 0 ∧ E = exn ec) ∧ ∃ f2 : Nat → va_E, u9 = lU L f2 ∧ PW K ad P S1 L f2 ∧ S1.2.2.1 = n ∧ Kp ad P L f0 f2)) 2 12 (fun q => b0 ≤ q) := by
  refine t_xof (own := RX6) (by decide) rfl ?_ (Nat.le_of_ble_eq_true rfl)
  intro p e s m below meth c ls C w hsz hr hlk htb hl
  have hx := C.1
  have hb := C.2.1
  have hl : lv_has ls 3 [(0, .ref (ad 0 0)), (1, .int p1), (2, .int p2)] := hl
  dsimp only [F_X6_thing] at h
  obtain ⟨f, ef⟩ : ∃ z, z = f0 := ⟨_, rfl⟩
  rw [← ef] at w hw
  have hk : Kp ad P L f0 f := by rw [ef]; exact Kp.rf
  obtain ⟨H, eH⟩ : ∃ z, z = s.heap := ⟨_, rfl⟩
  obtain ⟨locs, el⟩ : ∃ z : List Loc, z = [] := ⟨_, rfl⟩
  rw [← eH, ← el] at w ⊢
  refine lv_iload_n hx hb dX6_thing_0 rfl (lv_at hl 1 rfl) ?_
  refine lv_aload_n hx hb dX6_thing_1 rfl (lv_at hl 0 rfl) ?_
  refine u_getr C w hw (hP _ _ (isn_f rfl rfl (by decide))) rfl (N := 18) rfl rfl cin_6 0 (by decide) (by decide) (a2 := 1) (i2 := 0) rfl gw_287 dX6_thing_2 ?_
  refine u_getr C w hw (hP _ _ (isn_f rfl rfl (by decide))) rfl (N := 13) rfl rfl cin_0 0 (by decide) (by decide) (a2 := 2) (i2 := 0) rfl gw_89 dX6_thing_5 ?_
  refine u_geti C w hw (hP _ _ (isn_f rfl rfl (by decide))) rfl (N := 9) rfl rfl cin_2 0 (by decide) rfl gw_47 dX6_thing_8 ?_
  refine u_iv h (fun x1 h => ?_)
  rcases bx_some h with ⟨v2, S3, h4, h⟩ | ⟨e5, v2, S3, h4, h⟩
  rotate_left
  · refine t_xcallS (n := 2) C w (c_X6_needElement l hls D K b0 sa _ L _ ad P hP S0 hw hn p1 x1 (e5 + 1) v2 S3 h4) gw_656 gw_654 gw_655 gw_1 ⟨by decide, by decide, by decide +kernel⟩ rfl rfl ⟨by decide, by decide⟩ rfl hl.1 rfl (Nat.le_of_ble_eq_true rfl) dX6_thing_11 ⟨Nat.le_of_ble_eq_true rfl, Nat.le_of_ble_eq_true rfl⟩ (fun E ce q9 u H locs hp w hcell hv0 hcl => ?_) (fun v9 u H locs hp w => absurd hp.1 (Nat.succ_ne_zero _))
    obtain ⟨⟨he, hE⟩, f2, rfl, hw, hn, hk1⟩ := hp
    exact t_xout w htb hlk hcell hv0 hcl ⟨sz_e h he hE, _, rfl, sz_w h hw, sz_n h hn, hk.tr hk1⟩ (by decide) (by decide)
  refine t_xcallS (n := 2) C w (c_X6_needElement l hls D K b0 sa _ L _ ad P hP S0 hw hn p1 x1 0 v2 S3 h4) gw_656 gw_654 gw_655 gw_1 ⟨by decide, by decide, by decide +kernel⟩ rfl rfl ⟨by decide, by decide⟩ rfl hl.1 rfl (Nat.le_of_ble_eq_true rfl) dX6_thing_11 ⟨Nat.le_of_ble_eq_true rfl, Nat.le_of_ble_eq_true rfl⟩ (fun E ce q9 u H locs hp w hcell hv0 hcl => absurd rfl hp.1.1) (fun v9 u H locs hp w => ?_)
  obtain ⟨-, rfl, f2, rfl, hw, hn, hk1⟩ := hp
  have hk := hk.tr hk1
  generalize f2 = f at w hw hk
  refine lv_iload_n hx hb dX6_thing_14 rfl (lv_at hl 2 rfl) ?_
  refine lv_iconst (v := 0) hx hb dX6_thing_15 (by decide) ?_
  refine lv_iconst (v := 5) hx hb dX6_thing_16 (by decide) ?_
  obtain ⟨v6, S7, h8, h⟩ := bd_some h
  refine t_callS (n := 3) C w (c_X6_within l D K b0 sa _ L _ ad P hP S3 hw hn p2 0 5 v6 S7 h8) gw_376 gw_374 gw_375 gw_1 ⟨by decide, by decide, by decide +kernel⟩ rfl rfl ⟨by decide, by decide⟩ rfl hl.1 rfl (Nat.le_of_ble_eq_true rfl) dX6_thing_17 ⟨Nat.le_of_ble_eq_true rfl, Nat.le_of_ble_eq_true rfl⟩ (fun v9 u H locs hp w => ?_)
  obtain ⟨f2, rfl, rfl, hw, hn, hk1⟩ := hp
  have hk := hk.tr hk1
  generalize f2 = f at w hw hk
  rcases bx_some h with ⟨v9, S10, h11, h⟩ | ⟨e12, v9, S10, h11, h⟩
  rotate_left
  · refine t_xcallS (n := 1) C w (c_X6_need l hls D K b0 sa _ L _ ad P hP S7 hw hn v6 (e12 + 1) v9 S10 h11) gw_625 gw_623 gw_624 gw_1 ⟨by decide, by decide, by decide +kernel⟩ rfl rfl ⟨by decide, by decide⟩ rfl hl.1 rfl (Nat.le_of_ble_eq_true rfl) dX6_thing_20 ⟨Nat.le_of_ble_eq_true rfl, Nat.le_of_ble_eq_true rfl⟩ (fun E ce q9 u H locs hp w hcell hv0 hcl => ?_) (fun v9 u H locs hp w => absurd hp.1 (Nat.succ_ne_zero _))
    obtain ⟨⟨he, hE⟩, f2, rfl, hw, hn, hk1⟩ := hp
    exact t_xout w htb hlk hcell hv0 hcl ⟨sz_e h he hE, _, rfl, sz_w h hw, sz_n h hn, hk.tr hk1⟩ (by decide) (by decide)
  refine t_xcallS (n := 1) C w (c_X6_need l hls D K b0 sa _ L _ ad P hP S7 hw hn v6 0 v9 S10 h11) gw_625 gw_623 gw_624 gw_1 ⟨by decide, by decide, by decide +kernel⟩ rfl rfl ⟨by decide, by decide⟩ rfl hl.1 rfl (Nat.le_of_ble_eq_true rfl) dX6_thing_20 ⟨Nat.le_of_ble_eq_true rfl, Nat.le_of_ble_eq_true rfl⟩ (fun E ce q9 u H locs hp w hcell hv0 hcl => absurd rfl hp.1.1) (fun v9 u H locs hp w => ?_)
  obtain ⟨-, rfl, f2, rfl, hw, hn, hk1⟩ := hp
  have hk := hk.tr hk1
  generalize f2 = f at w hw hk
  refine lv_iload_n hx hb dX6_thing_23 rfl (lv_at hl 2 rfl) ?_
  by_cases c13 : p2.toInt = 0
  · have h := bb_t h c13
    refine lv_tableIn (tgt := 60) hx hb dX6_thing_24 (by omega) (by omega) (by rw [c13]; rfl) (by decide) ?_
    refine lv_aload_n hx hb dX6_thing_60 rfl (lv_at hl 0 rfl) ?_
    refine u_getr C w hw (hP _ _ (isn_f rfl rfl (by decide))) rfl (N := 18) rfl rfl cin_6 0 (by decide) (by decide) (a2 := 1) (i2 := 0) rfl gw_287 dX6_thing_61 ?_
    refine u_getr C w hw (hP _ _ (isn_f rfl rfl (by decide))) rfl (N := 13) rfl rfl cin_0 0 (by decide) (by decide) (a2 := 2) (i2 := 0) rfl gw_89 dX6_thing_64 ?_
    refine u_getr C w hw (hP _ _ (isn_f rfl rfl (by decide))) rfl (N := 9) rfl rfl cin_2 6 (by decide) (by decide) (a2 := 8) (i2 := 0) rfl gw_61 dX6_thing_67 ?_
    refine lv_iload_n hx hb dX6_thing_70 rfl (lv_at hl 1 rfl) ?_
    obtain ⟨g14, h⟩ := gd_some h
    refine u_iald C w hw (hP _ _ (isn_f rfl rfl (by decide))) rfl rfl (n := 24) rfl (vp_in_iff.mpr g14) dX6_thing_71 ?_
    refine u_iv h (fun x15 h => ?_)
    refine vx_ret ?_
    exact t_iret C hr hlk w ⟨sx_e h, sx_v h, _, rfl, sx_w h hw, sx_n h hn, hk⟩ (by decide) (by decide) dX6_thing_72
  have h := bb_f h c13
  by_cases c16 : p2.toInt = 1
  · have h := bb_t h c16
    refine lv_tableIn (tgt := 73) hx hb dX6_thing_24 (by omega) (by omega) (by rw [c16]; rfl) (by decide) ?_
    refine lv_aload_n hx hb dX6_thing_73 rfl (lv_at hl 0 rfl) ?_
    refine u_getr C w hw (hP _ _ (isn_f rfl rfl (by decide))) rfl (N := 18) rfl rfl cin_6 0 (by decide) (by decide) (a2 := 1) (i2 := 0) rfl gw_287 dX6_thing_74 ?_
    refine u_getr C w hw (hP _ _ (isn_f rfl rfl (by decide))) rfl (N := 13) rfl rfl cin_0 0 (by decide) (by decide) (a2 := 2) (i2 := 0) rfl gw_89 dX6_thing_77 ?_
    refine lv_iload_n hx hb dX6_thing_80 rfl (lv_at hl 1 rfl) ?_
    obtain ⟨v17, S18, h19, h⟩ := bd_some h
    refine u_callV (n := 1) C w hw (hP _ _ (isn_f rfl rfl (by decide))) rfl rfl rfl (c_X2_levelOf l D K b0 sa _ L _ ad P hP S10 hw hn 0 (by decide) p1 v17 S18 h19) gw_438 gw_695 gw_436 gw_437 gw_3 ⟨by decide, by decide, by decide +kernel⟩ rfl rfl ⟨by decide, by decide⟩ rfl hl.1 rfl (Nat.le_of_ble_eq_true rfl) dX6_thing_81 ⟨Nat.le_of_ble_eq_true rfl, Nat.le_of_ble_eq_true rfl⟩ (fun v9 u H locs hp w => ?_)
    obtain ⟨f2, rfl, rfl, hw, hn, hk1⟩ := hp
    have hk := hk.tr hk1
    generalize f2 = f at w hw hk
    refine vx_ret ?_
    exact t_iret C hr hlk w ⟨sx_e h, sx_v h, _, rfl, sx_w h hw, sx_n h hn, hk⟩ (by decide) (by decide) dX6_thing_84
  have h := bb_f h c16
  by_cases c20 : p2.toInt = 2
  · have h := bb_t h c20
    refine lv_tableIn (tgt := 85) hx hb dX6_thing_24 (by omega) (by omega) (by rw [c20]; rfl) (by decide) ?_
    refine lv_aload_n hx hb dX6_thing_85 rfl (lv_at hl 0 rfl) ?_
    refine u_getr C w hw (hP _ _ (isn_f rfl rfl (by decide))) rfl (N := 18) rfl rfl cin_6 0 (by decide) (by decide) (a2 := 1) (i2 := 0) rfl gw_287 dX6_thing_86 ?_
    refine u_getr C w hw (hP _ _ (isn_f rfl rfl (by decide))) rfl (N := 13) rfl rfl cin_0 0 (by decide) (by decide) (a2 := 2) (i2 := 0) rfl gw_89 dX6_thing_89 ?_
    refine u_getr C w hw (hP _ _ (isn_f rfl rfl (by decide))) rfl (N := 9) rfl rfl cin_2 1 (by decide) (by decide) (a2 := 3) (i2 := 0) rfl gw_49 dX6_thing_92 ?_
    refine lv_iload_n hx hb dX6_thing_95 rfl (lv_at hl 1 rfl) ?_
    obtain ⟨g21, h⟩ := gd_some h
    refine u_iald C w hw (hP _ _ (isn_f rfl rfl (by decide))) rfl rfl (n := 24) rfl (vp_in_iff.mpr g21) dX6_thing_96 ?_
    refine u_iv h (fun x22 h => ?_)
    refine vx_ret ?_
    exact t_iret C hr hlk w ⟨sx_e h, sx_v h, _, rfl, sx_w h hw, sx_n h hn, hk⟩ (by decide) (by decide) dX6_thing_97
  have h := bb_f h c20
  by_cases c23 : p2.toInt = 3
  · have h := bb_t h c23
    refine lv_tableIn (tgt := 98) hx hb dX6_thing_24 (by omega) (by omega) (by rw [c23]; rfl) (by decide) ?_
    refine lv_aload_n hx hb dX6_thing_98 rfl (lv_at hl 0 rfl) ?_
    refine u_getr C w hw (hP _ _ (isn_f rfl rfl (by decide))) rfl (N := 18) rfl rfl cin_6 0 (by decide) (by decide) (a2 := 1) (i2 := 0) rfl gw_287 dX6_thing_99 ?_
    refine u_getr C w hw (hP _ _ (isn_f rfl rfl (by decide))) rfl (N := 13) rfl rfl cin_0 0 (by decide) (by decide) (a2 := 2) (i2 := 0) rfl gw_89 dX6_thing_102 ?_
    refine u_getr C w hw (hP _ _ (isn_f rfl rfl (by decide))) rfl (N := 9) rfl rfl cin_2 2 (by decide) (by decide) (a2 := 4) (i2 := 0) rfl gw_53 dX6_thing_105 ?_
    refine lv_iload_n hx hb dX6_thing_108 rfl (lv_at hl 1 rfl) ?_
    obtain ⟨g24, h⟩ := gd_some h
    refine u_iald C w hw (hP _ _ (isn_f rfl rfl (by decide))) rfl rfl (n := 24) rfl (vp_in_iff.mpr g24) dX6_thing_109 ?_
    refine u_iv h (fun x25 h => ?_)
    refine vx_ret ?_
    exact t_iret C hr hlk w ⟨sx_e h, sx_v h, _, rfl, sx_w h hw, sx_n h hn, hk⟩ (by decide) (by decide) dX6_thing_110
  have h := bb_f h c23
  by_cases c26 : p2.toInt = 4
  · have h := bb_t h c26
    refine lv_tableIn (tgt := 111) hx hb dX6_thing_24 (by omega) (by omega) (by rw [c26]; rfl) (by decide) ?_
    refine lv_aload_n hx hb dX6_thing_111 rfl (lv_at hl 0 rfl) ?_
    refine u_getr C w hw (hP _ _ (isn_f rfl rfl (by decide))) rfl (N := 18) rfl rfl cin_6 0 (by decide) (by decide) (a2 := 1) (i2 := 0) rfl gw_287 dX6_thing_112 ?_
    refine u_getr C w hw (hP _ _ (isn_f rfl rfl (by decide))) rfl (N := 13) rfl rfl cin_0 0 (by decide) (by decide) (a2 := 2) (i2 := 0) rfl gw_89 dX6_thing_115 ?_
    refine u_getr C w hw (hP _ _ (isn_f rfl rfl (by decide))) rfl (N := 9) rfl rfl cin_2 3 (by decide) (by decide) (a2 := 5) (i2 := 0) rfl gw_55 dX6_thing_118 ?_
    refine lv_iload_n hx hb dX6_thing_121 rfl (lv_at hl 1 rfl) ?_
    obtain ⟨g27, h⟩ := gd_some h
    refine u_iald C w hw (hP _ _ (isn_f rfl rfl (by decide))) rfl rfl (n := 24) rfl (vp_in_iff.mpr g27) dX6_thing_122 ?_
    refine u_iv h (fun x28 h => ?_)
    refine vx_ret ?_
    exact t_iret C hr hlk w ⟨sx_e h, sx_v h, _, rfl, sx_w h hw, sx_n h hn, hk⟩ (by decide) (by decide) dX6_thing_123
  have h := bb_f h c26
  refine lv_tableOut (tgt := 124) hx hb dX6_thing_24 (by omega) (by decide) ?_
  refine lv_aload_n hx hb dX6_thing_124 rfl (lv_at hl 0 rfl) ?_
  refine u_getr C w hw (hP _ _ (isn_f rfl rfl (by decide))) rfl (N := 18) rfl rfl cin_6 0 (by decide) (by decide) (a2 := 1) (i2 := 0) rfl gw_287 dX6_thing_125 ?_
  refine u_getr C w hw (hP _ _ (isn_f rfl rfl (by decide))) rfl (N := 13) rfl rfl cin_0 0 (by decide) (by decide) (a2 := 2) (i2 := 0) rfl gw_89 dX6_thing_128 ?_
  refine u_getr C w hw (hP _ _ (isn_f rfl rfl (by decide))) rfl (N := 9) rfl rfl cin_2 4 (by decide) (by decide) (a2 := 6) (i2 := 0) rfl gw_57 dX6_thing_131 ?_
  refine lv_iload_n hx hb dX6_thing_134 rfl (lv_at hl 1 rfl) ?_
  obtain ⟨g29, h⟩ := gd_some h
  refine u_iald C w hw (hP _ _ (isn_f rfl rfl (by decide))) rfl rfl (n := 24) rfl (vp_in_iff.mpr g29) dX6_thing_135 ?_
  refine u_iv h (fun x30 h => ?_)
  refine vx_ret ?_
  exact t_iret C hr hlk w ⟨sx_e h, sx_v h, _, rfl, sx_w h hw, sx_n h hn, hk⟩ (by decide) (by decide) dX6_thing_136
theorem dX6_top_0 : decode cX6_top 0 = .ok (.iload_n 1, 1) := by decide +kernel
theorem dX6_top_1 : decode cX6_top 1 = .ok (.invokestatic 85, 3) := by decide +kernel
theorem dX6_top_4 : decode cX6_top 4 = .ok (.aload_n 0, 1) := by decide +kernel
theorem dX6_top_5 : decode cX6_top 5 = .ok (.getfield 10, 3) := by decide +kernel
theorem dX6_top_8 : decode cX6_top 8 = .ok (.getfield 100, 3) := by decide +kernel
theorem dX6_top_11 : decode cX6_top 11 = .ok (.getfield 139, 3) := by decide +kernel
theorem dX6_top_14 : decode cX6_top 14 = .ok (.iload_n 1, 1) := by decide +kernel
theorem dX6_top_15 : decode cX6_top 15 = .ok (.iaload, 1) := by decide +kernel
theorem dX6_top_16 : decode cX6_top 16 = .ok (.istore_n 3, 1) := by decide +kernel
theorem dX6_top_17 : decode cX6_top 17 = .ok (.iload_n 2, 1) := by decide +kernel
theorem dX6_top_18 : decode cX6_top 18 = .ok (.ifCond .eq 19, 3) := by decide +kernel
theorem dX6_top_21 : decode cX6_top 21 = .ok (.aload_n 0, 1) := by decide +kernel
theorem dX6_top_22 : decode cX6_top 22 = .ok (.getfield 10, 3) := by decide +kernel
theorem dX6_top_25 : decode cX6_top 25 = .ok (.getfield 100, 3) := by decide +kernel
theorem dX6_top_28 : decode cX6_top 28 = .ok (.iload_n 3, 1) := by decide +kernel
theorem dX6_top_29 : decode cX6_top 29 = .ok (.invokevirtual 126, 3) := by decide +kernel
theorem dX6_top_32 : decode cX6_top 32 = .ok (.iconst 1, 1) := by decide +kernel
theorem dX6_top_33 : decode cX6_top 33 = .ok (.iadd, 1) := by decide +kernel
theorem dX6_top_34 : decode cX6_top 34 = .ok (.goto 4, 3) := by decide +kernel
theorem dX6_top_37 : decode cX6_top 37 = .ok (.iload_n 3, 1) := by decide +kernel
theorem dX6_top_38 : decode cX6_top 38 = .ok (.ireturn, 1) := by decide +kernel
noncomputable def F_X6_top (p1 : Int32) (p2 : Int32) (S0 : fS) : Option ((Nat × Int32) × fS) := bx (F_X6_needCell p1 S0) (fun v1 S2 => gd (ib p1 64) (iv (ge S2 10 0 (p1 : Int32).toNatClampNeg) (fun x6 => bb (p2 = (0 : Int32)) (some ((0, x6), S2)) (bd (F_X2_levelOf 0 x6 S2) (fun v8 S9 => iv (v8 + (1 : Int32)) (fun x11 => some ((0, x11), S9)))))))
set_option maxHeartbeats 4000000 in
set_option maxRecDepth 100000 in
theorem c_X6_top (l : Launch) (hls : l.stackTraces = false) (D : va_G) (K : Nat → ClassId) (b0 : Nat) (sa : sT) (sz : Nat) (L : List Nat) (f0 : Nat → va_E) (ad : Nat → Nat → Nat) (P : Nat → Nat → Prop) {n : Nat × Nat} (hP : ∀ a i : Nat, isn n a i → P a i) (S0 : fS) (hw : PW K ad P S0 L f0) (hn : S0.2.2.1 = n) (p1 : Int32) (p2 : Int32) (ec : Nat) (v : Int32) (S1 : fS) (h : F_X6_top p1 p2 S0 = some ((ec, v), S1)) : vx_Met l yX6_top (.code yX6_top cX6_top 4 (some .int) :: gt) { frames := 7, cells := 1, slots := 6, locals := 102 } (va_Pc [.ref (ad 0 0), .int p1, .int p2] (hPre D K b0 sa sz L f0)) (hQ D K b0 (fun v9 u9 => ec = 0 ∧ v9 = some (.int v) ∧ ∃ f2 : Nat → va_E, u9 = lU L f2 ∧ PW K ad P S1 L f2 ∧ S1.2.2.1 = n ∧ Kp ad P L f0 f2)) (hX D K b0 (fun E u9 => (ec ≠ 0 ∧ E = exn ec) ∧ ∃ f2 : Nat → va_E, u9 = lU L f2 ∧ PW K ad P S1 L f2 ∧ S1.2.2.1 = n ∧ Kp ad P L f0 f2)) 1 6 (fun q => b0 ≤ q) := by
  refine t_xof (own := RX6) (by decide) rfl ?_ (Nat.le_of_ble_eq_true rfl)
  intro p e s m below meth c ls C w hsz hr hlk htb hl
  have hx := C.1
  have hb := C.2.1
  have hl : lv_has ls 4 [(0, .ref (ad 0 0)), (1, .int p1), (2, .int p2)] := hl
  dsimp only [F_X6_top] at h
  obtain ⟨f, ef⟩ : ∃ z, z = f0 := ⟨_, rfl⟩
  rw [← ef] at w hw
  have hk : Kp ad P L f0 f := by rw [ef]; exact Kp.rf
  obtain ⟨H, eH⟩ : ∃ z, z = s.heap := ⟨_, rfl⟩
  obtain ⟨locs, el⟩ : ∃ z : List Loc, z = [] := ⟨_, rfl⟩
  rw [← eH, ← el] at w ⊢
  refine lv_iload_n hx hb dX6_top_0 rfl (lv_at hl 1 rfl) ?_
  rcases bx_some h with ⟨v1, S2, h3, h⟩ | ⟨e4, v1, S2, h3, h⟩
  rotate_left
  · refine t_xcallS (n := 1) C w (c_X6_needCell l hls D K b0 sa _ L _ ad P hP S0 hw hn p1 (e4 + 1) v1 S2 h3) gw_554 gw_552 gw_553 gw_1 ⟨by decide, by decide, by decide +kernel⟩ rfl rfl ⟨by decide, by decide⟩ rfl hl.1 rfl (Nat.le_of_ble_eq_true rfl) dX6_top_1 ⟨Nat.le_of_ble_eq_true rfl, Nat.le_of_ble_eq_true rfl⟩ (fun E ce q9 u H locs hp w hcell hv0 hcl => ?_) (fun v9 u H locs hp w => absurd hp.1 (Nat.succ_ne_zero _))
    obtain ⟨⟨he, hE⟩, f2, rfl, hw, hn, hk1⟩ := hp
    exact t_xout w htb hlk hcell hv0 hcl ⟨sz_e h he hE, _, rfl, sz_w h hw, sz_n h hn, hk.tr hk1⟩ (by decide) (by decide)
  refine t_xcallS (n := 1) C w (c_X6_needCell l hls D K b0 sa _ L _ ad P hP S0 hw hn p1 0 v1 S2 h3) gw_554 gw_552 gw_553 gw_1 ⟨by decide, by decide, by decide +kernel⟩ rfl rfl ⟨by decide, by decide⟩ rfl hl.1 rfl (Nat.le_of_ble_eq_true rfl) dX6_top_1 ⟨Nat.le_of_ble_eq_true rfl, Nat.le_of_ble_eq_true rfl⟩ (fun E ce q9 u H locs hp w hcell hv0 hcl => absurd rfl hp.1.1) (fun v9 u H locs hp w => ?_)
  obtain ⟨-, rfl, f2, rfl, hw, hn, hk1⟩ := hp
  have hk := hk.tr hk1
  generalize f2 = f at w hw hk
  refine lv_aload_n hx hb dX6_top_4 rfl (lv_at hl 0 rfl) ?_
  refine u_getr C w hw (hP _ _ (isn_f rfl rfl (by decide))) rfl (N := 18) rfl rfl cin_6 0 (by decide) (by decide) (a2 := 1) (i2 := 0) rfl gw_287 dX6_top_5 ?_
  refine u_getr C w hw (hP _ _ (isn_f rfl rfl (by decide))) rfl (N := 13) rfl rfl cin_0 0 (by decide) (by decide) (a2 := 2) (i2 := 0) rfl gw_89 dX6_top_8 ?_
  refine u_getr C w hw (hP _ _ (isn_f rfl rfl (by decide))) rfl (N := 9) rfl rfl cin_2 8 (by decide) (by decide) (a2 := 10) (i2 := 0) rfl gw_65 dX6_top_11 ?_
  refine lv_iload_n hx hb dX6_top_14 rfl (lv_at hl 1 rfl) ?_
  obtain ⟨g5, h⟩ := gd_some h
  refine u_iald C w hw (hP _ _ (isn_f rfl rfl (by decide))) rfl rfl (n := 64) rfl (vp_in_iff.mpr g5) dX6_top_15 ?_
  refine u_iv h (fun x6 h => ?_)
  refine lv_istore_n (lv' := [(3, .int x6), (0, .ref (ad 0 0)), (1, .int p1), (2, .int p2)]) hx hb dX6_top_16 rfl hl (by decide) rfl (fun ls hl => ?_)
  refine lv_iload_n hx hb dX6_top_17 rfl (lv_at hl 3 rfl) ?_
  refine lv_if_eq (tgt := 37) hx hb dX6_top_18 (by decide) (fun c7 => ?_) (fun c7 => ?_)
  · have h := bb_t h c7
    refine lv_iload_n hx hb dX6_top_37 rfl (lv_at hl 0 rfl) ?_
    refine vx_ret ?_
    exact t_iret C hr hlk w ⟨sx_e h, sx_v h, _, rfl, sx_w h hw, sx_n h hn, hk⟩ (by decide) (by decide) dX6_top_38
  · have h := bb_f h c7
    refine lv_aload_n hx hb dX6_top_21 rfl (lv_at hl 1 rfl) ?_
    refine u_getr C w hw (hP _ _ (isn_f rfl rfl (by decide))) rfl (N := 18) rfl rfl cin_6 0 (by decide) (by decide) (a2 := 1) (i2 := 0) rfl gw_287 dX6_top_22 ?_
    refine u_getr C w hw (hP _ _ (isn_f rfl rfl (by decide))) rfl (N := 13) rfl rfl cin_0 0 (by decide) (by decide) (a2 := 2) (i2 := 0) rfl gw_89 dX6_top_25 ?_
    refine lv_iload_n hx hb dX6_top_28 rfl (lv_at hl 0 rfl) ?_
    obtain ⟨v8, S9, h10, h⟩ := bd_some h
    refine u_callV (n := 1) C w hw (hP _ _ (isn_f rfl rfl (by decide))) rfl rfl rfl (c_X2_levelOf l D K b0 sa _ L _ ad P hP S2 hw hn 0 (by decide) x6 v8 S9 h10) gw_438 gw_695 gw_436 gw_437 gw_3 ⟨by decide, by decide, by decide +kernel⟩ rfl rfl ⟨by decide, by decide⟩ rfl hl.1 rfl (Nat.le_of_ble_eq_true rfl) dX6_top_29 ⟨Nat.le_of_ble_eq_true rfl, Nat.le_of_ble_eq_true rfl⟩ (fun v9 u H locs hp w => ?_)
    obtain ⟨f2, rfl, rfl, hw, hn, hk1⟩ := hp
    have hk := hk.tr hk1
    generalize f2 = f at w hw hk
    refine lv_iconst (v := 1) hx hb dX6_top_32 (by decide) ?_
    refine lv_iadd hx hb dX6_top_33 ?_
    refine u_iv h (fun x11 h => ?_)
    refine lv_goto (tgt := 38) hx hb dX6_top_34 (by decide) ?_
    refine vx_ret ?_
    exact t_iret C hr hlk w ⟨sx_e h, sx_v h, _, rfl, sx_w h hw, sx_n h hn, hk⟩ (by decide) (by decide) dX6_top_38
theorem dX6_hole_0 : decode cX6_hole 0 = .ok (.iload_n 1, 1) := by decide +kernel
theorem dX6_hole_1 : decode cX6_hole 1 = .ok (.invokestatic 85, 3) := by decide +kernel
theorem dX6_hole_4 : decode cX6_hole 4 = .ok (.aload_n 0, 1) := by decide +kernel
theorem dX6_hole_5 : decode cX6_hole 5 = .ok (.getfield 10, 3) := by decide +kernel
theorem dX6_hole_8 : decode cX6_hole 8 = .ok (.getfield 100, 3) := by decide +kernel
theorem dX6_hole_11 : decode cX6_hole 11 = .ok (.getfield 139, 3) := by decide +kernel
theorem dX6_hole_14 : decode cX6_hole 14 = .ok (.iload_n 1, 1) := by decide +kernel
theorem dX6_hole_15 : decode cX6_hole 15 = .ok (.iaload, 1) := by decide +kernel
theorem dX6_hole_16 : decode cX6_hole 16 = .ok (.iconst (-1), 1) := by decide +kernel
theorem dX6_hole_17 : decode cX6_hole 17 = .ok (.if_icmp .ne 7, 3) := by decide +kernel
theorem dX6_hole_20 : decode cX6_hole 20 = .ok (.iconst 1, 1) := by decide +kernel
theorem dX6_hole_21 : decode cX6_hole 21 = .ok (.goto 4, 3) := by decide +kernel
theorem dX6_hole_24 : decode cX6_hole 24 = .ok (.iconst 0, 1) := by decide +kernel
theorem dX6_hole_25 : decode cX6_hole 25 = .ok (.invokestatic 96, 3) := by decide +kernel
theorem dX6_hole_28 : decode cX6_hole 28 = .ok (.aload_n 0, 1) := by decide +kernel
theorem dX6_hole_29 : decode cX6_hole 29 = .ok (.getfield 10, 3) := by decide +kernel
theorem dX6_hole_32 : decode cX6_hole 32 = .ok (.getfield 89, 3) := by decide +kernel
theorem dX6_hole_35 : decode cX6_hole 35 = .ok (.istore_n 2, 1) := by decide +kernel
theorem dX6_hole_36 : decode cX6_hole 36 = .ok (.aload_n 0, 1) := by decide +kernel
theorem dX6_hole_37 : decode cX6_hole 37 = .ok (.getfield 10, 3) := by decide +kernel
theorem dX6_hole_40 : decode cX6_hole 40 = .ok (.iload_n 1, 1) := by decide +kernel
theorem dX6_hole_41 : decode cX6_hole 41 = .ok (.putfield 89, 3) := by decide +kernel
theorem dX6_hole_44 : decode cX6_hole 44 = .ok (.iload_n 2, 1) := by decide +kernel
theorem dX6_hole_45 : decode cX6_hole 45 = .ok (.ireturn, 1) := by decide +kernel
noncomputable def B_X6_hole_25 (a1 : Int32) (t0 : Int32) (S : fS) : Option ((Nat × Int32) × fS) := bx (F_X6_need t0 S) (fun v1 S2 => iv (ge S2 1 0 1) (fun x5 => sv (pu S2 1 0 1 a1) (fun S6 => some ((0, x5), S6))))
noncomputable def F_X6_hole (p1 : Int32) (S0 : fS) : Option ((Nat × Int32) × fS) := bx (F_X6_needCell p1 S0) (fun v7 S8 => gd (ib p1 64) (iv (ge S8 10 0 (p1 : Int32).toNatClampNeg) (fun x12 => bb (x12 = ((-1) : Int32)) (B_X6_hole_25  p1 1 S8) (B_X6_hole_25  p1 0 S8))))
set_option maxHeartbeats 4000000 in
set_option maxRecDepth 100000 in
theorem c_X6_hole (l : Launch) (hls : l.stackTraces = false) (D : va_G) (K : Nat → ClassId) (b0 : Nat) (sa : sT) (sz : Nat) (L : List Nat) (f0 : Nat → va_E) (ad : Nat → Nat → Nat) (P : Nat → Nat → Prop) {n : Nat × Nat} (hP : ∀ a i : Nat, isn n a i → P a i) (S0 : fS) (hw : PW K ad P S0 L f0) (hn : S0.2.2.1 = n) (p1 : Int32) (ec : Nat) (v : Int32) (S1 : fS) (h : F_X6_hole p1 S0 = some ((ec, v), S1)) : vx_Met l yX6_hole (.code yX6_hole cX6_hole 3 (some .int) :: gt) { frames := 7, cells := 2, slots := 12, locals := 102 } (va_Pc [.ref (ad 0 0), .int p1] (hPre D K b0 sa sz L f0)) (hQ D K b0 (fun v9 u9 => ec = 0 ∧ v9 = some (.int v) ∧ ∃ f2 : Nat → va_E, u9 = lU L f2 ∧ PW K ad P S1 L f2 ∧ S1.2.2.1 = n ∧ Kp ad P L f0 f2)) (hX D K b0 (fun E u9 => (ec ≠ 0 ∧ E = exn ec) ∧ ∃ f2 : Nat → va_E, u9 = lU L f2 ∧ PW K ad P S1 L f2 ∧ S1.2.2.1 = n ∧ Kp ad P L f0 f2)) 2 12 (fun q => b0 ≤ q) := by
  refine t_xof (own := RX6) (by decide) rfl ?_ (Nat.le_of_ble_eq_true rfl)
  intro p e s m below meth c ls C w hsz hr hlk htb hl
  have hx := C.1
  have hb := C.2.1
  have hl : lv_has ls 3 [(0, .ref (ad 0 0)), (1, .int p1)] := hl
  have J25 : ∀ (a1 : Int32) (t0 : Int32) (S : fS), B_X6_hole_25  a1 t0 S = some ((ec, v), S1) → Gw D K b0 sa ad P n L f0 p l e { frames := 7, cells := 2, slots := 12, locals := 102 } s m [.ref (ad 0 0), .int p1].toArray below meth c 3 (vx_MQ below (hQ D K b0 (fun v9 u9 => ec = 0 ∧ v9 = some (.int v) ∧ ∃ f2 : Nat → va_E, u9 = lU L f2 ∧ PW K ad P S1 L f2 ∧ S1.2.2.1 = n ∧ Kp ad P L f0 f2)) (hX D K b0 (fun E u9 => (ec ≠ 0 ∧ E = exn ec) ∧ ∃ f2 : Nat → va_E, u9 = lU L f2 ∧ PW K ad P S1 L f2 ∧ S1.2.2.1 = n ∧ Kp ad P L f0 f2)) [.ref (ad 0 0), .int p1].toArray s 2 12 (fun q => b0 ≤ q)) 1 6 25 [(0, .ref (ad 0 0)), (1, .int a1)] [.int t0] S := by
    intro a1 t0 S h
    dsimp only [B_X6_hole_25] at h
    intro f H locs w hw hn hk ls hl
    rcases bx_some h with ⟨v1, S2, h3, h⟩ | ⟨e4, v1, S2, h3, h⟩
    rotate_left
    · refine t_xcallS (n := 1) C w (c_X6_need l hls D K b0 sa _ L _ ad P hP S hw hn t0 (e4 + 1) v1 S2 h3) gw_625 gw_623 gw_624 gw_1 ⟨by decide, by decide, by decide +kernel⟩ rfl rfl ⟨by decide, by decide⟩ rfl hl.1 rfl (Nat.le_of_ble_eq_true rfl) dX6_hole_25 ⟨Nat.le_of_ble_eq_true rfl, Nat.le_of_ble_eq_true rfl⟩ (fun E ce q9 u H locs hp w hcell hv0 hcl => ?_) (fun v9 u H locs hp w => absurd hp.1 (Nat.succ_ne_zero _))
      obtain ⟨⟨he, hE⟩, f2, rfl, hw, hn, hk1⟩ := hp
      exact t_xout w htb hlk hcell hv0 hcl ⟨sz_e h he hE, _, rfl, sz_w h hw, sz_n h hn, hk.tr hk1⟩ (by decide) (by decide)
    refine t_xcallS (n := 1) C w (c_X6_need l hls D K b0 sa _ L _ ad P hP S hw hn t0 0 v1 S2 h3) gw_625 gw_623 gw_624 gw_1 ⟨by decide, by decide, by decide +kernel⟩ rfl rfl ⟨by decide, by decide⟩ rfl hl.1 rfl (Nat.le_of_ble_eq_true rfl) dX6_hole_25 ⟨Nat.le_of_ble_eq_true rfl, Nat.le_of_ble_eq_true rfl⟩ (fun E ce q9 u H locs hp w hcell hv0 hcl => absurd rfl hp.1.1) (fun v9 u H locs hp w => ?_)
    obtain ⟨-, rfl, f2, rfl, hw, hn, hk1⟩ := hp
    have hk := hk.tr hk1
    generalize f2 = f at w hw hk
    refine lv_aload_n hx hb dX6_hole_28 rfl (lv_at hl 0 rfl) ?_
    refine u_getr C w hw (hP _ _ (isn_f rfl rfl (by decide))) rfl (N := 18) rfl rfl cin_6 0 (by decide) (by decide) (a2 := 1) (i2 := 0) rfl gw_287 dX6_hole_29 ?_
    refine u_geti C w hw (hP _ _ (isn_f rfl rfl (by decide))) rfl (N := 13) rfl rfl cin_0 1 (by decide) rfl gw_92 dX6_hole_32 ?_
    refine u_iv h (fun x5 h => ?_)
    refine lv_istore_n (lv' := [(2, .int x5), (0, .ref (ad 0 0)), (1, .int a1)]) hx hb dX6_hole_35 rfl hl (by decide) rfl (fun ls hl => ?_)
    refine lv_aload_n hx hb dX6_hole_36 rfl (lv_at hl 1 rfl) ?_
    refine u_getr C w hw (hP _ _ (isn_f rfl rfl (by decide))) rfl (N := 18) rfl rfl cin_6 0 (by decide) (by decide) (a2 := 1) (i2 := 0) rfl gw_287 dX6_hole_37 ?_
    refine lv_iload_n hx hb dX6_hole_40 rfl (lv_at hl 2 rfl) ?_
    refine u_puti C w hw (hP _ _ (isn_f rfl rfl (by decide))) rfl (N := 13) rfl rfl cin_0 tyX0 tyX0_ok nmX0 1 (by decide) rfl rfl rfl rfl gw_92 dX6_hole_41 (fun f H locs w hw hk1 => ?_)
    have hk := hk.tr hk1
    refine u_sv h hw hn (fun S6 h hw hn => ?_)
    refine lv_iload_n hx hb dX6_hole_44 rfl (lv_at hl 0 rfl) ?_
    refine vx_ret ?_
    exact t_iret C hr hlk w ⟨sx_e h, sx_v h, _, rfl, sx_w h hw, sx_n h hn, hk⟩ (by decide) (by decide) dX6_hole_45
  dsimp only [F_X6_hole] at h
  obtain ⟨f, ef⟩ : ∃ z, z = f0 := ⟨_, rfl⟩
  rw [← ef] at w hw
  have hk : Kp ad P L f0 f := by rw [ef]; exact Kp.rf
  obtain ⟨H, eH⟩ : ∃ z, z = s.heap := ⟨_, rfl⟩
  obtain ⟨locs, el⟩ : ∃ z : List Loc, z = [] := ⟨_, rfl⟩
  rw [← eH, ← el] at w ⊢
  refine lv_iload_n hx hb dX6_hole_0 rfl (lv_at hl 1 rfl) ?_
  rcases bx_some h with ⟨v7, S8, h9, h⟩ | ⟨e10, v7, S8, h9, h⟩
  rotate_left
  · refine t_xcallS (n := 1) C w (c_X6_needCell l hls D K b0 sa _ L _ ad P hP S0 hw hn p1 (e10 + 1) v7 S8 h9) gw_554 gw_552 gw_553 gw_1 ⟨by decide, by decide, by decide +kernel⟩ rfl rfl ⟨by decide, by decide⟩ rfl hl.1 rfl (Nat.le_of_ble_eq_true rfl) dX6_hole_1 ⟨Nat.le_of_ble_eq_true rfl, Nat.le_of_ble_eq_true rfl⟩ (fun E ce q9 u H locs hp w hcell hv0 hcl => ?_) (fun v9 u H locs hp w => absurd hp.1 (Nat.succ_ne_zero _))
    obtain ⟨⟨he, hE⟩, f2, rfl, hw, hn, hk1⟩ := hp
    exact t_xout w htb hlk hcell hv0 hcl ⟨sz_e h he hE, _, rfl, sz_w h hw, sz_n h hn, hk.tr hk1⟩ (by decide) (by decide)
  refine t_xcallS (n := 1) C w (c_X6_needCell l hls D K b0 sa _ L _ ad P hP S0 hw hn p1 0 v7 S8 h9) gw_554 gw_552 gw_553 gw_1 ⟨by decide, by decide, by decide +kernel⟩ rfl rfl ⟨by decide, by decide⟩ rfl hl.1 rfl (Nat.le_of_ble_eq_true rfl) dX6_hole_1 ⟨Nat.le_of_ble_eq_true rfl, Nat.le_of_ble_eq_true rfl⟩ (fun E ce q9 u H locs hp w hcell hv0 hcl => absurd rfl hp.1.1) (fun v9 u H locs hp w => ?_)
  obtain ⟨-, rfl, f2, rfl, hw, hn, hk1⟩ := hp
  have hk := hk.tr hk1
  generalize f2 = f at w hw hk
  refine lv_aload_n hx hb dX6_hole_4 rfl (lv_at hl 0 rfl) ?_
  refine u_getr C w hw (hP _ _ (isn_f rfl rfl (by decide))) rfl (N := 18) rfl rfl cin_6 0 (by decide) (by decide) (a2 := 1) (i2 := 0) rfl gw_287 dX6_hole_5 ?_
  refine u_getr C w hw (hP _ _ (isn_f rfl rfl (by decide))) rfl (N := 13) rfl rfl cin_0 0 (by decide) (by decide) (a2 := 2) (i2 := 0) rfl gw_89 dX6_hole_8 ?_
  refine u_getr C w hw (hP _ _ (isn_f rfl rfl (by decide))) rfl (N := 9) rfl rfl cin_2 8 (by decide) (by decide) (a2 := 10) (i2 := 0) rfl gw_65 dX6_hole_11 ?_
  refine lv_iload_n hx hb dX6_hole_14 rfl (lv_at hl 1 rfl) ?_
  obtain ⟨g11, h⟩ := gd_some h
  refine u_iald C w hw (hP _ _ (isn_f rfl rfl (by decide))) rfl rfl (n := 64) rfl (vp_in_iff.mpr g11) dX6_hole_15 ?_
  refine u_iv h (fun x12 h => ?_)
  refine lv_iconst (v := (-1)) hx hb dX6_hole_16 (by decide) ?_
  refine lv_icmp_ne (tgt := 24) hx hb dX6_hole_17 (by decide) (fun c13 => ?_) (fun c13 => ?_)
  · have h := bb_f h c13
    refine lv_iconst (v := 0) hx hb dX6_hole_24 (by decide) ?_
    exact J25  p1 0 S8 h f H locs w hw hn hk ls (lv_sub hl [0, 1] rfl)
  · have h := bb_t h c13
    refine lv_iconst (v := 1) hx hb dX6_hole_20 (by decide) ?_
    refine lv_goto (tgt := 25) hx hb dX6_hole_21 (by decide) ?_
    exact J25  p1 1 S8 h f H locs w hw hn hk ls (lv_sub hl [0, 1] rfl)
theorem dX6_set_0 : decode cX6_set 0 = .ok (.iload_n 1, 1) := by decide +kernel
theorem dX6_set_1 : decode cX6_set 1 = .ok (.iconst 0, 1) := by decide +kernel
theorem dX6_set_2 : decode cX6_set 2 = .ok (.iconst 2, 1) := by decide +kernel
theorem dX6_set_3 : decode cX6_set 3 = .ok (.invokestatic 92, 3) := by decide +kernel
theorem dX6_set_6 : decode cX6_set 6 = .ok (.invokestatic 96, 3) := by decide +kernel
theorem dX6_set_9 : decode cX6_set 9 = .ok (.iload_n 2, 1) := by decide +kernel
theorem dX6_set_10 : decode cX6_set 10 = .ok (.iconst 0, 1) := by decide +kernel
theorem dX6_set_11 : decode cX6_set 11 = .ok (.iload_n 1, 1) := by decide +kernel
theorem dX6_set_12 : decode cX6_set 12 = .ok (.ifCond .ne 8, 3) := by decide +kernel
theorem dX6_set_15 : decode cX6_set 15 = .ok (.bipush 14, 2) := by decide +kernel
theorem dX6_set_17 : decode cX6_set 17 = .ok (.goto 15, 3) := by decide +kernel
theorem dX6_set_20 : decode cX6_set 20 = .ok (.iload_n 1, 1) := by decide +kernel
theorem dX6_set_21 : decode cX6_set 21 = .ok (.iconst 1, 1) := by decide +kernel
theorem dX6_set_22 : decode cX6_set 22 = .ok (.if_icmp .ne 8, 3) := by decide +kernel
theorem dX6_set_25 : decode cX6_set 25 = .ok (.bipush 99, 2) := by decide +kernel
theorem dX6_set_27 : decode cX6_set 27 = .ok (.goto 5, 3) := by decide +kernel
theorem dX6_set_30 : decode cX6_set 30 = .ok (.bipush 23, 2) := by decide +kernel
theorem dX6_set_32 : decode cX6_set 32 = .ok (.invokestatic 92, 3) := by decide +kernel
theorem dX6_set_35 : decode cX6_set 35 = .ok (.invokestatic 96, 3) := by decide +kernel
theorem dX6_set_38 : decode cX6_set 38 = .ok (.iload_n 1, 1) := by decide +kernel
theorem dX6_set_39 : decode cX6_set 39 = .ok (.ifCond .ne 22, 3) := by decide +kernel
theorem dX6_set_42 : decode cX6_set 42 = .ok (.aload_n 0, 1) := by decide +kernel
theorem dX6_set_43 : decode cX6_set 43 = .ok (.getfield 10, 3) := by decide +kernel
theorem dX6_set_46 : decode cX6_set 46 = .ok (.getfield 142, 3) := by decide +kernel
theorem dX6_set_49 : decode cX6_set 49 = .ok (.istore_n 3, 1) := by decide +kernel
theorem dX6_set_50 : decode cX6_set 50 = .ok (.aload_n 0, 1) := by decide +kernel
theorem dX6_set_51 : decode cX6_set 51 = .ok (.getfield 10, 3) := by decide +kernel
theorem dX6_set_54 : decode cX6_set 54 = .ok (.iload_n 2, 1) := by decide +kernel
theorem dX6_set_55 : decode cX6_set 55 = .ok (.putfield 142, 3) := by decide +kernel
theorem dX6_set_58 : decode cX6_set 58 = .ok (.goto 43, 3) := by decide +kernel
theorem dX6_set_61 : decode cX6_set 61 = .ok (.iload_n 1, 1) := by decide +kernel
theorem dX6_set_62 : decode cX6_set 62 = .ok (.iconst 1, 1) := by decide +kernel
theorem dX6_set_63 : decode cX6_set 63 = .ok (.if_icmp .ne 22, 3) := by decide +kernel
theorem dX6_set_66 : decode cX6_set 66 = .ok (.aload_n 0, 1) := by decide +kernel
theorem dX6_set_67 : decode cX6_set 67 = .ok (.getfield 10, 3) := by decide +kernel
theorem dX6_set_70 : decode cX6_set 70 = .ok (.getfield 145, 3) := by decide +kernel
theorem dX6_set_73 : decode cX6_set 73 = .ok (.istore_n 3, 1) := by decide +kernel
theorem dX6_set_74 : decode cX6_set 74 = .ok (.aload_n 0, 1) := by decide +kernel
theorem dX6_set_75 : decode cX6_set 75 = .ok (.getfield 10, 3) := by decide +kernel
theorem dX6_set_78 : decode cX6_set 78 = .ok (.iload_n 2, 1) := by decide +kernel
theorem dX6_set_79 : decode cX6_set 79 = .ok (.putfield 145, 3) := by decide +kernel
theorem dX6_set_82 : decode cX6_set 82 = .ok (.goto 19, 3) := by decide +kernel
theorem dX6_set_85 : decode cX6_set 85 = .ok (.aload_n 0, 1) := by decide +kernel
theorem dX6_set_86 : decode cX6_set 86 = .ok (.getfield 10, 3) := by decide +kernel
theorem dX6_set_89 : decode cX6_set 89 = .ok (.getfield 148, 3) := by decide +kernel
theorem dX6_set_92 : decode cX6_set 92 = .ok (.istore_n 3, 1) := by decide +kernel
theorem dX6_set_93 : decode cX6_set 93 = .ok (.aload_n 0, 1) := by decide +kernel
theorem dX6_set_94 : decode cX6_set 94 = .ok (.getfield 10, 3) := by decide +kernel
theorem dX6_set_97 : decode cX6_set 97 = .ok (.iload_n 2, 1) := by decide +kernel
theorem dX6_set_98 : decode cX6_set 98 = .ok (.putfield 148, 3) := by decide +kernel
theorem dX6_set_101 : decode cX6_set 101 = .ok (.iload_n 3, 1) := by decide +kernel
theorem dX6_set_102 : decode cX6_set 102 = .ok (.ireturn, 1) := by decide +kernel
noncomputable def B_X6_set_32 (a1 : Int32) (a2 : Int32) (t0 : Int32) (t1 : Int32) (t2 : Int32) (S : fS) : Option ((Nat × Int32) × fS) := bd (F_X6_within t2 t1 t0 S) (fun v1 S2 => bx (F_X6_need v1 S2) (fun v4 S5 => bb (a1 = (0 : Int32)) (iv (ge S5 1 0 2) (fun x14 => sv (pu S5 1 0 2 a2) (fun S15 => some ((0, x14), S15)))) (bb (a1 = (1 : Int32)) (iv (ge S5 1 0 3) (fun x12 => sv (pu S5 1 0 3 a2) (fun S13 => some ((0, x12), S13)))) (iv (ge S5 1 0 4) (fun x10 => sv (pu S5 1 0 4 a2) (fun S11 => some ((0, x10), S11)))))))
noncomputable def F_X6_set (p1 : Int32) (p2 : Int32) (S0 : fS) : Option ((Nat × Int32) × fS) := bd (F_X6_within p1 0 2 S0) (fun v16 S17 => bx (F_X6_need v16 S17) (fun v19 S20 => bb (p1 = (0 : Int32)) (B_X6_set_32  p1 p2 14 0 p2 S20) (bb (p1 = (1 : Int32)) (B_X6_set_32  p1 p2 99 0 p2 S20) (B_X6_set_32  p1 p2 23 0 p2 S20))))
set_option maxHeartbeats 4000000 in
set_option maxRecDepth 100000 in
theorem c_X6_set (l : Launch) (hls : l.stackTraces = false) (D : va_G) (K : Nat → ClassId) (b0 : Nat) (sa : sT) (sz : Nat) (L : List Nat) (f0 : Nat → va_E) (ad : Nat → Nat → Nat) (P : Nat → Nat → Prop) {n : Nat × Nat} (hP : ∀ a i : Nat, isn n a i → P a i) (S0 : fS) (hw : PW K ad P S0 L f0) (hn : S0.2.2.1 = n) (p1 : Int32) (p2 : Int32) (ec : Nat) (v : Int32) (S1 : fS) (h : F_X6_set p1 p2 S0 = some ((ec, v), S1)) : vx_Met l yX6_set (.code yX6_set cX6_set 4 (some .int) :: gt) { frames := 7, cells := 2, slots := 12, locals := 102 } (va_Pc [.ref (ad 0 0), .int p1, .int p2] (hPre D K b0 sa sz L f0)) (hQ D K b0 (fun v9 u9 => ec = 0 ∧ v9 = some (.int v) ∧ ∃ f2 : Nat → va_E, u9 = lU L f2 ∧ PW K ad P S1 L f2 ∧ S1.2.2.1 = n ∧ Kp ad P L f0 f2)) (hX D K b0 (fun E u9 => (ec ≠ 0 ∧ E = exn ec) ∧ ∃ f2 : Nat → va_E, u9 = lU L f2 ∧ PW K ad P S1 L f2 ∧ S1.2.2.1 = n ∧ Kp ad P L f0 f2)) 2 12 (fun q => b0 ≤ q) := by
  refine t_xof (own := RX6) (by decide) rfl ?_ (Nat.le_of_ble_eq_true rfl)
  intro p e s m below meth c ls C w hsz hr hlk htb hl
  have hx := C.1
  have hb := C.2.1
  have hl : lv_has ls 4 [(0, .ref (ad 0 0)), (1, .int p1), (2, .int p2)] := hl
  have J32 : ∀ (a1 : Int32) (a2 : Int32) (t0 : Int32) (t1 : Int32) (t2 : Int32) (S : fS), B_X6_set_32  a1 a2 t0 t1 t2 S = some ((ec, v), S1) → Gw D K b0 sa ad P n L f0 p l e { frames := 7, cells := 2, slots := 12, locals := 102 } s m [.ref (ad 0 0), .int p1, .int p2].toArray below meth c 4 (vx_MQ below (hQ D K b0 (fun v9 u9 => ec = 0 ∧ v9 = some (.int v) ∧ ∃ f2 : Nat → va_E, u9 = lU L f2 ∧ PW K ad P S1 L f2 ∧ S1.2.2.1 = n ∧ Kp ad P L f0 f2)) (hX D K b0 (fun E u9 => (ec ≠ 0 ∧ E = exn ec) ∧ ∃ f2 : Nat → va_E, u9 = lU L f2 ∧ PW K ad P S1 L f2 ∧ S1.2.2.1 = n ∧ Kp ad P L f0 f2)) [.ref (ad 0 0), .int p1, .int p2].toArray s 2 12 (fun q => b0 ≤ q)) 1 6 32 [(0, .ref (ad 0 0)), (1, .int a1), (2, .int a2)] [.int t0, .int t1, .int t2] S := by
    intro a1 a2 t0 t1 t2 S h
    dsimp only [B_X6_set_32] at h
    intro f H locs w hw hn hk ls hl
    obtain ⟨v1, S2, h3, h⟩ := bd_some h
    refine t_callS (n := 3) C w (c_X6_within l D K b0 sa _ L _ ad P hP S hw hn t2 t1 t0 v1 S2 h3) gw_376 gw_374 gw_375 gw_1 ⟨by decide, by decide, by decide +kernel⟩ rfl rfl ⟨by decide, by decide⟩ rfl hl.1 rfl (Nat.le_of_ble_eq_true rfl) dX6_set_32 ⟨Nat.le_of_ble_eq_true rfl, Nat.le_of_ble_eq_true rfl⟩ (fun v9 u H locs hp w => ?_)
    obtain ⟨f2, rfl, rfl, hw, hn, hk1⟩ := hp
    have hk := hk.tr hk1
    generalize f2 = f at w hw hk
    rcases bx_some h with ⟨v4, S5, h6, h⟩ | ⟨e7, v4, S5, h6, h⟩
    rotate_left
    · refine t_xcallS (n := 1) C w (c_X6_need l hls D K b0 sa _ L _ ad P hP S2 hw hn v1 (e7 + 1) v4 S5 h6) gw_625 gw_623 gw_624 gw_1 ⟨by decide, by decide, by decide +kernel⟩ rfl rfl ⟨by decide, by decide⟩ rfl hl.1 rfl (Nat.le_of_ble_eq_true rfl) dX6_set_35 ⟨Nat.le_of_ble_eq_true rfl, Nat.le_of_ble_eq_true rfl⟩ (fun E ce q9 u H locs hp w hcell hv0 hcl => ?_) (fun v9 u H locs hp w => absurd hp.1 (Nat.succ_ne_zero _))
      obtain ⟨⟨he, hE⟩, f2, rfl, hw, hn, hk1⟩ := hp
      exact t_xout w htb hlk hcell hv0 hcl ⟨sz_e h he hE, _, rfl, sz_w h hw, sz_n h hn, hk.tr hk1⟩ (by decide) (by decide)
    refine t_xcallS (n := 1) C w (c_X6_need l hls D K b0 sa _ L _ ad P hP S2 hw hn v1 0 v4 S5 h6) gw_625 gw_623 gw_624 gw_1 ⟨by decide, by decide, by decide +kernel⟩ rfl rfl ⟨by decide, by decide⟩ rfl hl.1 rfl (Nat.le_of_ble_eq_true rfl) dX6_set_35 ⟨Nat.le_of_ble_eq_true rfl, Nat.le_of_ble_eq_true rfl⟩ (fun E ce q9 u H locs hp w hcell hv0 hcl => absurd rfl hp.1.1) (fun v9 u H locs hp w => ?_)
    obtain ⟨-, rfl, f2, rfl, hw, hn, hk1⟩ := hp
    have hk := hk.tr hk1
    generalize f2 = f at w hw hk
    refine lv_iload_n hx hb dX6_set_38 rfl (lv_at hl 1 rfl) ?_
    refine lv_if_ne (tgt := 61) hx hb dX6_set_39 (by decide) (fun c8 => ?_) (fun c8 => ?_)
    · have h := bb_f h c8
      refine lv_iload_n hx hb dX6_set_61 rfl (lv_at hl 1 rfl) ?_
      refine lv_iconst (v := 1) hx hb dX6_set_62 (by decide) ?_
      refine lv_icmp_ne (tgt := 85) hx hb dX6_set_63 (by decide) (fun c9 => ?_) (fun c9 => ?_)
      · have h := bb_f h c9
        refine lv_aload_n hx hb dX6_set_85 rfl (lv_at hl 0 rfl) ?_
        refine u_getr C w hw (hP _ _ (isn_f rfl rfl (by decide))) rfl (N := 18) rfl rfl cin_6 0 (by decide) (by decide) (a2 := 1) (i2 := 0) rfl gw_287 dX6_set_86 ?_
        refine u_geti C w hw (hP _ _ (isn_f rfl rfl (by decide))) rfl (N := 13) rfl rfl cin_0 4 (by decide) rfl gw_102 dX6_set_89 ?_
        refine u_iv h (fun x10 h => ?_)
        refine lv_istore_n (lv' := [(3, .int x10), (0, .ref (ad 0 0)), (1, .int a1), (2, .int a2)]) hx hb dX6_set_92 rfl hl (by decide) rfl (fun ls hl => ?_)
        refine lv_aload_n hx hb dX6_set_93 rfl (lv_at hl 1 rfl) ?_
        refine u_getr C w hw (hP _ _ (isn_f rfl rfl (by decide))) rfl (N := 18) rfl rfl cin_6 0 (by decide) (by decide) (a2 := 1) (i2 := 0) rfl gw_287 dX6_set_94 ?_
        refine lv_iload_n hx hb dX6_set_97 rfl (lv_at hl 3 rfl) ?_
        refine u_puti C w hw (hP _ _ (isn_f rfl rfl (by decide))) rfl (N := 13) rfl rfl cin_0 tyX0 tyX0_ok nmX0 4 (by decide) rfl rfl rfl rfl gw_102 dX6_set_98 (fun f H locs w hw hk1 => ?_)
        have hk := hk.tr hk1
        refine u_sv h hw hn (fun S11 h hw hn => ?_)
        refine lv_iload_n hx hb dX6_set_101 rfl (lv_at hl 0 rfl) ?_
        refine vx_ret ?_
        exact t_iret C hr hlk w ⟨sx_e h, sx_v h, _, rfl, sx_w h hw, sx_n h hn, hk⟩ (by decide) (by decide) dX6_set_102
      · have h := bb_t h c9
        refine lv_aload_n hx hb dX6_set_66 rfl (lv_at hl 0 rfl) ?_
        refine u_getr C w hw (hP _ _ (isn_f rfl rfl (by decide))) rfl (N := 18) rfl rfl cin_6 0 (by decide) (by decide) (a2 := 1) (i2 := 0) rfl gw_287 dX6_set_67 ?_
        refine u_geti C w hw (hP _ _ (isn_f rfl rfl (by decide))) rfl (N := 13) rfl rfl cin_0 3 (by decide) rfl gw_99 dX6_set_70 ?_
        refine u_iv h (fun x12 h => ?_)
        refine lv_istore_n (lv' := [(3, .int x12), (0, .ref (ad 0 0)), (1, .int a1), (2, .int a2)]) hx hb dX6_set_73 rfl hl (by decide) rfl (fun ls hl => ?_)
        refine lv_aload_n hx hb dX6_set_74 rfl (lv_at hl 1 rfl) ?_
        refine u_getr C w hw (hP _ _ (isn_f rfl rfl (by decide))) rfl (N := 18) rfl rfl cin_6 0 (by decide) (by decide) (a2 := 1) (i2 := 0) rfl gw_287 dX6_set_75 ?_
        refine lv_iload_n hx hb dX6_set_78 rfl (lv_at hl 3 rfl) ?_
        refine u_puti C w hw (hP _ _ (isn_f rfl rfl (by decide))) rfl (N := 13) rfl rfl cin_0 tyX0 tyX0_ok nmX0 3 (by decide) rfl rfl rfl rfl gw_99 dX6_set_79 (fun f H locs w hw hk1 => ?_)
        have hk := hk.tr hk1
        refine u_sv h hw hn (fun S13 h hw hn => ?_)
        refine lv_goto (tgt := 101) hx hb dX6_set_82 (by decide) ?_
        refine lv_iload_n hx hb dX6_set_101 rfl (lv_at hl 0 rfl) ?_
        refine vx_ret ?_
        exact t_iret C hr hlk w ⟨sx_e h, sx_v h, _, rfl, sx_w h hw, sx_n h hn, hk⟩ (by decide) (by decide) dX6_set_102
    · have h := bb_t h c8
      refine lv_aload_n hx hb dX6_set_42 rfl (lv_at hl 0 rfl) ?_
      refine u_getr C w hw (hP _ _ (isn_f rfl rfl (by decide))) rfl (N := 18) rfl rfl cin_6 0 (by decide) (by decide) (a2 := 1) (i2 := 0) rfl gw_287 dX6_set_43 ?_
      refine u_geti C w hw (hP _ _ (isn_f rfl rfl (by decide))) rfl (N := 13) rfl rfl cin_0 2 (by decide) rfl gw_96 dX6_set_46 ?_
      refine u_iv h (fun x14 h => ?_)
      refine lv_istore_n (lv' := [(3, .int x14), (0, .ref (ad 0 0)), (1, .int a1), (2, .int a2)]) hx hb dX6_set_49 rfl hl (by decide) rfl (fun ls hl => ?_)
      refine lv_aload_n hx hb dX6_set_50 rfl (lv_at hl 1 rfl) ?_
      refine u_getr C w hw (hP _ _ (isn_f rfl rfl (by decide))) rfl (N := 18) rfl rfl cin_6 0 (by decide) (by decide) (a2 := 1) (i2 := 0) rfl gw_287 dX6_set_51 ?_
      refine lv_iload_n hx hb dX6_set_54 rfl (lv_at hl 3 rfl) ?_
      refine u_puti C w hw (hP _ _ (isn_f rfl rfl (by decide))) rfl (N := 13) rfl rfl cin_0 tyX0 tyX0_ok nmX0 2 (by decide) rfl rfl rfl rfl gw_96 dX6_set_55 (fun f H locs w hw hk1 => ?_)
      have hk := hk.tr hk1
      refine u_sv h hw hn (fun S15 h hw hn => ?_)
      refine lv_goto (tgt := 101) hx hb dX6_set_58 (by decide) ?_
      refine lv_iload_n hx hb dX6_set_101 rfl (lv_at hl 0 rfl) ?_
      refine vx_ret ?_
      exact t_iret C hr hlk w ⟨sx_e h, sx_v h, _, rfl, sx_w h hw, sx_n h hn, hk⟩ (by decide) (by decide) dX6_set_102
  dsimp only [F_X6_set] at h
  obtain ⟨f, ef⟩ : ∃ z, z = f0 := ⟨_, rfl⟩
  rw [← ef] at w hw
  have hk : Kp ad P L f0 f := by rw [ef]; exact Kp.rf
  obtain ⟨H, eH⟩ : ∃ z, z = s.heap := ⟨_, rfl⟩
  obtain ⟨locs, el⟩ : ∃ z : List Loc, z = [] := ⟨_, rfl⟩
  rw [← eH, ← el] at w ⊢
  refine lv_iload_n hx hb dX6_set_0 rfl (lv_at hl 1 rfl) ?_
  refine lv_iconst (v := 0) hx hb dX6_set_1 (by decide) ?_
  refine lv_iconst (v := 2) hx hb dX6_set_2 (by decide) ?_
  obtain ⟨v16, S17, h18, h⟩ := bd_some h
  refine t_callS (n := 3) C w (c_X6_within l D K b0 sa _ L _ ad P hP S0 hw hn p1 0 2 v16 S17 h18) gw_376 gw_374 gw_375 gw_1 ⟨by decide, by decide, by decide +kernel⟩ rfl rfl ⟨by decide, by decide⟩ rfl hl.1 rfl (Nat.le_of_ble_eq_true rfl) dX6_set_3 ⟨Nat.le_of_ble_eq_true rfl, Nat.le_of_ble_eq_true rfl⟩ (fun v9 u H locs hp w => ?_)
  obtain ⟨f2, rfl, rfl, hw, hn, hk1⟩ := hp
  have hk := hk.tr hk1
  generalize f2 = f at w hw hk
  rcases bx_some h with ⟨v19, S20, h21, h⟩ | ⟨e22, v19, S20, h21, h⟩
  rotate_left
  · refine t_xcallS (n := 1) C w (c_X6_need l hls D K b0 sa _ L _ ad P hP S17 hw hn v16 (e22 + 1) v19 S20 h21) gw_625 gw_623 gw_624 gw_1 ⟨by decide, by decide, by decide +kernel⟩ rfl rfl ⟨by decide, by decide⟩ rfl hl.1 rfl (Nat.le_of_ble_eq_true rfl) dX6_set_6 ⟨Nat.le_of_ble_eq_true rfl, Nat.le_of_ble_eq_true rfl⟩ (fun E ce q9 u H locs hp w hcell hv0 hcl => ?_) (fun v9 u H locs hp w => absurd hp.1 (Nat.succ_ne_zero _))
    obtain ⟨⟨he, hE⟩, f2, rfl, hw, hn, hk1⟩ := hp
    exact t_xout w htb hlk hcell hv0 hcl ⟨sz_e h he hE, _, rfl, sz_w h hw, sz_n h hn, hk.tr hk1⟩ (by decide) (by decide)
  refine t_xcallS (n := 1) C w (c_X6_need l hls D K b0 sa _ L _ ad P hP S17 hw hn v16 0 v19 S20 h21) gw_625 gw_623 gw_624 gw_1 ⟨by decide, by decide, by decide +kernel⟩ rfl rfl ⟨by decide, by decide⟩ rfl hl.1 rfl (Nat.le_of_ble_eq_true rfl) dX6_set_6 ⟨Nat.le_of_ble_eq_true rfl, Nat.le_of_ble_eq_true rfl⟩ (fun E ce q9 u H locs hp w hcell hv0 hcl => absurd rfl hp.1.1) (fun v9 u H locs hp w => ?_)
  obtain ⟨-, rfl, f2, rfl, hw, hn, hk1⟩ := hp
  have hk := hk.tr hk1
  generalize f2 = f at w hw hk
  refine lv_iload_n hx hb dX6_set_9 rfl (lv_at hl 2 rfl) ?_
  refine lv_iconst (v := 0) hx hb dX6_set_10 (by decide) ?_
  refine lv_iload_n hx hb dX6_set_11 rfl (lv_at hl 1 rfl) ?_
  refine lv_if_ne (tgt := 20) hx hb dX6_set_12 (by decide) (fun c23 => ?_) (fun c23 => ?_)
  · have h := bb_f h c23
    refine lv_iload_n hx hb dX6_set_20 rfl (lv_at hl 1 rfl) ?_
    refine lv_iconst (v := 1) hx hb dX6_set_21 (by decide) ?_
    refine lv_icmp_ne (tgt := 30) hx hb dX6_set_22 (by decide) (fun c24 => ?_) (fun c24 => ?_)
    · have h := bb_f h c24
      refine lv_bipush (v := 23) hx hb dX6_set_30 (by decide) ?_
      exact J32  p1 p2 23 0 p2 S20 h f H locs w hw hn hk ls (lv_sub hl [0, 1, 2] rfl)
    · have h := bb_t h c24
      refine lv_bipush (v := 99) hx hb dX6_set_25 (by decide) ?_
      refine lv_goto (tgt := 32) hx hb dX6_set_27 (by decide) ?_
      exact J32  p1 p2 99 0 p2 S20 h f H locs w hw hn hk ls (lv_sub hl [0, 1, 2] rfl)
  · have h := bb_t h c23
    refine lv_bipush (v := 14) hx hb dX6_set_15 (by decide) ?_
    refine lv_goto (tgt := 32) hx hb dX6_set_17 (by decide) ?_
    exact J32  p1 p2 14 0 p2 S20 h f H locs w hw hn hk ls (lv_sub hl [0, 1, 2] rfl)
