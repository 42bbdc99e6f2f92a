theorem dJ6_signum_0f7a4_0 : decode cJ6_signum_0f7a4 0 = .ok (.iload_n 0, 1) := by decide +kernel
theorem dJ6_signum_0f7a4_1 : decode cJ6_signum_0f7a4 1 = .ok (.bipush 31, 2) := by decide +kernel
theorem dJ6_signum_0f7a4_3 : decode cJ6_signum_0f7a4 3 = .ok (.ishr, 1) := by decide +kernel
theorem dJ6_signum_0f7a4_4 : decode cJ6_signum_0f7a4 4 = .ok (.iload_n 0, 1) := by decide +kernel
theorem dJ6_signum_0f7a4_5 : decode cJ6_signum_0f7a4 5 = .ok (.ineg, 1) := by decide +kernel
theorem dJ6_signum_0f7a4_6 : decode cJ6_signum_0f7a4 6 = .ok (.bipush 31, 2) := by decide +kernel
theorem dJ6_signum_0f7a4_8 : decode cJ6_signum_0f7a4 8 = .ok (.iushr, 1) := by decide +kernel
theorem dJ6_signum_0f7a4_9 : decode cJ6_signum_0f7a4 9 = .ok (.ior, 1) := by decide +kernel
theorem dJ6_signum_0f7a4_10 : decode cJ6_signum_0f7a4 10 = .ok (.ireturn, 1) := by decide +kernel
noncomputable def F_J6_signum_0f7a4 (p0 : Int32) (S0 : fS) : Option (Int32 × fS) := iv (p0 >>> ((31 : Int32) &&& 31)) (fun x1 => iv (-p0) (fun x2 => iv ((x2.toUInt32 >>> ((31 : Int32).toUInt32 &&& Int32.toUInt32 31)).toInt32) (fun x3 => iv (x1 ||| x3) (fun x4 => some (x4, S0)))))
set_option maxHeartbeats 4000000 in
set_option maxRecDepth 100000 in
theorem c_J6_signum_0f7a4 (l : Launch) (D : va_G) (K : Nat → ClassId) (b0 : Nat) (sa : sT) (sz : Nat) (L : List Nat) (f0 : Nat → va_E) (ad : Nat → Nat → Nat) (P : Nat → Nat → Prop) {n : Nat × Nat} (hP : ∀ a i : Nat, isn n a i → P a i) (S0 : fS) (hw : PW K ad P S0 L f0) (hn : S0.2.2.1 = n) (p0 : Int32) (v : Int32) (S1 : fS) (h : F_J6_signum_0f7a4 p0 S0 = some (v, S1)) : Met l yJ6_signum_0f7a4 (.code yJ6_signum_0f7a4 cJ6_signum_0f7a4 1 (some .int) :: gt) { frames := 0, cells := 0, slots := 0, locals := 0 } (va_Pc [.int p0] (hPre D K b0 sa sz L f0)) (hQ D K b0 (fun v9 u9 => ∃ f2 : Nat → va_E, v9 = some (.int v) ∧ u9 = lU L f2 ∧ PW K ad P S1 L f2 ∧ S1.2.2.1 = n ∧ Kp ad P L f0 f2)) 0 0 (fun q => b0 ≤ q) := by
  refine t_of (own := RJ6) (by decide) rfl ?_ (Nat.le_of_ble_eq_true rfl)
  intro p e s m below meth c ls C w hsz hr hlk hnm hl
  have hx := C.1
  have hb := C.2.1
  have hl : lv_has ls 1 [(0, .int p0)] := hl
  dsimp only [F_J6_signum_0f7a4] at h
  obtain ⟨f, ef⟩ : ∃ z, z = f0 := ⟨_, rfl⟩
  rw [← ef] at w hw
  have hk : Kp ad P L f0 f := by rw [ef]; exact Kp.rf
  obtain ⟨H, eH⟩ : ∃ z, z = s.heap := ⟨_, rfl⟩
  obtain ⟨locs, el⟩ : ∃ z : List Loc, z = [] := ⟨_, rfl⟩
  rw [← eH, ← el] at w ⊢
  refine lv_iload_n hx hb dJ6_signum_0f7a4_0 rfl (lv_at hl 0 rfl) ?_
  refine lv_bipush (v := 31) hx hb dJ6_signum_0f7a4_1 (by decide) ?_
  refine lv_ishr hx hb dJ6_signum_0f7a4_3 ?_
  refine u_iv h (fun x1 h => ?_)
  refine lv_iload_n hx hb dJ6_signum_0f7a4_4 rfl (lv_at hl 0 rfl) ?_
  refine lv_ineg hx hb dJ6_signum_0f7a4_5 ?_
  refine u_iv h (fun x2 h => ?_)
  refine lv_bipush (v := 31) hx hb dJ6_signum_0f7a4_6 (by decide) ?_
  refine lv_iushr hx hb dJ6_signum_0f7a4_8 rfl ?_
  refine u_iv h (fun x3 h => ?_)
  refine lv_ior hx hb dJ6_signum_0f7a4_9 ?_
  refine u_iv h (fun x4 h => ?_)
  exact t_iret C hr hlk w ⟨_, so_v h, rfl, so_w h hw, so_n h hn, hk⟩ (by decide) (by decide) dJ6_signum_0f7a4_10
theorem dX6_within_0 : decode cX6_within 0 = .ok (.iload_n 0, 1) := by decide +kernel
theorem dX6_within_1 : decode cX6_within 1 = .ok (.iload_n 1, 1) := by decide +kernel
theorem dX6_within_2 : decode cX6_within 2 = .ok (.if_icmp .lt 12, 3) := by decide +kernel
theorem dX6_within_5 : decode cX6_within 5 = .ok (.iload_n 0, 1) := by decide +kernel
theorem dX6_within_6 : decode cX6_within 6 = .ok (.iload_n 2, 1) := by decide +kernel
theorem dX6_within_7 : decode cX6_within 7 = .ok (.if_icmp .gt 7, 3) := by decide +kernel
theorem dX6_within_10 : decode cX6_within 10 = .ok (.iconst 1, 1) := by decide +kernel
theorem dX6_within_11 : decode cX6_within 11 = .ok (.goto 4, 3) := by decide +kernel
theorem dX6_within_14 : decode cX6_within 14 = .ok (.iconst 0, 1) := by decide +kernel
theorem dX6_within_15 : decode cX6_within 15 = .ok (.ireturn, 1) := by decide +kernel
noncomputable def F_X6_within (p0 : Int32) (p1 : Int32) (p2 : Int32) (S0 : fS) : Option (Int32 × fS) := bb (p0 < p1) (some (0, S0)) (bb (p2 < p0) (some (0, S0)) (some (1, S0)))
set_option maxHeartbeats 4000000 in
set_option maxRecDepth 100000 in
theorem c_X6_within (l : Launch) (D : va_G) (K : Nat → ClassId) (b0 : Nat) (sa : sT) (sz : Nat) (L : List Nat) (f0 : Nat → va_E) (ad : Nat → Nat → Nat) (P : Nat → Nat → Prop) {n : Nat × Nat} (hP : ∀ a i : Nat, isn n a i → P a i) (S0 : fS) (hw : PW K ad P S0 L f0) (hn : S0.2.2.1 = n) (p0 : Int32) (p1 : Int32) (p2 : Int32) (v : Int32) (S1 : fS) (h : F_X6_within p0 p1 p2 S0 = some (v, S1)) : Met l yX6_within (.code yX6_within cX6_within 3 (some .boolean) :: gt) { frames := 0, cells := 0, slots := 0, locals := 0 } (va_Pc [.int p0, .int p1, .int p2] (hPre D K b0 sa sz L f0)) (hQ D K b0 (fun v9 u9 => ∃ f2 : Nat → va_E, v9 = some (.int v) ∧ u9 = lU L f2 ∧ PW K ad P S1 L f2 ∧ S1.2.2.1 = n ∧ Kp ad P L f0 f2)) 0 0 (fun q => b0 ≤ q) := by
  refine t_of (own := RX6) (by decide) rfl ?_ (Nat.le_of_ble_eq_true rfl)
  intro p e s m below meth c ls C w hsz hr hlk hnm hl
  have hx := C.1
  have hb := C.2.1
  have hl : lv_has ls 3 [(0, .int p0), (1, .int p1), (2, .int p2)] := hl
  dsimp only [F_X6_within] at h
  obtain ⟨f, ef⟩ : ∃ z, z = f0 := ⟨_, rfl⟩
  rw [← ef] at w hw
  have hk : Kp ad P L f0 f := by rw [ef]; exact Kp.rf
  obtain ⟨H, eH⟩ : ∃ z, z = s.heap := ⟨_, rfl⟩
  obtain ⟨locs, el⟩ : ∃ z : List Loc, z = [] := ⟨_, rfl⟩
  rw [← eH, ← el] at w ⊢
  refine lv_iload_n hx hb dX6_within_0 rfl (lv_at hl 0 rfl) ?_
  refine lv_iload_n hx hb dX6_within_1 rfl (lv_at hl 1 rfl) ?_
  refine lv_icmp_lt (tgt := 14) hx hb dX6_within_2 (by decide) (fun c1 => ?_) (fun c1 => ?_)
  · have h := bb_t h c1
    refine lv_iconst (v := 0) hx hb dX6_within_14 (by decide) ?_
    exact t_zret C hr hlk w (by decide) ⟨_, so_v h, rfl, so_w h hw, so_n h hn, hk⟩ (by decide) (by decide) dX6_within_15
  · have h := bb_f h c1
    refine lv_iload_n hx hb dX6_within_5 rfl (lv_at hl 0 rfl) ?_
    refine lv_iload_n hx hb dX6_within_6 rfl (lv_at hl 2 rfl) ?_
    refine lv_icmp_gt (tgt := 14) hx hb dX6_within_7 (by decide) (fun c2 => ?_) (fun c2 => ?_)
    · have h := bb_t h c2
      refine lv_iconst (v := 0) hx hb dX6_within_14 (by decide) ?_
      exact t_zret C hr hlk w (by decide) ⟨_, so_v h, rfl, so_w h hw, so_n h hn, hk⟩ (by decide) (by decide) dX6_within_15
    · have h := bb_f h c2
      refine lv_iconst (v := 1) hx hb dX6_within_10 (by decide) ?_
      refine lv_goto (tgt := 15) hx hb dX6_within_11 (by decide) ?_
      exact t_zret C hr hlk w (by decide) ⟨_, so_v h, rfl, so_w h hw, so_n h hn, hk⟩ (by decide) (by decide) dX6_within_15
theorem dX0_draw_0 : decode cX0_draw 0 = .ok (.aload_n 0, 1) := by decide +kernel
theorem dX0_draw_1 : decode cX0_draw 1 = .ok (.aload_n 0, 1) := by decide +kernel
theorem dX0_draw_2 : decode cX0_draw 2 = .ok (.getfield 31, 3) := by decide +kernel
theorem dX0_draw_5 : decode cX0_draw 5 = .ok (.ldc 58, 2) := by decide +kernel
theorem dX0_draw_7 : decode cX0_draw 7 = .ok (.imul, 1) := by decide +kernel
theorem dX0_draw_8 : decode cX0_draw 8 = .ok (.sipush 12345, 3) := by decide +kernel
theorem dX0_draw_11 : decode cX0_draw 11 = .ok (.iadd, 1) := by decide +kernel
theorem dX0_draw_12 : decode cX0_draw 12 = .ok (.putfield 31, 3) := by decide +kernel
theorem dX0_draw_15 : decode cX0_draw 15 = .ok (.iload_n 1, 1) := by decide +kernel
theorem dX0_draw_16 : decode cX0_draw 16 = .ok (.ifCond .le 19, 3) := by decide +kernel
theorem dX0_draw_19 : decode cX0_draw 19 = .ok (.aload_n 0, 1) := by decide +kernel
theorem dX0_draw_20 : decode cX0_draw 20 = .ok (.getfield 31, 3) := by decide +kernel
theorem dX0_draw_23 : decode cX0_draw 23 = .ok (.bipush 16, 2) := by decide +kernel
theorem dX0_draw_25 : decode cX0_draw 25 = .ok (.iushr, 1) := by decide +kernel
theorem dX0_draw_26 : decode cX0_draw 26 = .ok (.sipush 32767, 3) := by decide +kernel
theorem dX0_draw_29 : decode cX0_draw 29 = .ok (.iand, 1) := by decide +kernel
theorem dX0_draw_30 : decode cX0_draw 30 = .ok (.iload_n 1, 1) := by decide +kernel
theorem dX0_draw_31 : decode cX0_draw 31 = .ok (.irem, 1) := by decide +kernel
theorem dX0_draw_32 : decode cX0_draw 32 = .ok (.goto 4, 3) := by decide +kernel
theorem dX0_draw_35 : decode cX0_draw 35 = .ok (.iconst 0, 1) := by decide +kernel
theorem dX0_draw_36 : decode cX0_draw 36 = .ok (.ireturn, 1) := by decide +kernel
noncomputable def F_X0_draw (r0 : Nat) (p1 : Int32) (S0 : fS) : Option (Int32 × fS) := iv (ge S0 1 r0 5) (fun x1 => iv (x1 * (1103515245 : Int32)) (fun x2 => iv (x2 + (12345 : Int32)) (fun x3 => sv (pu S0 1 r0 5 x3) (fun S4 => bb (p1 ≤ (0 : Int32)) (some (0, S4)) (iv (ge S4 1 r0 5) (fun x6 => iv ((x6.toUInt32 >>> ((16 : Int32).toUInt32 &&& Int32.toUInt32 31)).toInt32) (fun x7 => iv (x7 &&& (32767 : Int32)) (fun x8 => gd (¬ p1 = 0) (iv (x8 - x8 / p1 * p1) (fun x10 => some (x10, S4)))))))))))
set_option maxHeartbeats 4000000 in
set_option maxRecDepth 100000 in
theorem c_X0_draw (l : Launch) (D : va_G) (K : Nat → ClassId) (b0 : Nat) (sa : sT) (sz : Nat) (L : List Nat) (f0 : Nat → va_E) (ad : Nat → Nat → Nat) (P : Nat → Nat → Prop) {n : Nat × Nat} (hP : ∀ a i : Nat, isn n a i → P a i) (S0 : fS) (hw : PW K ad P S0 L f0) (hn : S0.2.2.1 = n) (r0 : Nat) (hr0 : r0 < 5) (p1 : Int32) (v : Int32) (S1 : fS) (h : F_X0_draw r0 p1 S0 = some (v, S1)) : Met l yX0_draw (.code yX0_draw cX0_draw 2 (some .int) :: gt) { frames := 0, cells := 0, slots := 0, locals := 0 } (va_Pc [.ref (ad 1 r0), .int p1] (hPre D K b0 sa sz L f0)) (hQ D K b0 (fun v9 u9 => ∃ f2 : Nat → va_E, v9 = some (.int v) ∧ u9 = lU L f2 ∧ PW K ad P S1 L f2 ∧ S1.2.2.1 = n ∧ Kp ad P L f0 f2)) 0 0 (fun q => b0 ≤ q) := by
  refine t_of (own := RX0) (by decide) rfl ?_ (Nat.le_of_ble_eq_true rfl)
  intro p e s m below meth c ls C w hsz hr hlk hnm hl
  have hx := C.1
  have hb := C.2.1
  have hl : lv_has ls 2 [(0, .ref (ad 1 r0)), (1, .int p1)] := hl
  dsimp only [F_X0_draw] at h
  obtain ⟨f, ef⟩ : ∃ z, z = f0 := ⟨_, rfl⟩
  rw [← ef] at w hw
  have hk : Kp ad P L f0 f := by rw [ef]; exact Kp.rf
  obtain ⟨H, eH⟩ : ∃ z, z = s.heap := ⟨_, rfl⟩
  obtain ⟨locs, el⟩ : ∃ z : List Loc, z = [] := ⟨_, rfl⟩
  rw [← eH, ← el] at w ⊢
  refine lv_aload_n hx hb dX0_draw_0 rfl (lv_at hl 0 rfl) ?_
  refine lv_aload_n hx hb dX0_draw_1 rfl (lv_at hl 0 rfl) ?_
  refine u_geti C w hw (hP _ _ (isn_f rfl rfl hr0)) rfl (N := 13) rfl rfl cin_0 5 (by decide) rfl gw_103 dX0_draw_2 ?_
  refine u_iv h (fun x1 h => ?_)
  refine lv_ldc hx hb C.2.2.2.1 (C.2.2.2.2 _ gw_952) dX0_draw_5 ?_
  refine lv_imul hx hb dX0_draw_7 ?_
  refine u_iv h (fun x2 h => ?_)
  refine lv_sipush (v := 12345) hx hb dX0_draw_8 (by decide) ?_
  refine lv_iadd hx hb dX0_draw_11 ?_
  refine u_iv h (fun x3 h => ?_)
  refine u_puti C w hw (hP _ _ (isn_f rfl rfl hr0)) rfl (N := 13) rfl rfl cin_0 tyX0 tyX0_ok nmX0 5 (by decide) rfl rfl rfl rfl gw_103 dX0_draw_12 (fun f H locs w hw hk1 => ?_)
  have hk := hk.tr hk1
  refine u_sv h hw hn (fun S4 h hw hn => ?_)
  refine lv_iload_n hx hb dX0_draw_15 rfl (lv_at hl 1 rfl) ?_
  refine lv_if_le (tgt := 35) hx hb dX0_draw_16 (by decide) (fun c5 => ?_) (fun c5 => ?_)
  · have h := bb_t h c5
    refine lv_iconst (v := 0) hx hb dX0_draw_35 (by decide) ?_
    exact t_iret C hr hlk w ⟨_, so_v h, rfl, so_w h hw, so_n h hn, hk⟩ (by decide) (by decide) dX0_draw_36
  · have h := bb_f h c5
    refine lv_aload_n hx hb dX0_draw_19 rfl (lv_at hl 0 rfl) ?_
    refine u_geti C w hw (hP _ _ (isn_f rfl rfl hr0)) rfl (N := 13) rfl rfl cin_0 5 (by decide) rfl gw_103 dX0_draw_20 ?_
    refine u_iv h (fun x6 h => ?_)
    refine lv_bipush (v := 16) hx hb dX0_draw_23 (by decide) ?_
    refine lv_iushr hx hb dX0_draw_25 rfl ?_
    refine u_iv h (fun x7 h => ?_)
    refine lv_sipush (v := 32767) hx hb dX0_draw_26 (by decide) ?_
    refine lv_iand hx hb dX0_draw_29 ?_
    refine u_iv h (fun x8 h => ?_)
    refine lv_iload_n hx hb dX0_draw_30 rfl (lv_at hl 1 rfl) ?_
    obtain ⟨g9, h⟩ := gd_some h
    refine lv_irem hx hb dX0_draw_31 g9 ?_
    refine u_iv h (fun x10 h => ?_)
    refine lv_goto (tgt := 36) hx hb dX0_draw_32 (by decide) ?_
    exact t_iret C hr hlk w ⟨_, so_v h, rfl, so_w h hw, so_n h hn, hk⟩ (by decide) (by decide) dX0_draw_36
theorem dX5_grippedAt_0 : decode cX5_grippedAt 0 = .ok (.iload_n 1, 1) := by decide +kernel
theorem dX5_grippedAt_1 : decode cX5_grippedAt 1 = .ok (.ifCond .lt 21, 3) := by decide +kernel
theorem dX5_grippedAt_4 : decode cX5_grippedAt 4 = .ok (.iload_n 1, 1) := by decide +kernel
theorem dX5_grippedAt_5 : decode cX5_grippedAt 5 = .ok (.aload_n 0, 1) := by decide +kernel
theorem dX5_grippedAt_6 : decode cX5_grippedAt 6 = .ok (.getfield 57, 3) := by decide +kernel
theorem dX5_grippedAt_9 : decode cX5_grippedAt 9 = .ok (.arraylength, 1) := by decide +kernel
theorem dX5_grippedAt_10 : decode cX5_grippedAt 10 = .ok (.if_icmp .ge 12, 3) := by decide +kernel
theorem dX5_grippedAt_13 : decode cX5_grippedAt 13 = .ok (.aload_n 0, 1) := by decide +kernel
theorem dX5_grippedAt_14 : decode cX5_grippedAt 14 = .ok (.getfield 57, 3) := by decide +kernel
theorem dX5_grippedAt_17 : decode cX5_grippedAt 17 = .ok (.iload_n 1, 1) := by decide +kernel
theorem dX5_grippedAt_18 : decode cX5_grippedAt 18 = .ok (.iaload, 1) := by decide +kernel
theorem dX5_grippedAt_19 : decode cX5_grippedAt 19 = .ok (.goto 4, 3) := by decide +kernel
theorem dX5_grippedAt_22 : decode cX5_grippedAt 22 = .ok (.iconst (-1), 1) := by decide +kernel
theorem dX5_grippedAt_23 : decode cX5_grippedAt 23 = .ok (.ireturn, 1) := by decide +kernel
noncomputable def F_X5_grippedAt (r0 : Nat) (p1 : Int32) (S0 : fS) : Option (Int32 × fS) := bb (p1 < (0 : Int32)) (some ((-1), S0)) (bb ((5 : Int32) ≤ p1) (some ((-1), S0)) (gd (ib p1 5) (iv (ge S0 26 r0 (p1 : Int32).toNatClampNeg) (fun x4 => some (x4, S0)))))
set_option maxHeartbeats 4000000 in
set_option maxRecDepth 100000 in
theorem c_X5_grippedAt (l : Launch) (D : va_G) (K : Nat → ClassId) (b0 : Nat) (sa : sT) (sz : Nat) (L : List Nat) (f0 : Nat → va_E) (ad : Nat → Nat → Nat) (P : Nat → Nat → Prop) {n : Nat × Nat} (hP : ∀ a i : Nat, isn n a i → P a i) (S0 : fS) (hw : PW K ad P S0 L f0) (hn : S0.2.2.1 = n) (r0 : Nat) (hr0 : r0 < n.1) (p1 : Int32) (v : Int32) (S1 : fS) (h : F_X5_grippedAt r0 p1 S0 = some (v, S1)) : Met l yX5_grippedAt (.code yX5_grippedAt cX5_grippedAt 2 (some .int) :: gt) { frames := 0, cells := 0, slots := 0, locals := 0 } (va_Pc [.ref (ad 25 r0), .int p1] (hPre D K b0 sa sz L f0)) (hQ D K b0 (fun v9 u9 => ∃ f2 : Nat → va_E, v9 = some (.int v) ∧ u9 = lU L f2 ∧ PW K ad P S1 L f2 ∧ S1.2.2.1 = n ∧ Kp ad P L f0 f2)) 0 0 (fun q => b0 ≤ q) := by
  refine t_of (own := RX5) (by decide) rfl ?_ (Nat.le_of_ble_eq_true rfl)
  intro p e s m below meth c ls C w hsz hr hlk hnm hl
  have hx := C.1
  have hb := C.2.1
  have hl : lv_has ls 2 [(0, .ref (ad 25 r0)), (1, .int p1)] := hl
  dsimp only [F_X5_grippedAt] at h
  obtain ⟨f, ef⟩ : ∃ z, z = f0 := ⟨_, rfl⟩
  rw [← ef] at w hw
  have hk : Kp ad P L f0 f := by rw [ef]; exact Kp.rf
  obtain ⟨H, eH⟩ : ∃ z, z = s.heap := ⟨_, rfl⟩
  obtain ⟨locs, el⟩ : ∃ z : List Loc, z = [] := ⟨_, rfl⟩
  rw [← eH, ← el] at w ⊢
  refine lv_iload_n hx hb dX5_grippedAt_0 rfl (lv_at hl 1 rfl) ?_
  refine lv_if_lt (tgt := 22) hx hb dX5_grippedAt_1 (by decide) (fun c1 => ?_) (fun c1 => ?_)
  · have h := bb_t h c1
    refine lv_iconst (v := (-1)) hx hb dX5_grippedAt_22 (by decide) ?_
    exact t_iret C hr hlk w ⟨_, so_v h, rfl, so_w h hw, so_n h hn, hk⟩ (by decide) (by decide) dX5_grippedAt_23
  · have h := bb_f h c1
    refine lv_iload_n hx hb dX5_grippedAt_4 rfl (lv_at hl 1 rfl) ?_
    refine lv_aload_n hx hb dX5_grippedAt_5 rfl (lv_at hl 0 rfl) ?_
    refine u_getr C w hw (hP _ _ (isn_t25 hr0)) rfl (N := 17) rfl rfl cin_5 15 (by decide) (by decide) (a2 := 26) (i2 := r0) rfl gw_248 dX5_grippedAt_6 ?_
    refine u_alen C w hw (hP _ _ (isn_t26 hr0)) rfl rfl (v := 5) rfl dX5_grippedAt_9 ?_
    refine lv_icmp_ge (tgt := 22) hx hb dX5_grippedAt_10 (by decide) (fun c2 => ?_) (fun c2 => ?_)
    · have h := bb_t h c2
      refine lv_iconst (v := (-1)) hx hb dX5_grippedAt_22 (by decide) ?_
      exact t_iret C hr hlk w ⟨_, so_v h, rfl, so_w h hw, so_n h hn, hk⟩ (by decide) (by decide) dX5_grippedAt_23
    · have h := bb_f h c2
      refine lv_aload_n hx hb dX5_grippedAt_13 rfl (lv_at hl 0 rfl) ?_
      refine u_getr C w hw (hP _ _ (isn_t25 hr0)) rfl (N := 17) rfl rfl cin_5 15 (by decide) (by decide) (a2 := 26) (i2 := r0) rfl gw_248 dX5_grippedAt_14 ?_
      refine lv_iload_n hx hb dX5_grippedAt_17 rfl (lv_at hl 1 rfl) ?_
      obtain ⟨g3, h⟩ := gd_some h
      refine u_iald C w hw (hP _ _ (isn_t26 hr0)) rfl rfl (n := 5) rfl (vp_in_iff.mpr g3) dX5_grippedAt_18 ?_
      refine u_iv h (fun x4 h => ?_)
      refine lv_goto (tgt := 23) hx hb dX5_grippedAt_19 (by decide) ?_
      exact t_iret C hr hlk w ⟨_, so_v h, rfl, so_w h hw, so_n h hn, hk⟩ (by decide) (by decide) dX5_grippedAt_23
theorem dX2_known_0 : decode cX2_known 0 = .ok (.iload_n 1, 1) := by decide +kernel
theorem dX2_known_1 : decode cX2_known 1 = .ok (.ifCond .lt 21, 3) := by decide +kernel
theorem dX2_known_4 : decode cX2_known 4 = .ok (.iload_n 1, 1) := by decide +kernel
theorem dX2_known_5 : decode cX2_known 5 = .ok (.aload_n 0, 1) := by decide +kernel
theorem dX2_known_6 : decode cX2_known 6 = .ok (.getfield 9, 3) := by decide +kernel
theorem dX2_known_9 : decode cX2_known 9 = .ok (.if_icmp .ge 13, 3) := by decide +kernel
theorem dX2_known_12 : decode cX2_known 12 = .ok (.iload_n 1, 1) := by decide +kernel
theorem dX2_known_13 : decode cX2_known 13 = .ok (.bipush 24, 2) := by decide +kernel
theorem dX2_known_15 : decode cX2_known 15 = .ok (.if_icmp .ge 7, 3) := by decide +kernel
theorem dX2_known_18 : decode cX2_known 18 = .ok (.iconst 1, 1) := by decide +kernel
theorem dX2_known_19 : decode cX2_known 19 = .ok (.goto 4, 3) := by decide +kernel
theorem dX2_known_22 : decode cX2_known 22 = .ok (.iconst 0, 1) := by decide +kernel
theorem dX2_known_23 : decode cX2_known 23 = .ok (.ireturn, 1) := by decide +kernel
noncomputable def F_X2_known (r0 : Nat) (p1 : Int32) (S0 : fS) : Option (Int32 × fS) := bb (p1 < (0 : Int32)) (some (0, S0)) (iv (ge S0 2 r0 0) (fun x2 => bb (x2 ≤ p1) (some (0, S0)) (bb ((24 : Int32) ≤ p1) (some (0, S0)) (some (1, S0)))))
set_option maxHeartbeats 4000000 in
set_option maxRecDepth 100000 in
theorem c_X2_known (l : Launch) (D : va_G) (K : Nat → ClassId) (b0 : Nat) (sa : sT) (sz : Nat) (L : List Nat) (f0 : Nat → va_E) (ad : Nat → Nat → Nat) (P : Nat → Nat → Prop) {n : Nat × Nat} (hP : ∀ a i : Nat, isn n a i → P a i) (S0 : fS) (hw : PW K ad P S0 L f0) (hn : S0.2.2.1 = n) (r0 : Nat) (hr0 : r0 < 5) (p1 : Int32) (v : Int32) (S1 : fS) (h : F_X2_known r0 p1 S0 = some (v, S1)) : Met l yX2_known (.code yX2_known cX2_known 2 (some .boolean) :: gt) { frames := 0, cells := 0, slots := 0, locals := 0 } (va_Pc [.ref (ad 2 r0), .int p1] (hPre D K b0 sa sz L f0)) (hQ D K b0 (fun v9 u9 => ∃ f2 : Nat → va_E, v9 = some (.int v) ∧ u9 = lU L f2 ∧ PW K ad P S1 L f2 ∧ S1.2.2.1 = n ∧ Kp ad P L f0 f2)) 0 0 (fun q => b0 ≤ q) := by
  refine t_of (own := RX2) (by decide) rfl ?_ (Nat.le_of_ble_eq_true rfl)
  intro p e s m below meth c ls C w hsz hr hlk hnm hl
  have hx := C.1
  have hb := C.2.1
  have hl : lv_has ls 2 [(0, .ref (ad 2 r0)), (1, .int p1)] := hl
  dsimp only [F_X2_known] at h
  obtain ⟨f, ef⟩ : ∃ z, z = f0 := ⟨_, rfl⟩
  rw [← ef] at w hw
  have hk : Kp ad P L f0 f := by rw [ef]; exact Kp.rf
  obtain ⟨H, eH⟩ : ∃ z, z = s.heap := ⟨_, rfl⟩
  obtain ⟨locs, el⟩ : ∃ z : List Loc, z = [] := ⟨_, rfl⟩
  rw [← eH, ← el] at w ⊢
  refine lv_iload_n hx hb dX2_known_0 rfl (lv_at hl 1 rfl) ?_
  refine lv_if_lt (tgt := 22) hx hb dX2_known_1 (by decide) (fun c1 => ?_) (fun c1 => ?_)
  · have h := bb_t h c1
    refine lv_iconst (v := 0) hx hb dX2_known_22 (by decide) ?_
    exact t_zret C hr hlk w (by decide) ⟨_, so_v h, rfl, so_w h hw, so_n h hn, hk⟩ (by decide) (by decide) dX2_known_23
  · have h := bb_f h c1
    refine lv_iload_n hx hb dX2_known_4 rfl (lv_at hl 1 rfl) ?_
    refine lv_aload_n hx hb dX2_known_5 rfl (lv_at hl 0 rfl) ?_
    refine u_geti C w hw (hP _ _ (isn_f rfl rfl hr0)) rfl (N := 9) rfl rfl cin_2 0 (by decide) rfl gw_46 dX2_known_6 ?_
    refine u_iv h (fun x2 h => ?_)
    refine lv_icmp_ge (tgt := 22) hx hb dX2_known_9 (by decide) (fun c3 => ?_) (fun c3 => ?_)
    · have h := bb_t h c3
      refine lv_iconst (v := 0) hx hb dX2_known_22 (by decide) ?_
      exact t_zret C hr hlk w (by decide) ⟨_, so_v h, rfl, so_w h hw, so_n h hn, hk⟩ (by decide) (by decide) dX2_known_23
    · have h := bb_f h c3
      refine lv_iload_n hx hb dX2_known_12 rfl (lv_at hl 1 rfl) ?_
      refine lv_bipush (v := 24) hx hb dX2_known_13 (by decide) ?_
      refine lv_icmp_ge (tgt := 22) hx hb dX2_known_15 (by decide) (fun c4 => ?_) (fun c4 => ?_)
      · have h := bb_t h c4
        refine lv_iconst (v := 0) hx hb dX2_known_22 (by decide) ?_
        exact t_zret C hr hlk w (by decide) ⟨_, so_v h, rfl, so_w h hw, so_n h hn, hk⟩ (by decide) (by decide) dX2_known_23
      · have h := bb_f h c4
        refine lv_iconst (v := 1) hx hb dX2_known_18 (by decide) ?_
        refine lv_goto (tgt := 23) hx hb dX2_known_19 (by decide) ?_
        exact t_zret C hr hlk w (by decide) ⟨_, so_v h, rfl, so_w h hw, so_n h hn, hk⟩ (by decide) (by decide) dX2_known_23
theorem dX2_unhook_0 : decode cX2_unhook 0 = .ok (.iload_n 2, 1) := by decide +kernel
theorem dX2_unhook_1 : decode cX2_unhook 1 = .ok (.istore_n 3, 1) := by decide +kernel
theorem dX2_unhook_2 : decode cX2_unhook 2 = .ok (.iconst 0, 1) := by decide +kernel
theorem dX2_unhook_3 : decode cX2_unhook 3 = .ok (.istore 4, 2) := by decide +kernel
theorem dX2_unhook_5 : decode cX2_unhook 5 = .ok (.iload 4, 2) := by decide +kernel
theorem dX2_unhook_7 : decode cX2_unhook 7 = .ok (.bipush 24, 2) := by decide +kernel
theorem dX2_unhook_9 : decode cX2_unhook 9 = .ok (.if_icmp .ge 47, 3) := by decide +kernel
theorem dX2_unhook_12 : decode cX2_unhook 12 = .ok (.aload_n 0, 1) := by decide +kernel
theorem dX2_unhook_13 : decode cX2_unhook 13 = .ok (.iload_n 3, 1) := by decide +kernel
theorem dX2_unhook_14 : decode cX2_unhook 14 = .ok (.invokevirtual 50, 3) := by decide +kernel
theorem dX2_unhook_17 : decode cX2_unhook 17 = .ok (.ifCond .eq 39, 3) := by decide +kernel
theorem dX2_unhook_20 : decode cX2_unhook 20 = .ok (.aload_n 0, 1) := by decide +kernel
theorem dX2_unhook_21 : decode cX2_unhook 21 = .ok (.getfield 34, 3) := by decide +kernel
theorem dX2_unhook_24 : decode cX2_unhook 24 = .ok (.iload_n 3, 1) := by decide +kernel
theorem dX2_unhook_25 : decode cX2_unhook 25 = .ok (.iaload, 1) := by decide +kernel
theorem dX2_unhook_26 : decode cX2_unhook 26 = .ok (.iload_n 1, 1) := by decide +kernel
theorem dX2_unhook_27 : decode cX2_unhook 27 = .ok (.if_icmp .ne 16, 3) := by decide +kernel
theorem dX2_unhook_30 : decode cX2_unhook 30 = .ok (.aload_n 0, 1) := by decide +kernel
theorem dX2_unhook_31 : decode cX2_unhook 31 = .ok (.getfield 34, 3) := by decide +kernel
theorem dX2_unhook_34 : decode cX2_unhook 34 = .ok (.iload_n 3, 1) := by decide +kernel
theorem dX2_unhook_35 : decode cX2_unhook 35 = .ok (.aload_n 0, 1) := by decide +kernel
theorem dX2_unhook_36 : decode cX2_unhook 36 = .ok (.getfield 34, 3) := by decide +kernel
theorem dX2_unhook_39 : decode cX2_unhook 39 = .ok (.iload_n 1, 1) := by decide +kernel
theorem dX2_unhook_40 : decode cX2_unhook 40 = .ok (.iaload, 1) := by decide +kernel
theorem dX2_unhook_41 : decode cX2_unhook 41 = .ok (.iastore, 1) := by decide +kernel
theorem dX2_unhook_42 : decode cX2_unhook 42 = .ok (.return_, 1) := by decide +kernel
theorem dX2_unhook_43 : decode cX2_unhook 43 = .ok (.aload_n 0, 1) := by decide +kernel
theorem dX2_unhook_44 : decode cX2_unhook 44 = .ok (.getfield 34, 3) := by decide +kernel
theorem dX2_unhook_47 : decode cX2_unhook 47 = .ok (.iload_n 3, 1) := by decide +kernel
theorem dX2_unhook_48 : decode cX2_unhook 48 = .ok (.iaload, 1) := by decide +kernel
theorem dX2_unhook_49 : decode cX2_unhook 49 = .ok (.istore_n 3, 1) := by decide +kernel
theorem dX2_unhook_50 : decode cX2_unhook 50 = .ok (.iinc 4 1, 3) := by decide +kernel
theorem dX2_unhook_53 : decode cX2_unhook 53 = .ok (.goto (-48), 3) := by decide +kernel
theorem dX2_unhook_56 : decode cX2_unhook 56 = .ok (.return_, 1) := by decide +kernel
noncomputable def B_X2_unhook_5 (r0 : Nat) (k5 : (Int32 × Int32 × Int32) → fS → Option (Int32 × fS)) : (Int32 × Int32 × Int32) → fS → Option (Int32 × fS) := fun ⟨a1, a3, a4⟩ S => bb ((24 : Int32) ≤ a4) (some (0, S)) (bd (F_X2_known r0 a3 S) (fun v2 S3 => bb (v2 = (0 : Int32)) (some (0, S3)) (gd (ib a3 24) (iv (ge S3 9 r0 (a3 : Int32).toNatClampNeg) (fun x7 => bb (x7 = a1) (gd (ib a1 24) (iv (ge S3 9 r0 (a1 : Int32).toNatClampNeg) (fun x13 => gd (ib a3 24) (sv (pu S3 9 r0 (a3 : Int32).toNatClampNeg x13) (fun S15 => some (0, S15)))))) (gd (ib a3 24) (iv (ge S3 9 r0 (a3 : Int32).toNatClampNeg) (fun x10 => iv (a4 + Int32.ofInt 1) (fun x11 => k5 (a1, x10, x11) S3)))))))))
noncomputable def F_X2_unhook (r0 : Nat) (p1 : Int32) (p2 : Int32) (S0 : fS) : Option (Int32 × fS) := lp (B_X2_unhook_5 r0 ) fuel (p1, p2, 0) S0
set_option maxHeartbeats 4000000 in
set_option maxRecDepth 100000 in
theorem c_X2_unhook (l : Launch) (D : va_G) (K : Nat → ClassId) (b0 : Nat) (sa : sT) (sz : Nat) (L : List Nat) (f0 : Nat → va_E) (ad : Nat → Nat → Nat) (P : Nat → Nat → Prop) {n : Nat × Nat} (hP : ∀ a i : Nat, isn n a i → P a i) (S0 : fS) (hw : PW K ad P S0 L f0) (hn : S0.2.2.1 = n) (r0 : Nat) (hr0 : r0 < 5) (p1 : Int32) (p2 : Int32) (v : Int32) (S1 : fS) (h : F_X2_unhook r0 p1 p2 S0 = some (v, S1)) : Met l yX2_unhook (.code yX2_unhook cX2_unhook 5 none :: gt) { frames := 1, cells := 0, slots := 0, locals := 21 } (va_Pc [.ref (ad 2 r0), .int p1, .int p2] (hPre D K b0 sa sz L f0)) (hQ D K b0 (fun v9 u9 => ∃ f2 : Nat → va_E, v9 = none ∧ u9 = lU L f2 ∧ PW K ad P S1 L f2 ∧ S1.2.2.1 = n ∧ Kp ad P L f0 f2)) 0 0 (fun q => b0 ≤ q) := by
  refine t_of (own := RX2) (by decide) rfl ?_ (Nat.le_of_ble_eq_true rfl)
  intro p e s m below meth c ls C w hsz hr hlk hnm hl
  have hx := C.1
  have hb := C.2.1
  have hl : lv_has ls 5 [(0, .ref (ad 2 r0)), (1, .int p1), (2, .int p2)] := hl
  have J5 : ∀ (fu : Nat) (a1 : Int32) (a3 : Int32) (a4 : Int32) (S : fS), lp (B_X2_unhook_5 r0 ) fu (a1, a3, a4) S = some (v, S1) → Gw D K b0 sa ad P n L f0 p l e { frames := 1, cells := 0, slots := 0, locals := 21 } s m [.ref (ad 2 r0), .int p1, .int p2].toArray below meth c 5 (MQ below (hQ D K b0 (fun v9 u9 => ∃ f2 : Nat → va_E, v9 = none ∧ u9 = lU L f2 ∧ PW K ad P S1 L f2 ∧ S1.2.2.1 = n ∧ Kp ad P L f0 f2)) [.ref (ad 2 r0), .int p1, .int p2].toArray s 0 0 (fun q => b0 ≤ q)) 0 0 5 [(0, .ref (ad 2 r0)), (1, .int a1), (3, .int a3), (4, .int a4)] [] S := by
    intro fu a1 a3 a4 S h
    refine lp_some (G := (fun q S => Gw D K b0 sa ad P n L f0 p l e { frames := 1, cells := 0, slots := 0, locals := 21 } s m [.ref (ad 2 r0), .int p1, .int p2].toArray below meth c 5 (MQ below (hQ D K b0 (fun v9 u9 => ∃ f2 : Nat → va_E, v9 = none ∧ u9 = lU L f2 ∧ PW K ad P S1 L f2 ∧ S1.2.2.1 = n ∧ Kp ad P L f0 f2)) [.ref (ad 2 r0), .int p1, .int p2].toArray s 0 0 (fun q => b0 ≤ q)) 0 0 5 [(0, .ref (ad 2 r0)), (1, .int q.1), (3, .int q.2.1), (4, .int q.2.2)] [] S)) (fun k5 hk5 q S h => ?_) fu (a1, a3, a4) S h
    obtain ⟨a1, a3, a4⟩ := q
    have hk5 : ∀ (a1 : Int32) (a3 : Int32) (a4 : Int32) (S : fS), k5 (a1, a3, a4) S = some (v, S1) → Gw D K b0 sa ad P n L f0 p l e { frames := 1, cells := 0, slots := 0, locals := 21 } s m [.ref (ad 2 r0), .int p1, .int p2].toArray below meth c 5 (MQ below (hQ D K b0 (fun v9 u9 => ∃ f2 : Nat → va_E, v9 = none ∧ u9 = lU L f2 ∧ PW K ad P S1 L f2 ∧ S1.2.2.1 = n ∧ Kp ad P L f0 f2)) [.ref (ad 2 r0), .int p1, .int p2].toArray s 0 0 (fun q => b0 ≤ q)) 0 0 5 [(0, .ref (ad 2 r0)), (1, .int a1), (3, .int a3), (4, .int a4)] [] S := fun a1 a3 a4 S h => hk5 (a1, a3, a4) S h
    dsimp only [B_X2_unhook_5] at h
    intro f H locs w hw hn hk ls hl
    refine lv_iload hx hb dX2_unhook_5 (lv_at hl 3 rfl) ?_
    refine lv_bipush (v := 24) hx hb dX2_unhook_7 (by decide) ?_
    refine lv_icmp_ge (tgt := 56) hx hb dX2_unhook_9 (by decide) (fun c1 => ?_) (fun c1 => ?_)
    · have h := bb_t h c1
      exact t_vret C hr hlk w ⟨_, rfl, rfl, so_w h hw, so_n h hn, hk⟩ (by decide) (by decide) dX2_unhook_56
    · have h := bb_f h c1
      refine lv_aload_n hx hb dX2_unhook_12 rfl (lv_at hl 0 rfl) ?_
      refine lv_iload_n hx hb dX2_unhook_13 rfl (lv_at hl 2 rfl) ?_
      obtain ⟨v2, S3, h4, h⟩ := bd_some h
      refine u_callV (n := 1) C w hw (hP _ _ (isn_f rfl rfl hr0)) rfl rfl rfl (c_X2_known l D K b0 sa _ L _ ad P hP S hw hn r0 hr0 a3 v2 S3 h4) gw_434 gw_439 gw_432 gw_433 gw_3 ⟨by decide, by decide, by decide +kernel⟩ rfl rfl ⟨by decide, by decide⟩ rfl hl.1 rfl (Nat.le_of_ble_eq_true rfl) dX2_unhook_14 ⟨Nat.le_of_ble_eq_true rfl, Nat.le_of_ble_eq_true rfl⟩ (fun v9 u H locs hp w => ?_)
      obtain ⟨f2, rfl, rfl, hw, hn, hk1⟩ := hp
      have hk := hk.tr hk1
      generalize f2 = f at w hw hk
      refine lv_if_eq (tgt := 56) hx hb dX2_unhook_17 (by decide) (fun c5 => ?_) (fun c5 => ?_)
      · have h := bb_t h c5
        exact t_vret C hr hlk w ⟨_, rfl, rfl, so_w h hw, so_n h hn, hk⟩ (by decide) (by decide) dX2_unhook_56
      · have h := bb_f h c5
        refine lv_aload_n hx hb dX2_unhook_20 rfl (lv_at hl 0 rfl) ?_
        refine u_getr C w hw (hP _ _ (isn_f rfl rfl hr0)) rfl (N := 9) rfl rfl cin_2 7 (by decide) (by decide) (a2 := 9) (i2 := r0) rfl gw_62 dX2_unhook_21 ?_
        refine lv_iload_n hx hb dX2_unhook_24 rfl (lv_at hl 2 rfl) ?_
        obtain ⟨g6, h⟩ := gd_some h
        refine u_iald C w hw (hP _ _ (isn_f rfl rfl hr0)) rfl rfl (n := 24) rfl (vp_in_iff.mpr g6) dX2_unhook_25 ?_
        refine u_iv h (fun x7 h => ?_)
        refine lv_iload_n hx hb dX2_unhook_26 rfl (lv_at hl 1 rfl) ?_
        refine lv_icmp_ne (tgt := 43) hx hb dX2_unhook_27 (by decide) (fun c8 => ?_) (fun c8 => ?_)
        · have h := bb_f h c8
          refine lv_aload_n hx hb dX2_unhook_43 rfl (lv_at hl 0 rfl) ?_
          refine u_getr C w hw (hP _ _ (isn_f rfl rfl hr0)) rfl (N := 9) rfl rfl cin_2 7 (by decide) (by decide) (a2 := 9) (i2 := r0) rfl gw_62 dX2_unhook_44 ?_
          refine lv_iload_n hx hb dX2_unhook_47 rfl (lv_at hl 2 rfl) ?_
          obtain ⟨g9, h⟩ := gd_some h
          refine u_iald C w hw (hP _ _ (isn_f rfl rfl hr0)) rfl rfl (n := 24) rfl (vp_in_iff.mpr g9) dX2_unhook_48 ?_
          refine u_iv h (fun x10 h => ?_)
          refine lv_istore_n (lv' := [(3, .int x10), (0, .ref (ad 2 r0)), (1, .int a1), (4, .int a4)]) hx hb dX2_unhook_49 rfl hl (by decide) rfl (fun ls hl => ?_)
          obtain ⟨x11, ex11, h⟩ := iv_some h
          refine lv_iinc (v := x11) (lv' := [(4, .int x11), (3, .int x10), (0, .ref (ad 2 r0)), (1, .int a1)]) hx hb dX2_unhook_50 hl (k := 3) rfl ex11.symm (by decide) rfl (fun ls hl => ?_)
          refine lv_goto (tgt := 5) hx hb dX2_unhook_53 (by decide) ?_
          exact hk5 a1 x10 x11 S3 h f H locs w hw hn hk ls (lv_sub hl [2, 3, 1, 0] rfl)
        · have h := bb_t h c8
          refine lv_aload_n hx hb dX2_unhook_30 rfl (lv_at hl 0 rfl) ?_
          refine u_getr C w hw (hP _ _ (isn_f rfl rfl hr0)) rfl (N := 9) rfl rfl cin_2 7 (by decide) (by decide) (a2 := 9) (i2 := r0) rfl gw_62 dX2_unhook_31 ?_
          refine lv_iload_n hx hb dX2_unhook_34 rfl (lv_at hl 2 rfl) ?_
          refine lv_aload_n hx hb dX2_unhook_35 rfl (lv_at hl 0 rfl) ?_
          refine u_getr C w hw (hP _ _ (isn_f rfl rfl hr0)) rfl (N := 9) rfl rfl cin_2 7 (by decide) (by decide) (a2 := 9) (i2 := r0) rfl gw_62 dX2_unhook_36 ?_
          refine lv_iload_n hx hb dX2_unhook_39 rfl (lv_at hl 1 rfl) ?_
          obtain ⟨g12, h⟩ := gd_some h
          refine u_iald C w hw (hP _ _ (isn_f rfl rfl hr0)) rfl rfl (n := 24) rfl (vp_in_iff.mpr g12) dX2_unhook_40 ?_
          refine u_iv h (fun x13 h => ?_)
          obtain ⟨g14, h⟩ := gd_some h
          refine u_iast C w hw (hP _ _ (isn_f rfl rfl hr0)) rfl rfl (n := 24) rfl (vp_in_iff.mpr g14) dX2_unhook_41 (fun f H locs w hw hk1 => ?_)
          have hk := hk.tr hk1
          refine u_sv h hw hn (fun S15 h hw hn => ?_)
          exact t_vret C hr hlk w ⟨_, rfl, rfl, so_w h hw, so_n h hn, hk⟩ (by decide) (by decide) dX2_unhook_42
  dsimp only [F_X2_unhook] at h
  obtain ⟨f, ef⟩ : ∃ z, z = f0 := ⟨_, rfl⟩
  rw [← ef] at w hw
  have hk : Kp ad P L f0 f := by rw [ef]; exact Kp.rf
  obtain ⟨H, eH⟩ : ∃ z, z = s.heap := ⟨_, rfl⟩
  obtain ⟨locs, el⟩ : ∃ z : List Loc, z = [] := ⟨_, rfl⟩
  rw [← eH, ← el] at w ⊢
  refine lv_iload_n hx hb dX2_unhook_0 rfl (lv_at hl 2 rfl) ?_
  refine lv_istore_n (lv' := [(3, .int p2), (0, .ref (ad 2 r0)), (1, .int p1), (2, .int p2)]) hx hb dX2_unhook_1 rfl hl (by decide) rfl (fun ls hl => ?_)
  refine lv_iconst (v := 0) hx hb dX2_unhook_2 (by decide) ?_
  refine lv_istore (lv' := [(4, .int 0), (3, .int p2), (0, .ref (ad 2 r0)), (1, .int p1), (2, .int p2)]) hx hb dX2_unhook_3 hl (by decide) rfl (fun ls hl => ?_)
  exact J5  fuel p1 p2 0 S0 h f H locs w hw hn hk ls (lv_sub hl [2, 3, 1, 0] rfl)
theorem dX2_takeOut_0 : decode cX2_takeOut 0 = .ok (.aload_n 0, 1) := by decide +kernel
theorem dX2_takeOut_1 : decode cX2_takeOut 1 = .ok (.iload_n 1, 1) := by decide +kernel
theorem dX2_takeOut_2 : decode cX2_takeOut 2 = .ok (.invokevirtual 50, 3) := by decide +kernel
theorem dX2_takeOut_5 : decode cX2_takeOut 5 = .ok (.ifCond .eq 18, 3) := by decide +kernel
theorem dX2_takeOut_8 : decode cX2_takeOut 8 = .ok (.aload_n 0, 1) := by decide +kernel
theorem dX2_takeOut_9 : decode cX2_takeOut 9 = .ok (.getfield 31, 3) := by decide +kernel
theorem dX2_takeOut_12 : decode cX2_takeOut 12 = .ok (.iload_n 1, 1) := by decide +kernel
theorem dX2_takeOut_13 : decode cX2_takeOut 13 = .ok (.iaload, 1) := by decide +kernel
theorem dX2_takeOut_14 : decode cX2_takeOut 14 = .ok (.iconst 0, 1) := by decide +kernel
theorem dX2_takeOut_15 : decode cX2_takeOut 15 = .ok (.bipush 63, 2) := by decide +kernel
theorem dX2_takeOut_17 : decode cX2_takeOut 17 = .ok (.invokestatic 54, 3) := by decide +kernel
theorem dX2_takeOut_20 : decode cX2_takeOut 20 = .ok (.ifCond .ne 4, 3) := by decide +kernel
theorem dX2_takeOut_23 : decode cX2_takeOut 23 = .ok (.return_, 1) := by decide +kernel
theorem dX2_takeOut_24 : decode cX2_takeOut 24 = .ok (.aload_n 0, 1) := by decide +kernel
theorem dX2_takeOut_25 : decode cX2_takeOut 25 = .ok (.getfield 31, 3) := by decide +kernel
theorem dX2_takeOut_28 : decode cX2_takeOut 28 = .ok (.iload_n 1, 1) := by decide +kernel
theorem dX2_takeOut_29 : decode cX2_takeOut 29 = .ok (.iaload, 1) := by decide +kernel
theorem dX2_takeOut_30 : decode cX2_takeOut 30 = .ok (.istore_n 3, 1) := by decide +kernel
theorem dX2_takeOut_31 : decode cX2_takeOut 31 = .ok (.aload_n 0, 1) := by decide +kernel
theorem dX2_takeOut_32 : decode cX2_takeOut 32 = .ok (.getfield 37, 3) := by decide +kernel
theorem dX2_takeOut_35 : decode cX2_takeOut 35 = .ok (.iload_n 3, 1) := by decide +kernel
theorem dX2_takeOut_36 : decode cX2_takeOut 36 = .ok (.iaload, 1) := by decide +kernel
theorem dX2_takeOut_37 : decode cX2_takeOut 37 = .ok (.iload_n 1, 1) := by decide +kernel
theorem dX2_takeOut_38 : decode cX2_takeOut 38 = .ok (.if_icmp .ne 18, 3) := by decide +kernel
theorem dX2_takeOut_41 : decode cX2_takeOut 41 = .ok (.aload_n 0, 1) := by decide +kernel
theorem dX2_takeOut_42 : decode cX2_takeOut 42 = .ok (.getfield 37, 3) := by decide +kernel
theorem dX2_takeOut_45 : decode cX2_takeOut 45 = .ok (.iload_n 3, 1) := by decide +kernel
theorem dX2_takeOut_46 : decode cX2_takeOut 46 = .ok (.aload_n 0, 1) := by decide +kernel
theorem dX2_takeOut_47 : decode cX2_takeOut 47 = .ok (.getfield 34, 3) := by decide +kernel
theorem dX2_takeOut_50 : decode cX2_takeOut 50 = .ok (.iload_n 1, 1) := by decide +kernel
theorem dX2_takeOut_51 : decode cX2_takeOut 51 = .ok (.iaload, 1) := by decide +kernel
theorem dX2_takeOut_52 : decode cX2_takeOut 52 = .ok (.iastore, 1) := by decide +kernel
theorem dX2_takeOut_53 : decode cX2_takeOut 53 = .ok (.goto 14, 3) := by decide +kernel
theorem dX2_takeOut_56 : decode cX2_takeOut 56 = .ok (.aload_n 0, 1) := by decide +kernel
theorem dX2_takeOut_57 : decode cX2_takeOut 57 = .ok (.iload_n 1, 1) := by decide +kernel
theorem dX2_takeOut_58 : decode cX2_takeOut 58 = .ok (.aload_n 0, 1) := by decide +kernel
theorem dX2_takeOut_59 : decode cX2_takeOut 59 = .ok (.getfield 37, 3) := by decide +kernel
theorem dX2_takeOut_62 : decode cX2_takeOut 62 = .ok (.iload_n 3, 1) := by decide +kernel
theorem dX2_takeOut_63 : decode cX2_takeOut 63 = .ok (.iaload, 1) := by decide +kernel
theorem dX2_takeOut_64 : decode cX2_takeOut 64 = .ok (.invokevirtual 58, 3) := by decide +kernel
theorem dX2_takeOut_67 : decode cX2_takeOut 67 = .ok (.aload_n 0, 1) := by decide +kernel
theorem dX2_takeOut_68 : decode cX2_takeOut 68 = .ok (.getfield 31, 3) := by decide +kernel
theorem dX2_takeOut_71 : decode cX2_takeOut 71 = .ok (.iload_n 1, 1) := by decide +kernel
theorem dX2_takeOut_72 : decode cX2_takeOut 72 = .ok (.iload_n 2, 1) := by decide +kernel
theorem dX2_takeOut_73 : decode cX2_takeOut 73 = .ok (.iastore, 1) := by decide +kernel
theorem dX2_takeOut_74 : decode cX2_takeOut 74 = .ok (.aload_n 0, 1) := by decide +kernel
theorem dX2_takeOut_75 : decode cX2_takeOut 75 = .ok (.getfield 34, 3) := by decide +kernel
theorem dX2_takeOut_78 : decode cX2_takeOut 78 = .ok (.iload_n 1, 1) := by decide +kernel
theorem dX2_takeOut_79 : decode cX2_takeOut 79 = .ok (.iconst (-1), 1) := by decide +kernel
theorem dX2_takeOut_80 : decode cX2_takeOut 80 = .ok (.iastore, 1) := by decide +kernel
theorem dX2_takeOut_81 : decode cX2_takeOut 81 = .ok (.return_, 1) := by decide +kernel
noncomputable def B_X2_takeOut_67 (r0 : Nat) (a1 : Int32) (a2 : Int32) (S : fS) : Option (Int32 × fS) := gd (ib a1 24) (sv (pu S 8 r0 (a1 : Int32).toNatClampNeg a2) (fun S2 => gd (ib a1 24) (sv (pu S2 9 r0 (a1 : Int32).toNatClampNeg (-1)) (fun S4 => some (0, S4)))))
noncomputable def F_X2_takeOut (r0 : Nat) (p1 : Int32) (p2 : Int32) (S0 : fS) : Option (Int32 × fS) := bd (F_X2_known r0 p1 S0) (fun v5 S6 => bb (v5 = (0 : Int32)) (some (0, S6)) (gd (ib p1 24) (iv (ge S6 8 r0 (p1 : Int32).toNatClampNeg) (fun x10 => bd (F_X6_within x10 0 63 S6) (fun v11 S12 => bb (v11 = (0 : Int32)) (some (0, S12)) (gd (ib p1 24) (iv (ge S12 8 r0 (p1 : Int32).toNatClampNeg) (fun x16 => gd (ib x16 64) (iv (ge S12 10 r0 (x16 : Int32).toNatClampNeg) (fun x18 => bb (x18 = p1) (gd (ib p1 24) (iv (ge S12 9 r0 (p1 : Int32).toNatClampNeg) (fun x26 => gd (ib x16 64) (sv (pu S12 10 r0 (x16 : Int32).toNatClampNeg x26) (fun S28 => B_X2_takeOut_67 r0  p1 p2 S28))))) (gd (ib x16 64) (iv (ge S12 10 r0 (x16 : Int32).toNatClampNeg) (fun x21 => bd (F_X2_unhook r0 p1 x21 S12) (fun v22 S23 => B_X2_takeOut_67 r0  p1 p2 S23))))))))))))))
set_option maxHeartbeats 4000000 in
set_option maxRecDepth 100000 in
theorem c_X2_takeOut (l : Launch) (D : va_G) (K : Nat → ClassId) (b0 : Nat) (sa : sT) (sz : Nat) (L : List Nat) (f0 : Nat → va_E) (ad : Nat → Nat → Nat) (P : Nat → Nat → Prop) {n : Nat × Nat} (hP : ∀ a i : Nat, isn n a i → P a i) (S0 : fS) (hw : PW K ad P S0 L f0) (hn : S0.2.2.1 = n) (r0 : Nat) (hr0 : r0 < 5) (p1 : Int32) (p2 : Int32) (v : Int32) (S1 : fS) (h : F_X2_takeOut r0 p1 p2 S0 = some (v, S1)) : Met l yX2_takeOut (.code yX2_takeOut cX2_takeOut 4 none :: gt) { frames := 2, cells := 0, slots := 0, locals := 45 } (va_Pc [.ref (ad 2 r0), .int p1, .int p2] (hPre D K b0 sa sz L f0)) (hQ D K b0 (fun v9 u9 => ∃ f2 : Nat → va_E, v9 = none ∧ u9 = lU L f2 ∧ PW K ad P S1 L f2 ∧ S1.2.2.1 = n ∧ Kp ad P L f0 f2)) 0 0 (fun q => b0 ≤ q) := by
  refine t_of (own := RX2) (by decide) rfl ?_ (Nat.le_of_ble_eq_true rfl)
  intro p e s m below meth c ls C w hsz hr hlk hnm hl
  have hx := C.1
  have hb := C.2.1
  have hl : lv_has ls 4 [(0, .ref (ad 2 r0)), (1, .int p1), (2, .int p2)] := hl
  have J67 : ∀ (a1 : Int32) (a2 : Int32) (S : fS), B_X2_takeOut_67 r0  a1 a2 S = some (v, S1) → Gw D K b0 sa ad P n L f0 p l e { frames := 2, cells := 0, slots := 0, locals := 45 } s m [.ref (ad 2 r0), .int p1, .int p2].toArray below meth c 4 (MQ below (hQ D K b0 (fun v9 u9 => ∃ f2 : Nat → va_E, v9 = none ∧ u9 = lU L f2 ∧ PW K ad P S1 L f2 ∧ S1.2.2.1 = n ∧ Kp ad P L f0 f2)) [.ref (ad 2 r0), .int p1, .int p2].toArray s 0 0 (fun q => b0 ≤ q)) 0 0 67 [(0, .ref (ad 2 r0)), (1, .int a1), (2, .int a2)] [] S := by
    intro a1 a2 S h
    dsimp only [B_X2_takeOut_67] at h
    intro f H locs w hw hn hk ls hl
    refine lv_aload_n hx hb dX2_takeOut_67 rfl (lv_at hl 0 rfl) ?_
    refine u_getr C w hw (hP _ _ (isn_f rfl rfl hr0)) rfl (N := 9) rfl rfl cin_2 6 (by decide) (by decide) (a2 := 8) (i2 := r0) rfl gw_60 dX2_takeOut_68 ?_
    refine lv_iload_n hx hb dX2_takeOut_71 rfl (lv_at hl 1 rfl) ?_
    refine lv_iload_n hx hb dX2_takeOut_72 rfl (lv_at hl 2 rfl) ?_
    obtain ⟨g1, h⟩ := gd_some h
    refine u_iast C w hw (hP _ _ (isn_f rfl rfl hr0)) rfl rfl (n := 24) rfl (vp_in_iff.mpr g1) dX2_takeOut_73 (fun f H locs w hw hk1 => ?_)
    have hk := hk.tr hk1
    refine u_sv h hw hn (fun S2 h hw hn => ?_)
    refine lv_aload_n hx hb dX2_takeOut_74 rfl (lv_at hl 0 rfl) ?_
    refine u_getr C w hw (hP _ _ (isn_f rfl rfl hr0)) rfl (N := 9) rfl rfl cin_2 7 (by decide) (by decide) (a2 := 9) (i2 := r0) rfl gw_62 dX2_takeOut_75 ?_
    refine lv_iload_n hx hb dX2_takeOut_78 rfl (lv_at hl 1 rfl) ?_
    refine lv_iconst (v := (-1)) hx hb dX2_takeOut_79 (by decide) ?_
    obtain ⟨g3, h⟩ := gd_some h
    refine u_iast C w hw (hP _ _ (isn_f rfl rfl hr0)) rfl rfl (n := 24) rfl (vp_in_iff.mpr g3) dX2_takeOut_80 (fun f H locs w hw hk1 => ?_)
    have hk := hk.tr hk1
    refine u_sv h hw hn (fun S4 h hw hn => ?_)
    exact t_vret C hr hlk w ⟨_, rfl, rfl, so_w h hw, so_n h hn, hk⟩ (by decide) (by decide) dX2_takeOut_81
  dsimp only [F_X2_takeOut] at h
  obtain ⟨f, ef⟩ : ∃ z, z = f0 := ⟨_, rfl⟩
  rw [← ef] at w hw
  have hk : Kp ad P L f0 f := by rw [ef]; exact Kp.rf
  obtain ⟨H, eH⟩ : ∃ z, z = s.heap := ⟨_, rfl⟩
  obtain ⟨locs, el⟩ : ∃ z : List Loc, z = [] := ⟨_, rfl⟩
  rw [← eH, ← el] at w ⊢
  refine lv_aload_n hx hb dX2_takeOut_0 rfl (lv_at hl 0 rfl) ?_
  refine lv_iload_n hx hb dX2_takeOut_1 rfl (lv_at hl 1 rfl) ?_
  obtain ⟨v5, S6, h7, h⟩ := bd_some h
  refine u_callV (n := 1) C w hw (hP _ _ (isn_f rfl rfl hr0)) rfl rfl rfl (c_X2_known l D K b0 sa _ L _ ad P hP S0 hw hn r0 hr0 p1 v5 S6 h7) gw_434 gw_439 gw_432 gw_433 gw_3 ⟨by decide, by decide, by decide +kernel⟩ rfl rfl ⟨by decide, by decide⟩ rfl hl.1 rfl (Nat.le_of_ble_eq_true rfl) dX2_takeOut_2 ⟨Nat.le_of_ble_eq_true rfl, Nat.le_of_ble_eq_true rfl⟩ (fun v9 u H locs hp w => ?_)
  obtain ⟨f2, rfl, rfl, hw, hn, hk1⟩ := hp
  have hk := hk.tr hk1
  generalize f2 = f at w hw hk
  refine lv_if_eq (tgt := 23) hx hb dX2_takeOut_5 (by decide) (fun c8 => ?_) (fun c8 => ?_)
  · have h := bb_t h c8
    exact t_vret C hr hlk w ⟨_, rfl, rfl, so_w h hw, so_n h hn, hk⟩ (by decide) (by decide) dX2_takeOut_23
  · have h := bb_f h c8
    refine lv_aload_n hx hb dX2_takeOut_8 rfl (lv_at hl 0 rfl) ?_
    refine u_getr C w hw (hP _ _ (isn_f rfl rfl hr0)) rfl (N := 9) rfl rfl cin_2 6 (by decide) (by decide) (a2 := 8) (i2 := r0) rfl gw_60 dX2_takeOut_9 ?_
    refine lv_iload_n hx hb dX2_takeOut_12 rfl (lv_at hl 1 rfl) ?_
    obtain ⟨g9, h⟩ := gd_some h
    refine u_iald C w hw (hP _ _ (isn_f rfl rfl hr0)) rfl rfl (n := 24) rfl (vp_in_iff.mpr g9) dX2_takeOut_13 ?_
    refine u_iv h (fun x10 h => ?_)
    refine lv_iconst (v := 0) hx hb dX2_takeOut_14 (by decide) ?_
    refine lv_bipush (v := 63) hx hb dX2_takeOut_15 (by decide) ?_
    obtain ⟨v11, S12, h13, h⟩ := bd_some h
    refine t_callSN (host := RX6) (n := 3) C w (c_X6_within l D K b0 sa _ L _ ad P hP S6 hw hn x10 0 63 v11 S12 h13) gw_376 (List.mem_of_getElem? (i := 6) rfl) gw_375 gw_1 ⟨by decide, by decide, by decide +kernel⟩ rfl rfl ⟨by decide, by decide⟩ rfl hl.1 rfl (Nat.le_of_ble_eq_true rfl) dX2_takeOut_17 ⟨Nat.le_of_ble_eq_true rfl, Nat.le_of_ble_eq_true rfl⟩ (fun v9 u H locs hp w => ?_)
    obtain ⟨f2, rfl, rfl, hw, hn, hk1⟩ := hp
    have hk := hk.tr hk1
    generalize f2 = f at w hw hk
    refine lv_if_ne (tgt := 24) hx hb dX2_takeOut_20 (by decide) (fun c14 => ?_) (fun c14 => ?_)
    · have h := bb_f h c14
      refine lv_aload_n hx hb dX2_takeOut_24 rfl (lv_at hl 0 rfl) ?_
      refine u_getr C w hw (hP _ _ (isn_f rfl rfl hr0)) rfl (N := 9) rfl rfl cin_2 6 (by decide) (by decide) (a2 := 8) (i2 := r0) rfl gw_60 dX2_takeOut_25 ?_
      refine lv_iload_n hx hb dX2_takeOut_28 rfl (lv_at hl 1 rfl) ?_
      obtain ⟨g15, h⟩ := gd_some h
      refine u_iald C w hw (hP _ _ (isn_f rfl rfl hr0)) rfl rfl (n := 24) rfl (vp_in_iff.mpr g15) dX2_takeOut_29 ?_
      refine u_iv h (fun x16 h => ?_)
      refine lv_istore_n (lv' := [(3, .int x16), (0, .ref (ad 2 r0)), (1, .int p1), (2, .int p2)]) hx hb dX2_takeOut_30 rfl hl (by decide) rfl (fun ls hl => ?_)
      refine lv_aload_n hx hb dX2_takeOut_31 rfl (lv_at hl 1 rfl) ?_
      refine u_getr C w hw (hP _ _ (isn_f rfl rfl hr0)) rfl (N := 9) rfl rfl cin_2 8 (by decide) (by decide) (a2 := 10) (i2 := r0) rfl gw_63 dX2_takeOut_32 ?_
      refine lv_iload_n hx hb dX2_takeOut_35 rfl (lv_at hl 0 rfl) ?_
      obtain ⟨g17, h⟩ := gd_some h
      refine u_iald C w hw (hP _ _ (isn_f rfl rfl hr0)) rfl rfl (n := 64) rfl (vp_in_iff.mpr g17) dX2_takeOut_36 ?_
      refine u_iv h (fun x18 h => ?_)
      refine lv_iload_n hx hb dX2_takeOut_37 rfl (lv_at hl 2 rfl) ?_
      refine lv_icmp_ne (tgt := 56) hx hb dX2_takeOut_38 (by decide) (fun c19 => ?_) (fun c19 => ?_)
      · have h := bb_f h c19
        refine lv_aload_n hx hb dX2_takeOut_56 rfl (lv_at hl 1 rfl) ?_
        refine lv_iload_n hx hb dX2_takeOut_57 rfl (lv_at hl 2 rfl) ?_
        refine lv_aload_n hx hb dX2_takeOut_58 rfl (lv_at hl 1 rfl) ?_
        refine u_getr C w hw (hP _ _ (isn_f rfl rfl hr0)) rfl (N := 9) rfl rfl cin_2 8 (by decide) (by decide) (a2 := 10) (i2 := r0) rfl gw_63 dX2_takeOut_59 ?_
        refine lv_iload_n hx hb dX2_takeOut_62 rfl (lv_at hl 0 rfl) ?_
        obtain ⟨g20, h⟩ := gd_some h
        refine u_iald C w hw (hP _ _ (isn_f rfl rfl hr0)) rfl rfl (n := 64) rfl (vp_in_iff.mpr g20) dX2_takeOut_63 ?_
        refine u_iv h (fun x21 h => ?_)
        obtain ⟨v22, S23, h24, h⟩ := bd_some h
        refine u_callV (n := 2) C w hw (hP _ _ (isn_f rfl rfl hr0)) rfl rfl rfl (c_X2_unhook l D K b0 sa _ L _ ad P hP S12 hw hn r0 hr0 p1 x21 v22 S23 h24) gw_687 gw_684 gw_685 gw_686 gw_3 ⟨by decide, by decide, by decide +kernel⟩ rfl rfl ⟨by decide, by decide⟩ rfl hl.1 rfl (Nat.le_of_ble_eq_true rfl) dX2_takeOut_64 ⟨Nat.le_of_ble_eq_true rfl, Nat.le_of_ble_eq_true rfl⟩ (fun v9 u H locs hp w => ?_)
        obtain ⟨f2, rfl, rfl, hw, hn, hk1⟩ := hp
        have hk := hk.tr hk1
        generalize f2 = f at w hw hk
        exact J67  p1 p2 S23 h f H locs w hw hn hk ls (lv_sub hl [1, 2, 3] rfl)
      · have h := bb_t h c19
        refine lv_aload_n hx hb dX2_takeOut_41 rfl (lv_at hl 1 rfl) ?_
        refine u_getr C w hw (hP _ _ (isn_f rfl rfl hr0)) rfl (N := 9) rfl rfl cin_2 8 (by decide) (by decide) (a2 := 10) (i2 := r0) rfl gw_63 dX2_takeOut_42 ?_
        refine lv_iload_n hx hb dX2_takeOut_45 rfl (lv_at hl 0 rfl) ?_
        refine lv_aload_n hx hb dX2_takeOut_46 rfl (lv_at hl 1 rfl) ?_
        refine u_getr C w hw (hP _ _ (isn_f rfl rfl hr0)) rfl (N := 9) rfl rfl cin_2 7 (by decide) (by decide) (a2 := 9) (i2 := r0) rfl gw_62 dX2_takeOut_47 ?_
        refine lv_iload_n hx hb dX2_takeOut_50 rfl (lv_at hl 2 rfl) ?_
        obtain ⟨g25, h⟩ := gd_some h
        refine u_iald C w hw (hP _ _ (isn_f rfl rfl hr0)) rfl rfl (n := 24) rfl (vp_in_iff.mpr g25) dX2_takeOut_51 ?_
        refine u_iv h (fun x26 h => ?_)
        obtain ⟨g27, h⟩ := gd_some h
        refine u_iast C w hw (hP _ _ (isn_f rfl rfl hr0)) rfl rfl (n := 64) rfl (vp_in_iff.mpr g27) dX2_takeOut_52 (fun f H locs w hw hk1 => ?_)
        have hk := hk.tr hk1
        refine u_sv h hw hn (fun S28 h hw hn => ?_)
        refine lv_goto (tgt := 67) hx hb dX2_takeOut_53 (by decide) ?_
        exact J67  p1 p2 S28 h f H locs w hw hn hk ls (lv_sub hl [1, 2, 3] rfl)
    · have h := bb_t h c14
      exact t_vret C hr hlk w ⟨_, rfl, rfl, so_w h hw, so_n h hn, hk⟩ (by decide) (by decide) dX2_takeOut_23
theorem dX2_valueOf_0 : decode cX2_valueOf 0 = .ok (.aload_n 0, 1) := by decide +kernel
theorem dX2_valueOf_1 : decode cX2_valueOf 1 = .ok (.iload_n 1, 1) := by decide +kernel
theorem dX2_valueOf_2 : decode cX2_valueOf 2 = .ok (.invokevirtual 50, 3) := by decide +kernel
theorem dX2_valueOf_5 : decode cX2_valueOf 5 = .ok (.ifCond .eq 12, 3) := by decide +kernel
theorem dX2_valueOf_8 : decode cX2_valueOf 8 = .ok (.aload_n 0, 1) := by decide +kernel
theorem dX2_valueOf_9 : decode cX2_valueOf 9 = .ok (.getfield 22, 3) := by decide +kernel
theorem dX2_valueOf_12 : decode cX2_valueOf 12 = .ok (.iload_n 1, 1) := by decide +kernel
theorem dX2_valueOf_13 : decode cX2_valueOf 13 = .ok (.iaload, 1) := by decide +kernel
theorem dX2_valueOf_14 : decode cX2_valueOf 14 = .ok (.goto 4, 3) := by decide +kernel
theorem dX2_valueOf_17 : decode cX2_valueOf 17 = .ok (.iconst 0, 1) := by decide +kernel
theorem dX2_valueOf_18 : decode cX2_valueOf 18 = .ok (.ireturn, 1) := by decide +kernel
noncomputable def F_X2_valueOf (r0 : Nat) (p1 : Int32) (S0 : fS) : Option (Int32 × fS) := bd (F_X2_known r0 p1 S0) (fun v1 S2 => bb (v1 = (0 : Int32)) (some (0, S2)) (gd (ib p1 24) (iv (ge S2 5 r0 (p1 : Int32).toNatClampNeg) (fun x6 => some (x6, S2)))))
set_option maxHeartbeats 4000000 in
set_option maxRecDepth 100000 in
theorem c_X2_valueOf (l : Launch) (D : va_G) (K : Nat → ClassId) (b0 : Nat) (sa : sT) (sz : Nat) (L : List Nat) (f0 : Nat → va_E) (ad : Nat → Nat → Nat) (P : Nat → Nat → Prop) {n : Nat × Nat} (hP : ∀ a i : Nat, isn n a i → P a i) (S0 : fS) (hw : PW K ad P S0 L f0) (hn : S0.2.2.1 = n) (r0 : Nat) (hr0 : r0 < 5) (p1 : Int32) (v : Int32) (S1 : fS) (h : F_X2_valueOf r0 p1 S0 = some (v, S1)) : Met l yX2_valueOf (.code yX2_valueOf cX2_valueOf 2 (some .int) :: gt) { frames := 1, cells := 0, slots := 0, locals := 21 } (va_Pc [.ref (ad 2 r0), .int p1] (hPre D K b0 sa sz L f0)) (hQ D K b0 (fun v9 u9 => ∃ f2 : Nat → va_E, v9 = some (.int v) ∧ u9 = lU L f2 ∧ PW K ad P S1 L f2 ∧ S1.2.2.1 = n ∧ Kp ad P L f0 f2)) 0 0 (fun q => b0 ≤ q) := by
  refine t_of (own := RX2) (by decide) rfl ?_ (Nat.le_of_ble_eq_true rfl)
  intro p e s m below meth c ls C w hsz hr hlk hnm hl
  have hx := C.1
  have hb := C.2.1
  have hl : lv_has ls 2 [(0, .ref (ad 2 r0)), (1, .int p1)] := hl
  dsimp only [F_X2_valueOf] at h
  obtain ⟨f, ef⟩ : ∃ z, z = f0 := ⟨_, rfl⟩
  rw [← ef] at w hw
  have hk : Kp ad P L f0 f := by rw [ef]; exact Kp.rf
  obtain ⟨H, eH⟩ : ∃ z, z = s.heap := ⟨_, rfl⟩
  obtain ⟨locs, el⟩ : ∃ z : List Loc, z = [] := ⟨_, rfl⟩
  rw [← eH, ← el] at w ⊢
  refine lv_aload_n hx hb dX2_valueOf_0 rfl (lv_at hl 0 rfl) ?_
  refine lv_iload_n hx hb dX2_valueOf_1 rfl (lv_at hl 1 rfl) ?_
  obtain ⟨v1, S2, h3, h⟩ := bd_some h
  refine u_callV (n := 1) C w hw (hP _ _ (isn_f rfl rfl hr0)) rfl rfl rfl (c_X2_known l D K b0 sa _ L _ ad P hP S0 hw hn r0 hr0 p1 v1 S2 h3) gw_434 gw_439 gw_432 gw_433 gw_3 ⟨by decide, by decide, by decide +kernel⟩ rfl rfl ⟨by decide, by decide⟩ rfl hl.1 rfl (Nat.le_of_ble_eq_true rfl) dX2_valueOf_2 ⟨Nat.le_of_ble_eq_true rfl, Nat.le_of_ble_eq_true rfl⟩ (fun v9 u H locs hp w => ?_)
  obtain ⟨f2, rfl, rfl, hw, hn, hk1⟩ := hp
  have hk := hk.tr hk1
  generalize f2 = f at w hw hk
  refine lv_if_eq (tgt := 17) hx hb dX2_valueOf_5 (by decide) (fun c4 => ?_) (fun c4 => ?_)
  · have h := bb_t h c4
    refine lv_iconst (v := 0) hx hb dX2_valueOf_17 (by decide) ?_
    exact t_iret C hr hlk w ⟨_, so_v h, rfl, so_w h hw, so_n h hn, hk⟩ (by decide) (by decide) dX2_valueOf_18
  · have h := bb_f h c4
    refine lv_aload_n hx hb dX2_valueOf_8 rfl (lv_at hl 0 rfl) ?_
    refine u_getr C w hw (hP _ _ (isn_f rfl rfl hr0)) rfl (N := 9) rfl rfl cin_2 3 (by decide) (by decide) (a2 := 5) (i2 := r0) rfl gw_54 dX2_valueOf_9 ?_
    refine lv_iload_n hx hb dX2_valueOf_12 rfl (lv_at hl 1 rfl) ?_
    obtain ⟨g5, h⟩ := gd_some h
    refine u_iald C w hw (hP _ _ (isn_f rfl rfl hr0)) rfl rfl (n := 24) rfl (vp_in_iff.mpr g5) dX2_valueOf_13 ?_
    refine u_iv h (fun x6 h => ?_)
    refine lv_goto (tgt := 18) hx hb dX2_valueOf_14 (by decide) ?_
    exact t_iret C hr hlk w ⟨_, so_v h, rfl, so_w h hw, so_n h hn, hk⟩ (by decide) (by decide) dX2_valueOf_18
theorem dX2_valueOfAll_0 : decode cX2_valueOfAll 0 = .ok (.iconst 0, 1) := by decide +kernel
theorem dX2_valueOfAll_1 : decode cX2_valueOfAll 1 = .ok (.istore_n 2, 1) := by decide +kernel
theorem dX2_valueOfAll_2 : decode cX2_valueOfAll 2 = .ok (.iconst 0, 1) := by decide +kernel
theorem dX2_valueOfAll_3 : decode cX2_valueOfAll 3 = .ok (.istore_n 3, 1) := by decide +kernel
theorem dX2_valueOfAll_4 : decode cX2_valueOfAll 4 = .ok (.iload_n 3, 1) := by decide +kernel
theorem dX2_valueOfAll_5 : decode cX2_valueOfAll 5 = .ok (.aload_n 1, 1) := by decide +kernel
theorem dX2_valueOfAll_6 : decode cX2_valueOfAll 6 = .ok (.getfield 61, 3) := by decide +kernel
theorem dX2_valueOfAll_9 : decode cX2_valueOfAll 9 = .ok (.if_icmp .ge 21, 3) := by decide +kernel
theorem dX2_valueOfAll_12 : decode cX2_valueOfAll 12 = .ok (.iload_n 2, 1) := by decide +kernel
theorem dX2_valueOfAll_13 : decode cX2_valueOfAll 13 = .ok (.aload_n 0, 1) := by decide +kernel
theorem dX2_valueOfAll_14 : decode cX2_valueOfAll 14 = .ok (.aload_n 1, 1) := by decide +kernel
theorem dX2_valueOfAll_15 : decode cX2_valueOfAll 15 = .ok (.iload_n 3, 1) := by decide +kernel
theorem dX2_valueOfAll_16 : decode cX2_valueOfAll 16 = .ok (.invokevirtual 66, 3) := by decide +kernel
theorem dX2_valueOfAll_19 : decode cX2_valueOfAll 19 = .ok (.invokevirtual 70, 3) := by decide +kernel
theorem dX2_valueOfAll_22 : decode cX2_valueOfAll 22 = .ok (.iadd, 1) := by decide +kernel
theorem dX2_valueOfAll_23 : decode cX2_valueOfAll 23 = .ok (.istore_n 2, 1) := by decide +kernel
theorem dX2_valueOfAll_24 : decode cX2_valueOfAll 24 = .ok (.iinc 3 1, 3) := by decide +kernel
theorem dX2_valueOfAll_27 : decode cX2_valueOfAll 27 = .ok (.goto (-23), 3) := by decide +kernel
theorem dX2_valueOfAll_30 : decode cX2_valueOfAll 30 = .ok (.iload_n 2, 1) := by decide +kernel
theorem dX2_valueOfAll_31 : decode cX2_valueOfAll 31 = .ok (.ireturn, 1) := by decide +kernel
noncomputable def B_X2_valueOfAll_4 (r0 : Nat) (r1 : Nat) (k4 : (Int32 × Int32) → fS → Option (Int32 × fS)) : (Int32 × Int32) → fS → Option (Int32 × fS) := fun ⟨a2, a3⟩ S => iv (ge S 25 r1 16) (fun x1 => bb (x1 ≤ a3) (some (a2, S)) (bd (F_X5_grippedAt r1 a3 S) (fun v3 S4 => bd (F_X2_valueOf r0 v3 S4) (fun v6 S7 => iv (a2 + v6) (fun x9 => iv (a3 + Int32.ofInt 1) (fun x10 => k4 (x9, x10) S7))))))
noncomputable def F_X2_valueOfAll (r0 : Nat) (r1 : Nat) (S0 : fS) : Option (Int32 × fS) := lp (B_X2_valueOfAll_4 r0 r1 ) fuel (0, 0) S0
set_option maxHeartbeats 4000000 in
set_option maxRecDepth 100000 in
theorem c_X2_valueOfAll (l : Launch) (D : va_G) (K : Nat → ClassId) (b0 : Nat) (sa : sT) (sz : Nat) (L : List Nat) (f0 : Nat → va_E) (ad : Nat → Nat → Nat) (P : Nat → Nat → Prop) {n : Nat × Nat} (hP : ∀ a i : Nat, isn n a i → P a i) (S0 : fS) (hw : PW K ad P S0 L f0) (hn : S0.2.2.1 = n) (r0 : Nat) (hr0 : r0 < 5) (r1 : Nat) (hr1 : r1 < n.1) (v : Int32) (S1 : fS) (h : F_X2_valueOfAll r0 r1 S0 = some (v, S1)) : Met l yX2_valueOfAll (.code yX2_valueOfAll cX2_valueOfAll 4 (some .int) :: gt) { frames := 2, cells := 0, slots := 0, locals := 42 } (va_Pc [.ref (ad 2 r0), .ref (ad 25 r1)] (hPre D K b0 sa sz L f0)) (hQ D K b0 (fun v9 u9 => ∃ f2 : Nat → va_E, v9 = some (.int v) ∧ u9 = lU L f2 ∧ PW K ad P S1 L f2 ∧ S1.2.2.1 = n ∧ Kp ad P L f0 f2)) 0 0 (fun q => b0 ≤ q) := by
  refine t_of (own := RX2) (by decide) rfl ?_ (Nat.le_of_ble_eq_true rfl)
  intro p e s m below meth c ls C w hsz hr hlk hnm hl
  have hx := C.1
  have hb := C.2.1
  have hl : lv_has ls 4 [(0, .ref (ad 2 r0)), (1, .ref (ad 25 r1))] := hl
  have J4 : ∀ (fu : Nat) (a2 : Int32) (a3 : Int32) (S : fS), lp (B_X2_valueOfAll_4 r0 r1 ) fu (a2, a3) S = some (v, S1) → Gw D K b0 sa ad P n L f0 p l e { frames := 2, cells := 0, slots := 0, locals := 42 } s m [.ref (ad 2 r0), .ref (ad 25 r1)].toArray below meth c 4 (MQ below (hQ D K b0 (fun v9 u9 => ∃ f2 : Nat → va_E, v9 = some (.int v) ∧ u9 = lU L f2 ∧ PW K ad P S1 L f2 ∧ S1.2.2.1 = n ∧ Kp ad P L f0 f2)) [.ref (ad 2 r0), .ref (ad 25 r1)].toArray s 0 0 (fun q => b0 ≤ q)) 0 0 4 [(0, .ref (ad 2 r0)), (1, .ref (ad 25 r1)), (2, .int a2), (3, .int a3)] [] S := by
    intro fu a2 a3 S h
    refine lp_some (G := (fun q S => Gw D K b0 sa ad P n L f0 p l e { frames := 2, cells := 0, slots := 0, locals := 42 } s m [.ref (ad 2 r0), .ref (ad 25 r1)].toArray below meth c 4 (MQ below (hQ D K b0 (fun v9 u9 => ∃ f2 : Nat → va_E, v9 = some (.int v) ∧ u9 = lU L f2 ∧ PW K ad P S1 L f2 ∧ S1.2.2.1 = n ∧ Kp ad P L f0 f2)) [.ref (ad 2 r0), .ref (ad 25 r1)].toArray s 0 0 (fun q => b0 ≤ q)) 0 0 4 [(0, .ref (ad 2 r0)), (1, .ref (ad 25 r1)), (2, .int q.1), (3, .int q.2)] [] S)) (fun k4 hk4 q S h => ?_) fu (a2, a3) S h
    obtain ⟨a2, a3⟩ := q
    have hk4 : ∀ (a2 : Int32) (a3 : Int32) (S : fS), k4 (a2, a3) S = some (v, S1) → Gw D K b0 sa ad P n L f0 p l e { frames := 2, cells := 0, slots := 0, locals := 42 } s m [.ref (ad 2 r0), .ref (ad 25 r1)].toArray below meth c 4 (MQ below (hQ D K b0 (fun v9 u9 => ∃ f2 : Nat → va_E, v9 = some (.int v) ∧ u9 = lU L f2 ∧ PW K ad P S1 L f2 ∧ S1.2.2.1 = n ∧ Kp ad P L f0 f2)) [.ref (ad 2 r0), .ref (ad 25 r1)].toArray s 0 0 (fun q => b0 ≤ q)) 0 0 4 [(0, .ref (ad 2 r0)), (1, .ref (ad 25 r1)), (2, .int a2), (3, .int a3)] [] S := fun a2 a3 S h => hk4 (a2, a3) S h
    dsimp only [B_X2_valueOfAll_4] at h
    intro f H locs w hw hn hk ls hl
    refine lv_iload_n hx hb dX2_valueOfAll_4 rfl (lv_at hl 3 rfl) ?_
    refine lv_aload_n hx hb dX2_valueOfAll_5 rfl (lv_at hl 1 rfl) ?_
    refine u_geti C w hw (hP _ _ (isn_t25 hr1)) rfl (N := 17) rfl rfl cin_5 16 (by decide) rfl gw_251 dX2_valueOfAll_6 ?_
    refine u_iv h (fun x1 h => ?_)
    refine lv_icmp_ge (tgt := 30) hx hb dX2_valueOfAll_9 (by decide) (fun c2 => ?_) (fun c2 => ?_)
    · have h := bb_t h c2
      refine lv_iload_n hx hb dX2_valueOfAll_30 rfl (lv_at hl 2 rfl) ?_
      exact t_iret C hr hlk w ⟨_, so_v h, rfl, so_w h hw, so_n h hn, hk⟩ (by decide) (by decide) dX2_valueOfAll_31
    · have h := bb_f h c2
      refine lv_iload_n hx hb dX2_valueOfAll_12 rfl (lv_at hl 2 rfl) ?_
      refine lv_aload_n hx hb dX2_valueOfAll_13 rfl (lv_at hl 0 rfl) ?_
      refine lv_aload_n hx hb dX2_valueOfAll_14 rfl (lv_at hl 1 rfl) ?_
      refine lv_iload_n hx hb dX2_valueOfAll_15 rfl (lv_at hl 3 rfl) ?_
      obtain ⟨v3, S4, h5, h⟩ := bd_some h
      refine u_callV (n := 1) C w hw (hP _ _ (isn_t25 hr1)) rfl rfl rfl (c_X5_grippedAt l D K b0 sa _ L _ ad P hP S hw hn r1 hr1 a3 v3 S4 h5) gw_964 gw_970 gw_962 gw_963 gw_7 ⟨by decide, by decide, by decide +kernel⟩ rfl rfl ⟨by decide, by decide⟩ rfl hl.1 rfl (Nat.le_of_ble_eq_true rfl) dX2_valueOfAll_16 ⟨Nat.le_of_ble_eq_true rfl, Nat.le_of_ble_eq_true rfl⟩ (fun v9 u H locs hp w => ?_)
      obtain ⟨f2, rfl, rfl, hw, hn, hk1⟩ := hp
      have hk := hk.tr hk1
      generalize f2 = f at w hw hk
      obtain ⟨v6, S7, h8, h⟩ := bd_some h
      refine u_callV (n := 1) C w hw (hP _ _ (isn_f rfl rfl hr0)) rfl rfl rfl (c_X2_valueOf l D K b0 sa _ L _ ad P hP S4 hw hn r0 hr0 v3 v6 S7 h8) gw_974 gw_971 gw_972 gw_973 gw_3 ⟨by decide, by decide, by decide +kernel⟩ rfl rfl ⟨by decide, by decide⟩ rfl hl.1 rfl (Nat.le_of_ble_eq_true rfl) dX2_valueOfAll_19 ⟨Nat.le_of_ble_eq_true rfl, Nat.le_of_ble_eq_true rfl⟩ (fun v9 u H locs hp w => ?_)
      obtain ⟨f2, rfl, rfl, hw, hn, hk1⟩ := hp
      have hk := hk.tr hk1
      generalize f2 = f at w hw hk
      refine lv_iadd hx hb dX2_valueOfAll_22 ?_
      refine u_iv h (fun x9 h => ?_)
      refine lv_istore_n (lv' := [(2, .int x9), (0, .ref (ad 2 r0)), (1, .ref (ad 25 r1)), (3, .int a3)]) hx hb dX2_valueOfAll_23 rfl hl (by decide) rfl (fun ls hl => ?_)
      obtain ⟨x10, ex10, h⟩ := iv_some h
      refine lv_iinc (v := x10) (lv' := [(3, .int x10), (2, .int x9), (0, .ref (ad 2 r0)), (1, .ref (ad 25 r1))]) hx hb dX2_valueOfAll_24 hl (k := 3) rfl ex10.symm (by decide) rfl (fun ls hl => ?_)
      refine lv_goto (tgt := 4) hx hb dX2_valueOfAll_27 (by decide) ?_
      exact hk4 x9 x10 S7 h f H locs w hw hn hk ls (lv_sub hl [2, 3, 1, 0] rfl)
  dsimp only [F_X2_valueOfAll] at h
  obtain ⟨f, ef⟩ : ∃ z, z = f0 := ⟨_, rfl⟩
  rw [← ef] at w hw
  have hk : Kp ad P L f0 f := by rw [ef]; exact Kp.rf
  obtain ⟨H, eH⟩ : ∃ z, z = s.heap := ⟨_, rfl⟩
  obtain ⟨locs, el⟩ : ∃ z : List Loc, z = [] := ⟨_, rfl⟩
  rw [← eH, ← el] at w ⊢
  refine lv_iconst (v := 0) hx hb dX2_valueOfAll_0 (by decide) ?_
  refine lv_istore_n (lv' := [(2, .int 0), (0, .ref (ad 2 r0)), (1, .ref (ad 25 r1))]) hx hb dX2_valueOfAll_1 rfl hl (by decide) rfl (fun ls hl => ?_)
  refine lv_iconst (v := 0) hx hb dX2_valueOfAll_2 (by decide) ?_
  refine lv_istore_n (lv' := [(3, .int 0), (2, .int 0), (0, .ref (ad 2 r0)), (1, .ref (ad 25 r1))]) hx hb dX2_valueOfAll_3 rfl hl (by decide) rfl (fun ls hl => ?_)
  exact J4  fuel 0 0 S0 h f H locs w hw hn hk ls (lv_sub hl [2, 3, 1, 0] rfl)
theorem dX2_put_0 : decode cX2_put 0 = .ok (.aload_n 0, 1) := by decide +kernel
theorem dX2_put_1 : decode cX2_put 1 = .ok (.iload_n 1, 1) := by decide +kernel
theorem dX2_put_2 : decode cX2_put 2 = .ok (.invokevirtual 50, 3) := by decide +kernel
theorem dX2_put_5 : decode cX2_put 5 = .ok (.ifCond .eq 39, 3) := by decide +kernel
theorem dX2_put_8 : decode cX2_put 8 = .ok (.iload_n 2, 1) := by decide +kernel
theorem dX2_put_9 : decode cX2_put 9 = .ok (.iconst 0, 1) := by decide +kernel
theorem dX2_put_10 : decode cX2_put 10 = .ok (.bipush 63, 2) := by decide +kernel
theorem dX2_put_12 : decode cX2_put 12 = .ok (.invokestatic 54, 3) := by decide +kernel
theorem dX2_put_15 : decode cX2_put 15 = .ok (.ifCond .eq 29, 3) := by decide +kernel
theorem dX2_put_18 : decode cX2_put 18 = .ok (.aload_n 0, 1) := by decide +kernel
theorem dX2_put_19 : decode cX2_put 19 = .ok (.getfield 31, 3) := by decide +kernel
theorem dX2_put_22 : decode cX2_put 22 = .ok (.iload_n 1, 1) := by decide +kernel
theorem dX2_put_23 : decode cX2_put 23 = .ok (.iload_n 2, 1) := by decide +kernel
theorem dX2_put_24 : decode cX2_put 24 = .ok (.iastore, 1) := by decide +kernel
theorem dX2_put_25 : decode cX2_put 25 = .ok (.aload_n 0, 1) := by decide +kernel
theorem dX2_put_26 : decode cX2_put 26 = .ok (.getfield 34, 3) := by decide +kernel
theorem dX2_put_29 : decode cX2_put 29 = .ok (.iload_n 1, 1) := by decide +kernel
theorem dX2_put_30 : decode cX2_put 30 = .ok (.aload_n 0, 1) := by decide +kernel
theorem dX2_put_31 : decode cX2_put 31 = .ok (.getfield 37, 3) := by decide +kernel
theorem dX2_put_34 : decode cX2_put 34 = .ok (.iload_n 2, 1) := by decide +kernel
theorem dX2_put_35 : decode cX2_put 35 = .ok (.iaload, 1) := by decide +kernel
theorem dX2_put_36 : decode cX2_put 36 = .ok (.iastore, 1) := by decide +kernel
theorem dX2_put_37 : decode cX2_put 37 = .ok (.aload_n 0, 1) := by decide +kernel
theorem dX2_put_38 : decode cX2_put 38 = .ok (.getfield 37, 3) := by decide +kernel
theorem dX2_put_41 : decode cX2_put 41 = .ok (.iload_n 2, 1) := by decide +kernel
theorem dX2_put_42 : decode cX2_put 42 = .ok (.iload_n 1, 1) := by decide +kernel
theorem dX2_put_43 : decode cX2_put 43 = .ok (.iastore, 1) := by decide +kernel
theorem dX2_put_44 : decode cX2_put 44 = .ok (.return_, 1) := by decide +kernel
noncomputable def F_X2_put (r0 : Nat) (p1 : Int32) (p2 : Int32) (S0 : fS) : Option (Int32 × fS) := bd (F_X2_known r0 p1 S0) (fun v1 S2 => bb (v1 = (0 : Int32)) (some (0, S2)) (bd (F_X6_within p2 0 63 S2) (fun v5 S6 => bb (v5 = (0 : Int32)) (some (0, S6)) (gd (ib p1 24) (sv (pu S6 8 r0 (p1 : Int32).toNatClampNeg p2) (fun S10 => gd (ib p2 64) (iv (ge S10 10 r0 (p2 : Int32).toNatClampNeg) (fun x12 => gd (ib p1 24) (sv (pu S10 9 r0 (p1 : Int32).toNatClampNeg x12) (fun S14 => gd (ib p2 64) (sv (pu S14 10 r0 (p2 : Int32).toNatClampNeg p1) (fun S16 => some (0, S16)))))))))))))
set_option maxHeartbeats 4000000 in
set_option maxRecDepth 100000 in
theorem c_X2_put (l : Launch) (D : va_G) (K : Nat → ClassId) (b0 : Nat) (sa : sT) (sz : Nat) (L : List Nat) (f0 : Nat → va_E) (ad : Nat → Nat → Nat) (P : Nat → Nat → Prop) {n : Nat × Nat} (hP : ∀ a i : Nat, isn n a i → P a i) (S0 : fS) (hw : PW K ad P S0 L f0) (hn : S0.2.2.1 = n) (r0 : Nat) (hr0 : r0 < 5) (p1 : Int32) (p2 : Int32) (v : Int32) (S1 : fS) (h : F_X2_put r0 p1 p2 S0 = some (v, S1)) : Met l yX2_put (.code yX2_put cX2_put 3 none :: gt) { frames := 1, cells := 0, slots := 0, locals := 22 } (va_Pc [.ref (ad 2 r0), .int p1, .int p2] (hPre D K b0 sa sz L f0)) (hQ D K b0 (fun v9 u9 => ∃ f2 : Nat → va_E, v9 = none ∧ u9 = lU L f2 ∧ PW K ad P S1 L f2 ∧ S1.2.2.1 = n ∧ Kp ad P L f0 f2)) 0 0 (fun q => b0 ≤ q) := by
  refine t_of (own := RX2) (by decide) rfl ?_ (Nat.le_of_ble_eq_true rfl)
  intro p e s m below meth c ls C w hsz hr hlk hnm hl
  have hx := C.1
  have hb := C.2.1
  have hl : lv_has ls 3 [(0, .ref (ad 2 r0)), (1, .int p1), (2, .int p2)] := hl
  dsimp only [F_X2_put] at h
  obtain ⟨f, ef⟩ : ∃ z, z = f0 := ⟨_, rfl⟩
  rw [← ef] at w hw
  have hk : Kp ad P L f0 f := by rw [ef]; exact Kp.rf
  obtain ⟨H, eH⟩ : ∃ z, z = s.heap := ⟨_, rfl⟩
  obtain ⟨locs, el⟩ : ∃ z : List Loc, z = [] := ⟨_, rfl⟩
  rw [← eH, ← el] at w ⊢
  refine lv_aload_n hx hb dX2_put_0 rfl (lv_at hl 0 rfl) ?_
  refine lv_iload_n hx hb dX2_put_1 rfl (lv_at hl 1 rfl) ?_
  obtain ⟨v1, S2, h3, h⟩ := bd_some h
  refine u_callV (n := 1) C w hw (hP _ _ (isn_f rfl rfl hr0)) rfl rfl rfl (c_X2_known l D K b0 sa _ L _ ad P hP S0 hw hn r0 hr0 p1 v1 S2 h3) gw_434 gw_439 gw_432 gw_433 gw_3 ⟨by decide, by decide, by decide +kernel⟩ rfl rfl ⟨by decide, by decide⟩ rfl hl.1 rfl (Nat.le_of_ble_eq_true rfl) dX2_put_2 ⟨Nat.le_of_ble_eq_true rfl, Nat.le_of_ble_eq_true rfl⟩ (fun v9 u H locs hp w => ?_)
  obtain ⟨f2, rfl, rfl, hw, hn, hk1⟩ := hp
  have hk := hk.tr hk1
  generalize f2 = f at w hw hk
  refine lv_if_eq (tgt := 44) hx hb dX2_put_5 (by decide) (fun c4 => ?_) (fun c4 => ?_)
  · have h := bb_t h c4
    exact t_vret C hr hlk w ⟨_, rfl, rfl, so_w h hw, so_n h hn, hk⟩ (by decide) (by decide) dX2_put_44
  · have h := bb_f h c4
    refine lv_iload_n hx hb dX2_put_8 rfl (lv_at hl 2 rfl) ?_
    refine lv_iconst (v := 0) hx hb dX2_put_9 (by decide) ?_
    refine lv_bipush (v := 63) hx hb dX2_put_10 (by decide) ?_
    obtain ⟨v5, S6, h7, h⟩ := bd_some h
    refine t_callSN (host := RX6) (n := 3) C w (c_X6_within l D K b0 sa _ L _ ad P hP S2 hw hn p2 0 63 v5 S6 h7) gw_376 (List.mem_of_getElem? (i := 6) rfl) gw_375 gw_1 ⟨by decide, by decide, by decide +kernel⟩ rfl rfl ⟨by decide, by decide⟩ rfl hl.1 rfl (Nat.le_of_ble_eq_true rfl) dX2_put_12 ⟨Nat.le_of_ble_eq_true rfl, Nat.le_of_ble_eq_true rfl⟩ (fun v9 u H locs hp w => ?_)
    obtain ⟨f2, rfl, rfl, hw, hn, hk1⟩ := hp
    have hk := hk.tr hk1
    generalize f2 = f at w hw hk
    refine lv_if_eq (tgt := 44) hx hb dX2_put_15 (by decide) (fun c8 => ?_) (fun c8 => ?_)
    · have h := bb_t h c8
      exact t_vret C hr hlk w ⟨_, rfl, rfl, so_w h hw, so_n h hn, hk⟩ (by decide) (by decide) dX2_put_44
    · have h := bb_f h c8
      refine lv_aload_n hx hb dX2_put_18 rfl (lv_at hl 0 rfl) ?_
      refine u_getr C w hw (hP _ _ (isn_f rfl rfl hr0)) rfl (N := 9) rfl rfl cin_2 6 (by decide) (by decide) (a2 := 8) (i2 := r0) rfl gw_60 dX2_put_19 ?_
      refine lv_iload_n hx hb dX2_put_22 rfl (lv_at hl 1 rfl) ?_
      refine lv_iload_n hx hb dX2_put_23 rfl (lv_at hl 2 rfl) ?_
      obtain ⟨g9, h⟩ := gd_some h
      refine u_iast C w hw (hP _ _ (isn_f rfl rfl hr0)) rfl rfl (n := 24) rfl (vp_in_iff.mpr g9) dX2_put_24 (fun f H locs w hw hk1 => ?_)
      have hk := hk.tr hk1
      refine u_sv h hw hn (fun S10 h hw hn => ?_)
      refine lv_aload_n hx hb dX2_put_25 rfl (lv_at hl 0 rfl) ?_
      refine u_getr C w hw (hP _ _ (isn_f rfl rfl hr0)) rfl (N := 9) rfl rfl cin_2 7 (by decide) (by decide) (a2 := 9) (i2 := r0) rfl gw_62 dX2_put_26 ?_
      refine lv_iload_n hx hb dX2_put_29 rfl (lv_at hl 1 rfl) ?_
      refine lv_aload_n hx hb dX2_put_30 rfl (lv_at hl 0 rfl) ?_
      refine u_getr C w hw (hP _ _ (isn_f rfl rfl hr0)) rfl (N := 9) rfl rfl cin_2 8 (by decide) (by decide) (a2 := 10) (i2 := r0) rfl gw_63 dX2_put_31 ?_
      refine lv_iload_n hx hb dX2_put_34 rfl (lv_at hl 2 rfl) ?_
      obtain ⟨g11, h⟩ := gd_some h
      refine u_iald C w hw (hP _ _ (isn_f rfl rfl hr0)) rfl rfl (n := 64) rfl (vp_in_iff.mpr g11) dX2_put_35 ?_
      refine u_iv h (fun x12 h => ?_)
      obtain ⟨g13, h⟩ := gd_some h
      refine u_iast C w hw (hP _ _ (isn_f rfl rfl hr0)) rfl rfl (n := 24) rfl (vp_in_iff.mpr g13) dX2_put_36 (fun f H locs w hw hk1 => ?_)
      have hk := hk.tr hk1
      refine u_sv h hw hn (fun S14 h hw hn => ?_)
      refine lv_aload_n hx hb dX2_put_37 rfl (lv_at hl 0 rfl) ?_
      refine u_getr C w hw (hP _ _ (isn_f rfl rfl hr0)) rfl (N := 9) rfl rfl cin_2 8 (by decide) (by decide) (a2 := 10) (i2 := r0) rfl gw_63 dX2_put_38 ?_
      refine lv_iload_n hx hb dX2_put_41 rfl (lv_at hl 2 rfl) ?_
      refine lv_iload_n hx hb dX2_put_42 rfl (lv_at hl 1 rfl) ?_
      obtain ⟨g15, h⟩ := gd_some h
      refine u_iast C w hw (hP _ _ (isn_f rfl rfl hr0)) rfl rfl (n := 64) rfl (vp_in_iff.mpr g15) dX2_put_43 (fun f H locs w hw hk1 => ?_)
      have hk := hk.tr hk1
      refine u_sv h hw hn (fun S16 h hw hn => ?_)
      exact t_vret C hr hlk w ⟨_, rfl, rfl, so_w h hw, so_n h hn, hk⟩ (by decide) (by decide) dX2_put_44
theorem dX0_move_0 : decode cX0_move 0 = .ok (.aload_n 0, 1) := by decide +kernel
theorem dX0_move_1 : decode cX0_move 1 = .ok (.dup, 1) := by decide +kernel
theorem dX0_move_2 : decode cX0_move 2 = .ok (.getfield 37, 3) := by decide +kernel
theorem dX0_move_5 : decode cX0_move 5 = .ok (.iconst 1, 1) := by decide +kernel
theorem dX0_move_6 : decode cX0_move 6 = .ok (.iadd, 1) := by decide +kernel
theorem dX0_move_7 : decode cX0_move 7 = .ok (.putfield 37, 3) := by decide +kernel
theorem dX0_move_10 : decode cX0_move 10 = .ok (.aload_n 0, 1) := by decide +kernel
theorem dX0_move_11 : decode cX0_move 11 = .ok (.aload_n 1, 1) := by decide +kernel
theorem dX0_move_12 : decode cX0_move 12 = .ok (.getfield 59, 3) := by decide +kernel
theorem dX0_move_15 : decode cX0_move 15 = .ok (.iconst 5, 1) := by decide +kernel
theorem dX0_move_16 : decode cX0_move 16 = .ok (.if_icmp .ne 7, 3) := by decide +kernel
theorem dX0_move_19 : decode cX0_move 19 = .ok (.iconst 0, 1) := by decide +kernel
theorem dX0_move_20 : decode cX0_move 20 = .ok (.goto 9, 3) := by decide +kernel
theorem dX0_move_23 : decode cX0_move 23 = .ok (.aload_n 0, 1) := by decide +kernel
theorem dX0_move_24 : decode cX0_move 24 = .ok (.getfield 40, 3) := by decide +kernel
theorem dX0_move_27 : decode cX0_move 27 = .ok (.iconst 1, 1) := by decide +kernel
theorem dX0_move_28 : decode cX0_move 28 = .ok (.iadd, 1) := by decide +kernel
theorem dX0_move_29 : decode cX0_move 29 = .ok (.putfield 40, 3) := by decide +kernel
theorem dX0_move_32 : decode cX0_move 32 = .ok (.aload_n 0, 1) := by decide +kernel
theorem dX0_move_33 : decode cX0_move 33 = .ok (.dup, 1) := by decide +kernel
theorem dX0_move_34 : decode cX0_move 34 = .ok (.getfield 43, 3) := by decide +kernel
theorem dX0_move_37 : decode cX0_move 37 = .ok (.aload_n 0, 1) := by decide +kernel
theorem dX0_move_38 : decode cX0_move 38 = .ok (.getfield 25, 3) := by decide +kernel
theorem dX0_move_41 : decode cX0_move 41 = .ok (.iadd, 1) := by decide +kernel
theorem dX0_move_42 : decode cX0_move 42 = .ok (.putfield 43, 3) := by decide +kernel
theorem dX0_move_45 : decode cX0_move 45 = .ok (.aload_n 1, 1) := by decide +kernel
theorem dX0_move_46 : decode cX0_move 46 = .ok (.getfield 59, 3) := by decide +kernel
theorem dX0_move_49 : decode cX0_move 49 = .ok (.iconst 5, 1) := by decide +kernel
theorem dX0_move_50 : decode cX0_move 50 = .ok (.if_icmp .eq 12, 3) := by decide +kernel
theorem dX0_move_53 : decode cX0_move 53 = .ok (.aload_n 1, 1) := by decide +kernel
theorem dX0_move_54 : decode cX0_move 54 = .ok (.getfield 59, 3) := by decide +kernel
theorem dX0_move_57 : decode cX0_move 57 = .ok (.iconst 3, 1) := by decide +kernel
theorem dX0_move_58 : decode cX0_move 58 = .ok (.if_icmp .eq 4, 3) := by decide +kernel
theorem dX0_move_61 : decode cX0_move 61 = .ok (.return_, 1) := by decide +kernel
theorem dX0_move_62 : decode cX0_move 62 = .ok (.iconst 0, 1) := by decide +kernel
theorem dX0_move_63 : decode cX0_move 63 = .ok (.istore_n 2, 1) := by decide +kernel
theorem dX0_move_64 : decode cX0_move 64 = .ok (.iload_n 2, 1) := by decide +kernel
theorem dX0_move_65 : decode cX0_move 65 = .ok (.aload_n 1, 1) := by decide +kernel
theorem dX0_move_66 : decode cX0_move 66 = .ok (.getfield 62, 3) := by decide +kernel
theorem dX0_move_69 : decode cX0_move 69 = .ok (.if_icmp .ge 22, 3) := by decide +kernel
theorem dX0_move_72 : decode cX0_move 72 = .ok (.aload_n 0, 1) := by decide +kernel
theorem dX0_move_73 : decode cX0_move 73 = .ok (.getfield 12, 3) := by decide +kernel
theorem dX0_move_76 : decode cX0_move 76 = .ok (.aload_n 1, 1) := by decide +kernel
theorem dX0_move_77 : decode cX0_move 77 = .ok (.iload_n 2, 1) := by decide +kernel
theorem dX0_move_78 : decode cX0_move 78 = .ok (.invokevirtual 65, 3) := by decide +kernel
theorem dX0_move_81 : decode cX0_move 81 = .ok (.iconst (-1), 1) := by decide +kernel
theorem dX0_move_82 : decode cX0_move 82 = .ok (.invokevirtual 69, 3) := by decide +kernel
theorem dX0_move_85 : decode cX0_move 85 = .ok (.iinc 2 1, 3) := by decide +kernel
theorem dX0_move_88 : decode cX0_move 88 = .ok (.goto (-24), 3) := by decide +kernel
theorem dX0_move_91 : decode cX0_move 91 = .ok (.aload_n 1, 1) := by decide +kernel
theorem dX0_move_92 : decode cX0_move 92 = .ok (.getfield 59, 3) := by decide +kernel
theorem dX0_move_95 : decode cX0_move 95 = .ok (.iconst 5, 1) := by decide +kernel
theorem dX0_move_96 : decode cX0_move 96 = .ok (.if_icmp .ne 21, 3) := by decide +kernel
theorem dX0_move_99 : decode cX0_move 99 = .ok (.aload_n 0, 1) := by decide +kernel
theorem dX0_move_100 : decode cX0_move 100 = .ok (.dup, 1) := by decide +kernel
theorem dX0_move_101 : decode cX0_move 101 = .ok (.getfield 46, 3) := by decide +kernel
theorem dX0_move_104 : decode cX0_move 104 = .ok (.aload_n 0, 1) := by decide +kernel
theorem dX0_move_105 : decode cX0_move 105 = .ok (.getfield 12, 3) := by decide +kernel
theorem dX0_move_108 : decode cX0_move 108 = .ok (.aload_n 1, 1) := by decide +kernel
theorem dX0_move_109 : decode cX0_move 109 = .ok (.invokevirtual 73, 3) := by decide +kernel
theorem dX0_move_112 : decode cX0_move 112 = .ok (.iadd, 1) := by decide +kernel
theorem dX0_move_113 : decode cX0_move 113 = .ok (.putfield 46, 3) := by decide +kernel
theorem dX0_move_116 : decode cX0_move 116 = .ok (.return_, 1) := by decide +kernel
theorem dX0_move_117 : decode cX0_move 117 = .ok (.iconst 0, 1) := by decide +kernel
theorem dX0_move_118 : decode cX0_move 118 = .ok (.istore_n 2, 1) := by decide +kernel
theorem dX0_move_119 : decode cX0_move 119 = .ok (.iload_n 2, 1) := by decide +kernel
theorem dX0_move_120 : decode cX0_move 120 = .ok (.aload_n 1, 1) := by decide +kernel
theorem dX0_move_121 : decode cX0_move 121 = .ok (.getfield 62, 3) := by decide +kernel
theorem dX0_move_124 : decode cX0_move 124 = .ok (.if_icmp .ge 25, 3) := by decide +kernel
theorem dX0_move_127 : decode cX0_move 127 = .ok (.aload_n 0, 1) := by decide +kernel
theorem dX0_move_128 : decode cX0_move 128 = .ok (.getfield 12, 3) := by decide +kernel
theorem dX0_move_131 : decode cX0_move 131 = .ok (.aload_n 1, 1) := by decide +kernel
theorem dX0_move_132 : decode cX0_move 132 = .ok (.iload_n 2, 1) := by decide +kernel
theorem dX0_move_133 : decode cX0_move 133 = .ok (.invokevirtual 65, 3) := by decide +kernel
theorem dX0_move_136 : decode cX0_move 136 = .ok (.aload_n 1, 1) := by decide +kernel
theorem dX0_move_137 : decode cX0_move 137 = .ok (.getfield 77, 3) := by decide +kernel
theorem dX0_move_140 : decode cX0_move 140 = .ok (.invokevirtual 80, 3) := by decide +kernel
theorem dX0_move_143 : decode cX0_move 143 = .ok (.iinc 2 1, 3) := by decide +kernel
theorem dX0_move_146 : decode cX0_move 146 = .ok (.goto (-27), 3) := by decide +kernel
theorem dX0_move_149 : decode cX0_move 149 = .ok (.return_, 1) := by decide +kernel
noncomputable def B_X0_move_119 (r0 : Nat) (r1 : Nat) (k119 : (Int32) → fS → Option (Int32 × fS)) : (Int32) → fS → Option (Int32 × fS) := fun a2 S => iv (ge S 25 r1 16) (fun x1 => bb (x1 ≤ a2) (some (0, S)) (bd (F_X5_grippedAt r1 a2 S) (fun v3 S4 => iv (ge S4 25 r1 2) (fun x6 => bd (F_X2_put r0 v3 x6 S4) (fun v7 S8 => iv (a2 + Int32.ofInt 1) (fun x10 => k119 x10 S8))))))
noncomputable def B_X0_move_64 (r0 : Nat) (r1 : Nat) (k64 : (Int32) → fS → Option (Int32 × fS)) : (Int32) → fS → Option (Int32 × fS) := fun a2 S => iv (ge S 25 r1 16) (fun x11 => bb (x11 ≤ a2) (iv (ge S 25 r1 1) (fun x13 => bb (x13 = (5 : Int32)) (iv (ge S 1 r0 10) (fun x15 => bd (F_X2_valueOfAll r0 r1 S) (fun v16 S17 => iv (x15 + v16) (fun x19 => sv (pu S17 1 r0 10 x19) (fun S20 => some (0, S20)))))) (lp (B_X0_move_119 r0 r1 ) fuel 0 S))) (bd (F_X5_grippedAt r1 a2 S) (fun v21 S22 => bd (F_X2_takeOut r0 v21 (-1) S22) (fun v24 S25 => iv (a2 + Int32.ofInt 1) (fun x27 => k64 x27 S25)))))
noncomputable def B_X0_move_62 (r0 : Nat) (r1 : Nat) (S : fS) : Option (Int32 × fS) := lp (B_X0_move_64 r0 r1 ) fuel 0 S
noncomputable def B_X0_move_29 (r0 : Nat) (r1 : Nat) (t0 : Int32) (S : fS) : Option (Int32 × fS) := sv (pu S 1 r0 8 t0) (fun S28 => iv (ge S28 1 r0 9) (fun x29 => iv (ge S28 1 r0 3) (fun x30 => iv (x29 + x30) (fun x31 => sv (pu S28 1 r0 9 x31) (fun S32 => iv (ge S32 25 r1 1) (fun x33 => bb (x33 = (5 : Int32)) (B_X0_move_62 r0 r1   S32) (iv (ge S32 25 r1 1) (fun x35 => bb (x35 = (3 : Int32)) (B_X0_move_62 r0 r1   S32) (some (0, S32))))))))))
noncomputable def F_X0_move (r0 : Nat) (r1 : Nat) (S0 : fS) : Option (Int32 × fS) := iv (ge S0 1 r0 7) (fun x37 => iv (x37 + (1 : Int32)) (fun x38 => sv (pu S0 1 r0 7 x38) (fun S39 => iv (ge S39 25 r1 1) (fun x40 => bb (x40 = (5 : Int32)) (B_X0_move_29 r0 r1  0 S39) (iv (ge S39 1 r0 8) (fun x42 => iv (x42 + (1 : Int32)) (fun x43 => B_X0_move_29 r0 r1  x43 S39)))))))
set_option maxHeartbeats 4000000 in
set_option maxRecDepth 100000 in
theorem c_X0_move (l : Launch) (D : va_G) (K : Nat → ClassId) (b0 : Nat) (sa : sT) (sz : Nat) (L : List Nat) (f0 : Nat → va_E) (ad : Nat → Nat → Nat) (P : Nat → Nat → Prop) {n : Nat × Nat} (hP : ∀ a i : Nat, isn n a i → P a i) (S0 : fS) (hw : PW K ad P S0 L f0) (hn : S0.2.2.1 = n) (r0 : Nat) (hr0 : r0 < 5) (r1 : Nat) (hr1 : r1 < n.1) (v : Int32) (S1 : fS) (h : F_X0_move r0 r1 S0 = some (v, S1)) : Met l yX0_move (.code yX0_move cX0_move 3 none :: gt) { frames := 3, cells := 0, slots := 0, locals := 68 } (va_Pc [.ref (ad 1 r0), .ref (ad 25 r1)] (hPre D K b0 sa sz L f0)) (hQ D K b0 (fun v9 u9 => ∃ f2 : Nat → va_E, v9 = none ∧ u9 = lU L f2 ∧ PW K ad P S1 L f2 ∧ S1.2.2.1 = n ∧ Kp ad P L f0 f2)) 0 0 (fun q => b0 ≤ q) := by
  refine t_of (own := RX0) (by decide) rfl ?_ (Nat.le_of_ble_eq_true rfl)
  intro p e s m below meth c ls C w hsz hr hlk hnm hl
  have hx := C.1
  have hb := C.2.1
  have hl : lv_has ls 3 [(0, .ref (ad 1 r0)), (1, .ref (ad 25 r1))] := hl
  have J119 : ∀ (fu : Nat) (a2 : Int32) (S : fS), lp (B_X0_move_119 r0 r1 ) fu a2 S = some (v, S1) → Gw D K b0 sa ad P n L f0 p l e { frames := 3, cells := 0, slots := 0, locals := 68 } s m [.ref (ad 1 r0), .ref (ad 25 r1)].toArray below meth c 3 (MQ below (hQ D K b0 (fun v9 u9 => ∃ f2 : Nat → va_E, v9 = none ∧ u9 = lU L f2 ∧ PW K ad P S1 L f2 ∧ S1.2.2.1 = n ∧ Kp ad P L f0 f2)) [.ref (ad 1 r0), .ref (ad 25 r1)].toArray s 0 0 (fun q => b0 ≤ q)) 0 0 119 [(0, .ref (ad 1 r0)), (1, .ref (ad 25 r1)), (2, .int a2)] [] S := by
    intro fu a2 S h
    refine lp_some (G := (fun q S => Gw D K b0 sa ad P n L f0 p l e { frames := 3, cells := 0, slots := 0, locals := 68 } s m [.ref (ad 1 r0), .ref (ad 25 r1)].toArray below meth c 3 (MQ below (hQ D K b0 (fun v9 u9 => ∃ f2 : Nat → va_E, v9 = none ∧ u9 = lU L f2 ∧ PW K ad P S1 L f2 ∧ S1.2.2.1 = n ∧ Kp ad P L f0 f2)) [.ref (ad 1 r0), .ref (ad 25 r1)].toArray s 0 0 (fun q => b0 ≤ q)) 0 0 119 [(0, .ref (ad 1 r0)), (1, .ref (ad 25 r1)), (2, .int q)] [] S)) (fun k119 hk119 q S h => ?_) fu a2 S h
    obtain ⟨a2, e9⟩ : ∃ z, z = q := ⟨_, rfl⟩
    subst e9
    dsimp only [B_X0_move_119] at h
    intro f H locs w hw hn hk ls hl
    refine lv_iload_n hx hb dX0_move_119 rfl (lv_at hl 2 rfl) ?_
    refine lv_aload_n hx hb dX0_move_120 rfl (lv_at hl 1 rfl) ?_
    refine u_geti C w hw (hP _ _ (isn_t25 hr1)) rfl (N := 17) rfl rfl cin_5 16 (by decide) rfl gw_250 dX0_move_121 ?_
    refine u_iv h (fun x1 h => ?_)
    refine lv_icmp_ge (tgt := 149) hx hb dX0_move_124 (by decide) (fun c2 => ?_) (fun c2 => ?_)
    · have h := bb_t h c2
      exact t_vret C hr hlk w ⟨_, rfl, rfl, so_w h hw, so_n h hn, hk⟩ (by decide) (by decide) dX0_move_149
    · have h := bb_f h c2
      refine lv_aload_n hx hb dX0_move_127 rfl (lv_at hl 0 rfl) ?_
      refine u_getr C w hw (hP _ _ (isn_f rfl rfl hr0)) rfl (N := 13) rfl rfl cin_0 0 (by decide) (by decide) (a2 := 2) (i2 := r0) rfl gw_88 dX0_move_128 ?_
      refine lv_aload_n hx hb dX0_move_131 rfl (lv_at hl 1 rfl) ?_
      refine lv_iload_n hx hb dX0_move_132 rfl (lv_at hl 2 rfl) ?_
      obtain ⟨v3, S4, h5, h⟩ := bd_some h
      refine u_callV (n := 1) C w hw (hP _ _ (isn_t25 hr1)) rfl rfl rfl (c_X5_grippedAt l D K b0 sa _ L _ ad P hP S hw hn r1 hr1 a2 v3 S4 h5) gw_964 gw_961 gw_962 gw_963 gw_7 ⟨by decide, by decide, by decide +kernel⟩ rfl rfl ⟨by decide, by decide⟩ rfl hl.1 rfl (Nat.le_of_ble_eq_true rfl) dX0_move_133 ⟨Nat.le_of_ble_eq_true rfl, Nat.le_of_ble_eq_true rfl⟩ (fun v9 u H locs hp w => ?_)
      obtain ⟨f2, rfl, rfl, hw, hn, hk1⟩ := hp
      have hk := hk.tr hk1
      generalize f2 = f at w hw hk
      refine lv_aload_n hx hb dX0_move_136 rfl (lv_at hl 1 rfl) ?_
      refine u_geti C w hw (hP _ _ (isn_t25 hr1)) rfl (N := 17) rfl rfl cin_5 2 (by decide) rfl gw_224 dX0_move_137 ?_
      refine u_iv h (fun x6 h => ?_)
      obtain ⟨v7, S8, h9, h⟩ := bd_some h
      refine u_callV (n := 2) C w hw (hP _ _ (isn_f rfl rfl hr0)) rfl rfl rfl (c_X2_put l D K b0 sa _ L _ ad P hP S4 hw hn r0 hr0 v3 x6 v7 S8 h9) gw_514 gw_975 gw_512 gw_513 gw_3 ⟨by decide, by decide, by decide +kernel⟩ rfl rfl ⟨by decide, by decide⟩ rfl hl.1 rfl (Nat.le_of_ble_eq_true rfl) dX0_move_140 ⟨Nat.le_of_ble_eq_true rfl, Nat.le_of_ble_eq_true rfl⟩ (fun v9 u H locs hp w => ?_)
      obtain ⟨f2, rfl, rfl, hw, hn, hk1⟩ := hp
      have hk := hk.tr hk1
      generalize f2 = f at w hw hk
      obtain ⟨x10, ex10, h⟩ := iv_some h
      refine lv_iinc (v := x10) (lv' := [(2, .int x10), (0, .ref (ad 1 r0)), (1, .ref (ad 25 r1))]) hx hb dX0_move_143 hl (k := 2) rfl ex10.symm (by decide) rfl (fun ls hl => ?_)
      refine lv_goto (tgt := 119) hx hb dX0_move_146 (by decide) ?_
      exact hk119 x10 S8 h f H locs w hw hn hk ls (lv_sub hl [1, 2, 0] rfl)
  have J64 : ∀ (fu : Nat) (a2 : Int32) (S : fS), lp (B_X0_move_64 r0 r1 ) fu a2 S = some (v, S1) → Gw D K b0 sa ad P n L f0 p l e { frames := 3, cells := 0, slots := 0, locals := 68 } s m [.ref (ad 1 r0), .ref (ad 25 r1)].toArray below meth c 3 (MQ below (hQ D K b0 (fun v9 u9 => ∃ f2 : Nat → va_E, v9 = none ∧ u9 = lU L f2 ∧ PW K ad P S1 L f2 ∧ S1.2.2.1 = n ∧ Kp ad P L f0 f2)) [.ref (ad 1 r0), .ref (ad 25 r1)].toArray s 0 0 (fun q => b0 ≤ q)) 0 0 64 [(0, .ref (ad 1 r0)), (1, .ref (ad 25 r1)), (2, .int a2)] [] S := by
    intro fu a2 S h
    refine lp_some (G := (fun q S => Gw D K b0 sa ad P n L f0 p l e { frames := 3, cells := 0, slots := 0, locals := 68 } s m [.ref (ad 1 r0), .ref (ad 25 r1)].toArray below meth c 3 (MQ below (hQ D K b0 (fun v9 u9 => ∃ f2 : Nat → va_E, v9 = none ∧ u9 = lU L f2 ∧ PW K ad P S1 L f2 ∧ S1.2.2.1 = n ∧ Kp ad P L f0 f2)) [.ref (ad 1 r0), .ref (ad 25 r1)].toArray s 0 0 (fun q => b0 ≤ q)) 0 0 64 [(0, .ref (ad 1 r0)), (1, .ref (ad 25 r1)), (2, .int q)] [] S)) (fun k64 hk64 q S h => ?_) fu a2 S h
    obtain ⟨a2, e9⟩ : ∃ z, z = q := ⟨_, rfl⟩
    subst e9
    dsimp only [B_X0_move_64] at h
    intro f H locs w hw hn hk ls hl
    refine lv_iload_n hx hb dX0_move_64 rfl (lv_at hl 2 rfl) ?_
    refine lv_aload_n hx hb dX0_move_65 rfl (lv_at hl 1 rfl) ?_
    refine u_geti C w hw (hP _ _ (isn_t25 hr1)) rfl (N := 17) rfl rfl cin_5 16 (by decide) rfl gw_250 dX0_move_66 ?_
    refine u_iv h (fun x11 h => ?_)
    refine lv_icmp_ge (tgt := 91) hx hb dX0_move_69 (by decide) (fun c12 => ?_) (fun c12 => ?_)
    · have h := bb_t h c12
      refine lv_aload_n hx hb dX0_move_91 rfl (lv_at hl 1 rfl) ?_
      refine u_geti C w hw (hP _ _ (isn_t25 hr1)) rfl (N := 17) rfl rfl cin_5 1 (by decide) rfl gw_221 dX0_move_92 ?_
      refine u_iv h (fun x13 h => ?_)
      refine lv_iconst (v := 5) hx hb dX0_move_95 (by decide) ?_
      refine lv_icmp_ne (tgt := 117) hx hb dX0_move_96 (by decide) (fun c14 => ?_) (fun c14 => ?_)
      · have h := bb_f h c14
        refine lv_iconst (v := 0) hx hb dX0_move_117 (by decide) ?_
        refine lv_istore_n (lv' := [(2, .int 0), (0, .ref (ad 1 r0)), (1, .ref (ad 25 r1))]) hx hb dX0_move_118 rfl hl (by decide) rfl (fun ls hl => ?_)
        exact J119  fuel 0 S h f H locs w hw hn hk ls (lv_sub hl [1, 2, 0] rfl)
      · have h := bb_t h c14
        refine lv_aload_n hx hb dX0_move_99 rfl (lv_at hl 0 rfl) ?_
        refine lv_dup hx hb dX0_move_100 rfl ?_
        refine u_geti C w hw (hP _ _ (isn_f rfl rfl hr0)) rfl (N := 13) rfl rfl cin_0 10 (by decide) rfl gw_116 dX0_move_101 ?_
        refine u_iv h (fun x15 h => ?_)
        refine lv_aload_n hx hb dX0_move_104 rfl (lv_at hl 0 rfl) ?_
        refine u_getr C w hw (hP _ _ (isn_f rfl rfl hr0)) rfl (N := 13) rfl rfl cin_0 0 (by decide) (by decide) (a2 := 2) (i2 := r0) rfl gw_88 dX0_move_105 ?_
        refine lv_aload_n hx hb dX0_move_108 rfl (lv_at hl 1 rfl) ?_
        obtain ⟨v16, S17, h18, h⟩ := bd_some h
        refine u_callV (n := 1) C w hw (hP _ _ (isn_f rfl rfl hr0)) rfl rfl rfl (c_X2_valueOfAll l D K b0 sa _ L _ ad P hP S hw hn r0 hr0 r1 hr1 v16 S17 h18) gw_969 gw_966 gw_967 gw_968 gw_3 ⟨by decide, by decide, by decide +kernel⟩ rfl rfl ⟨by decide, by decide⟩ rfl hl.1 rfl (Nat.le_of_ble_eq_true rfl) dX0_move_109 ⟨Nat.le_of_ble_eq_true rfl, Nat.le_of_ble_eq_true rfl⟩ (fun v9 u H locs hp w => ?_)
        obtain ⟨f2, rfl, rfl, hw, hn, hk1⟩ := hp
        have hk := hk.tr hk1
        generalize f2 = f at w hw hk
        refine lv_iadd hx hb dX0_move_112 ?_
        refine u_iv h (fun x19 h => ?_)
        refine u_puti C w hw (hP _ _ (isn_f rfl rfl hr0)) rfl (N := 13) rfl rfl cin_0 tyX0 tyX0_ok nmX0 10 (by decide) rfl rfl rfl rfl gw_116 dX0_move_113 (fun f H locs w hw hk1 => ?_)
        have hk := hk.tr hk1
        refine u_sv h hw hn (fun S20 h hw hn => ?_)
        exact t_vret C hr hlk w ⟨_, rfl, rfl, so_w h hw, so_n h hn, hk⟩ (by decide) (by decide) dX0_move_116
    · have h := bb_f h c12
      refine lv_aload_n hx hb dX0_move_72 rfl (lv_at hl 0 rfl) ?_
      refine u_getr C w hw (hP _ _ (isn_f rfl rfl hr0)) rfl (N := 13) rfl rfl cin_0 0 (by decide) (by decide) (a2 := 2) (i2 := r0) rfl gw_88 dX0_move_73 ?_
      refine lv_aload_n hx hb dX0_move_76 rfl (lv_at hl 1 rfl) ?_
      refine lv_iload_n hx hb dX0_move_77 rfl (lv_at hl 2 rfl) ?_
      obtain ⟨v21, S22, h23, h⟩ := bd_some h
      refine u_callV (n := 1) C w hw (hP _ _ (isn_t25 hr1)) rfl rfl rfl (c_X5_grippedAt l D K b0 sa _ L _ ad P hP S hw hn r1 hr1 a2 v21 S22 h23) gw_964 gw_961 gw_962 gw_963 gw_7 ⟨by decide, by decide, by decide +kernel⟩ rfl rfl ⟨by decide, by decide⟩ rfl hl.1 rfl (Nat.le_of_ble_eq_true rfl) dX0_move_78 ⟨Nat.le_of_ble_eq_true rfl, Nat.le_of_ble_eq_true rfl⟩ (fun v9 u H locs hp w => ?_)
      obtain ⟨f2, rfl, rfl, hw, hn, hk1⟩ := hp
      have hk := hk.tr hk1
      generalize f2 = f at w hw hk
      refine lv_iconst (v := (-1)) hx hb dX0_move_81 (by decide) ?_
      obtain ⟨v24, S25, h26, h⟩ := bd_some h
      refine u_callV (n := 2) C w hw (hP _ _ (isn_f rfl rfl hr0)) rfl rfl rfl (c_X2_takeOut l D K b0 sa _ L _ ad P hP S22 hw hn r0 hr0 v21 (-1) v24 S25 h26) gw_683 gw_965 gw_681 gw_682 gw_3 ⟨by decide, by decide, by decide +kernel⟩ rfl rfl ⟨by decide, by decide⟩ rfl hl.1 rfl (Nat.le_of_ble_eq_true rfl) dX0_move_82 ⟨Nat.le_of_ble_eq_true rfl, Nat.le_of_ble_eq_true rfl⟩ (fun v9 u H locs hp w => ?_)
      obtain ⟨f2, rfl, rfl, hw, hn, hk1⟩ := hp
      have hk := hk.tr hk1
      generalize f2 = f at w hw hk
      obtain ⟨x27, ex27, h⟩ := iv_some h
      refine lv_iinc (v := x27) (lv' := [(2, .int x27), (0, .ref (ad 1 r0)), (1, .ref (ad 25 r1))]) hx hb dX0_move_85 hl (k := 2) rfl ex27.symm (by decide) rfl (fun ls hl => ?_)
      refine lv_goto (tgt := 64) hx hb dX0_move_88 (by decide) ?_
      exact hk64 x27 S25 h f H locs w hw hn hk ls (lv_sub hl [1, 2, 0] rfl)
  have J62 : ∀ (S : fS), B_X0_move_62 r0 r1   S = some (v, S1) → Gw D K b0 sa ad P n L f0 p l e { frames := 3, cells := 0, slots := 0, locals := 68 } s m [.ref (ad 1 r0), .ref (ad 25 r1)].toArray below meth c 3 (MQ below (hQ D K b0 (fun v9 u9 => ∃ f2 : Nat → va_E, v9 = none ∧ u9 = lU L f2 ∧ PW K ad P S1 L f2 ∧ S1.2.2.1 = n ∧ Kp ad P L f0 f2)) [.ref (ad 1 r0), .ref (ad 25 r1)].toArray s 0 0 (fun q => b0 ≤ q)) 0 0 62 [(0, .ref (ad 1 r0)), (1, .ref (ad 25 r1))] [] S := by
    intro S h
    dsimp only [B_X0_move_62] at h
    intro f H locs w hw hn hk ls hl
    refine lv_iconst (v := 0) hx hb dX0_move_62 (by decide) ?_
    refine lv_istore_n (lv' := [(2, .int 0), (0, .ref (ad 1 r0)), (1, .ref (ad 25 r1))]) hx hb dX0_move_63 rfl hl (by decide) rfl (fun ls hl => ?_)
    exact J64  fuel 0 S h f H locs w hw hn hk ls (lv_sub hl [1, 2, 0] rfl)
  have J29 : ∀ (t0 : Int32) (S : fS), B_X0_move_29 r0 r1  t0 S = some (v, S1) → Gw D K b0 sa ad P n L f0 p l e { frames := 3, cells := 0, slots := 0, locals := 68 } s m [.ref (ad 1 r0), .ref (ad 25 r1)].toArray below meth c 3 (MQ below (hQ D K b0 (fun v9 u9 => ∃ f2 : Nat → va_E, v9 = none ∧ u9 = lU L f2 ∧ PW K ad P S1 L f2 ∧ S1.2.2.1 = n ∧ Kp ad P L f0 f2)) [.ref (ad 1 r0), .ref (ad 25 r1)].toArray s 0 0 (fun q => b0 ≤ q)) 0 0 29 [(0, .ref (ad 1 r0)), (1, .ref (ad 25 r1))] [.int t0, .ref (ad 1 r0)] S := by
    intro t0 S h
    dsimp only [B_X0_move_29] at h
    intro f H locs w hw hn hk ls hl
    refine u_puti C w hw (hP _ _ (isn_f rfl rfl hr0)) rfl (N := 13) rfl rfl cin_0 tyX0 tyX0_ok nmX0 8 (by decide) rfl rfl rfl rfl gw_110 dX0_move_29 (fun f H locs w hw hk1 => ?_)
    have hk := hk.tr hk1
    refine u_sv h hw hn (fun S28 h hw hn => ?_)
    refine lv_aload_n hx hb dX0_move_32 rfl (lv_at hl 0 rfl) ?_
    refine lv_dup hx hb dX0_move_33 rfl ?_
    refine u_geti C w hw (hP _ _ (isn_f rfl rfl hr0)) rfl (N := 13) rfl rfl cin_0 9 (by decide) rfl gw_113 dX0_move_34 ?_
    refine u_iv h (fun x29 h => ?_)
    refine lv_aload_n hx hb dX0_move_37 rfl (lv_at hl 0 rfl) ?_
    refine u_geti C w hw (hP _ _ (isn_f rfl rfl hr0)) rfl (N := 13) rfl rfl cin_0 3 (by decide) rfl gw_97 dX0_move_38 ?_
    refine u_iv h (fun x30 h => ?_)
    refine lv_iadd hx hb dX0_move_41 ?_
    refine u_iv h (fun x31 h => ?_)
    refine u_puti C w hw (hP _ _ (isn_f rfl rfl hr0)) rfl (N := 13) rfl rfl cin_0 tyX0 tyX0_ok nmX0 9 (by decide) rfl rfl rfl rfl gw_113 dX0_move_42 (fun f H locs w hw hk1 => ?_)
    have hk := hk.tr hk1
    refine u_sv h hw hn (fun S32 h hw hn => ?_)
    refine lv_aload_n hx hb dX0_move_45 rfl (lv_at hl 1 rfl) ?_
    refine u_geti C w hw (hP _ _ (isn_t25 hr1)) rfl (N := 17) rfl rfl cin_5 1 (by decide) rfl gw_221 dX0_move_46 ?_
    refine u_iv h (fun x33 h => ?_)
    refine lv_iconst (v := 5) hx hb dX0_move_49 (by decide) ?_
    refine lv_icmp_eq (tgt := 62) hx hb dX0_move_50 (by decide) (fun c34 => ?_) (fun c34 => ?_)
    · have h := bb_t h c34
      exact J62   S32 h f H locs w hw hn hk ls (lv_sub hl [0, 1] rfl)
    · have h := bb_f h c34
      refine lv_aload_n hx hb dX0_move_53 rfl (lv_at hl 1 rfl) ?_
      refine u_geti C w hw (hP _ _ (isn_t25 hr1)) rfl (N := 17) rfl rfl cin_5 1 (by decide) rfl gw_221 dX0_move_54 ?_
      refine u_iv h (fun x35 h => ?_)
      refine lv_iconst (v := 3) hx hb dX0_move_57 (by decide) ?_
      refine lv_icmp_eq (tgt := 62) hx hb dX0_move_58 (by decide) (fun c36 => ?_) (fun c36 => ?_)
      · have h := bb_t h c36
        exact J62   S32 h f H locs w hw hn hk ls (lv_sub hl [0, 1] rfl)
      · have h := bb_f h c36
        exact t_vret C hr hlk w ⟨_, rfl, rfl, so_w h hw, so_n h hn, hk⟩ (by decide) (by decide) dX0_move_61
  dsimp only [F_X0_move] at h
  obtain ⟨f, ef⟩ : ∃ z, z = f0 := ⟨_, rfl⟩
  rw [← ef] at w hw
  have hk : Kp ad P L f0 f := by rw [ef]; exact Kp.rf
  obtain ⟨H, eH⟩ : ∃ z, z = s.heap := ⟨_, rfl⟩
  obtain ⟨locs, el⟩ : ∃ z : List Loc, z = [] := ⟨_, rfl⟩
  rw [← eH, ← el] at w ⊢
  refine lv_aload_n hx hb dX0_move_0 rfl (lv_at hl 0 rfl) ?_
  refine lv_dup hx hb dX0_move_1 rfl ?_
  refine u_geti C w hw (hP _ _ (isn_f rfl rfl hr0)) rfl (N := 13) rfl rfl cin_0 7 (by decide) rfl gw_107 dX0_move_2 ?_
  refine u_iv h (fun x37 h => ?_)
  refine lv_iconst (v := 1) hx hb dX0_move_5 (by decide) ?_
  refine lv_iadd hx hb dX0_move_6 ?_
  refine u_iv h (fun x38 h => ?_)
  refine u_puti C w hw (hP _ _ (isn_f rfl rfl hr0)) rfl (N := 13) rfl rfl cin_0 tyX0 tyX0_ok nmX0 7 (by decide) rfl rfl rfl rfl gw_107 dX0_move_7 (fun f H locs w hw hk1 => ?_)
  have hk := hk.tr hk1
  refine u_sv h hw hn (fun S39 h hw hn => ?_)
  refine lv_aload_n hx hb dX0_move_10 rfl (lv_at hl 0 rfl) ?_
  refine lv_aload_n hx hb dX0_move_11 rfl (lv_at hl 1 rfl) ?_
  refine u_geti C w hw (hP _ _ (isn_t25 hr1)) rfl (N := 17) rfl rfl cin_5 1 (by decide) rfl gw_221 dX0_move_12 ?_
  refine u_iv h (fun x40 h => ?_)
  refine lv_iconst (v := 5) hx hb dX0_move_15 (by decide) ?_
  refine lv_icmp_ne (tgt := 23) hx hb dX0_move_16 (by decide) (fun c41 => ?_) (fun c41 => ?_)
  · have h := bb_f h c41
    refine lv_aload_n hx hb dX0_move_23 rfl (lv_at hl 0 rfl) ?_
    refine u_geti C w hw (hP _ _ (isn_f rfl rfl hr0)) rfl (N := 13) rfl rfl cin_0 8 (by decide) rfl gw_110 dX0_move_24 ?_
    refine u_iv h (fun x42 h => ?_)
    refine lv_iconst (v := 1) hx hb dX0_move_27 (by decide) ?_
    refine lv_iadd hx hb dX0_move_28 ?_
    refine u_iv h (fun x43 h => ?_)
    exact J29  x43 S39 h f H locs w hw hn hk ls (lv_sub hl [0, 1] rfl)
  · have h := bb_t h c41
    refine lv_iconst (v := 0) hx hb dX0_move_19 (by decide) ?_
    refine lv_goto (tgt := 29) hx hb dX0_move_20 (by decide) ?_
    exact J29  0 S39 h f H locs w hw hn hk ls (lv_sub hl [0, 1] rfl)
theorem dX2_add_0 : decode cX2_add 0 = .ok (.aload_n 0, 1) := by decide +kernel
theorem dX2_add_1 : decode cX2_add 1 = .ok (.getfield 9, 3) := by decide +kernel
theorem dX2_add_4 : decode cX2_add 4 = .ok (.bipush 24, 2) := by decide +kernel
theorem dX2_add_6 : decode cX2_add 6 = .ok (.if_icmp .lt 5, 3) := by decide +kernel
theorem dX2_add_9 : decode cX2_add 9 = .ok (.iconst (-1), 1) := by decide +kernel
theorem dX2_add_10 : decode cX2_add 10 = .ok (.ireturn, 1) := by decide +kernel
theorem dX2_add_11 : decode cX2_add 11 = .ok (.aload_n 0, 1) := by decide +kernel
theorem dX2_add_12 : decode cX2_add 12 = .ok (.getfield 9, 3) := by decide +kernel
theorem dX2_add_15 : decode cX2_add 15 = .ok (.istore 5, 2) := by decide +kernel
theorem dX2_add_17 : decode cX2_add 17 = .ok (.aload_n 0, 1) := by decide +kernel
theorem dX2_add_18 : decode cX2_add 18 = .ok (.dup, 1) := by decide +kernel
theorem dX2_add_19 : decode cX2_add 19 = .ok (.getfield 9, 3) := by decide +kernel
theorem dX2_add_22 : decode cX2_add 22 = .ok (.iconst 1, 1) := by decide +kernel
theorem dX2_add_23 : decode cX2_add 23 = .ok (.iadd, 1) := by decide +kernel
theorem dX2_add_24 : decode cX2_add 24 = .ok (.putfield 9, 3) := by decide +kernel
theorem dX2_add_27 : decode cX2_add 27 = .ok (.aload_n 0, 1) := by decide +kernel
theorem dX2_add_28 : decode cX2_add 28 = .ok (.getfield 15, 3) := by decide +kernel
theorem dX2_add_31 : decode cX2_add 31 = .ok (.iload 5, 2) := by decide +kernel
theorem dX2_add_33 : decode cX2_add 33 = .ok (.iload_n 2, 1) := by decide +kernel
theorem dX2_add_34 : decode cX2_add 34 = .ok (.iastore, 1) := by decide +kernel
theorem dX2_add_35 : decode cX2_add 35 = .ok (.aload_n 0, 1) := by decide +kernel
theorem dX2_add_36 : decode cX2_add 36 = .ok (.getfield 19, 3) := by decide +kernel
theorem dX2_add_39 : decode cX2_add 39 = .ok (.iload 5, 2) := by decide +kernel
theorem dX2_add_41 : decode cX2_add 41 = .ok (.iload_n 3, 1) := by decide +kernel
theorem dX2_add_42 : decode cX2_add 42 = .ok (.iastore, 1) := by decide +kernel
theorem dX2_add_43 : decode cX2_add 43 = .ok (.aload_n 0, 1) := by decide +kernel
theorem dX2_add_44 : decode cX2_add 44 = .ok (.getfield 22, 3) := by decide +kernel
theorem dX2_add_47 : decode cX2_add 47 = .ok (.iload 5, 2) := by decide +kernel
theorem dX2_add_49 : decode cX2_add 49 = .ok (.iload 4, 2) := by decide +kernel
theorem dX2_add_51 : decode cX2_add 51 = .ok (.iastore, 1) := by decide +kernel
theorem dX2_add_52 : decode cX2_add 52 = .ok (.aload_n 0, 1) := by decide +kernel
theorem dX2_add_53 : decode cX2_add 53 = .ok (.getfield 25, 3) := by decide +kernel
theorem dX2_add_56 : decode cX2_add 56 = .ok (.iload 5, 2) := by decide +kernel
theorem dX2_add_58 : decode cX2_add 58 = .ok (.iconst 0, 1) := by decide +kernel
theorem dX2_add_59 : decode cX2_add 59 = .ok (.iastore, 1) := by decide +kernel
theorem dX2_add_60 : decode cX2_add 60 = .ok (.aload_n 0, 1) := by decide +kernel
theorem dX2_add_61 : decode cX2_add 61 = .ok (.getfield 28, 3) := by decide +kernel
theorem dX2_add_64 : decode cX2_add 64 = .ok (.iload 5, 2) := by decide +kernel
theorem dX2_add_66 : decode cX2_add 66 = .ok (.iload_n 1, 1) := by decide +kernel
theorem dX2_add_67 : decode cX2_add 67 = .ok (.iastore, 1) := by decide +kernel
theorem dX2_add_68 : decode cX2_add 68 = .ok (.aload_n 0, 1) := by decide +kernel
theorem dX2_add_69 : decode cX2_add 69 = .ok (.iload 5, 2) := by decide +kernel
theorem dX2_add_71 : decode cX2_add 71 = .ok (.iload_n 1, 1) := by decide +kernel
theorem dX2_add_72 : decode cX2_add 72 = .ok (.invokevirtual 46, 3) := by decide +kernel
theorem dX2_add_75 : decode cX2_add 75 = .ok (.iload 5, 2) := by decide +kernel
theorem dX2_add_77 : decode cX2_add 77 = .ok (.ireturn, 1) := by decide +kernel
noncomputable def F_X2_add (r0 : Nat) (p1 : Int32) (p2 : Int32) (p3 : Int32) (p4 : Int32) (S0 : fS) : Option (Int32 × fS) := iv (ge S0 2 r0 0) (fun x1 => bb (x1 < (24 : Int32)) (iv (ge S0 2 r0 0) (fun x3 => iv (ge S0 2 r0 0) (fun x4 => iv (x4 + (1 : Int32)) (fun x5 => sv (pu S0 2 r0 0 x5) (fun S6 => gd (ib x3 24) (sv (pu S6 3 r0 (x3 : Int32).toNatClampNeg p2) (fun S8 => gd (ib x3 24) (sv (pu S8 4 r0 (x3 : Int32).toNatClampNeg p3) (fun S10 => gd (ib x3 24) (sv (pu S10 5 r0 (x3 : Int32).toNatClampNeg p4) (fun S12 => gd (ib x3 24) (sv (pu S12 6 r0 (x3 : Int32).toNatClampNeg 0) (fun S14 => gd (ib x3 24) (sv (pu S14 7 r0 (x3 : Int32).toNatClampNeg p1) (fun S16 => bd (F_X2_put r0 x3 p1 S16) (fun v17 S18 => some (x3, S18))))))))))))))))) (some ((-1), S0)))
set_option maxHeartbeats 4000000 in
set_option maxRecDepth 100000 in
theorem c_X2_add (l : Launch) (D : va_G) (K : Nat → ClassId) (b0 : Nat) (sa : sT) (sz : Nat) (L : List Nat) (f0 : Nat → va_E) (ad : Nat → Nat → Nat) (P : Nat → Nat → Prop) {n : Nat × Nat} (hP : ∀ a i : Nat, isn n a i → P a i) (S0 : fS) (hw : PW K ad P S0 L f0) (hn : S0.2.2.1 = n) (r0 : Nat) (hr0 : r0 < 5) (p1 : Int32) (p2 : Int32) (p3 : Int32) (p4 : Int32) (v : Int32) (S1 : fS) (h : F_X2_add r0 p1 p2 p3 p4 S0 = some (v, S1)) : Met l yX2_add (.code yX2_add cX2_add 6 (some .int) :: gt) { frames := 2, cells := 0, slots := 0, locals := 44 } (va_Pc [.ref (ad 2 r0), .int p1, .int p2, .int p3, .int p4] (hPre D K b0 sa sz L f0)) (hQ D K b0 (fun v9 u9 => ∃ f2 : Nat → va_E, v9 = some (.int v) ∧ u9 = lU L f2 ∧ PW K ad P S1 L f2 ∧ S1.2.2.1 = n ∧ Kp ad P L f0 f2)) 0 0 (fun q => b0 ≤ q) := by
  refine t_of (own := RX2) (by decide) rfl ?_ (Nat.le_of_ble_eq_true rfl)
  intro p e s m below meth c ls C w hsz hr hlk hnm hl
  have hx := C.1
  have hb := C.2.1
  have hl : lv_has ls 6 [(0, .ref (ad 2 r0)), (1, .int p1), (2, .int p2), (3, .int p3), (4, .int p4)] := hl
  dsimp only [F_X2_add] at h
  obtain ⟨f, ef⟩ : ∃ z, z = f0 := ⟨_, rfl⟩
  rw [← ef] at w hw
  have hk : Kp ad P L f0 f := by rw [ef]; exact Kp.rf
  obtain ⟨H, eH⟩ : ∃ z, z = s.heap := ⟨_, rfl⟩
  obtain ⟨locs, el⟩ : ∃ z : List Loc, z = [] := ⟨_, rfl⟩
  rw [← eH, ← el] at w ⊢
  refine lv_aload_n hx hb dX2_add_0 rfl (lv_at hl 0 rfl) ?_
  refine u_geti C w hw (hP _ _ (isn_f rfl rfl hr0)) rfl (N := 9) rfl rfl cin_2 0 (by decide) rfl gw_46 dX2_add_1 ?_
  refine u_iv h (fun x1 h => ?_)
  refine lv_bipush (v := 24) hx hb dX2_add_4 (by decide) ?_
  refine lv_icmp_lt (tgt := 11) hx hb dX2_add_6 (by decide) (fun c2 => ?_) (fun c2 => ?_)
  · have h := bb_t h c2
    refine lv_aload_n hx hb dX2_add_11 rfl (lv_at hl 0 rfl) ?_
    refine u_geti C w hw (hP _ _ (isn_f rfl rfl hr0)) rfl (N := 9) rfl rfl cin_2 0 (by decide) rfl gw_46 dX2_add_12 ?_
    refine u_iv h (fun x3 h => ?_)
    refine lv_istore (lv' := [(5, .int x3), (0, .ref (ad 2 r0)), (1, .int p1), (2, .int p2), (3, .int p3), (4, .int p4)]) hx hb dX2_add_15 hl (by decide) rfl (fun ls hl => ?_)
    refine lv_aload_n hx hb dX2_add_17 rfl (lv_at hl 1 rfl) ?_
    refine lv_dup hx hb dX2_add_18 rfl ?_
    refine u_geti C w hw (hP _ _ (isn_f rfl rfl hr0)) rfl (N := 9) rfl rfl cin_2 0 (by decide) rfl gw_46 dX2_add_19 ?_
    refine u_iv h (fun x4 h => ?_)
    refine lv_iconst (v := 1) hx hb dX2_add_22 (by decide) ?_
    refine lv_iadd hx hb dX2_add_23 ?_
    refine u_iv h (fun x5 h => ?_)
    refine u_puti C w hw (hP _ _ (isn_f rfl rfl hr0)) rfl (N := 9) rfl rfl cin_2 tyX2 tyX2_ok nmX2 0 (by decide) rfl rfl rfl rfl gw_46 dX2_add_24 (fun f H locs w hw hk1 => ?_)
    have hk := hk.tr hk1
    refine u_sv h hw hn (fun S6 h hw hn => ?_)
    refine lv_aload_n hx hb dX2_add_27 rfl (lv_at hl 1 rfl) ?_
    refine u_getr C w hw (hP _ _ (isn_f rfl rfl hr0)) rfl (N := 9) rfl rfl cin_2 1 (by decide) (by decide) (a2 := 3) (i2 := r0) rfl gw_48 dX2_add_28 ?_
    refine lv_iload hx hb dX2_add_31 (lv_at hl 0 rfl) ?_
    refine lv_iload_n hx hb dX2_add_33 rfl (lv_at hl 3 rfl) ?_
    obtain ⟨g7, h⟩ := gd_some h
    refine u_iast C w hw (hP _ _ (isn_f rfl rfl hr0)) rfl rfl (n := 24) rfl (vp_in_iff.mpr g7) dX2_add_34 (fun f H locs w hw hk1 => ?_)
    have hk := hk.tr hk1
    refine u_sv h hw hn (fun S8 h hw hn => ?_)
    refine lv_aload_n hx hb dX2_add_35 rfl (lv_at hl 1 rfl) ?_
    refine u_getr C w hw (hP _ _ (isn_f rfl rfl hr0)) rfl (N := 9) rfl rfl cin_2 2 (by decide) (by decide) (a2 := 4) (i2 := r0) rfl gw_51 dX2_add_36 ?_
    refine lv_iload hx hb dX2_add_39 (lv_at hl 0 rfl) ?_
    refine lv_iload_n hx hb dX2_add_41 rfl (lv_at hl 4 rfl) ?_
    obtain ⟨g9, h⟩ := gd_some h
    refine u_iast C w hw (hP _ _ (isn_f rfl rfl hr0)) rfl rfl (n := 24) rfl (vp_in_iff.mpr g9) dX2_add_42 (fun f H locs w hw hk1 => ?_)
    have hk := hk.tr hk1
    refine u_sv h hw hn (fun S10 h hw hn => ?_)
    refine lv_aload_n hx hb dX2_add_43 rfl (lv_at hl 1 rfl) ?_
    refine u_getr C w hw (hP _ _ (isn_f rfl rfl hr0)) rfl (N := 9) rfl rfl cin_2 3 (by decide) (by decide) (a2 := 5) (i2 := r0) rfl gw_54 dX2_add_44 ?_
    refine lv_iload hx hb dX2_add_47 (lv_at hl 0 rfl) ?_
    refine lv_iload hx hb dX2_add_49 (lv_at hl 5 rfl) ?_
    obtain ⟨g11, h⟩ := gd_some h
    refine u_iast C w hw (hP _ _ (isn_f rfl rfl hr0)) rfl rfl (n := 24) rfl (vp_in_iff.mpr g11) dX2_add_51 (fun f H locs w hw hk1 => ?_)
    have hk := hk.tr hk1
    refine u_sv h hw hn (fun S12 h hw hn => ?_)
    refine lv_aload_n hx hb dX2_add_52 rfl (lv_at hl 1 rfl) ?_
    refine u_getr C w hw (hP _ _ (isn_f rfl rfl hr0)) rfl (N := 9) rfl rfl cin_2 4 (by decide) (by decide) (a2 := 6) (i2 := r0) rfl gw_56 dX2_add_53 ?_
    refine lv_iload hx hb dX2_add_56 (lv_at hl 0 rfl) ?_
    refine lv_iconst (v := 0) hx hb dX2_add_58 (by decide) ?_
    obtain ⟨g13, h⟩ := gd_some h
    refine u_iast C w hw (hP _ _ (isn_f rfl rfl hr0)) rfl rfl (n := 24) rfl (vp_in_iff.mpr g13) dX2_add_59 (fun f H locs w hw hk1 => ?_)
    have hk := hk.tr hk1
    refine u_sv h hw hn (fun S14 h hw hn => ?_)
    refine lv_aload_n hx hb dX2_add_60 rfl (lv_at hl 1 rfl) ?_
    refine u_getr C w hw (hP _ _ (isn_f rfl rfl hr0)) rfl (N := 9) rfl rfl cin_2 5 (by decide) (by decide) (a2 := 7) (i2 := r0) rfl gw_59 dX2_add_61 ?_
    refine lv_iload hx hb dX2_add_64 (lv_at hl 0 rfl) ?_
    refine lv_iload_n hx hb dX2_add_66 rfl (lv_at hl 2 rfl) ?_
    obtain ⟨g15, h⟩ := gd_some h
    refine u_iast C w hw (hP _ _ (isn_f rfl rfl hr0)) rfl rfl (n := 24) rfl (vp_in_iff.mpr g15) dX2_add_67 (fun f H locs w hw hk1 => ?_)
    have hk := hk.tr hk1
    refine u_sv h hw hn (fun S16 h hw hn => ?_)
    refine lv_aload_n hx hb dX2_add_68 rfl (lv_at hl 1 rfl) ?_
    refine lv_iload hx hb dX2_add_69 (lv_at hl 0 rfl) ?_
    refine lv_iload_n hx hb dX2_add_71 rfl (lv_at hl 2 rfl) ?_
    obtain ⟨v17, S18, h19, h⟩ := bd_some h
    refine u_callV (n := 2) C w hw (hP _ _ (isn_f rfl rfl hr0)) rfl rfl rfl (c_X2_put l D K b0 sa _ L _ ad P hP S16 hw hn r0 hr0 x3 p1 v17 S18 h19) gw_514 gw_511 gw_512 gw_513 gw_3 ⟨by decide, by decide, by decide +kernel⟩ rfl rfl ⟨by decide, by decide⟩ rfl hl.1 rfl (Nat.le_of_ble_eq_true rfl) dX2_add_72 ⟨Nat.le_of_ble_eq_true rfl, Nat.le_of_ble_eq_true rfl⟩ (fun v9 u H locs hp w => ?_)
    obtain ⟨f2, rfl, rfl, hw, hn, hk1⟩ := hp
    have hk := hk.tr hk1
    generalize f2 = f at w hw hk
    refine lv_iload hx hb dX2_add_75 (lv_at hl 0 rfl) ?_
    exact t_iret C hr hlk w ⟨_, so_v h, rfl, so_w h hw, so_n h hn, hk⟩ (by decide) (by decide) dX2_add_77
  · have h := bb_f h c2
    refine lv_iconst (v := (-1)) hx hb dX2_add_9 (by decide) ?_
    exact t_iret C hr hlk w ⟨_, so_v h, rfl, so_w h hw, so_n h hn, hk⟩ (by decide) (by decide) dX2_add_10
theorem dX2_levelOf_0 : decode cX2_levelOf 0 = .ok (.aload_n 0, 1) := by decide +kernel
theorem dX2_levelOf_1 : decode cX2_levelOf 1 = .ok (.iload_n 1, 1) := by decide +kernel
theorem dX2_levelOf_2 : decode cX2_levelOf 2 = .ok (.invokevirtual 50, 3) := by decide +kernel
theorem dX2_levelOf_5 : decode cX2_levelOf 5 = .ok (.ifCond .eq 12, 3) := by decide +kernel
theorem dX2_levelOf_8 : decode cX2_levelOf 8 = .ok (.aload_n 0, 1) := by decide +kernel
theorem dX2_levelOf_9 : decode cX2_levelOf 9 = .ok (.getfield 31, 3) := by decide +kernel
theorem dX2_levelOf_12 : decode cX2_levelOf 12 = .ok (.iload_n 1, 1) := by decide +kernel
theorem dX2_levelOf_13 : decode cX2_levelOf 13 = .ok (.iaload, 1) := by decide +kernel
theorem dX2_levelOf_14 : decode cX2_levelOf 14 = .ok (.ifCond .ge 5, 3) := by decide +kernel
theorem dX2_levelOf_17 : decode cX2_levelOf 17 = .ok (.iconst (-1), 1) := by decide +kernel
theorem dX2_levelOf_18 : decode cX2_levelOf 18 = .ok (.ireturn, 1) := by decide +kernel
theorem dX2_levelOf_19 : decode cX2_levelOf 19 = .ok (.iconst 0, 1) := by decide +kernel
theorem dX2_levelOf_20 : decode cX2_levelOf 20 = .ok (.istore_n 2, 1) := by decide +kernel
theorem dX2_levelOf_21 : decode cX2_levelOf 21 = .ok (.aload_n 0, 1) := by decide +kernel
theorem dX2_levelOf_22 : decode cX2_levelOf 22 = .ok (.getfield 34, 3) := by decide +kernel
theorem dX2_levelOf_25 : decode cX2_levelOf 25 = .ok (.iload_n 1, 1) := by decide +kernel
theorem dX2_levelOf_26 : decode cX2_levelOf 26 = .ok (.iaload, 1) := by decide +kernel
theorem dX2_levelOf_27 : decode cX2_levelOf 27 = .ok (.istore_n 3, 1) := by decide +kernel
theorem dX2_levelOf_28 : decode cX2_levelOf 28 = .ok (.iconst 0, 1) := by decide +kernel
theorem dX2_levelOf_29 : decode cX2_levelOf 29 = .ok (.istore 4, 2) := by decide +kernel
theorem dX2_levelOf_31 : decode cX2_levelOf 31 = .ok (.iload 4, 2) := by decide +kernel
theorem dX2_levelOf_33 : decode cX2_levelOf 33 = .ok (.bipush 24, 2) := by decide +kernel
theorem dX2_levelOf_35 : decode cX2_levelOf 35 = .ok (.if_icmp .ge 27, 3) := by decide +kernel
theorem dX2_levelOf_38 : decode cX2_levelOf 38 = .ok (.aload_n 0, 1) := by decide +kernel
theorem dX2_levelOf_39 : decode cX2_levelOf 39 = .ok (.iload_n 3, 1) := by decide +kernel
theorem dX2_levelOf_40 : decode cX2_levelOf 40 = .ok (.invokevirtual 50, 3) := by decide +kernel
theorem dX2_levelOf_43 : decode cX2_levelOf 43 = .ok (.ifCond .eq 19, 3) := by decide +kernel
theorem dX2_levelOf_46 : decode cX2_levelOf 46 = .ok (.iinc 2 1, 3) := by decide +kernel
theorem dX2_levelOf_49 : decode cX2_levelOf 49 = .ok (.aload_n 0, 1) := by decide +kernel
theorem dX2_levelOf_50 : decode cX2_levelOf 50 = .ok (.getfield 34, 3) := by decide +kernel
theorem dX2_levelOf_53 : decode cX2_levelOf 53 = .ok (.iload_n 3, 1) := by decide +kernel
theorem dX2_levelOf_54 : decode cX2_levelOf 54 = .ok (.iaload, 1) := by decide +kernel
theorem dX2_levelOf_55 : decode cX2_levelOf 55 = .ok (.istore_n 3, 1) := by decide +kernel
theorem dX2_levelOf_56 : decode cX2_levelOf 56 = .ok (.iinc 4 1, 3) := by decide +kernel
theorem dX2_levelOf_59 : decode cX2_levelOf 59 = .ok (.goto (-28), 3) := by decide +kernel
theorem dX2_levelOf_62 : decode cX2_levelOf 62 = .ok (.iload_n 2, 1) := by decide +kernel
theorem dX2_levelOf_63 : decode cX2_levelOf 63 = .ok (.ireturn, 1) := by decide +kernel
noncomputable def B_X2_levelOf_31 (r0 : Nat) (k31 : (Int32 × Int32 × Int32) → fS → Option (Int32 × fS)) : (Int32 × Int32 × Int32) → fS → Option (Int32 × fS) := fun ⟨a2, a3, a4⟩ S => bb ((24 : Int32) ≤ a4) (some (a2, S)) (bd (F_X2_known r0 a3 S) (fun v2 S3 => bb (v2 = (0 : Int32)) (some (a2, S3)) (iv (a2 + Int32.ofInt 1) (fun x6 => gd (ib a3 24) (iv (ge S3 9 r0 (a3 : Int32).toNatClampNeg) (fun x8 => iv (a4 + Int32.ofInt 1) (fun x9 => k31 (x6, x8, x9) S3)))))))
noncomputable def F_X2_levelOf (r0 : Nat) (p1 : Int32) (S0 : fS) : Option (Int32 × fS) := bd (F_X2_known r0 p1 S0) (fun v10 S11 => bb (v10 = (0 : Int32)) (some ((-1), S11)) (gd (ib p1 24) (iv (ge S11 8 r0 (p1 : Int32).toNatClampNeg) (fun x15 => bb ((0 : Int32) ≤ x15) (gd (ib p1 24) (iv (ge S11 9 r0 (p1 : Int32).toNatClampNeg) (fun x18 => lp (B_X2_levelOf_31 r0 ) fuel (0, x18, 0) S11))) (some ((-1), S11))))))
set_option maxHeartbeats 4000000 in
set_option maxRecDepth 100000 in
theorem c_X2_levelOf (l : Launch) (D : va_G) (K : Nat → ClassId) (b0 : Nat) (sa : sT) (sz : Nat) (L : List Nat) (f0 : Nat → va_E) (ad : Nat → Nat → Nat) (P : Nat → Nat → Prop) {n : Nat × Nat} (hP : ∀ a i : Nat, isn n a i → P a i) (S0 : fS) (hw : PW K ad P S0 L f0) (hn : S0.2.2.1 = n) (r0 : Nat) (hr0 : r0 < 5) (p1 : Int32) (v : Int32) (S1 : fS) (h : F_X2_levelOf r0 p1 S0 = some (v, S1)) : Met l yX2_levelOf (.code yX2_levelOf cX2_levelOf 5 (some .int) :: gt) { frames := 1, cells := 0, slots := 0, locals := 21 } (va_Pc [.ref (ad 2 r0), .int p1] (hPre D K b0 sa sz L f0)) (hQ D K b0 (fun v9 u9 => ∃ f2 : Nat → va_E, v9 = some (.int v) ∧ u9 = lU L f2 ∧ PW K ad P S1 L f2 ∧ S1.2.2.1 = n ∧ Kp ad P L f0 f2)) 0 0 (fun q => b0 ≤ q) := by
  refine t_of (own := RX2) (by decide) rfl ?_ (Nat.le_of_ble_eq_true rfl)
  intro p e s m below meth c ls C w hsz hr hlk hnm hl
  have hx := C.1
  have hb := C.2.1
  have hl : lv_has ls 5 [(0, .ref (ad 2 r0)), (1, .int p1)] := hl
  have J31 : ∀ (fu : Nat) (a2 : Int32) (a3 : Int32) (a4 : Int32) (S : fS), lp (B_X2_levelOf_31 r0 ) fu (a2, a3, a4) S = some (v, S1) → Gw D K b0 sa ad P n L f0 p l e { frames := 1, cells := 0, slots := 0, locals := 21 } s m [.ref (ad 2 r0), .int p1].toArray below meth c 5 (MQ below (hQ D K b0 (fun v9 u9 => ∃ f2 : Nat → va_E, v9 = some (.int v) ∧ u9 = lU L f2 ∧ PW K ad P S1 L f2 ∧ S1.2.2.1 = n ∧ Kp ad P L f0 f2)) [.ref (ad 2 r0), .int p1].toArray s 0 0 (fun q => b0 ≤ q)) 0 0 31 [(0, .ref (ad 2 r0)), (2, .int a2), (3, .int a3), (4, .int a4)] [] S := by
    intro fu a2 a3 a4 S h
    refine lp_some (G := (fun q S => Gw D K b0 sa ad P n L f0 p l e { frames := 1, cells := 0, slots := 0, locals := 21 } s m [.ref (ad 2 r0), .int p1].toArray below meth c 5 (MQ below (hQ D K b0 (fun v9 u9 => ∃ f2 : Nat → va_E, v9 = some (.int v) ∧ u9 = lU L f2 ∧ PW K ad P S1 L f2 ∧ S1.2.2.1 = n ∧ Kp ad P L f0 f2)) [.ref (ad 2 r0), .int p1].toArray s 0 0 (fun q => b0 ≤ q)) 0 0 31 [(0, .ref (ad 2 r0)), (2, .int q.1), (3, .int q.2.1), (4, .int q.2.2)] [] S)) (fun k31 hk31 q S h => ?_) fu (a2, a3, a4) S h
    obtain ⟨a2, a3, a4⟩ := q
    have hk31 : ∀ (a2 : Int32) (a3 : Int32) (a4 : Int32) (S : fS), k31 (a2, a3, a4) S = some (v, S1) → Gw D K b0 sa ad P n L f0 p l e { frames := 1, cells := 0, slots := 0, locals := 21 } s m [.ref (ad 2 r0), .int p1].toArray below meth c 5 (MQ below (hQ D K b0 (fun v9 u9 => ∃ f2 : Nat → va_E, v9 = some (.int v) ∧ u9 = lU L f2 ∧ PW K ad P S1 L f2 ∧ S1.2.2.1 = n ∧ Kp ad P L f0 f2)) [.ref (ad 2 r0), .int p1].toArray s 0 0 (fun q => b0 ≤ q)) 0 0 31 [(0, .ref (ad 2 r0)), (2, .int a2), (3, .int a3), (4, .int a4)] [] S := fun a2 a3 a4 S h => hk31 (a2, a3, a4) S h
    dsimp only [B_X2_levelOf_31] at h
    intro f H locs w hw hn hk ls hl
    refine lv_iload hx hb dX2_levelOf_31 (lv_at hl 3 rfl) ?_
    refine lv_bipush (v := 24) hx hb dX2_levelOf_33 (by decide) ?_
    refine lv_icmp_ge (tgt := 62) hx hb dX2_levelOf_35 (by decide) (fun c1 => ?_) (fun c1 => ?_)
    · have h := bb_t h c1
      refine lv_iload_n hx hb dX2_levelOf_62 rfl (lv_at hl 1 rfl) ?_
      exact t_iret C hr hlk w ⟨_, so_v h, rfl, so_w h hw, so_n h hn, hk⟩ (by decide) (by decide) dX2_levelOf_63
    · have h := bb_f h c1
      refine lv_aload_n hx hb dX2_levelOf_38 rfl (lv_at hl 0 rfl) ?_
      refine lv_iload_n hx hb dX2_levelOf_39 rfl (lv_at hl 2 rfl) ?_
      obtain ⟨v2, S3, h4, h⟩ := bd_some h
      refine u_callV (n := 1) C w hw (hP _ _ (isn_f rfl rfl hr0)) rfl rfl rfl (c_X2_known l D K b0 sa _ L _ ad P hP S hw hn r0 hr0 a3 v2 S3 h4) gw_434 gw_439 gw_432 gw_433 gw_3 ⟨by decide, by decide, by decide +kernel⟩ rfl rfl ⟨by decide, by decide⟩ rfl hl.1 rfl (Nat.le_of_ble_eq_true rfl) dX2_levelOf_40 ⟨Nat.le_of_ble_eq_true rfl, Nat.le_of_ble_eq_true rfl⟩ (fun v9 u H locs hp w => ?_)
      obtain ⟨f2, rfl, rfl, hw, hn, hk1⟩ := hp
      have hk := hk.tr hk1
      generalize f2 = f at w hw hk
      refine lv_if_eq (tgt := 62) hx hb dX2_levelOf_43 (by decide) (fun c5 => ?_) (fun c5 => ?_)
      · have h := bb_t h c5
        refine lv_iload_n hx hb dX2_levelOf_62 rfl (lv_at hl 1 rfl) ?_
        exact t_iret C hr hlk w ⟨_, so_v h, rfl, so_w h hw, so_n h hn, hk⟩ (by decide) (by decide) dX2_levelOf_63
      · have h := bb_f h c5
        obtain ⟨x6, ex6, h⟩ := iv_some h
        refine lv_iinc (v := x6) (lv' := [(2, .int x6), (0, .ref (ad 2 r0)), (3, .int a3), (4, .int a4)]) hx hb dX2_levelOf_46 hl (k := 1) rfl ex6.symm (by decide) rfl (fun ls hl => ?_)
        refine lv_aload_n hx hb dX2_levelOf_49 rfl (lv_at hl 1 rfl) ?_
        refine u_getr C w hw (hP _ _ (isn_f rfl rfl hr0)) rfl (N := 9) rfl rfl cin_2 7 (by decide) (by decide) (a2 := 9) (i2 := r0) rfl gw_62 dX2_levelOf_50 ?_
        refine lv_iload_n hx hb dX2_levelOf_53 rfl (lv_at hl 2 rfl) ?_
        obtain ⟨g7, h⟩ := gd_some h
        refine u_iald C w hw (hP _ _ (isn_f rfl rfl hr0)) rfl rfl (n := 24) rfl (vp_in_iff.mpr g7) dX2_levelOf_54 ?_
        refine u_iv h (fun x8 h => ?_)
        refine lv_istore_n (lv' := [(3, .int x8), (2, .int x6), (0, .ref (ad 2 r0)), (4, .int a4)]) hx hb dX2_levelOf_55 rfl hl (by decide) rfl (fun ls hl => ?_)
        obtain ⟨x9, ex9, h⟩ := iv_some h
        refine lv_iinc (v := x9) (lv' := [(4, .int x9), (3, .int x8), (2, .int x6), (0, .ref (ad 2 r0))]) hx hb dX2_levelOf_56 hl (k := 3) rfl ex9.symm (by decide) rfl (fun ls hl => ?_)
        refine lv_goto (tgt := 31) hx hb dX2_levelOf_59 (by decide) ?_
        exact hk31 x6 x8 x9 S3 h f H locs w hw hn hk ls (lv_sub hl [3, 2, 1, 0] rfl)
  dsimp only [F_X2_levelOf] at h
  obtain ⟨f, ef⟩ : ∃ z, z = f0 := ⟨_, rfl⟩
  rw [← ef] at w hw
  have hk : Kp ad P L f0 f := by rw [ef]; exact Kp.rf
  obtain ⟨H, eH⟩ : ∃ z, z = s.heap := ⟨_, rfl⟩
  obtain ⟨locs, el⟩ : ∃ z : List Loc, z = [] := ⟨_, rfl⟩
  rw [← eH, ← el] at w ⊢
  refine lv_aload_n hx hb dX2_levelOf_0 rfl (lv_at hl 0 rfl) ?_
  refine lv_iload_n hx hb dX2_levelOf_1 rfl (lv_at hl 1 rfl) ?_
  obtain ⟨v10, S11, h12, h⟩ := bd_some h
  refine u_callV (n := 1) C w hw (hP _ _ (isn_f rfl rfl hr0)) rfl rfl rfl (c_X2_known l D K b0 sa _ L _ ad P hP S0 hw hn r0 hr0 p1 v10 S11 h12) gw_434 gw_439 gw_432 gw_433 gw_3 ⟨by decide, by decide, by decide +kernel⟩ rfl rfl ⟨by decide, by decide⟩ rfl hl.1 rfl (Nat.le_of_ble_eq_true rfl) dX2_levelOf_2 ⟨Nat.le_of_ble_eq_true rfl, Nat.le_of_ble_eq_true rfl⟩ (fun v9 u H locs hp w => ?_)
  obtain ⟨f2, rfl, rfl, hw, hn, hk1⟩ := hp
  have hk := hk.tr hk1
  generalize f2 = f at w hw hk
  refine lv_if_eq (tgt := 17) hx hb dX2_levelOf_5 (by decide) (fun c13 => ?_) (fun c13 => ?_)
  · have h := bb_t h c13
    refine lv_iconst (v := (-1)) hx hb dX2_levelOf_17 (by decide) ?_
    exact t_iret C hr hlk w ⟨_, so_v h, rfl, so_w h hw, so_n h hn, hk⟩ (by decide) (by decide) dX2_levelOf_18
  · have h := bb_f h c13
    refine lv_aload_n hx hb dX2_levelOf_8 rfl (lv_at hl 0 rfl) ?_
    refine u_getr C w hw (hP _ _ (isn_f rfl rfl hr0)) rfl (N := 9) rfl rfl cin_2 6 (by decide) (by decide) (a2 := 8) (i2 := r0) rfl gw_60 dX2_levelOf_9 ?_
    refine lv_iload_n hx hb dX2_levelOf_12 rfl (lv_at hl 1 rfl) ?_
    obtain ⟨g14, h⟩ := gd_some h
    refine u_iald C w hw (hP _ _ (isn_f rfl rfl hr0)) rfl rfl (n := 24) rfl (vp_in_iff.mpr g14) dX2_levelOf_13 ?_
    refine u_iv h (fun x15 h => ?_)
    refine lv_if_ge (tgt := 19) hx hb dX2_levelOf_14 (by decide) (fun c16 => ?_) (fun c16 => ?_)
    · have h := bb_t h c16
      refine lv_iconst (v := 0) hx hb dX2_levelOf_19 (by decide) ?_
      refine lv_istore_n (lv' := [(2, .int 0), (0, .ref (ad 2 r0)), (1, .int p1)]) hx hb dX2_levelOf_20 rfl hl (by decide) rfl (fun ls hl => ?_)
      refine lv_aload_n hx hb dX2_levelOf_21 rfl (lv_at hl 1 rfl) ?_
      refine u_getr C w hw (hP _ _ (isn_f rfl rfl hr0)) rfl (N := 9) rfl rfl cin_2 7 (by decide) (by decide) (a2 := 9) (i2 := r0) rfl gw_62 dX2_levelOf_22 ?_
      refine lv_iload_n hx hb dX2_levelOf_25 rfl (lv_at hl 2 rfl) ?_
      obtain ⟨g17, h⟩ := gd_some h
      refine u_iald C w hw (hP _ _ (isn_f rfl rfl hr0)) rfl rfl (n := 24) rfl (vp_in_iff.mpr g17) dX2_levelOf_26 ?_
      refine u_iv h (fun x18 h => ?_)
      refine lv_istore_n (lv' := [(3, .int x18), (2, .int 0), (0, .ref (ad 2 r0)), (1, .int p1)]) hx hb dX2_levelOf_27 rfl hl (by decide) rfl (fun ls hl => ?_)
      refine lv_iconst (v := 0) hx hb dX2_levelOf_28 (by decide) ?_
      refine lv_istore (lv' := [(4, .int 0), (3, .int x18), (2, .int 0), (0, .ref (ad 2 r0)), (1, .int p1)]) hx hb dX2_levelOf_29 hl (by decide) rfl (fun ls hl => ?_)
      exact J31  fuel 0 x18 0 S11 h f H locs w hw hn hk ls (lv_sub hl [3, 2, 1, 0] rfl)
    · have h := bb_f h c16
      refine lv_iconst (v := (-1)) hx hb dX2_levelOf_17 (by decide) ?_
      exact t_iret C hr hlk w ⟨_, so_v h, rfl, so_w h hw, so_n h hn, hk⟩ (by decide) (by decide) dX2_levelOf_18
theorem dX2_countAt_0 : decode cX2_countAt 0 = .ok (.iconst 0, 1) := by decide +kernel
theorem dX2_countAt_1 : decode cX2_countAt 1 = .ok (.istore_n 2, 1) := by decide +kernel
theorem dX2_countAt_2 : decode cX2_countAt 2 = .ok (.iconst 0, 1) := by decide +kernel
theorem dX2_countAt_3 : decode cX2_countAt 3 = .ok (.istore_n 3, 1) := by decide +kernel
theorem dX2_countAt_4 : decode cX2_countAt 4 = .ok (.iload_n 3, 1) := by decide +kernel
theorem dX2_countAt_5 : decode cX2_countAt 5 = .ok (.aload_n 0, 1) := by decide +kernel
theorem dX2_countAt_6 : decode cX2_countAt 6 = .ok (.getfield 9, 3) := by decide +kernel
theorem dX2_countAt_9 : decode cX2_countAt 9 = .ok (.if_icmp .ge 27, 3) := by decide +kernel
theorem dX2_countAt_12 : decode cX2_countAt 12 = .ok (.iload_n 2, 1) := by decide +kernel
theorem dX2_countAt_13 : decode cX2_countAt 13 = .ok (.aload_n 0, 1) := by decide +kernel
theorem dX2_countAt_14 : decode cX2_countAt 14 = .ok (.getfield 31, 3) := by decide +kernel
theorem dX2_countAt_17 : decode cX2_countAt 17 = .ok (.iload_n 3, 1) := by decide +kernel
theorem dX2_countAt_18 : decode cX2_countAt 18 = .ok (.iaload, 1) := by decide +kernel
theorem dX2_countAt_19 : decode cX2_countAt 19 = .ok (.iload_n 1, 1) := by decide +kernel
theorem dX2_countAt_20 : decode cX2_countAt 20 = .ok (.if_icmp .ne 7, 3) := by decide +kernel
theorem dX2_countAt_23 : decode cX2_countAt 23 = .ok (.iconst 1, 1) := by decide +kernel
theorem dX2_countAt_24 : decode cX2_countAt 24 = .ok (.goto 4, 3) := by decide +kernel
theorem dX2_countAt_27 : decode cX2_countAt 27 = .ok (.iconst 0, 1) := by decide +kernel
theorem dX2_countAt_28 : decode cX2_countAt 28 = .ok (.iadd, 1) := by decide +kernel
theorem dX2_countAt_29 : decode cX2_countAt 29 = .ok (.istore_n 2, 1) := by decide +kernel
theorem dX2_countAt_30 : decode cX2_countAt 30 = .ok (.iinc 3 1, 3) := by decide +kernel
theorem dX2_countAt_33 : decode cX2_countAt 33 = .ok (.goto (-29), 3) := by decide +kernel
theorem dX2_countAt_36 : decode cX2_countAt 36 = .ok (.iload_n 2, 1) := by decide +kernel
theorem dX2_countAt_37 : decode cX2_countAt 37 = .ok (.ireturn, 1) := by decide +kernel
noncomputable def B_X2_countAt_28 (r0 : Nat) (k4 : (Int32 × Int32 × Int32) → fS → Option (Int32 × fS)) (a1 : Int32) (a3 : Int32) (t0 : Int32) (t1 : Int32) (S : fS) : Option (Int32 × fS) := iv (t1 + t0) (fun x1 => iv (a3 + Int32.ofInt 1) (fun x2 => k4 (a1, x1, x2) S))
noncomputable def B_X2_countAt_4 (r0 : Nat) (k4 : (Int32 × Int32 × Int32) → fS → Option (Int32 × fS)) : (Int32 × Int32 × Int32) → fS → Option (Int32 × fS) := fun ⟨a1, a2, a3⟩ S => iv (ge S 2 r0 0) (fun x3 => bb (x3 ≤ a3) (some (a2, S)) (gd (ib a3 24) (iv (ge S 8 r0 (a3 : Int32).toNatClampNeg) (fun x6 => bb (x6 = a1) (B_X2_countAt_28 r0 k4 a1 a3 1 a2 S) (B_X2_countAt_28 r0 k4 a1 a3 0 a2 S)))))
noncomputable def F_X2_countAt (r0 : Nat) (p1 : Int32) (S0 : fS) : Option (Int32 × fS) := lp (B_X2_countAt_4 r0 ) fuel (p1, 0, 0) S0
set_option maxHeartbeats 4000000 in
set_option maxRecDepth 100000 in
theorem c_X2_countAt (l : Launch) (D : va_G) (K : Nat → ClassId) (b0 : Nat) (sa : sT) (sz : Nat) (L : List Nat) (f0 : Nat → va_E) (ad : Nat → Nat → Nat) (P : Nat → Nat → Prop) {n : Nat × Nat} (hP : ∀ a i : Nat, isn n a i → P a i) (S0 : fS) (hw : PW K ad P S0 L f0) (hn : S0.2.2.1 = n) (r0 : Nat) (hr0 : r0 < 5) (p1 : Int32) (v : Int32) (S1 : fS) (h : F_X2_countAt r0 p1 S0 = some (v, S1)) : Met l yX2_countAt (.code yX2_countAt cX2_countAt 4 (some .int) :: gt) { frames := 0, cells := 0, slots := 0, locals := 0 } (va_Pc [.ref (ad 2 r0), .int p1] (hPre D K b0 sa sz L f0)) (hQ D K b0 (fun v9 u9 => ∃ f2 : Nat → va_E, v9 = some (.int v) ∧ u9 = lU L f2 ∧ PW K ad P S1 L f2 ∧ S1.2.2.1 = n ∧ Kp ad P L f0 f2)) 0 0 (fun q => b0 ≤ q) := by
  refine t_of (own := RX2) (by decide) rfl ?_ (Nat.le_of_ble_eq_true rfl)
  intro p e s m below meth c ls C w hsz hr hlk hnm hl
  have hx := C.1
  have hb := C.2.1
  have hl : lv_has ls 4 [(0, .ref (ad 2 r0)), (1, .int p1)] := hl
  have J28 : ∀ (k4 : (Int32 × Int32 × Int32) → fS → Option (Int32 × fS)) (hk4 : ∀ (a1 : Int32) (a2 : Int32) (a3 : Int32) (S : fS), k4 (a1, a2, a3) S = some (v, S1) → Gw D K b0 sa ad P n L f0 p l e { frames := 0, cells := 0, slots := 0, locals := 0 } s m [.ref (ad 2 r0), .int p1].toArray below meth c 4 (MQ below (hQ D K b0 (fun v9 u9 => ∃ f2 : Nat → va_E, v9 = some (.int v) ∧ u9 = lU L f2 ∧ PW K ad P S1 L f2 ∧ S1.2.2.1 = n ∧ Kp ad P L f0 f2)) [.ref (ad 2 r0), .int p1].toArray s 0 0 (fun q => b0 ≤ q)) 0 0 4 [(0, .ref (ad 2 r0)), (1, .int a1), (2, .int a2), (3, .int a3)] [] S) (a1 : Int32) (a3 : Int32) (t0 : Int32) (t1 : Int32) (S : fS), B_X2_countAt_28 r0 k4 a1 a3 t0 t1 S = some (v, S1) → Gw D K b0 sa ad P n L f0 p l e { frames := 0, cells := 0, slots := 0, locals := 0 } s m [.ref (ad 2 r0), .int p1].toArray below meth c 4 (MQ below (hQ D K b0 (fun v9 u9 => ∃ f2 : Nat → va_E, v9 = some (.int v) ∧ u9 = lU L f2 ∧ PW K ad P S1 L f2 ∧ S1.2.2.1 = n ∧ Kp ad P L f0 f2)) [.ref (ad 2 r0), .int p1].toArray s 0 0 (fun q => b0 ≤ q)) 0 0 28 [(0, .ref (ad 2 r0)), (1, .int a1), (3, .int a3)] [.int t0, .int t1] S := by
    intro k4 hk4 a1 a3 t0 t1 S h
    dsimp only [B_X2_countAt_28] at h
    intro f H locs w hw hn hk ls hl
    refine lv_iadd hx hb dX2_countAt_28 ?_
    refine u_iv h (fun x1 h => ?_)
    refine lv_istore_n (lv' := [(2, .int x1), (0, .ref (ad 2 r0)), (1, .int a1), (3, .int a3)]) hx hb dX2_countAt_29 rfl hl (by decide) rfl (fun ls hl => ?_)
    obtain ⟨x2, ex2, h⟩ := iv_some h
    refine lv_iinc (v := x2) (lv' := [(3, .int x2), (2, .int x1), (0, .ref (ad 2 r0)), (1, .int a1)]) hx hb dX2_countAt_30 hl (k := 3) rfl ex2.symm (by decide) rfl (fun ls hl => ?_)
    refine lv_goto (tgt := 4) hx hb dX2_countAt_33 (by decide) ?_
    exact hk4 a1 x1 x2 S h f H locs w hw hn hk ls (lv_sub hl [2, 3, 1, 0] rfl)
  have J4 : ∀ (fu : Nat) (a1 : Int32) (a2 : Int32) (a3 : Int32) (S : fS), lp (B_X2_countAt_4 r0 ) fu (a1, a2, a3) S = some (v, S1) → Gw D K b0 sa ad P n L f0 p l e { frames := 0, cells := 0, slots := 0, locals := 0 } s m [.ref (ad 2 r0), .int p1].toArray below meth c 4 (MQ below (hQ D K b0 (fun v9 u9 => ∃ f2 : Nat → va_E, v9 = some (.int v) ∧ u9 = lU L f2 ∧ PW K ad P S1 L f2 ∧ S1.2.2.1 = n ∧ Kp ad P L f0 f2)) [.ref (ad 2 r0), .int p1].toArray s 0 0 (fun q => b0 ≤ q)) 0 0 4 [(0, .ref (ad 2 r0)), (1, .int a1), (2, .int a2), (3, .int a3)] [] S := by
    intro fu a1 a2 a3 S h
    refine lp_some (G := (fun q S => Gw D K b0 sa ad P n L f0 p l e { frames := 0, cells := 0, slots := 0, locals := 0 } s m [.ref (ad 2 r0), .int p1].toArray below meth c 4 (MQ below (hQ D K b0 (fun v9 u9 => ∃ f2 : Nat → va_E, v9 = some (.int v) ∧ u9 = lU L f2 ∧ PW K ad P S1 L f2 ∧ S1.2.2.1 = n ∧ Kp ad P L f0 f2)) [.ref (ad 2 r0), .int p1].toArray s 0 0 (fun q => b0 ≤ q)) 0 0 4 [(0, .ref (ad 2 r0)), (1, .int q.1), (2, .int q.2.1), (3, .int q.2.2)] [] S)) (fun k4 hk4 q S h => ?_) fu (a1, a2, a3) S h
    obtain ⟨a1, a2, a3⟩ := q
    have hk4 : ∀ (a1 : Int32) (a2 : Int32) (a3 : Int32) (S : fS), k4 (a1, a2, a3) S = some (v, S1) → Gw D K b0 sa ad P n L f0 p l e { frames := 0, cells := 0, slots := 0, locals := 0 } s m [.ref (ad 2 r0), .int p1].toArray below meth c 4 (MQ below (hQ D K b0 (fun v9 u9 => ∃ f2 : Nat → va_E, v9 = some (.int v) ∧ u9 = lU L f2 ∧ PW K ad P S1 L f2 ∧ S1.2.2.1 = n ∧ Kp ad P L f0 f2)) [.ref (ad 2 r0), .int p1].toArray s 0 0 (fun q => b0 ≤ q)) 0 0 4 [(0, .ref (ad 2 r0)), (1, .int a1), (2, .int a2), (3, .int a3)] [] S := fun a1 a2 a3 S h => hk4 (a1, a2, a3) S h
    dsimp only [B_X2_countAt_4] at h
    intro f H locs w hw hn hk ls hl
    refine lv_iload_n hx hb dX2_countAt_4 rfl (lv_at hl 3 rfl) ?_
    refine lv_aload_n hx hb dX2_countAt_5 rfl (lv_at hl 0 rfl) ?_
    refine u_geti C w hw (hP _ _ (isn_f rfl rfl hr0)) rfl (N := 9) rfl rfl cin_2 0 (by decide) rfl gw_46 dX2_countAt_6 ?_
    refine u_iv h (fun x3 h => ?_)
    refine lv_icmp_ge (tgt := 36) hx hb dX2_countAt_9 (by decide) (fun c4 => ?_) (fun c4 => ?_)
    · have h := bb_t h c4
      refine lv_iload_n hx hb dX2_countAt_36 rfl (lv_at hl 2 rfl) ?_
      exact t_iret C hr hlk w ⟨_, so_v h, rfl, so_w h hw, so_n h hn, hk⟩ (by decide) (by decide) dX2_countAt_37
    · have h := bb_f h c4
      refine lv_iload_n hx hb dX2_countAt_12 rfl (lv_at hl 2 rfl) ?_
      refine lv_aload_n hx hb dX2_countAt_13 rfl (lv_at hl 0 rfl) ?_
      refine u_getr C w hw (hP _ _ (isn_f rfl rfl hr0)) rfl (N := 9) rfl rfl cin_2 6 (by decide) (by decide) (a2 := 8) (i2 := r0) rfl gw_60 dX2_countAt_14 ?_
      refine lv_iload_n hx hb dX2_countAt_17 rfl (lv_at hl 3 rfl) ?_
      obtain ⟨g5, h⟩ := gd_some h
      refine u_iald C w hw (hP _ _ (isn_f rfl rfl hr0)) rfl rfl (n := 24) rfl (vp_in_iff.mpr g5) dX2_countAt_18 ?_
      refine u_iv h (fun x6 h => ?_)
      refine lv_iload_n hx hb dX2_countAt_19 rfl (lv_at hl 1 rfl) ?_
      refine lv_icmp_ne (tgt := 27) hx hb dX2_countAt_20 (by decide) (fun c7 => ?_) (fun c7 => ?_)
      · have h := bb_f h c7
        refine lv_iconst (v := 0) hx hb dX2_countAt_27 (by decide) ?_
        exact J28 k4 hk4 a1 a3 0 a2 S h f H locs w hw hn hk ls (lv_sub hl [0, 1, 3] rfl)
      · have h := bb_t h c7
        refine lv_iconst (v := 1) hx hb dX2_countAt_23 (by decide) ?_
        refine lv_goto (tgt := 28) hx hb dX2_countAt_24 (by decide) ?_
        exact J28 k4 hk4 a1 a3 1 a2 S h f H locs w hw hn hk ls (lv_sub hl [0, 1, 3] rfl)
  dsimp only [F_X2_countAt] at h
  obtain ⟨f, ef⟩ : ∃ z, z = f0 := ⟨_, rfl⟩
  rw [← ef] at w hw
  have hk : Kp ad P L f0 f := by rw [ef]; exact Kp.rf
  obtain ⟨H, eH⟩ : ∃ z, z = s.heap := ⟨_, rfl⟩
  obtain ⟨locs, el⟩ : ∃ z : List Loc, z = [] := ⟨_, rfl⟩
  rw [← eH, ← el] at w ⊢
  refine lv_iconst (v := 0) hx hb dX2_countAt_0 (by decide) ?_
  refine lv_istore_n (lv' := [(2, .int 0), (0, .ref (ad 2 r0)), (1, .int p1)]) hx hb dX2_countAt_1 rfl hl (by decide) rfl (fun ls hl => ?_)
  refine lv_iconst (v := 0) hx hb dX2_countAt_2 (by decide) ?_
  refine lv_istore_n (lv' := [(3, .int 0), (2, .int 0), (0, .ref (ad 2 r0)), (1, .int p1)]) hx hb dX2_countAt_3 rfl hl (by decide) rfl (fun ls hl => ?_)
  exact J4  fuel p1 0 0 S0 h f H locs w hw hn hk ls (lv_sub hl [2, 3, 1, 0] rfl)
