theorem dJ9_floorDiv_7cf53_0 : decode cJ9_floorDiv_7cf53 0 = .ok (.iload_n 0, 1) := by decide +kernel
theorem dJ9_floorDiv_7cf53_1 : decode cJ9_floorDiv_7cf53 1 = .ok (.iload_n 1, 1) := by decide +kernel
theorem dJ9_floorDiv_7cf53_2 : decode cJ9_floorDiv_7cf53 2 = .ok (.idiv, 1) := by decide +kernel
theorem dJ9_floorDiv_7cf53_3 : decode cJ9_floorDiv_7cf53 3 = .ok (.istore_n 2, 1) := by decide +kernel
theorem dJ9_floorDiv_7cf53_4 : decode cJ9_floorDiv_7cf53 4 = .ok (.iload_n 0, 1) := by decide +kernel
theorem dJ9_floorDiv_7cf53_5 : decode cJ9_floorDiv_7cf53 5 = .ok (.iload_n 1, 1) := by decide +kernel
theorem dJ9_floorDiv_7cf53_6 : decode cJ9_floorDiv_7cf53 6 = .ok (.ixor, 1) := by decide +kernel
theorem dJ9_floorDiv_7cf53_7 : decode cJ9_floorDiv_7cf53 7 = .ok (.ifCond .ge 14, 3) := by decide +kernel
theorem dJ9_floorDiv_7cf53_10 : decode cJ9_floorDiv_7cf53 10 = .ok (.iload_n 2, 1) := by decide +kernel
theorem dJ9_floorDiv_7cf53_11 : decode cJ9_floorDiv_7cf53 11 = .ok (.iload_n 1, 1) := by decide +kernel
theorem dJ9_floorDiv_7cf53_12 : decode cJ9_floorDiv_7cf53 12 = .ok (.imul, 1) := by decide +kernel
theorem dJ9_floorDiv_7cf53_13 : decode cJ9_floorDiv_7cf53 13 = .ok (.iload_n 0, 1) := by decide +kernel
theorem dJ9_floorDiv_7cf53_14 : decode cJ9_floorDiv_7cf53 14 = .ok (.if_icmp .eq 7, 3) := by decide +kernel
theorem dJ9_floorDiv_7cf53_17 : decode cJ9_floorDiv_7cf53 17 = .ok (.iload_n 2, 1) := by decide +kernel
theorem dJ9_floorDiv_7cf53_18 : decode cJ9_floorDiv_7cf53 18 = .ok (.iconst 1, 1) := by decide +kernel
theorem dJ9_floorDiv_7cf53_19 : decode cJ9_floorDiv_7cf53 19 = .ok (.isub, 1) := by decide +kernel
theorem dJ9_floorDiv_7cf53_20 : decode cJ9_floorDiv_7cf53 20 = .ok (.ireturn, 1) := by decide +kernel
theorem dJ9_floorDiv_7cf53_21 : decode cJ9_floorDiv_7cf53 21 = .ok (.iload_n 2, 1) := by decide +kernel
theorem dJ9_floorDiv_7cf53_22 : decode cJ9_floorDiv_7cf53 22 = .ok (.ireturn, 1) := by decide +kernel
noncomputable def F_J9_floorDiv_7cf53 (p0 : Int32) (p1 : Int32) (S0 : fS) : Option (Int32 × fS) := gd (¬ p1 = 0) (iv (p0 / p1) (fun x2 => iv (p0 ^^^ p1) (fun x3 => bb ((0 : Int32) ≤ x3) (some (x2, S0)) (iv (x2 * p1) (fun x5 => bb (x5 = p0) (some (x2, S0)) (iv (x2 - (1 : Int32)) (fun x7 => some (x7, S0))))))))
set_option maxHeartbeats 4000000 in
set_option maxRecDepth 100000 in
theorem c_J9_floorDiv_7cf53 (l : Launch) (D : va_G) (K : Nat → ClassId) (b0 : Nat) (sa : sT) (sz : Nat) (L : List Nat) (f0 : Nat → va_E) (ad : Nat → Nat → Nat) (P : Nat → Nat → Prop) {n : Nat × Nat} (hP : ∀ a i : Nat, isn n a i → P a i) (S0 : fS) (hw : PW K ad P S0 L f0) (hn : S0.2.2.1 = n) (p0 : Int32) (p1 : Int32) (v : Int32) (S1 : fS) (h : F_J9_floorDiv_7cf53 p0 p1 S0 = some (v, S1)) : Met l yJ9_floorDiv_7cf53 (.code yJ9_floorDiv_7cf53 cJ9_floorDiv_7cf53 3 (some .int) :: gt) { frames := 0, cells := 0, slots := 0, locals := 0 } (va_Pc [.int p0, .int p1] (hPre D K b0 sa sz L f0)) (hQ D K b0 (fun v9 u9 => ∃ f2 : Nat → va_E, v9 = some (.int v) ∧ u9 = lU L f2 ∧ PW K ad P S1 L f2 ∧ S1.2.2.1 = n ∧ Kp ad P L f0 f2)) 0 0 (fun q => b0 ≤ q) := by
  refine t_ofF (own := RJ9) (by decide +kernel) rfl ?_ (Nat.le_of_ble_eq_true rfl)
  intro p e s m below meth c ls C w hsz hr hlk hnm hl
  have hx := C.1
  have hb := C.2.1
  have hl : lv_has ls 3 [(0, .int p0), (1, .int p1)] := hl
  dsimp only [F_J9_floorDiv_7cf53] at h
  obtain ⟨f, ef⟩ : ∃ z, z = f0 := ⟨_, rfl⟩
  rw [← ef] at w hw
  have hk : Kp ad P L f0 f := by rw [ef]; exact Kp.rf
  obtain ⟨H, eH⟩ : ∃ z, z = s.heap := ⟨_, rfl⟩
  obtain ⟨locs, el⟩ : ∃ z : List Loc, z = [] := ⟨_, rfl⟩
  rw [← eH, ← el] at w ⊢
  refine lv_iload_n hx hb dJ9_floorDiv_7cf53_0 rfl (lv_at hl 0 rfl) ?_
  refine lv_iload_n hx hb dJ9_floorDiv_7cf53_1 rfl (lv_at hl 1 rfl) ?_
  obtain ⟨g1, h⟩ := gd_some h
  refine lv_idiv hx hb dJ9_floorDiv_7cf53_2 g1 ?_
  refine u_iv h (fun x2 h => ?_)
  refine lv_istore_n (lv' := [(2, .int x2), (0, .int p0), (1, .int p1)]) hx hb dJ9_floorDiv_7cf53_3 rfl hl (by decide) rfl (fun ls hl => ?_)
  refine lv_iload_n hx hb dJ9_floorDiv_7cf53_4 rfl (lv_at hl 1 rfl) ?_
  refine lv_iload_n hx hb dJ9_floorDiv_7cf53_5 rfl (lv_at hl 2 rfl) ?_
  refine lv_ixor hx hb dJ9_floorDiv_7cf53_6 ?_
  refine u_iv h (fun x3 h => ?_)
  refine lv_if_ge (tgt := 21) hx hb dJ9_floorDiv_7cf53_7 (by decide) (fun c4 => ?_) (fun c4 => ?_)
  · have h := bb_t h c4
    refine lv_iload_n hx hb dJ9_floorDiv_7cf53_21 rfl (lv_at hl 0 rfl) ?_
    exact t_iret C hr hlk w ⟨_, so_v h, rfl, so_w h hw, so_n h hn, hk⟩ (by decide) (by decide) dJ9_floorDiv_7cf53_22
  · have h := bb_f h c4
    refine lv_iload_n hx hb dJ9_floorDiv_7cf53_10 rfl (lv_at hl 0 rfl) ?_
    refine lv_iload_n hx hb dJ9_floorDiv_7cf53_11 rfl (lv_at hl 2 rfl) ?_
    refine lv_imul hx hb dJ9_floorDiv_7cf53_12 ?_
    refine u_iv h (fun x5 h => ?_)
    refine lv_iload_n hx hb dJ9_floorDiv_7cf53_13 rfl (lv_at hl 1 rfl) ?_
    refine lv_icmp_eq (tgt := 21) hx hb dJ9_floorDiv_7cf53_14 (by decide) (fun c6 => ?_) (fun c6 => ?_)
    · have h := bb_t h c6
      refine lv_iload_n hx hb dJ9_floorDiv_7cf53_21 rfl (lv_at hl 0 rfl) ?_
      exact t_iret C hr hlk w ⟨_, so_v h, rfl, so_w h hw, so_n h hn, hk⟩ (by decide) (by decide) dJ9_floorDiv_7cf53_22
    · have h := bb_f h c6
      refine lv_iload_n hx hb dJ9_floorDiv_7cf53_17 rfl (lv_at hl 0 rfl) ?_
      refine lv_iconst (v := 1) hx hb dJ9_floorDiv_7cf53_18 (by decide) ?_
      refine lv_isub hx hb dJ9_floorDiv_7cf53_19 ?_
      refine u_iv h (fun x7 h => ?_)
      exact t_iret C hr hlk w ⟨_, so_v h, rfl, so_w h hw, so_n h hn, hk⟩ (by decide) (by decide) dJ9_floorDiv_7cf53_20
theorem dJ9_floorMod_7cf53_0 : decode cJ9_floorMod_7cf53 0 = .ok (.iload_n 0, 1) := by decide +kernel
theorem dJ9_floorMod_7cf53_1 : decode cJ9_floorMod_7cf53 1 = .ok (.iload_n 1, 1) := by decide +kernel
theorem dJ9_floorMod_7cf53_2 : decode cJ9_floorMod_7cf53 2 = .ok (.irem, 1) := by decide +kernel
theorem dJ9_floorMod_7cf53_3 : decode cJ9_floorMod_7cf53 3 = .ok (.istore_n 2, 1) := by decide +kernel
theorem dJ9_floorMod_7cf53_4 : decode cJ9_floorMod_7cf53 4 = .ok (.iload_n 0, 1) := by decide +kernel
theorem dJ9_floorMod_7cf53_5 : decode cJ9_floorMod_7cf53 5 = .ok (.iload_n 1, 1) := by decide +kernel
theorem dJ9_floorMod_7cf53_6 : decode cJ9_floorMod_7cf53 6 = .ok (.ixor, 1) := by decide +kernel
theorem dJ9_floorMod_7cf53_7 : decode cJ9_floorMod_7cf53 7 = .ok (.ifCond .ge 11, 3) := by decide +kernel
theorem dJ9_floorMod_7cf53_10 : decode cJ9_floorMod_7cf53 10 = .ok (.iload_n 2, 1) := by decide +kernel
theorem dJ9_floorMod_7cf53_11 : decode cJ9_floorMod_7cf53 11 = .ok (.ifCond .eq 7, 3) := by decide +kernel
theorem dJ9_floorMod_7cf53_14 : decode cJ9_floorMod_7cf53 14 = .ok (.iload_n 2, 1) := by decide +kernel
theorem dJ9_floorMod_7cf53_15 : decode cJ9_floorMod_7cf53 15 = .ok (.iload_n 1, 1) := by decide +kernel
theorem dJ9_floorMod_7cf53_16 : decode cJ9_floorMod_7cf53 16 = .ok (.iadd, 1) := by decide +kernel
theorem dJ9_floorMod_7cf53_17 : decode cJ9_floorMod_7cf53 17 = .ok (.ireturn, 1) := by decide +kernel
theorem dJ9_floorMod_7cf53_18 : decode cJ9_floorMod_7cf53 18 = .ok (.iload_n 2, 1) := by decide +kernel
theorem dJ9_floorMod_7cf53_19 : decode cJ9_floorMod_7cf53 19 = .ok (.ireturn, 1) := by decide +kernel
noncomputable def F_J9_floorMod_7cf53 (p0 : Int32) (p1 : Int32) (S0 : fS) : Option (Int32 × fS) := gd (¬ p1 = 0) (iv (p0 - p0 / p1 * p1) (fun x2 => iv (p0 ^^^ p1) (fun x3 => bb ((0 : Int32) ≤ x3) (some (x2, S0)) (bb (x2 = (0 : Int32)) (some (x2, S0)) (iv (x2 + p1) (fun x6 => some (x6, S0)))))))
set_option maxHeartbeats 4000000 in
set_option maxRecDepth 100000 in
theorem c_J9_floorMod_7cf53 (l : Launch) (D : va_G) (K : Nat → ClassId) (b0 : Nat) (sa : sT) (sz : Nat) (L : List Nat) (f0 : Nat → va_E) (ad : Nat → Nat → Nat) (P : Nat → Nat → Prop) {n : Nat × Nat} (hP : ∀ a i : Nat, isn n a i → P a i) (S0 : fS) (hw : PW K ad P S0 L f0) (hn : S0.2.2.1 = n) (p0 : Int32) (p1 : Int32) (v : Int32) (S1 : fS) (h : F_J9_floorMod_7cf53 p0 p1 S0 = some (v, S1)) : Met l yJ9_floorMod_7cf53 (.code yJ9_floorMod_7cf53 cJ9_floorMod_7cf53 3 (some .int) :: gt) { frames := 0, cells := 0, slots := 0, locals := 0 } (va_Pc [.int p0, .int p1] (hPre D K b0 sa sz L f0)) (hQ D K b0 (fun v9 u9 => ∃ f2 : Nat → va_E, v9 = some (.int v) ∧ u9 = lU L f2 ∧ PW K ad P S1 L f2 ∧ S1.2.2.1 = n ∧ Kp ad P L f0 f2)) 0 0 (fun q => b0 ≤ q) := by
  refine t_ofF (own := RJ9) (by decide +kernel) rfl ?_ (Nat.le_of_ble_eq_true rfl)
  intro p e s m below meth c ls C w hsz hr hlk hnm hl
  have hx := C.1
  have hb := C.2.1
  have hl : lv_has ls 3 [(0, .int p0), (1, .int p1)] := hl
  dsimp only [F_J9_floorMod_7cf53] at h
  obtain ⟨f, ef⟩ : ∃ z, z = f0 := ⟨_, rfl⟩
  rw [← ef] at w hw
  have hk : Kp ad P L f0 f := by rw [ef]; exact Kp.rf
  obtain ⟨H, eH⟩ : ∃ z, z = s.heap := ⟨_, rfl⟩
  obtain ⟨locs, el⟩ : ∃ z : List Loc, z = [] := ⟨_, rfl⟩
  rw [← eH, ← el] at w ⊢
  refine lv_iload_n hx hb dJ9_floorMod_7cf53_0 rfl (lv_at hl 0 rfl) ?_
  refine lv_iload_n hx hb dJ9_floorMod_7cf53_1 rfl (lv_at hl 1 rfl) ?_
  obtain ⟨g1, h⟩ := gd_some h
  refine lv_irem hx hb dJ9_floorMod_7cf53_2 g1 ?_
  refine u_iv h (fun x2 h => ?_)
  refine lv_istore_n (lv' := [(2, .int x2), (0, .int p0), (1, .int p1)]) hx hb dJ9_floorMod_7cf53_3 rfl hl (by decide) rfl (fun ls hl => ?_)
  refine lv_iload_n hx hb dJ9_floorMod_7cf53_4 rfl (lv_at hl 1 rfl) ?_
  refine lv_iload_n hx hb dJ9_floorMod_7cf53_5 rfl (lv_at hl 2 rfl) ?_
  refine lv_ixor hx hb dJ9_floorMod_7cf53_6 ?_
  refine u_iv h (fun x3 h => ?_)
  refine lv_if_ge (tgt := 18) hx hb dJ9_floorMod_7cf53_7 (by decide) (fun c4 => ?_) (fun c4 => ?_)
  · have h := bb_t h c4
    refine lv_iload_n hx hb dJ9_floorMod_7cf53_18 rfl (lv_at hl 0 rfl) ?_
    exact t_iret C hr hlk w ⟨_, so_v h, rfl, so_w h hw, so_n h hn, hk⟩ (by decide) (by decide) dJ9_floorMod_7cf53_19
  · have h := bb_f h c4
    refine lv_iload_n hx hb dJ9_floorMod_7cf53_10 rfl (lv_at hl 0 rfl) ?_
    refine lv_if_eq (tgt := 18) hx hb dJ9_floorMod_7cf53_11 (by decide) (fun c5 => ?_) (fun c5 => ?_)
    · have h := bb_t h c5
      refine lv_iload_n hx hb dJ9_floorMod_7cf53_18 rfl (lv_at hl 0 rfl) ?_
      exact t_iret C hr hlk w ⟨_, so_v h, rfl, so_w h hw, so_n h hn, hk⟩ (by decide) (by decide) dJ9_floorMod_7cf53_19
    · have h := bb_f h c5
      refine lv_iload_n hx hb dJ9_floorMod_7cf53_14 rfl (lv_at hl 0 rfl) ?_
      refine lv_iload_n hx hb dJ9_floorMod_7cf53_15 rfl (lv_at hl 2 rfl) ?_
      refine lv_iadd hx hb dJ9_floorMod_7cf53_16 ?_
      refine u_iv h (fun x6 h => ?_)
      exact t_iret C hr hlk w ⟨_, so_v h, rfl, so_w h hw, so_n h hn, hk⟩ (by decide) (by decide) dJ9_floorMod_7cf53_17
theorem dX6_back_0 : decode cX6_back 0 = .ok (.iload_n 1, 1) := by decide +kernel
theorem dX6_back_1 : decode cX6_back 1 = .ok (.aload_n 0, 1) := by decide +kernel
theorem dX6_back_2 : decode cX6_back 2 = .ok (.getfield 46, 3) := by decide +kernel
theorem dX6_back_5 : decode cX6_back 5 = .ok (.invokestatic 113, 3) := by decide +kernel
theorem dX6_back_8 : decode cX6_back 8 = .ok (.iload_n 2, 1) := by decide +kernel
theorem dX6_back_9 : decode cX6_back 9 = .ok (.invokestatic 85, 3) := by decide +kernel
theorem dX6_back_12 : decode cX6_back 12 = .ok (.aload_n 0, 1) := by decide +kernel
theorem dX6_back_13 : decode cX6_back 13 = .ok (.getfield 42, 3) := by decide +kernel
theorem dX6_back_16 : decode cX6_back 16 = .ok (.iload_n 1, 1) := by decide +kernel
theorem dX6_back_17 : decode cX6_back 17 = .ok (.iaload, 1) := by decide +kernel
theorem dX6_back_18 : decode cX6_back 18 = .ok (.iload_n 2, 1) := by decide +kernel
theorem dX6_back_19 : decode cX6_back 19 = .ok (.invokestatic 275, 3) := by decide +kernel
theorem dX6_back_22 : decode cX6_back 22 = .ok (.istore_n 3, 1) := by decide +kernel
theorem dX6_back_23 : decode cX6_back 23 = .ok (.aload_n 0, 1) := by decide +kernel
theorem dX6_back_24 : decode cX6_back 24 = .ok (.getfield 10, 3) := by decide +kernel
theorem dX6_back_27 : decode cX6_back 27 = .ok (.getfield 100, 3) := by decide +kernel
theorem dX6_back_30 : decode cX6_back 30 = .ok (.getfield 139, 3) := by decide +kernel
theorem dX6_back_33 : decode cX6_back 33 = .ok (.iload_n 2, 1) := by decide +kernel
theorem dX6_back_34 : decode cX6_back 34 = .ok (.iaload, 1) := by decide +kernel
theorem dX6_back_35 : decode cX6_back 35 = .ok (.istore 4, 2) := by decide +kernel
theorem dX6_back_37 : decode cX6_back 37 = .ok (.iload_n 3, 1) := by decide +kernel
theorem dX6_back_38 : decode cX6_back 38 = .ok (.ifCond .eq 9, 3) := by decide +kernel
theorem dX6_back_41 : decode cX6_back 41 = .ok (.iload 4, 2) := by decide +kernel
theorem dX6_back_43 : decode cX6_back 43 = .ok (.iconst (-1), 1) := by decide +kernel
theorem dX6_back_44 : decode cX6_back 44 = .ok (.if_icmp .ne 7, 3) := by decide +kernel
theorem dX6_back_47 : decode cX6_back 47 = .ok (.ldc_w 281, 3) := by decide +kernel
theorem dX6_back_50 : decode cX6_back 50 = .ok (.ireturn, 1) := by decide +kernel
theorem dX6_back_51 : decode cX6_back 51 = .ok (.aload_n 0, 1) := by decide +kernel
theorem dX6_back_52 : decode cX6_back 52 = .ok (.getfield 10, 3) := by decide +kernel
theorem dX6_back_55 : decode cX6_back 55 = .ok (.getfield 145, 3) := by decide +kernel
theorem dX6_back_58 : decode cX6_back 58 = .ok (.aload_n 0, 1) := by decide +kernel
theorem dX6_back_59 : decode cX6_back 59 = .ok (.getfield 42, 3) := by decide +kernel
theorem dX6_back_62 : decode cX6_back 62 = .ok (.iload_n 1, 1) := by decide +kernel
theorem dX6_back_63 : decode cX6_back 63 = .ok (.iaload, 1) := by decide +kernel
theorem dX6_back_64 : decode cX6_back 64 = .ok (.invokestatic 213, 3) := by decide +kernel
theorem dX6_back_67 : decode cX6_back 67 = .ok (.imul, 1) := by decide +kernel
theorem dX6_back_68 : decode cX6_back 68 = .ok (.iload_n 3, 1) := by decide +kernel
theorem dX6_back_69 : decode cX6_back 69 = .ok (.invokestatic 282, 3) := by decide +kernel
theorem dX6_back_72 : decode cX6_back 72 = .ok (.aload_n 0, 1) := by decide +kernel
theorem dX6_back_73 : decode cX6_back 73 = .ok (.getfield 10, 3) := by decide +kernel
theorem dX6_back_76 : decode cX6_back 76 = .ok (.getfield 100, 3) := by decide +kernel
theorem dX6_back_79 : decode cX6_back 79 = .ok (.iload 4, 2) := by decide +kernel
theorem dX6_back_81 : decode cX6_back 81 = .ok (.invokevirtual 278, 3) := by decide +kernel
theorem dX6_back_84 : decode cX6_back 84 = .ok (.isub, 1) := by decide +kernel
theorem dX6_back_85 : decode cX6_back 85 = .ok (.ireturn, 1) := by decide +kernel
noncomputable def B_X6_back_47 (S : fS) : Option ((Nat × Int32) × fS) := some ((0, (-2147483648)), S)
noncomputable def F_X6_back (p1 : Int32) (p2 : Int32) (S0 : fS) : Option ((Nat × Int32) × fS) := iv (ge S0 0 0 9) (fun x1 => bx (F_X6_needElement p1 x1 S0) (fun v2 S3 => bx (F_X6_needCell p2 S3) (fun v6 S7 => gd (ib p1 6) (iv (ge S7 15 0 (p1 : Int32).toNatClampNeg) (fun x11 => bd (F_X6_weightsReaching x11 p2 S7) (fun v12 S13 => gd (ib p2 64) (iv (ge S13 10 0 (p2 : Int32).toNatClampNeg) (fun x16 => bb (v12 = (0 : Int32)) (B_X6_back_47   S13) (bb (x16 = ((-1) : Int32)) (B_X6_back_47   S13) (iv (ge S13 1 0 3) (fun x19 => gd (ib p1 6) (iv (ge S13 15 0 (p1 : Int32).toNatClampNeg) (fun x21 => bd (F_X6_allWeights x21 S13) (fun v22 S23 => iv (x19 * v22) (fun x25 => bd (F_J9_floorDiv_7cf53 x25 v12 S23) (fun v26 S27 => bd (F_X2_valueOf 0 x16 S27) (fun v29 S30 => iv (v26 - v29) (fun x32 => some ((0, x32), S30)))))))))))))))))))
set_option maxHeartbeats 4000000 in
set_option maxRecDepth 100000 in
theorem c_X6_back (l : Launch) (hls : l.stackTraces = false) (D : va_G) (K : Nat → ClassId) (b0 : Nat) (sa : sT) (sz : Nat) (L : List Nat) (f0 : Nat → va_E) (ad : Nat → Nat → Nat) (P : Nat → Nat → Prop) {n : Nat × Nat} (hP : ∀ a i : Nat, isn n a i → P a i) (S0 : fS) (hw : PW K ad P S0 L f0) (hn : S0.2.2.1 = n) (p1 : Int32) (p2 : Int32) (ec : Nat) (v : Int32) (S1 : fS) (h : F_X6_back p1 p2 S0 = some ((ec, v), S1)) : vx_Met l yX6_back (.code yX6_back cX6_back 5 (some .int) :: gt) { frames := 7, cells := 2, slots := 12, locals := 103 } (va_Pc [.ref (ad 0 0), .int p1, .int p2] (hPre D K b0 sa sz L f0)) (hQ D K b0 (fun v9 u9 => ec = 0 ∧ v9 = some (.int v) ∧ ∃ f2 : Nat → va_E, u9 = lU L f2 ∧ PW K ad P S1 L f2 ∧ S1.2.2.1 = n ∧ Kp ad P L f0 f2)) (hX D K b0 (fun E u9 => (ec ≠ 0 ∧ E = exn ec) ∧ ∃ f2 : Nat → va_E, u9 = lU L f2 ∧ PW K ad P S1 L f2 ∧ S1.2.2.1 = n ∧ Kp ad P L f0 f2)) 2 12 (fun q => b0 ≤ q) := by
  refine t_xof (own := RX6) (by decide) rfl ?_ (Nat.le_of_ble_eq_true rfl)
  intro p e s m below meth c ls C w hsz hr hlk htb hl
  have hx := C.1
  have hb := C.2.1
  have hl : lv_has ls 5 [(0, .ref (ad 0 0)), (1, .int p1), (2, .int p2)] := hl
  have J47 : ∀ (S : fS), B_X6_back_47   S = some ((ec, v), S1) → Gw D K b0 sa ad P n L f0 p l e { frames := 7, cells := 2, slots := 12, locals := 103 } s m [.ref (ad 0 0), .int p1, .int p2].toArray below meth c 5 (vx_MQ below (hQ D K b0 (fun v9 u9 => ec = 0 ∧ v9 = some (.int v) ∧ ∃ f2 : Nat → va_E, u9 = lU L f2 ∧ PW K ad P S1 L f2 ∧ S1.2.2.1 = n ∧ Kp ad P L f0 f2)) (hX D K b0 (fun E u9 => (ec ≠ 0 ∧ E = exn ec) ∧ ∃ f2 : Nat → va_E, u9 = lU L f2 ∧ PW K ad P S1 L f2 ∧ S1.2.2.1 = n ∧ Kp ad P L f0 f2)) [.ref (ad 0 0), .int p1, .int p2].toArray s 2 12 (fun q => b0 ≤ q)) 2 12 47 [] [] S := by
    intro S h
    dsimp only [B_X6_back_47] at h
    intro f H locs w hw hn hk ls hl
    refine lv_ldcw hx hb C.2.2.2.1 (C.2.2.2.2 _ gw_1101) dX6_back_47 ?_
    refine vx_ret ?_
    exact t_iret C hr hlk w ⟨sx_e h, sx_v h, _, rfl, sx_w h hw, sx_n h hn, hk⟩ (by decide) (by decide) dX6_back_50
  dsimp only [F_X6_back] at h
  obtain ⟨f, ef⟩ : ∃ z, z = f0 := ⟨_, rfl⟩
  rw [← ef] at w hw
  have hk : Kp ad P L f0 f := by rw [ef]; exact Kp.rf
  obtain ⟨H, eH⟩ : ∃ z, z = s.heap := ⟨_, rfl⟩
  obtain ⟨locs, el⟩ : ∃ z : List Loc, z = [] := ⟨_, rfl⟩
  rw [← eH, ← el] at w ⊢
  refine lv_iload_n hx hb dX6_back_0 rfl (lv_at hl 1 rfl) ?_
  refine lv_aload_n hx hb dX6_back_1 rfl (lv_at hl 0 rfl) ?_
  refine u_geti C w hw (hP _ _ (isn_f rfl rfl (by decide))) rfl (N := 18) rfl rfl cin_6 9 (by decide) rfl gw_296 dX6_back_2 ?_
  refine u_iv h (fun x1 h => ?_)
  rcases bx_some h with ⟨v2, S3, h4, h⟩ | ⟨e5, v2, S3, h4, h⟩
  rotate_left
  · refine t_xcallS (n := 2) C w (c_X6_needElement l hls D K b0 sa _ L _ ad P hP S0 hw hn p1 x1 (e5 + 1) v2 S3 h4) gw_656 gw_654 gw_655 gw_1 ⟨by decide, by decide, by decide +kernel⟩ rfl rfl ⟨by decide, by decide⟩ rfl hl.1 rfl (Nat.le_of_ble_eq_true rfl) dX6_back_5 ⟨Nat.le_of_ble_eq_true rfl, Nat.le_of_ble_eq_true rfl⟩ (fun E ce q9 u H locs hp w hcell hv0 hcl => ?_) (fun v9 u H locs hp w => absurd hp.1 (Nat.succ_ne_zero _))
    obtain ⟨⟨he, hE⟩, f2, rfl, hw, hn, hk1⟩ := hp
    exact t_xout w htb hlk hcell hv0 hcl ⟨sz_e h he hE, _, rfl, sz_w h hw, sz_n h hn, hk.tr hk1⟩ (by decide) (by decide)
  refine t_xcallS (n := 2) C w (c_X6_needElement l hls D K b0 sa _ L _ ad P hP S0 hw hn p1 x1 0 v2 S3 h4) gw_656 gw_654 gw_655 gw_1 ⟨by decide, by decide, by decide +kernel⟩ rfl rfl ⟨by decide, by decide⟩ rfl hl.1 rfl (Nat.le_of_ble_eq_true rfl) dX6_back_5 ⟨Nat.le_of_ble_eq_true rfl, Nat.le_of_ble_eq_true rfl⟩ (fun E ce q9 u H locs hp w hcell hv0 hcl => absurd rfl hp.1.1) (fun v9 u H locs hp w => ?_)
  obtain ⟨-, rfl, f2, rfl, hw, hn, hk1⟩ := hp
  have hk := hk.tr hk1
  generalize f2 = f at w hw hk
  refine lv_iload_n hx hb dX6_back_8 rfl (lv_at hl 2 rfl) ?_
  rcases bx_some h with ⟨v6, S7, h8, h⟩ | ⟨e9, v6, S7, h8, h⟩
  rotate_left
  · refine t_xcallS (n := 1) C w (c_X6_needCell l hls D K b0 sa _ L _ ad P hP S3 hw hn p2 (e9 + 1) v6 S7 h8) gw_554 gw_552 gw_553 gw_1 ⟨by decide, by decide, by decide +kernel⟩ rfl rfl ⟨by decide, by decide⟩ rfl hl.1 rfl (Nat.le_of_ble_eq_true rfl) dX6_back_9 ⟨Nat.le_of_ble_eq_true rfl, Nat.le_of_ble_eq_true rfl⟩ (fun E ce q9 u H locs hp w hcell hv0 hcl => ?_) (fun v9 u H locs hp w => absurd hp.1 (Nat.succ_ne_zero _))
    obtain ⟨⟨he, hE⟩, f2, rfl, hw, hn, hk1⟩ := hp
    exact t_xout w htb hlk hcell hv0 hcl ⟨sz_e h he hE, _, rfl, sz_w h hw, sz_n h hn, hk.tr hk1⟩ (by decide) (by decide)
  refine t_xcallS (n := 1) C w (c_X6_needCell l hls D K b0 sa _ L _ ad P hP S3 hw hn p2 0 v6 S7 h8) gw_554 gw_552 gw_553 gw_1 ⟨by decide, by decide, by decide +kernel⟩ rfl rfl ⟨by decide, by decide⟩ rfl hl.1 rfl (Nat.le_of_ble_eq_true rfl) dX6_back_9 ⟨Nat.le_of_ble_eq_true rfl, Nat.le_of_ble_eq_true rfl⟩ (fun E ce q9 u H locs hp w hcell hv0 hcl => absurd rfl hp.1.1) (fun v9 u H locs hp w => ?_)
  obtain ⟨-, rfl, f2, rfl, hw, hn, hk1⟩ := hp
  have hk := hk.tr hk1
  generalize f2 = f at w hw hk
  refine lv_aload_n hx hb dX6_back_12 rfl (lv_at hl 0 rfl) ?_
  refine u_getr C w hw (hP _ _ (isn_f rfl rfl (by decide))) rfl (N := 18) rfl rfl cin_6 8 (by decide) (by decide) (a2 := 15) (i2 := 0) rfl gw_295 dX6_back_13 ?_
  refine lv_iload_n hx hb dX6_back_16 rfl (lv_at hl 1 rfl) ?_
  obtain ⟨g10, h⟩ := gd_some h
  refine u_iald C w hw (hP _ _ (isn_f rfl rfl (by decide))) rfl rfl (n := 6) rfl (vp_in_iff.mpr g10) dX6_back_17 ?_
  refine u_iv h (fun x11 h => ?_)
  refine lv_iload_n hx hb dX6_back_18 rfl (lv_at hl 2 rfl) ?_
  obtain ⟨v12, S13, h14, h⟩ := bd_some h
  refine t_callS (n := 2) C w (c_X6_weightsReaching l D K b0 sa _ L _ ad P hP S7 hw hn x11 p2 v12 S13 h14) gw_1092 gw_1090 gw_1091 gw_1 ⟨by decide, by decide, by decide +kernel⟩ rfl rfl ⟨by decide, by decide⟩ rfl hl.1 rfl (Nat.le_of_ble_eq_true rfl) dX6_back_19 ⟨Nat.le_of_ble_eq_true rfl, Nat.le_of_ble_eq_true rfl⟩ (fun v9 u H locs hp w => ?_)
  obtain ⟨f2, rfl, rfl, hw, hn, hk1⟩ := hp
  have hk := hk.tr hk1
  generalize f2 = f at w hw hk
  refine lv_istore_n (lv' := [(3, .int v12), (0, .ref (ad 0 0)), (1, .int p1), (2, .int p2)]) hx hb dX6_back_22 rfl hl (by decide) rfl (fun ls hl => ?_)
  refine lv_aload_n hx hb dX6_back_23 rfl (lv_at hl 1 rfl) ?_
  refine u_getr C w hw (hP _ _ (isn_f rfl rfl (by decide))) rfl (N := 18) rfl rfl cin_6 0 (by decide) (by decide) (a2 := 1) (i2 := 0) rfl gw_287 dX6_back_24 ?_
  refine u_getr C w hw (hP _ _ (isn_f rfl rfl (by decide))) rfl (N := 13) rfl rfl cin_0 0 (by decide) (by decide) (a2 := 2) (i2 := 0) rfl gw_89 dX6_back_27 ?_
  refine u_getr C w hw (hP _ _ (isn_f rfl rfl (by decide))) rfl (N := 9) rfl rfl cin_2 8 (by decide) (by decide) (a2 := 10) (i2 := 0) rfl gw_65 dX6_back_30 ?_
  refine lv_iload_n hx hb dX6_back_33 rfl (lv_at hl 3 rfl) ?_
  obtain ⟨g15, h⟩ := gd_some h
  refine u_iald C w hw (hP _ _ (isn_f rfl rfl (by decide))) rfl rfl (n := 64) rfl (vp_in_iff.mpr g15) dX6_back_34 ?_
  refine u_iv h (fun x16 h => ?_)
  refine lv_istore (lv' := [(4, .int x16), (3, .int v12), (0, .ref (ad 0 0)), (1, .int p1), (2, .int p2)]) hx hb dX6_back_35 hl (by decide) rfl (fun ls hl => ?_)
  refine lv_iload_n hx hb dX6_back_37 rfl (lv_at hl 1 rfl) ?_
  refine lv_if_eq (tgt := 47) hx hb dX6_back_38 (by decide) (fun c17 => ?_) (fun c17 => ?_)
  · have h := bb_t h c17
    exact J47   S13 h f H locs w hw hn hk ls (lv_sub hl [] rfl)
  · have h := bb_f h c17
    refine lv_iload hx hb dX6_back_41 (lv_at hl 0 rfl) ?_
    refine lv_iconst (v := (-1)) hx hb dX6_back_43 (by decide) ?_
    refine lv_icmp_ne (tgt := 51) hx hb dX6_back_44 (by decide) (fun c18 => ?_) (fun c18 => ?_)
    · have h := bb_f h c18
      refine lv_aload_n hx hb dX6_back_51 rfl (lv_at hl 2 rfl) ?_
      refine u_getr C w hw (hP _ _ (isn_f rfl rfl (by decide))) rfl (N := 18) rfl rfl cin_6 0 (by decide) (by decide) (a2 := 1) (i2 := 0) rfl gw_287 dX6_back_52 ?_
      refine u_geti C w hw (hP _ _ (isn_f rfl rfl (by decide))) rfl (N := 13) rfl rfl cin_0 3 (by decide) rfl gw_99 dX6_back_55 ?_
      refine u_iv h (fun x19 h => ?_)
      refine lv_aload_n hx hb dX6_back_58 rfl (lv_at hl 2 rfl) ?_
      refine u_getr C w hw (hP _ _ (isn_f rfl rfl (by decide))) rfl (N := 18) rfl rfl cin_6 8 (by decide) (by decide) (a2 := 15) (i2 := 0) rfl gw_295 dX6_back_59 ?_
      refine lv_iload_n hx hb dX6_back_62 rfl (lv_at hl 3 rfl) ?_
      obtain ⟨g20, h⟩ := gd_some h
      refine u_iald C w hw (hP _ _ (isn_f rfl rfl (by decide))) rfl rfl (n := 6) rfl (vp_in_iff.mpr g20) dX6_back_63 ?_
      refine u_iv h (fun x21 h => ?_)
      obtain ⟨v22, S23, h24, h⟩ := bd_some h
      refine t_callS (n := 1) C w (c_X6_allWeights l D K b0 sa _ L _ ad P hP S13 hw hn x21 v22 S23 h24) gw_1008 gw_1006 gw_1007 gw_1 ⟨by decide, by decide, by decide +kernel⟩ rfl rfl ⟨by decide, by decide⟩ rfl hl.1 rfl (Nat.le_of_ble_eq_true rfl) dX6_back_64 ⟨Nat.le_of_ble_eq_true rfl, Nat.le_of_ble_eq_true rfl⟩ (fun v9 u H locs hp w => ?_)
      obtain ⟨f2, rfl, rfl, hw, hn, hk1⟩ := hp
      have hk := hk.tr hk1
      generalize f2 = f at w hw hk
      refine lv_imul hx hb dX6_back_67 ?_
      refine u_iv h (fun x25 h => ?_)
      refine lv_iload_n hx hb dX6_back_68 rfl (lv_at hl 1 rfl) ?_
      obtain ⟨v26, S27, h28, h⟩ := bd_some h
      refine t_callS (n := 2) C w (c_J9_floorDiv_7cf53 l D K b0 sa _ L _ ad P hP S23 hw hn x25 v12 v26 S27 h28) gw_1104 gw_1102 gw_1103 gw_15 ⟨by decide, by decide, by decide +kernel⟩ rfl rfl ⟨by decide, by decide⟩ rfl hl.1 rfl (Nat.le_of_ble_eq_true rfl) dX6_back_69 ⟨Nat.le_of_ble_eq_true rfl, Nat.le_of_ble_eq_true rfl⟩ (fun v9 u H locs hp w => ?_)
      obtain ⟨f2, rfl, rfl, hw, hn, hk1⟩ := hp
      have hk := hk.tr hk1
      generalize f2 = f at w hw hk
      refine lv_aload_n hx hb dX6_back_72 rfl (lv_at hl 2 rfl) ?_
      refine u_getr C w hw (hP _ _ (isn_f rfl rfl (by decide))) rfl (N := 18) rfl rfl cin_6 0 (by decide) (by decide) (a2 := 1) (i2 := 0) rfl gw_287 dX6_back_73 ?_
      refine u_getr C w hw (hP _ _ (isn_f rfl rfl (by decide))) rfl (N := 13) rfl rfl cin_0 0 (by decide) (by decide) (a2 := 2) (i2 := 0) rfl gw_89 dX6_back_76 ?_
      refine lv_iload hx hb dX6_back_79 (lv_at hl 0 rfl) ?_
      obtain ⟨v29, S30, h31, h⟩ := bd_some h
      refine u_callV (n := 1) C w hw (hP _ _ (isn_f rfl rfl (by decide))) rfl rfl rfl (c_X2_valueOf l D K b0 sa _ L _ ad P hP S27 hw hn 0 (by decide) x16 v29 S30 h31) gw_974 gw_1093 gw_972 gw_973 gw_3 ⟨by decide, by decide, by decide +kernel⟩ rfl rfl ⟨by decide, by decide⟩ rfl hl.1 rfl (Nat.le_of_ble_eq_true rfl) dX6_back_81 ⟨Nat.le_of_ble_eq_true rfl, Nat.le_of_ble_eq_true rfl⟩ (fun v9 u H locs hp w => ?_)
      obtain ⟨f2, rfl, rfl, hw, hn, hk1⟩ := hp
      have hk := hk.tr hk1
      generalize f2 = f at w hw hk
      refine lv_isub hx hb dX6_back_84 ?_
      refine u_iv h (fun x32 h => ?_)
      refine vx_ret ?_
      exact t_iret C hr hlk w ⟨sx_e h, sx_v h, _, rfl, sx_w h hw, sx_n h hn, hk⟩ (by decide) (by decide) dX6_back_85
    · have h := bb_t h c18
      exact J47   S13 h f H locs w hw hn hk ls (lv_sub hl [] rfl)
theorem dX6_cut_0 : decode cX6_cut 0 = .ok (.iload_n 1, 1) := by decide +kernel
theorem dX6_cut_1 : decode cX6_cut 1 = .ok (.aload_n 0, 1) := by decide +kernel
theorem dX6_cut_2 : decode cX6_cut 2 = .ok (.getfield 46, 3) := by decide +kernel
theorem dX6_cut_5 : decode cX6_cut 5 = .ok (.invokestatic 113, 3) := by decide +kernel
theorem dX6_cut_8 : decode cX6_cut 8 = .ok (.iload_n 2, 1) := by decide +kernel
theorem dX6_cut_9 : decode cX6_cut 9 = .ok (.iconst 0, 1) := by decide +kernel
theorem dX6_cut_10 : decode cX6_cut 10 = .ok (.bipush 99, 2) := by decide +kernel
theorem dX6_cut_12 : decode cX6_cut 12 = .ok (.invokestatic 92, 3) := by decide +kernel
theorem dX6_cut_15 : decode cX6_cut 15 = .ok (.ifCond .eq 17, 3) := by decide +kernel
theorem dX6_cut_18 : decode cX6_cut 18 = .ok (.iload_n 3, 1) := by decide +kernel
theorem dX6_cut_19 : decode cX6_cut 19 = .ok (.iconst 0, 1) := by decide +kernel
theorem dX6_cut_20 : decode cX6_cut 20 = .ok (.bipush 99, 2) := by decide +kernel
theorem dX6_cut_22 : decode cX6_cut 22 = .ok (.invokestatic 92, 3) := by decide +kernel
theorem dX6_cut_25 : decode cX6_cut 25 = .ok (.ifCond .eq 7, 3) := by decide +kernel
theorem dX6_cut_28 : decode cX6_cut 28 = .ok (.iconst 1, 1) := by decide +kernel
theorem dX6_cut_29 : decode cX6_cut 29 = .ok (.goto 4, 3) := by decide +kernel
theorem dX6_cut_32 : decode cX6_cut 32 = .ok (.iconst 0, 1) := by decide +kernel
theorem dX6_cut_33 : decode cX6_cut 33 = .ok (.invokestatic 96, 3) := by decide +kernel
theorem dX6_cut_36 : decode cX6_cut 36 = .ok (.iload 4, 2) := by decide +kernel
theorem dX6_cut_38 : decode cX6_cut 38 = .ok (.iconst 0, 1) := by decide +kernel
theorem dX6_cut_39 : decode cX6_cut 39 = .ok (.bipush 9, 2) := by decide +kernel
theorem dX6_cut_41 : decode cX6_cut 41 = .ok (.invokestatic 92, 3) := by decide +kernel
theorem dX6_cut_44 : decode cX6_cut 44 = .ok (.ifCond .eq 19, 3) := by decide +kernel
theorem dX6_cut_47 : decode cX6_cut 47 = .ok (.iload 5, 2) := by decide +kernel
theorem dX6_cut_49 : decode cX6_cut 49 = .ok (.iconst 0, 1) := by decide +kernel
theorem dX6_cut_50 : decode cX6_cut 50 = .ok (.sipush 999, 3) := by decide +kernel
theorem dX6_cut_53 : decode cX6_cut 53 = .ok (.invokestatic 92, 3) := by decide +kernel
theorem dX6_cut_56 : decode cX6_cut 56 = .ok (.ifCond .eq 7, 3) := by decide +kernel
theorem dX6_cut_59 : decode cX6_cut 59 = .ok (.iconst 1, 1) := by decide +kernel
theorem dX6_cut_60 : decode cX6_cut 60 = .ok (.goto 4, 3) := by decide +kernel
theorem dX6_cut_63 : decode cX6_cut 63 = .ok (.iconst 0, 1) := by decide +kernel
theorem dX6_cut_64 : decode cX6_cut 64 = .ok (.invokestatic 96, 3) := by decide +kernel
theorem dX6_cut_67 : decode cX6_cut 67 = .ok (.aload_n 0, 1) := by decide +kernel
theorem dX6_cut_68 : decode cX6_cut 68 = .ok (.getfield 10, 3) := by decide +kernel
theorem dX6_cut_71 : decode cX6_cut 71 = .ok (.getfield 261, 3) := by decide +kernel
theorem dX6_cut_74 : decode cX6_cut 74 = .ok (.iconst 1, 1) := by decide +kernel
theorem dX6_cut_75 : decode cX6_cut 75 = .ok (.iadd, 1) := by decide +kernel
theorem dX6_cut_76 : decode cX6_cut 76 = .ok (.iload 5, 2) := by decide +kernel
theorem dX6_cut_78 : decode cX6_cut 78 = .ok (.if_icmp .lt 7, 3) := by decide +kernel
theorem dX6_cut_81 : decode cX6_cut 81 = .ok (.iconst 0, 1) := by decide +kernel
theorem dX6_cut_82 : decode cX6_cut 82 = .ok (.goto 5, 3) := by decide +kernel
theorem dX6_cut_85 : decode cX6_cut 85 = .ok (.iload 4, 2) := by decide +kernel
theorem dX6_cut_87 : decode cX6_cut 87 = .ok (.istore 6, 2) := by decide +kernel
theorem dX6_cut_89 : decode cX6_cut 89 = .ok (.iconst 0, 1) := by decide +kernel
theorem dX6_cut_90 : decode cX6_cut 90 = .ok (.istore 7, 2) := by decide +kernel
theorem dX6_cut_92 : decode cX6_cut 92 = .ok (.iconst 0, 1) := by decide +kernel
theorem dX6_cut_93 : decode cX6_cut 93 = .ok (.istore 8, 2) := by decide +kernel
theorem dX6_cut_95 : decode cX6_cut 95 = .ok (.iload 8, 2) := by decide +kernel
theorem dX6_cut_97 : decode cX6_cut 97 = .ok (.bipush 9, 2) := by decide +kernel
theorem dX6_cut_99 : decode cX6_cut 99 = .ok (.if_icmp .ge 53, 3) := by decide +kernel
theorem dX6_cut_102 : decode cX6_cut 102 = .ok (.iload_n 2, 1) := by decide +kernel
theorem dX6_cut_103 : decode cX6_cut 103 = .ok (.iload 8, 2) := by decide +kernel
theorem dX6_cut_105 : decode cX6_cut 105 = .ok (.iconst 3, 1) := by decide +kernel
theorem dX6_cut_106 : decode cX6_cut 106 = .ok (.irem, 1) := by decide +kernel
theorem dX6_cut_107 : decode cX6_cut 107 = .ok (.iadd, 1) := by decide +kernel
theorem dX6_cut_108 : decode cX6_cut 108 = .ok (.iconst 1, 1) := by decide +kernel
theorem dX6_cut_109 : decode cX6_cut 109 = .ok (.isub, 1) := by decide +kernel
theorem dX6_cut_110 : decode cX6_cut 110 = .ok (.iload 6, 2) := by decide +kernel
theorem dX6_cut_112 : decode cX6_cut 112 = .ok (.iadd, 1) := by decide +kernel
theorem dX6_cut_113 : decode cX6_cut 113 = .ok (.bipush 100, 2) := by decide +kernel
theorem dX6_cut_115 : decode cX6_cut 115 = .ok (.invokestatic 294, 3) := by decide +kernel
theorem dX6_cut_118 : decode cX6_cut 118 = .ok (.istore 9, 2) := by decide +kernel
theorem dX6_cut_120 : decode cX6_cut 120 = .ok (.iload 7, 2) := by decide +kernel
theorem dX6_cut_122 : decode cX6_cut 122 = .ok (.iload 9, 2) := by decide +kernel
theorem dX6_cut_124 : decode cX6_cut 124 = .ok (.iload_n 3, 1) := by decide +kernel
theorem dX6_cut_125 : decode cX6_cut 125 = .ok (.if_icmp .ne 17, 3) := by decide +kernel
theorem dX6_cut_128 : decode cX6_cut 128 = .ok (.aload_n 0, 1) := by decide +kernel
theorem dX6_cut_129 : decode cX6_cut 129 = .ok (.getfield 42, 3) := by decide +kernel
theorem dX6_cut_132 : decode cX6_cut 132 = .ok (.iload_n 1, 1) := by decide +kernel
theorem dX6_cut_133 : decode cX6_cut 133 = .ok (.iaload, 1) := by decide +kernel
theorem dX6_cut_134 : decode cX6_cut 134 = .ok (.iload 8, 2) := by decide +kernel
theorem dX6_cut_136 : decode cX6_cut 136 = .ok (.invokestatic 219, 3) := by decide +kernel
theorem dX6_cut_139 : decode cX6_cut 139 = .ok (.goto 4, 3) := by decide +kernel
theorem dX6_cut_142 : decode cX6_cut 142 = .ok (.iconst 0, 1) := by decide +kernel
theorem dX6_cut_143 : decode cX6_cut 143 = .ok (.iadd, 1) := by decide +kernel
theorem dX6_cut_144 : decode cX6_cut 144 = .ok (.istore 7, 2) := by decide +kernel
theorem dX6_cut_146 : decode cX6_cut 146 = .ok (.iinc 8 1, 3) := by decide +kernel
theorem dX6_cut_149 : decode cX6_cut 149 = .ok (.goto (-54), 3) := by decide +kernel
theorem dX6_cut_152 : decode cX6_cut 152 = .ok (.iload 7, 2) := by decide +kernel
theorem dX6_cut_154 : decode cX6_cut 154 = .ok (.ireturn, 1) := by decide +kernel
noncomputable def B_X6_cut_143 (k95 : (Int32 × Int32 × Int32 × Int32 × Int32 × Int32) → fS → Option ((Nat × Int32) × fS)) (a1 : Int32) (a2 : Int32) (a3 : Int32) (a6 : Int32) (a8 : Int32) (t0 : Int32) (t1 : Int32) (S : fS) : Option ((Nat × Int32) × fS) := iv (t1 + t0) (fun x1 => iv (a8 + Int32.ofInt 1) (fun x2 => k95 (a1, a2, a3, a6, x1, x2) S))
noncomputable def B_X6_cut_95 (k95 : (Int32 × Int32 × Int32 × Int32 × Int32 × Int32) → fS → Option ((Nat × Int32) × fS)) : (Int32 × Int32 × Int32 × Int32 × Int32 × Int32) → fS → Option ((Nat × Int32) × fS) := fun ⟨a1, a2, a3, a6, a7, a8⟩ S => bb ((9 : Int32) ≤ a8) (some ((0, a7), S)) (iv (a8 - a8 / (3 : Int32) * (3 : Int32)) (fun x4 => iv (a2 + x4) (fun x5 => iv (x5 - (1 : Int32)) (fun x6 => iv (x6 + a6) (fun x7 => bd (F_J9_floorMod_7cf53 x7 100 S) (fun v8 S9 => bb (v8 = a3) (gd (ib a1 6) (iv (ge S9 15 0 (a1 : Int32).toNatClampNeg) (fun x13 => bd (F_X6_weightAt x13 a8 S9) (fun v14 S15 => B_X6_cut_143 k95 a1 a2 a3 a6 a8 v14 a7 S15)))) (B_X6_cut_143 k95 a1 a2 a3 a6 a8 0 a7 S9)))))))
noncomputable def B_X6_cut_87 (a1 : Int32) (a2 : Int32) (a3 : Int32) (t0 : Int32) (S : fS) : Option ((Nat × Int32) × fS) := lp (B_X6_cut_95 ) fuel (a1, a2, a3, t0, 0, 0) S
noncomputable def B_X6_cut_64 (a1 : Int32) (a2 : Int32) (a3 : Int32) (a4 : Int32) (a5 : Int32) (t0 : Int32) (S : fS) : Option ((Nat × Int32) × fS) := bx (F_X6_need t0 S) (fun v17 S18 => iv (ge S18 1 0 8) (fun x21 => iv (x21 + (1 : Int32)) (fun x22 => bb (x22 < a5) (B_X6_cut_87  a1 a2 a3 a4 S18) (B_X6_cut_87  a1 a2 a3 0 S18))))
noncomputable def B_X6_cut_63 (a1 : Int32) (a2 : Int32) (a3 : Int32) (a4 : Int32) (a5 : Int32) (S : fS) : Option ((Nat × Int32) × fS) := B_X6_cut_64  a1 a2 a3 a4 a5 0 S
noncomputable def B_X6_cut_33 (a1 : Int32) (a2 : Int32) (a3 : Int32) (a4 : Int32) (a5 : Int32) (t0 : Int32) (S : fS) : Option ((Nat × Int32) × fS) := bx (F_X6_need t0 S) (fun v24 S25 => bd (F_X6_within a4 0 9 S25) (fun v28 S29 => bb (v28 = (0 : Int32)) (B_X6_cut_63  a1 a2 a3 a4 a5 S29) (bd (F_X6_within a5 0 999 S29) (fun v32 S33 => bb (v32 = (0 : Int32)) (B_X6_cut_63  a1 a2 a3 a4 a5 S33) (B_X6_cut_64  a1 a2 a3 a4 a5 1 S33)))))
noncomputable def B_X6_cut_32 (a1 : Int32) (a2 : Int32) (a3 : Int32) (a4 : Int32) (a5 : Int32) (S : fS) : Option ((Nat × Int32) × fS) := B_X6_cut_33  a1 a2 a3 a4 a5 0 S
noncomputable def F_X6_cut (p1 : Int32) (p2 : Int32) (p3 : Int32) (p4 : Int32) (p5 : Int32) (S0 : fS) : Option ((Nat × Int32) × fS) := iv (ge S0 0 0 9) (fun x36 => bx (F_X6_needElement p1 x36 S0) (fun v37 S38 => bd (F_X6_within p2 0 99 S38) (fun v41 S42 => bb (v41 = (0 : Int32)) (B_X6_cut_32  p1 p2 p3 p4 p5 S42) (bd (F_X6_within p3 0 99 S42) (fun v45 S46 => bb (v45 = (0 : Int32)) (B_X6_cut_32  p1 p2 p3 p4 p5 S46) (B_X6_cut_33  p1 p2 p3 p4 p5 1 S46))))))
set_option maxHeartbeats 4000000 in
set_option maxRecDepth 100000 in
theorem c_X6_cut (l : Launch) (hls : l.stackTraces = false) (D : va_G) (K : Nat → ClassId) (b0 : Nat) (sa : sT) (sz : Nat) (L : List Nat) (f0 : Nat → va_E) (ad : Nat → Nat → Nat) (P : Nat → Nat → Prop) {n : Nat × Nat} (hP : ∀ a i : Nat, isn n a i → P a i) (S0 : fS) (hw : PW K ad P S0 L f0) (hn : S0.2.2.1 = n) (p1 : Int32) (p2 : Int32) (p3 : Int32) (p4 : Int32) (p5 : Int32) (ec : Nat) (v : Int32) (S1 : fS) (h : F_X6_cut p1 p2 p3 p4 p5 S0 = some ((ec, v), S1)) : vx_Met l yX6_cut (.code yX6_cut cX6_cut 10 (some .int) :: gt) { frames := 7, cells := 3, slots := 18, locals := 103 } (va_Pc [.ref (ad 0 0), .int p1, .int p2, .int p3, .int p4, .int p5] (hPre D K b0 sa sz L f0)) (hQ D K b0 (fun v9 u9 => ec = 0 ∧ v9 = some (.int v) ∧ ∃ f2 : Nat → va_E, u9 = lU L f2 ∧ PW K ad P S1 L f2 ∧ S1.2.2.1 = n ∧ Kp ad P L f0 f2)) (hX D K b0 (fun E u9 => (ec ≠ 0 ∧ E = exn ec) ∧ ∃ f2 : Nat → va_E, u9 = lU L f2 ∧ PW K ad P S1 L f2 ∧ S1.2.2.1 = n ∧ Kp ad P L f0 f2)) 3 18 (fun q => b0 ≤ q) := by
  refine t_xof (own := RX6) (by decide) rfl ?_ (Nat.le_of_ble_eq_true rfl)
  intro p e s m below meth c ls C w hsz hr hlk htb hl
  have hx := C.1
  have hb := C.2.1
  have hl : lv_has ls 10 [(0, .ref (ad 0 0)), (1, .int p1), (2, .int p2), (3, .int p3), (4, .int p4), (5, .int p5)] := hl
  have J143 : ∀ (k95 : (Int32 × Int32 × Int32 × Int32 × Int32 × Int32) → fS → Option ((Nat × Int32) × fS)) (hk95 : ∀ (a1 : Int32) (a2 : Int32) (a3 : Int32) (a6 : Int32) (a7 : Int32) (a8 : Int32) (S : fS), k95 (a1, a2, a3, a6, a7, a8) S = some ((ec, v), S1) → Gw D K b0 sa ad P n L f0 p l e { frames := 7, cells := 3, slots := 18, locals := 103 } s m [.ref (ad 0 0), .int p1, .int p2, .int p3, .int p4, .int p5].toArray below meth c 10 (vx_MQ below (hQ D K b0 (fun v9 u9 => ec = 0 ∧ v9 = some (.int v) ∧ ∃ f2 : Nat → va_E, u9 = lU L f2 ∧ PW K ad P S1 L f2 ∧ S1.2.2.1 = n ∧ Kp ad P L f0 f2)) (hX D K b0 (fun E u9 => (ec ≠ 0 ∧ E = exn ec) ∧ ∃ f2 : Nat → va_E, u9 = lU L f2 ∧ PW K ad P S1 L f2 ∧ S1.2.2.1 = n ∧ Kp ad P L f0 f2)) [.ref (ad 0 0), .int p1, .int p2, .int p3, .int p4, .int p5].toArray s 3 18 (fun q => b0 ≤ q)) 3 18 95 [(0, .ref (ad 0 0)), (1, .int a1), (2, .int a2), (3, .int a3), (6, .int a6), (7, .int a7), (8, .int a8)] [] S) (a1 : Int32) (a2 : Int32) (a3 : Int32) (a6 : Int32) (a8 : Int32) (t0 : Int32) (t1 : Int32) (S : fS), B_X6_cut_143 k95 a1 a2 a3 a6 a8 t0 t1 S = some ((ec, v), S1) → Gw D K b0 sa ad P n L f0 p l e { frames := 7, cells := 3, slots := 18, locals := 103 } s m [.ref (ad 0 0), .int p1, .int p2, .int p3, .int p4, .int p5].toArray below meth c 10 (vx_MQ below (hQ D K b0 (fun v9 u9 => ec = 0 ∧ v9 = some (.int v) ∧ ∃ f2 : Nat → va_E, u9 = lU L f2 ∧ PW K ad P S1 L f2 ∧ S1.2.2.1 = n ∧ Kp ad P L f0 f2)) (hX D K b0 (fun E u9 => (ec ≠ 0 ∧ E = exn ec) ∧ ∃ f2 : Nat → va_E, u9 = lU L f2 ∧ PW K ad P S1 L f2 ∧ S1.2.2.1 = n ∧ Kp ad P L f0 f2)) [.ref (ad 0 0), .int p1, .int p2, .int p3, .int p4, .int p5].toArray s 3 18 (fun q => b0 ≤ q)) 3 18 143 [(0, .ref (ad 0 0)), (1, .int a1), (2, .int a2), (3, .int a3), (6, .int a6), (8, .int a8)] [.int t0, .int t1] S := by
    intro k95 hk95 a1 a2 a3 a6 a8 t0 t1 S h
    dsimp only [B_X6_cut_143] at h
    intro f H locs w hw hn hk ls hl
    refine lv_iadd hx hb dX6_cut_143 ?_
    refine u_iv h (fun x1 h => ?_)
    refine lv_istore (lv' := [(7, .int x1), (0, .ref (ad 0 0)), (1, .int a1), (2, .int a2), (3, .int a3), (6, .int a6), (8, .int a8)]) hx hb dX6_cut_144 hl (by decide) rfl (fun ls hl => ?_)
    obtain ⟨x2, ex2, h⟩ := iv_some h
    refine lv_iinc (v := x2) (lv' := [(8, .int x2), (7, .int x1), (0, .ref (ad 0 0)), (1, .int a1), (2, .int a2), (3, .int a3), (6, .int a6)]) hx hb dX6_cut_146 hl (k := 6) rfl ex2.symm (by decide) rfl (fun ls hl => ?_)
    refine lv_goto (tgt := 95) hx hb dX6_cut_149 (by decide) ?_
    exact hk95 a1 a2 a3 a6 x1 x2 S h f H locs w hw hn hk ls (lv_sub hl [2, 3, 4, 5, 6, 1, 0] rfl)
  have J95 : ∀ (fu : Nat) (a1 : Int32) (a2 : Int32) (a3 : Int32) (a6 : Int32) (a7 : Int32) (a8 : Int32) (S : fS), lp (B_X6_cut_95 ) fu (a1, a2, a3, a6, a7, a8) S = some ((ec, v), S1) → Gw D K b0 sa ad P n L f0 p l e { frames := 7, cells := 3, slots := 18, locals := 103 } s m [.ref (ad 0 0), .int p1, .int p2, .int p3, .int p4, .int p5].toArray below meth c 10 (vx_MQ below (hQ D K b0 (fun v9 u9 => ec = 0 ∧ v9 = some (.int v) ∧ ∃ f2 : Nat → va_E, u9 = lU L f2 ∧ PW K ad P S1 L f2 ∧ S1.2.2.1 = n ∧ Kp ad P L f0 f2)) (hX D K b0 (fun E u9 => (ec ≠ 0 ∧ E = exn ec) ∧ ∃ f2 : Nat → va_E, u9 = lU L f2 ∧ PW K ad P S1 L f2 ∧ S1.2.2.1 = n ∧ Kp ad P L f0 f2)) [.ref (ad 0 0), .int p1, .int p2, .int p3, .int p4, .int p5].toArray s 3 18 (fun q => b0 ≤ q)) 3 18 95 [(0, .ref (ad 0 0)), (1, .int a1), (2, .int a2), (3, .int a3), (6, .int a6), (7, .int a7), (8, .int a8)] [] S := by
    intro fu a1 a2 a3 a6 a7 a8 S h
    refine lp_some (G := (fun q S => Gw D K b0 sa ad P n L f0 p l e { frames := 7, cells := 3, slots := 18, locals := 103 } s m [.ref (ad 0 0), .int p1, .int p2, .int p3, .int p4, .int p5].toArray below meth c 10 (vx_MQ below (hQ D K b0 (fun v9 u9 => ec = 0 ∧ v9 = some (.int v) ∧ ∃ f2 : Nat → va_E, u9 = lU L f2 ∧ PW K ad P S1 L f2 ∧ S1.2.2.1 = n ∧ Kp ad P L f0 f2)) (hX D K b0 (fun E u9 => (ec ≠ 0 ∧ E = exn ec) ∧ ∃ f2 : Nat → va_E, u9 = lU L f2 ∧ PW K ad P S1 L f2 ∧ S1.2.2.1 = n ∧ Kp ad P L f0 f2)) [.ref (ad 0 0), .int p1, .int p2, .int p3, .int p4, .int p5].toArray s 3 18 (fun q => b0 ≤ q)) 3 18 95 [(0, .ref (ad 0 0)), (1, .int q.1), (2, .int q.2.1), (3, .int q.2.2.1), (6, .int q.2.2.2.1), (7, .int q.2.2.2.2.1), (8, .int q.2.2.2.2.2)] [] S)) (fun k95 hk95 q S h => ?_) fu (a1, a2, a3, a6, a7, a8) S h
    obtain ⟨a1, a2, a3, a6, a7, a8⟩ := q
    have hk95 : ∀ (a1 : Int32) (a2 : Int32) (a3 : Int32) (a6 : Int32) (a7 : Int32) (a8 : Int32) (S : fS), k95 (a1, a2, a3, a6, a7, a8) S = some ((ec, v), S1) → Gw D K b0 sa ad P n L f0 p l e { frames := 7, cells := 3, slots := 18, locals := 103 } s m [.ref (ad 0 0), .int p1, .int p2, .int p3, .int p4, .int p5].toArray below meth c 10 (vx_MQ below (hQ D K b0 (fun v9 u9 => ec = 0 ∧ v9 = some (.int v) ∧ ∃ f2 : Nat → va_E, u9 = lU L f2 ∧ PW K ad P S1 L f2 ∧ S1.2.2.1 = n ∧ Kp ad P L f0 f2)) (hX D K b0 (fun E u9 => (ec ≠ 0 ∧ E = exn ec) ∧ ∃ f2 : Nat → va_E, u9 = lU L f2 ∧ PW K ad P S1 L f2 ∧ S1.2.2.1 = n ∧ Kp ad P L f0 f2)) [.ref (ad 0 0), .int p1, .int p2, .int p3, .int p4, .int p5].toArray s 3 18 (fun q => b0 ≤ q)) 3 18 95 [(0, .ref (ad 0 0)), (1, .int a1), (2, .int a2), (3, .int a3), (6, .int a6), (7, .int a7), (8, .int a8)] [] S := fun a1 a2 a3 a6 a7 a8 S h => hk95 (a1, a2, a3, a6, a7, a8) S h
    dsimp only [B_X6_cut_95] at h
    intro f H locs w hw hn hk ls hl
    refine lv_iload hx hb dX6_cut_95 (lv_at hl 6 rfl) ?_
    refine lv_bipush (v := 9) hx hb dX6_cut_97 (by decide) ?_
    refine lv_icmp_ge (tgt := 152) hx hb dX6_cut_99 (by decide) (fun c3 => ?_) (fun c3 => ?_)
    · have h := bb_t h c3
      refine lv_iload hx hb dX6_cut_152 (lv_at hl 5 rfl) ?_
      refine vx_ret ?_
      exact t_iret C hr hlk w ⟨sx_e h, sx_v h, _, rfl, sx_w h hw, sx_n h hn, hk⟩ (by decide) (by decide) dX6_cut_154
    · have h := bb_f h c3
      refine lv_iload_n hx hb dX6_cut_102 rfl (lv_at hl 2 rfl) ?_
      refine lv_iload hx hb dX6_cut_103 (lv_at hl 6 rfl) ?_
      refine lv_iconst (v := 3) hx hb dX6_cut_105 (by decide) ?_
      refine lv_irem hx hb dX6_cut_106 (by decide) ?_
      refine u_iv h (fun x4 h => ?_)
      refine lv_iadd hx hb dX6_cut_107 ?_
      refine u_iv h (fun x5 h => ?_)
      refine lv_iconst (v := 1) hx hb dX6_cut_108 (by decide) ?_
      refine lv_isub hx hb dX6_cut_109 ?_
      refine u_iv h (fun x6 h => ?_)
      refine lv_iload hx hb dX6_cut_110 (lv_at hl 4 rfl) ?_
      refine lv_iadd hx hb dX6_cut_112 ?_
      refine u_iv h (fun x7 h => ?_)
      refine lv_bipush (v := 100) hx hb dX6_cut_113 (by decide) ?_
      obtain ⟨v8, S9, h10, h⟩ := bd_some h
      refine t_callS (n := 2) C w (c_J9_floorMod_7cf53 l D K b0 sa _ L _ ad P hP S hw hn x7 100 v8 S9 h10) gw_1126 gw_1124 gw_1125 gw_15 ⟨by decide, by decide, by decide +kernel⟩ rfl rfl ⟨by decide, by decide⟩ rfl hl.1 rfl (Nat.le_of_ble_eq_true rfl) dX6_cut_115 ⟨Nat.le_of_ble_eq_true rfl, Nat.le_of_ble_eq_true rfl⟩ (fun v9 u H locs hp w => ?_)
      obtain ⟨f2, rfl, rfl, hw, hn, hk1⟩ := hp
      have hk := hk.tr hk1
      generalize f2 = f at w hw hk
      refine lv_istore (lv' := [(9, .int v8), (0, .ref (ad 0 0)), (1, .int a1), (2, .int a2), (3, .int a3), (6, .int a6), (7, .int a7), (8, .int a8)]) hx hb dX6_cut_118 hl (by decide) rfl (fun ls hl => ?_)
      refine lv_iload hx hb dX6_cut_120 (lv_at hl 6 rfl) ?_
      refine lv_iload hx hb dX6_cut_122 (lv_at hl 0 rfl) ?_
      refine lv_iload_n hx hb dX6_cut_124 rfl (lv_at hl 4 rfl) ?_
      refine lv_icmp_ne (tgt := 142) hx hb dX6_cut_125 (by decide) (fun c11 => ?_) (fun c11 => ?_)
      · have h := bb_f h c11
        refine lv_iconst (v := 0) hx hb dX6_cut_142 (by decide) ?_
        exact J143 k95 hk95 a1 a2 a3 a6 a8 0 a7 S9 h f H locs w hw hn hk ls (lv_sub hl [1, 2, 3, 4, 5, 7] rfl)
      · have h := bb_t h c11
        refine lv_aload_n hx hb dX6_cut_128 rfl (lv_at hl 1 rfl) ?_
        refine u_getr C w hw (hP _ _ (isn_f rfl rfl (by decide))) rfl (N := 18) rfl rfl cin_6 8 (by decide) (by decide) (a2 := 15) (i2 := 0) rfl gw_295 dX6_cut_129 ?_
        refine lv_iload_n hx hb dX6_cut_132 rfl (lv_at hl 2 rfl) ?_
        obtain ⟨g12, h⟩ := gd_some h
        refine u_iald C w hw (hP _ _ (isn_f rfl rfl (by decide))) rfl rfl (n := 6) rfl (vp_in_iff.mpr g12) dX6_cut_133 ?_
        refine u_iv h (fun x13 h => ?_)
        refine lv_iload hx hb dX6_cut_134 (lv_at hl 7 rfl) ?_
        obtain ⟨v14, S15, h16, h⟩ := bd_some h
        refine t_callS (n := 2) C w (c_X6_weightAt l D K b0 sa _ L _ ad P hP S9 hw hn x13 a8 v14 S15 h16) gw_1011 gw_1009 gw_1010 gw_1 ⟨by decide, by decide, by decide +kernel⟩ rfl rfl ⟨by decide, by decide⟩ rfl hl.1 rfl (Nat.le_of_ble_eq_true rfl) dX6_cut_136 ⟨Nat.le_of_ble_eq_true rfl, Nat.le_of_ble_eq_true rfl⟩ (fun v9 u H locs hp w => ?_)
        obtain ⟨f2, rfl, rfl, hw, hn, hk1⟩ := hp
        have hk := hk.tr hk1
        generalize f2 = f at w hw hk
        refine lv_goto (tgt := 143) hx hb dX6_cut_139 (by decide) ?_
        exact J143 k95 hk95 a1 a2 a3 a6 a8 v14 a7 S15 h f H locs w hw hn hk ls (lv_sub hl [1, 2, 3, 4, 5, 7] rfl)
  have J87 : ∀ (a1 : Int32) (a2 : Int32) (a3 : Int32) (t0 : Int32) (S : fS), B_X6_cut_87  a1 a2 a3 t0 S = some ((ec, v), S1) → Gw D K b0 sa ad P n L f0 p l e { frames := 7, cells := 3, slots := 18, locals := 103 } s m [.ref (ad 0 0), .int p1, .int p2, .int p3, .int p4, .int p5].toArray below meth c 10 (vx_MQ below (hQ D K b0 (fun v9 u9 => ec = 0 ∧ v9 = some (.int v) ∧ ∃ f2 : Nat → va_E, u9 = lU L f2 ∧ PW K ad P S1 L f2 ∧ S1.2.2.1 = n ∧ Kp ad P L f0 f2)) (hX D K b0 (fun E u9 => (ec ≠ 0 ∧ E = exn ec) ∧ ∃ f2 : Nat → va_E, u9 = lU L f2 ∧ PW K ad P S1 L f2 ∧ S1.2.2.1 = n ∧ Kp ad P L f0 f2)) [.ref (ad 0 0), .int p1, .int p2, .int p3, .int p4, .int p5].toArray s 3 18 (fun q => b0 ≤ q)) 3 18 87 [(0, .ref (ad 0 0)), (1, .int a1), (2, .int a2), (3, .int a3)] [.int t0] S := by
    intro a1 a2 a3 t0 S h
    dsimp only [B_X6_cut_87] at h
    intro f H locs w hw hn hk ls hl
    refine lv_istore (lv' := [(6, .int t0), (0, .ref (ad 0 0)), (1, .int a1), (2, .int a2), (3, .int a3)]) hx hb dX6_cut_87 hl (by decide) rfl (fun ls hl => ?_)
    refine lv_iconst (v := 0) hx hb dX6_cut_89 (by decide) ?_
    refine lv_istore (lv' := [(7, .int 0), (6, .int t0), (0, .ref (ad 0 0)), (1, .int a1), (2, .int a2), (3, .int a3)]) hx hb dX6_cut_90 hl (by decide) rfl (fun ls hl => ?_)
    refine lv_iconst (v := 0) hx hb dX6_cut_92 (by decide) ?_
    refine lv_istore (lv' := [(8, .int 0), (7, .int 0), (6, .int t0), (0, .ref (ad 0 0)), (1, .int a1), (2, .int a2), (3, .int a3)]) hx hb dX6_cut_93 hl (by decide) rfl (fun ls hl => ?_)
    exact J95  fuel a1 a2 a3 t0 0 0 S h f H locs w hw hn hk ls (lv_sub hl [3, 4, 5, 6, 2, 1, 0] rfl)
  have J64 : ∀ (a1 : Int32) (a2 : Int32) (a3 : Int32) (a4 : Int32) (a5 : Int32) (t0 : Int32) (S : fS), B_X6_cut_64  a1 a2 a3 a4 a5 t0 S = some ((ec, v), S1) → Gw D K b0 sa ad P n L f0 p l e { frames := 7, cells := 3, slots := 18, locals := 103 } s m [.ref (ad 0 0), .int p1, .int p2, .int p3, .int p4, .int p5].toArray below meth c 10 (vx_MQ below (hQ D K b0 (fun v9 u9 => ec = 0 ∧ v9 = some (.int v) ∧ ∃ f2 : Nat → va_E, u9 = lU L f2 ∧ PW K ad P S1 L f2 ∧ S1.2.2.1 = n ∧ Kp ad P L f0 f2)) (hX D K b0 (fun E u9 => (ec ≠ 0 ∧ E = exn ec) ∧ ∃ f2 : Nat → va_E, u9 = lU L f2 ∧ PW K ad P S1 L f2 ∧ S1.2.2.1 = n ∧ Kp ad P L f0 f2)) [.ref (ad 0 0), .int p1, .int p2, .int p3, .int p4, .int p5].toArray s 3 18 (fun q => b0 ≤ q)) 2 12 64 [(0, .ref (ad 0 0)), (1, .int a1), (2, .int a2), (3, .int a3), (4, .int a4), (5, .int a5)] [.int t0] S := by
    intro a1 a2 a3 a4 a5 t0 S h
    dsimp only [B_X6_cut_64] at h
    intro f H locs w hw hn hk ls hl
    rcases bx_some h with ⟨v17, S18, h19, h⟩ | ⟨e20, v17, S18, h19, h⟩
    rotate_left
    · refine t_xcallS (n := 1) C w (c_X6_need l hls D K b0 sa _ L _ ad P hP S hw hn t0 (e20 + 1) v17 S18 h19) gw_625 gw_623 gw_624 gw_1 ⟨by decide, by decide, by decide +kernel⟩ rfl rfl ⟨by decide, by decide⟩ rfl hl.1 rfl (Nat.le_of_ble_eq_true rfl) dX6_cut_64 ⟨Nat.le_of_ble_eq_true rfl, Nat.le_of_ble_eq_true rfl⟩ (fun E ce q9 u H locs hp w hcell hv0 hcl => ?_) (fun v9 u H locs hp w => absurd hp.1 (Nat.succ_ne_zero _))
      obtain ⟨⟨he, hE⟩, f2, rfl, hw, hn, hk1⟩ := hp
      exact t_xout w htb hlk hcell hv0 hcl ⟨sz_e h he hE, _, rfl, sz_w h hw, sz_n h hn, hk.tr hk1⟩ (by decide) (by decide)
    refine t_xcallS (n := 1) C w (c_X6_need l hls D K b0 sa _ L _ ad P hP S hw hn t0 0 v17 S18 h19) gw_625 gw_623 gw_624 gw_1 ⟨by decide, by decide, by decide +kernel⟩ rfl rfl ⟨by decide, by decide⟩ rfl hl.1 rfl (Nat.le_of_ble_eq_true rfl) dX6_cut_64 ⟨Nat.le_of_ble_eq_true rfl, Nat.le_of_ble_eq_true rfl⟩ (fun E ce q9 u H locs hp w hcell hv0 hcl => absurd rfl hp.1.1) (fun v9 u H locs hp w => ?_)
    obtain ⟨-, rfl, f2, rfl, hw, hn, hk1⟩ := hp
    have hk := hk.tr hk1
    generalize f2 = f at w hw hk
    refine lv_aload_n hx hb dX6_cut_67 rfl (lv_at hl 0 rfl) ?_
    refine u_getr C w hw (hP _ _ (isn_f rfl rfl (by decide))) rfl (N := 18) rfl rfl cin_6 0 (by decide) (by decide) (a2 := 1) (i2 := 0) rfl gw_287 dX6_cut_68 ?_
    refine u_geti C w hw (hP _ _ (isn_f rfl rfl (by decide))) rfl (N := 13) rfl rfl cin_0 8 (by decide) rfl gw_112 dX6_cut_71 ?_
    refine u_iv h (fun x21 h => ?_)
    refine lv_iconst (v := 1) hx hb dX6_cut_74 (by decide) ?_
    refine lv_iadd hx hb dX6_cut_75 ?_
    refine u_iv h (fun x22 h => ?_)
    refine lv_iload hx hb dX6_cut_76 (lv_at hl 5 rfl) ?_
    refine lv_icmp_lt (tgt := 85) hx hb dX6_cut_78 (by decide) (fun c23 => ?_) (fun c23 => ?_)
    · have h := bb_t h c23
      refine lv_iload hx hb dX6_cut_85 (lv_at hl 4 rfl) ?_
      exact J87  a1 a2 a3 a4 S18 h f H locs w hw hn hk ls (lv_sub hl [0, 1, 2, 3] rfl)
    · have h := bb_f h c23
      refine lv_iconst (v := 0) hx hb dX6_cut_81 (by decide) ?_
      refine lv_goto (tgt := 87) hx hb dX6_cut_82 (by decide) ?_
      exact J87  a1 a2 a3 0 S18 h f H locs w hw hn hk ls (lv_sub hl [0, 1, 2, 3] rfl)
  have J63 : ∀ (a1 : Int32) (a2 : Int32) (a3 : Int32) (a4 : Int32) (a5 : Int32) (S : fS), B_X6_cut_63  a1 a2 a3 a4 a5 S = some ((ec, v), S1) → Gw D K b0 sa ad P n L f0 p l e { frames := 7, cells := 3, slots := 18, locals := 103 } s m [.ref (ad 0 0), .int p1, .int p2, .int p3, .int p4, .int p5].toArray below meth c 10 (vx_MQ below (hQ D K b0 (fun v9 u9 => ec = 0 ∧ v9 = some (.int v) ∧ ∃ f2 : Nat → va_E, u9 = lU L f2 ∧ PW K ad P S1 L f2 ∧ S1.2.2.1 = n ∧ Kp ad P L f0 f2)) (hX D K b0 (fun E u9 => (ec ≠ 0 ∧ E = exn ec) ∧ ∃ f2 : Nat → va_E, u9 = lU L f2 ∧ PW K ad P S1 L f2 ∧ S1.2.2.1 = n ∧ Kp ad P L f0 f2)) [.ref (ad 0 0), .int p1, .int p2, .int p3, .int p4, .int p5].toArray s 3 18 (fun q => b0 ≤ q)) 2 12 63 [(0, .ref (ad 0 0)), (1, .int a1), (2, .int a2), (3, .int a3), (4, .int a4), (5, .int a5)] [] S := by
    intro a1 a2 a3 a4 a5 S h
    dsimp only [B_X6_cut_63] at h
    intro f H locs w hw hn hk ls hl
    refine lv_iconst (v := 0) hx hb dX6_cut_63 (by decide) ?_
    exact J64  a1 a2 a3 a4 a5 0 S h f H locs w hw hn hk ls (lv_sub hl [0, 1, 2, 3, 4, 5] rfl)
  have J33 : ∀ (a1 : Int32) (a2 : Int32) (a3 : Int32) (a4 : Int32) (a5 : Int32) (t0 : Int32) (S : fS), B_X6_cut_33  a1 a2 a3 a4 a5 t0 S = some ((ec, v), S1) → Gw D K b0 sa ad P n L f0 p l e { frames := 7, cells := 3, slots := 18, locals := 103 } s m [.ref (ad 0 0), .int p1, .int p2, .int p3, .int p4, .int p5].toArray below meth c 10 (vx_MQ below (hQ D K b0 (fun v9 u9 => ec = 0 ∧ v9 = some (.int v) ∧ ∃ f2 : Nat → va_E, u9 = lU L f2 ∧ PW K ad P S1 L f2 ∧ S1.2.2.1 = n ∧ Kp ad P L f0 f2)) (hX D K b0 (fun E u9 => (ec ≠ 0 ∧ E = exn ec) ∧ ∃ f2 : Nat → va_E, u9 = lU L f2 ∧ PW K ad P S1 L f2 ∧ S1.2.2.1 = n ∧ Kp ad P L f0 f2)) [.ref (ad 0 0), .int p1, .int p2, .int p3, .int p4, .int p5].toArray s 3 18 (fun q => b0 ≤ q)) 1 6 33 [(0, .ref (ad 0 0)), (1, .int a1), (2, .int a2), (3, .int a3), (4, .int a4), (5, .int a5)] [.int t0] S := by
    intro a1 a2 a3 a4 a5 t0 S h
    dsimp only [B_X6_cut_33] at h
    intro f H locs w hw hn hk ls hl
    rcases bx_some h with ⟨v24, S25, h26, h⟩ | ⟨e27, v24, S25, h26, h⟩
    rotate_left
    · refine t_xcallS (n := 1) C w (c_X6_need l hls D K b0 sa _ L _ ad P hP S hw hn t0 (e27 + 1) v24 S25 h26) gw_625 gw_623 gw_624 gw_1 ⟨by decide, by decide, by decide +kernel⟩ rfl rfl ⟨by decide, by decide⟩ rfl hl.1 rfl (Nat.le_of_ble_eq_true rfl) dX6_cut_33 ⟨Nat.le_of_ble_eq_true rfl, Nat.le_of_ble_eq_true rfl⟩ (fun E ce q9 u H locs hp w hcell hv0 hcl => ?_) (fun v9 u H locs hp w => absurd hp.1 (Nat.succ_ne_zero _))
      obtain ⟨⟨he, hE⟩, f2, rfl, hw, hn, hk1⟩ := hp
      exact t_xout w htb hlk hcell hv0 hcl ⟨sz_e h he hE, _, rfl, sz_w h hw, sz_n h hn, hk.tr hk1⟩ (by decide) (by decide)
    refine t_xcallS (n := 1) C w (c_X6_need l hls D K b0 sa _ L _ ad P hP S hw hn t0 0 v24 S25 h26) gw_625 gw_623 gw_624 gw_1 ⟨by decide, by decide, by decide +kernel⟩ rfl rfl ⟨by decide, by decide⟩ rfl hl.1 rfl (Nat.le_of_ble_eq_true rfl) dX6_cut_33 ⟨Nat.le_of_ble_eq_true rfl, Nat.le_of_ble_eq_true rfl⟩ (fun E ce q9 u H locs hp w hcell hv0 hcl => absurd rfl hp.1.1) (fun v9 u H locs hp w => ?_)
    obtain ⟨-, rfl, f2, rfl, hw, hn, hk1⟩ := hp
    have hk := hk.tr hk1
    generalize f2 = f at w hw hk
    refine lv_iload hx hb dX6_cut_36 (lv_at hl 4 rfl) ?_
    refine lv_iconst (v := 0) hx hb dX6_cut_38 (by decide) ?_
    refine lv_bipush (v := 9) hx hb dX6_cut_39 (by decide) ?_
    obtain ⟨v28, S29, h30, h⟩ := bd_some h
    refine t_callS (n := 3) C w (c_X6_within l D K b0 sa _ L _ ad P hP S25 hw hn a4 0 9 v28 S29 h30) gw_376 gw_374 gw_375 gw_1 ⟨by decide, by decide, by decide +kernel⟩ rfl rfl ⟨by decide, by decide⟩ rfl hl.1 rfl (Nat.le_of_ble_eq_true rfl) dX6_cut_41 ⟨Nat.le_of_ble_eq_true rfl, Nat.le_of_ble_eq_true rfl⟩ (fun v9 u H locs hp w => ?_)
    obtain ⟨f2, rfl, rfl, hw, hn, hk1⟩ := hp
    have hk := hk.tr hk1
    generalize f2 = f at w hw hk
    refine lv_if_eq (tgt := 63) hx hb dX6_cut_44 (by decide) (fun c31 => ?_) (fun c31 => ?_)
    · have h := bb_t h c31
      exact J63  a1 a2 a3 a4 a5 S29 h f H locs w hw hn hk ls (lv_sub hl [0, 1, 2, 3, 4, 5] rfl)
    · have h := bb_f h c31
      refine lv_iload hx hb dX6_cut_47 (lv_at hl 5 rfl) ?_
      refine lv_iconst (v := 0) hx hb dX6_cut_49 (by decide) ?_
      refine lv_sipush (v := 999) hx hb dX6_cut_50 (by decide) ?_
      obtain ⟨v32, S33, h34, h⟩ := bd_some h
      refine t_callS (n := 3) C w (c_X6_within l D K b0 sa _ L _ ad P hP S29 hw hn a5 0 999 v32 S33 h34) gw_376 gw_374 gw_375 gw_1 ⟨by decide, by decide, by decide +kernel⟩ rfl rfl ⟨by decide, by decide⟩ rfl hl.1 rfl (Nat.le_of_ble_eq_true rfl) dX6_cut_53 ⟨Nat.le_of_ble_eq_true rfl, Nat.le_of_ble_eq_true rfl⟩ (fun v9 u H locs hp w => ?_)
      obtain ⟨f2, rfl, rfl, hw, hn, hk1⟩ := hp
      have hk := hk.tr hk1
      generalize f2 = f at w hw hk
      refine lv_if_eq (tgt := 63) hx hb dX6_cut_56 (by decide) (fun c35 => ?_) (fun c35 => ?_)
      · have h := bb_t h c35
        exact J63  a1 a2 a3 a4 a5 S33 h f H locs w hw hn hk ls (lv_sub hl [0, 1, 2, 3, 4, 5] rfl)
      · have h := bb_f h c35
        refine lv_iconst (v := 1) hx hb dX6_cut_59 (by decide) ?_
        refine lv_goto (tgt := 64) hx hb dX6_cut_60 (by decide) ?_
        exact J64  a1 a2 a3 a4 a5 1 S33 h f H locs w hw hn hk ls (lv_sub hl [0, 1, 2, 3, 4, 5] rfl)
  have J32 : ∀ (a1 : Int32) (a2 : Int32) (a3 : Int32) (a4 : Int32) (a5 : Int32) (S : fS), B_X6_cut_32  a1 a2 a3 a4 a5 S = some ((ec, v), S1) → Gw D K b0 sa ad P n L f0 p l e { frames := 7, cells := 3, slots := 18, locals := 103 } s m [.ref (ad 0 0), .int p1, .int p2, .int p3, .int p4, .int p5].toArray below meth c 10 (vx_MQ below (hQ D K b0 (fun v9 u9 => ec = 0 ∧ v9 = some (.int v) ∧ ∃ f2 : Nat → va_E, u9 = lU L f2 ∧ PW K ad P S1 L f2 ∧ S1.2.2.1 = n ∧ Kp ad P L f0 f2)) (hX D K b0 (fun E u9 => (ec ≠ 0 ∧ E = exn ec) ∧ ∃ f2 : Nat → va_E, u9 = lU L f2 ∧ PW K ad P S1 L f2 ∧ S1.2.2.1 = n ∧ Kp ad P L f0 f2)) [.ref (ad 0 0), .int p1, .int p2, .int p3, .int p4, .int p5].toArray s 3 18 (fun q => b0 ≤ q)) 1 6 32 [(0, .ref (ad 0 0)), (1, .int a1), (2, .int a2), (3, .int a3), (4, .int a4), (5, .int a5)] [] S := by
    intro a1 a2 a3 a4 a5 S h
    dsimp only [B_X6_cut_32] at h
    intro f H locs w hw hn hk ls hl
    refine lv_iconst (v := 0) hx hb dX6_cut_32 (by decide) ?_
    exact J33  a1 a2 a3 a4 a5 0 S h f H locs w hw hn hk ls (lv_sub hl [0, 1, 2, 3, 4, 5] rfl)
  dsimp only [F_X6_cut] at h
  obtain ⟨f, ef⟩ : ∃ z, z = f0 := ⟨_, rfl⟩
  rw [← ef] at w hw
  have hk : Kp ad P L f0 f := by rw [ef]; exact Kp.rf
  obtain ⟨H, eH⟩ : ∃ z, z = s.heap := ⟨_, rfl⟩
  obtain ⟨locs, el⟩ : ∃ z : List Loc, z = [] := ⟨_, rfl⟩
  rw [← eH, ← el] at w ⊢
  refine lv_iload_n hx hb dX6_cut_0 rfl (lv_at hl 1 rfl) ?_
  refine lv_aload_n hx hb dX6_cut_1 rfl (lv_at hl 0 rfl) ?_
  refine u_geti C w hw (hP _ _ (isn_f rfl rfl (by decide))) rfl (N := 18) rfl rfl cin_6 9 (by decide) rfl gw_296 dX6_cut_2 ?_
  refine u_iv h (fun x36 h => ?_)
  rcases bx_some h with ⟨v37, S38, h39, h⟩ | ⟨e40, v37, S38, h39, h⟩
  rotate_left
  · refine t_xcallS (n := 2) C w (c_X6_needElement l hls D K b0 sa _ L _ ad P hP S0 hw hn p1 x36 (e40 + 1) v37 S38 h39) gw_656 gw_654 gw_655 gw_1 ⟨by decide, by decide, by decide +kernel⟩ rfl rfl ⟨by decide, by decide⟩ rfl hl.1 rfl (Nat.le_of_ble_eq_true rfl) dX6_cut_5 ⟨Nat.le_of_ble_eq_true rfl, Nat.le_of_ble_eq_true rfl⟩ (fun E ce q9 u H locs hp w hcell hv0 hcl => ?_) (fun v9 u H locs hp w => absurd hp.1 (Nat.succ_ne_zero _))
    obtain ⟨⟨he, hE⟩, f2, rfl, hw, hn, hk1⟩ := hp
    exact t_xout w htb hlk hcell hv0 hcl ⟨sz_e h he hE, _, rfl, sz_w h hw, sz_n h hn, hk.tr hk1⟩ (by decide) (by decide)
  refine t_xcallS (n := 2) C w (c_X6_needElement l hls D K b0 sa _ L _ ad P hP S0 hw hn p1 x36 0 v37 S38 h39) gw_656 gw_654 gw_655 gw_1 ⟨by decide, by decide, by decide +kernel⟩ rfl rfl ⟨by decide, by decide⟩ rfl hl.1 rfl (Nat.le_of_ble_eq_true rfl) dX6_cut_5 ⟨Nat.le_of_ble_eq_true rfl, Nat.le_of_ble_eq_true rfl⟩ (fun E ce q9 u H locs hp w hcell hv0 hcl => absurd rfl hp.1.1) (fun v9 u H locs hp w => ?_)
  obtain ⟨-, rfl, f2, rfl, hw, hn, hk1⟩ := hp
  have hk := hk.tr hk1
  generalize f2 = f at w hw hk
  refine lv_iload_n hx hb dX6_cut_8 rfl (lv_at hl 2 rfl) ?_
  refine lv_iconst (v := 0) hx hb dX6_cut_9 (by decide) ?_
  refine lv_bipush (v := 99) hx hb dX6_cut_10 (by decide) ?_
  obtain ⟨v41, S42, h43, h⟩ := bd_some h
  refine t_callS (n := 3) C w (c_X6_within l D K b0 sa _ L _ ad P hP S38 hw hn p2 0 99 v41 S42 h43) gw_376 gw_374 gw_375 gw_1 ⟨by decide, by decide, by decide +kernel⟩ rfl rfl ⟨by decide, by decide⟩ rfl hl.1 rfl (Nat.le_of_ble_eq_true rfl) dX6_cut_12 ⟨Nat.le_of_ble_eq_true rfl, Nat.le_of_ble_eq_true rfl⟩ (fun v9 u H locs hp w => ?_)
  obtain ⟨f2, rfl, rfl, hw, hn, hk1⟩ := hp
  have hk := hk.tr hk1
  generalize f2 = f at w hw hk
  refine lv_if_eq (tgt := 32) hx hb dX6_cut_15 (by decide) (fun c44 => ?_) (fun c44 => ?_)
  · have h := bb_t h c44
    exact J32  p1 p2 p3 p4 p5 S42 h f H locs w hw hn hk ls (lv_sub hl [0, 1, 2, 3, 4, 5] rfl)
  · have h := bb_f h c44
    refine lv_iload_n hx hb dX6_cut_18 rfl (lv_at hl 3 rfl) ?_
    refine lv_iconst (v := 0) hx hb dX6_cut_19 (by decide) ?_
    refine lv_bipush (v := 99) hx hb dX6_cut_20 (by decide) ?_
    obtain ⟨v45, S46, h47, h⟩ := bd_some h
    refine t_callS (n := 3) C w (c_X6_within l D K b0 sa _ L _ ad P hP S42 hw hn p3 0 99 v45 S46 h47) gw_376 gw_374 gw_375 gw_1 ⟨by decide, by decide, by decide +kernel⟩ rfl rfl ⟨by decide, by decide⟩ rfl hl.1 rfl (Nat.le_of_ble_eq_true rfl) dX6_cut_22 ⟨Nat.le_of_ble_eq_true rfl, Nat.le_of_ble_eq_true rfl⟩ (fun v9 u H locs hp w => ?_)
    obtain ⟨f2, rfl, rfl, hw, hn, hk1⟩ := hp
    have hk := hk.tr hk1
    generalize f2 = f at w hw hk
    refine lv_if_eq (tgt := 32) hx hb dX6_cut_25 (by decide) (fun c48 => ?_) (fun c48 => ?_)
    · have h := bb_t h c48
      exact J32  p1 p2 p3 p4 p5 S46 h f H locs w hw hn hk ls (lv_sub hl [0, 1, 2, 3, 4, 5] rfl)
    · have h := bb_f h c48
      refine lv_iconst (v := 1) hx hb dX6_cut_28 (by decide) ?_
      refine lv_goto (tgt := 33) hx hb dX6_cut_29 (by decide) ?_
      exact J33  p1 p2 p3 p4 p5 1 S46 h f H locs w hw hn hk ls (lv_sub hl [0, 1, 2, 3, 4, 5] rfl)
theorem dX4_spells_0 : decode cX4_spells 0 = .ok (.iload_n 2, 1) := by decide +kernel
theorem dX4_spells_1 : decode cX4_spells 1 = .ok (.iload_n 1, 1) := by decide +kernel
theorem dX4_spells_2 : decode cX4_spells 2 = .ok (.isub, 1) := by decide +kernel
theorem dX4_spells_3 : decode cX4_spells 3 = .ok (.aload_n 3, 1) := by decide +kernel
theorem dX4_spells_4 : decode cX4_spells 4 = .ok (.invokevirtual 109, 3) := by decide +kernel
theorem dX4_spells_7 : decode cX4_spells 7 = .ok (.if_icmp .eq 5, 3) := by decide +kernel
theorem dX4_spells_10 : decode cX4_spells 10 = .ok (.iconst 0, 1) := by decide +kernel
theorem dX4_spells_11 : decode cX4_spells 11 = .ok (.ireturn, 1) := by decide +kernel
theorem dX4_spells_12 : decode cX4_spells 12 = .ok (.iload_n 1, 1) := by decide +kernel
theorem dX4_spells_13 : decode cX4_spells 13 = .ok (.istore 4, 2) := by decide +kernel
theorem dX4_spells_15 : decode cX4_spells 15 = .ok (.iload 4, 2) := by decide +kernel
theorem dX4_spells_17 : decode cX4_spells 17 = .ok (.iload_n 2, 1) := by decide +kernel
theorem dX4_spells_18 : decode cX4_spells 18 = .ok (.if_icmp .ge 26, 3) := by decide +kernel
theorem dX4_spells_21 : decode cX4_spells 21 = .ok (.aload_n 0, 1) := by decide +kernel
theorem dX4_spells_22 : decode cX4_spells 22 = .ok (.iload 4, 2) := by decide +kernel
theorem dX4_spells_24 : decode cX4_spells 24 = .ok (.iaload, 1) := by decide +kernel
theorem dX4_spells_25 : decode cX4_spells 25 = .ok (.aload_n 3, 1) := by decide +kernel
theorem dX4_spells_26 : decode cX4_spells 26 = .ok (.iload 4, 2) := by decide +kernel
theorem dX4_spells_28 : decode cX4_spells 28 = .ok (.iload_n 1, 1) := by decide +kernel
theorem dX4_spells_29 : decode cX4_spells 29 = .ok (.isub, 1) := by decide +kernel
theorem dX4_spells_30 : decode cX4_spells 30 = .ok (.invokevirtual 113, 3) := by decide +kernel
theorem dX4_spells_33 : decode cX4_spells 33 = .ok (.if_icmp .eq 5, 3) := by decide +kernel
theorem dX4_spells_36 : decode cX4_spells 36 = .ok (.iconst 0, 1) := by decide +kernel
theorem dX4_spells_37 : decode cX4_spells 37 = .ok (.ireturn, 1) := by decide +kernel
theorem dX4_spells_38 : decode cX4_spells 38 = .ok (.iinc 4 1, 3) := by decide +kernel
theorem dX4_spells_41 : decode cX4_spells 41 = .ok (.goto (-26), 3) := by decide +kernel
theorem dX4_spells_44 : decode cX4_spells 44 = .ok (.iconst 1, 1) := by decide +kernel
theorem dX4_spells_45 : decode cX4_spells 45 = .ok (.ireturn, 1) := by decide +kernel
noncomputable def B_X4_spells_15 (r3 : Nat) (k15 : (Int32 × Int32 × Int32) → fS → Option (Int32 × fS)) : (Int32 × Int32 × Int32) → fS → Option (Int32 × fS) := fun ⟨a1, a2, a4⟩ S => bb (a2 ≤ a4) (some (1, S)) (gd (ib a4 300) (iv (ge S 16 0 (a4 : Int32).toNatClampNeg) (fun x3 => iv (a4 - a1) (fun x4 => gd (ib x4 (rsN.getD r3 0)) (iv ((rsB.getD r3 []).getD (x4 : Int32).toNatClampNeg 0) (fun x6 => bb (x3 = x6) (iv (a4 + Int32.ofInt 1) (fun x8 => k15 (a1, a2, x8) S)) (some (0, S))))))))
noncomputable def F_X4_spells (p1 : Int32) (p2 : Int32) (r3 : Nat) (S0 : fS) : Option (Int32 × fS) := iv (p2 - p1) (fun x9 => iv (Int32.ofNat (rsN.getD r3 0)) (fun x10 => bb (x9 = x10) (lp (B_X4_spells_15 r3 ) fuel (p1, p2, p1) S0) (some (0, S0))))
set_option maxHeartbeats 4000000 in
set_option maxRecDepth 100000 in
theorem c_X4_spells (l : Launch) (D : va_G) (K : Nat → ClassId) (b0 : Nat) (sa : sT) (sz : Nat) (L : List Nat) (f0 : Nat → va_E) (ad : Nat → Nat → Nat) (P : Nat → Nat → Prop) {n : Nat × Nat} (hP : ∀ a i : Nat, isn n a i → P a i) (S0 : fS) (hw : PW K ad P S0 L f0) (hn : S0.2.2.1 = n) (p1 : Int32) (p2 : Int32) (r3 : Nat) (hr3 : r3 < 16) (v : Int32) (S1 : fS) (h : F_X4_spells p1 p2 r3 S0 = some (v, S1)) : Met l yX4_spells (.code yX4_spells cX4_spells 5 (some .boolean) :: gt) { frames := 4, cells := 0, slots := 0, locals := 85 } (va_Pc [.ref (ad 16 0), .int p1, .int p2, .ref (sa.2.2.2.1 r3)] (hPre D K b0 sa sz L f0)) (hQ D K b0 (fun v9 u9 => ∃ f2 : Nat → va_E, v9 = some (.int v) ∧ u9 = lU L f2 ∧ PW K ad P S1 L f2 ∧ S1.2.2.1 = n ∧ Kp ad P L f0 f2)) 0 0 (fun q => b0 ≤ q) := by
  refine t_of (own := RX4) (by decide) rfl ?_ (Nat.le_of_ble_eq_true rfl)
  intro p e s m below meth c ls C w hsz hr hlk hnm hl
  have hx := C.1
  have hb := C.2.1
  have hl : lv_has ls 5 [(0, .ref (ad 16 0)), (1, .int p1), (2, .int p2), (3, .ref (sa.2.2.2.1 r3))] := hl
  have J15 : ∀ (fu : Nat) (a1 : Int32) (a2 : Int32) (a4 : Int32) (S : fS), lp (B_X4_spells_15 r3 ) fu (a1, a2, a4) S = some (v, S1) → Gw D K b0 sa ad P n L f0 p l e { frames := 4, cells := 0, slots := 0, locals := 85 } s m [.ref (ad 16 0), .int p1, .int p2, .ref (sa.2.2.2.1 r3)].toArray below meth c 5 (MQ below (hQ D K b0 (fun v9 u9 => ∃ f2 : Nat → va_E, v9 = some (.int v) ∧ u9 = lU L f2 ∧ PW K ad P S1 L f2 ∧ S1.2.2.1 = n ∧ Kp ad P L f0 f2)) [.ref (ad 16 0), .int p1, .int p2, .ref (sa.2.2.2.1 r3)].toArray s 0 0 (fun q => b0 ≤ q)) 0 0 15 [(0, .ref (ad 16 0)), (1, .int a1), (2, .int a2), (3, .ref (sa.2.2.2.1 r3)), (4, .int a4)] [] S := by
    intro fu a1 a2 a4 S h
    refine lp_some (G := (fun q S => Gw D K b0 sa ad P n L f0 p l e { frames := 4, cells := 0, slots := 0, locals := 85 } s m [.ref (ad 16 0), .int p1, .int p2, .ref (sa.2.2.2.1 r3)].toArray below meth c 5 (MQ below (hQ D K b0 (fun v9 u9 => ∃ f2 : Nat → va_E, v9 = some (.int v) ∧ u9 = lU L f2 ∧ PW K ad P S1 L f2 ∧ S1.2.2.1 = n ∧ Kp ad P L f0 f2)) [.ref (ad 16 0), .int p1, .int p2, .ref (sa.2.2.2.1 r3)].toArray s 0 0 (fun q => b0 ≤ q)) 0 0 15 [(0, .ref (ad 16 0)), (1, .int q.1), (2, .int q.2.1), (3, .ref (sa.2.2.2.1 r3)), (4, .int q.2.2)] [] S)) (fun k15 hk15 q S h => ?_) fu (a1, a2, a4) S h
    obtain ⟨a1, a2, a4⟩ := q
    have hk15 : ∀ (a1 : Int32) (a2 : Int32) (a4 : Int32) (S : fS), k15 (a1, a2, a4) S = some (v, S1) → Gw D K b0 sa ad P n L f0 p l e { frames := 4, cells := 0, slots := 0, locals := 85 } s m [.ref (ad 16 0), .int p1, .int p2, .ref (sa.2.2.2.1 r3)].toArray below meth c 5 (MQ below (hQ D K b0 (fun v9 u9 => ∃ f2 : Nat → va_E, v9 = some (.int v) ∧ u9 = lU L f2 ∧ PW K ad P S1 L f2 ∧ S1.2.2.1 = n ∧ Kp ad P L f0 f2)) [.ref (ad 16 0), .int p1, .int p2, .ref (sa.2.2.2.1 r3)].toArray s 0 0 (fun q => b0 ≤ q)) 0 0 15 [(0, .ref (ad 16 0)), (1, .int a1), (2, .int a2), (3, .ref (sa.2.2.2.1 r3)), (4, .int a4)] [] S := fun a1 a2 a4 S h => hk15 (a1, a2, a4) S h
    dsimp only [B_X4_spells_15] at h
    intro f H locs w hw hn hk ls hl
    refine lv_iload hx hb dX4_spells_15 (lv_at hl 4 rfl) ?_
    refine lv_iload_n hx hb dX4_spells_17 rfl (lv_at hl 2 rfl) ?_
    refine lv_icmp_ge (tgt := 44) hx hb dX4_spells_18 (by decide) (fun c1 => ?_) (fun c1 => ?_)
    · have h := bb_t h c1
      refine lv_iconst (v := 1) hx hb dX4_spells_44 (by decide) ?_
      exact t_zret C hr hlk w (by decide) ⟨_, so_v h, rfl, so_w h hw, so_n h hn, hk⟩ (by decide) (by decide) dX4_spells_45
    · have h := bb_f h c1
      refine lv_aload_n hx hb dX4_spells_21 rfl (lv_at hl 0 rfl) ?_
      refine lv_iload hx hb dX4_spells_22 (lv_at hl 4 rfl) ?_
      obtain ⟨g2, h⟩ := gd_some h
      refine u_iald C w hw (hP _ _ (isn_f rfl rfl (by decide))) rfl rfl (n := 300) rfl (vp_in_iff.mpr g2) dX4_spells_24 ?_
      refine u_iv h (fun x3 h => ?_)
      refine lv_aload_n hx hb dX4_spells_25 rfl (lv_at hl 3 rfl) ?_
      refine lv_iload hx hb dX4_spells_26 (lv_at hl 4 rfl) ?_
      refine lv_iload_n hx hb dX4_spells_28 rfl (lv_at hl 1 rfl) ?_
      refine lv_isub hx hb dX4_spells_29 ?_
      refine u_iv h (fun x4 h => ?_)
      obtain ⟨g5, h⟩ := gd_some h
      refine t_callR (n := 1) (As := [.int x4]) C w (t_recK w hr3) (c_charAt l D K b0 sa _ L _ r3 hr3 x4 g5) gw_770 gw_767 gw_768 gw_769 gw_16 ⟨by decide, by decide, by decide +kernel⟩ rfl rfl ⟨by decide, by decide⟩ rfl hl.1 rfl (Nat.le_of_ble_eq_true rfl) dX4_spells_30 ⟨Nat.le_of_ble_eq_true rfl, Nat.le_of_ble_eq_true rfl⟩ (fun v9 u H locs hp w => ?_)
      obtain ⟨rfl, rfl⟩ := hp
      refine u_iv h (fun x6 h => ?_)
      refine lv_icmp_eq (tgt := 38) hx hb dX4_spells_33 (by decide) (fun c7 => ?_) (fun c7 => ?_)
      · have h := bb_t h c7
        obtain ⟨x8, ex8, h⟩ := iv_some h
        refine lv_iinc (v := x8) (lv' := [(4, .int x8), (0, .ref (ad 16 0)), (1, .int a1), (2, .int a2), (3, .ref (sa.2.2.2.1 r3))]) hx hb dX4_spells_38 hl (k := 4) rfl ex8.symm (by decide) rfl (fun ls hl => ?_)
        refine lv_goto (tgt := 15) hx hb dX4_spells_41 (by decide) ?_
        exact hk15 a1 a2 x8 S h f H locs w hw hn hk ls (lv_sub hl [1, 2, 3, 4, 0] rfl)
      · have h := bb_f h c7
        refine lv_iconst (v := 0) hx hb dX4_spells_36 (by decide) ?_
        exact t_zret C hr hlk w (by decide) ⟨_, so_v h, rfl, so_w h hw, so_n h hn, hk⟩ (by decide) (by decide) dX4_spells_37
  dsimp only [F_X4_spells] at h
  obtain ⟨f, ef⟩ : ∃ z, z = f0 := ⟨_, rfl⟩
  rw [← ef] at w hw
  have hk : Kp ad P L f0 f := by rw [ef]; exact Kp.rf
  obtain ⟨H, eH⟩ : ∃ z, z = s.heap := ⟨_, rfl⟩
  obtain ⟨locs, el⟩ : ∃ z : List Loc, z = [] := ⟨_, rfl⟩
  rw [← eH, ← el] at w ⊢
  refine lv_iload_n hx hb dX4_spells_0 rfl (lv_at hl 2 rfl) ?_
  refine lv_iload_n hx hb dX4_spells_1 rfl (lv_at hl 1 rfl) ?_
  refine lv_isub hx hb dX4_spells_2 ?_
  refine u_iv h (fun x9 h => ?_)
  refine lv_aload_n hx hb dX4_spells_3 rfl (lv_at hl 3 rfl) ?_
  refine t_callR (n := 0) (As := []) C w (t_recK w hr3) (c_length l D K b0 sa _ L _ r3 hr3) gw_760 gw_757 gw_758 gw_759 gw_16 ⟨by decide, by decide, by decide +kernel⟩ rfl rfl ⟨by decide, by decide⟩ rfl hl.1 rfl (Nat.le_of_ble_eq_true rfl) dX4_spells_4 ⟨Nat.le_of_ble_eq_true rfl, Nat.le_of_ble_eq_true rfl⟩ (fun v9 u H locs hp w => ?_)
  obtain ⟨rfl, rfl⟩ := hp
  refine u_iv h (fun x10 h => ?_)
  refine lv_icmp_eq (tgt := 12) hx hb dX4_spells_7 (by decide) (fun c11 => ?_) (fun c11 => ?_)
  · have h := bb_t h c11
    refine lv_iload_n hx hb dX4_spells_12 rfl (lv_at hl 1 rfl) ?_
    refine lv_istore (lv' := [(4, .int p1), (0, .ref (ad 16 0)), (1, .int p1), (2, .int p2), (3, .ref (sa.2.2.2.1 r3))]) hx hb dX4_spells_13 hl (by decide) rfl (fun ls hl => ?_)
    exact J15  fuel p1 p2 p1 S0 h f H locs w hw hn hk ls (lv_sub hl [1, 2, 3, 4, 0] rfl)
  · have h := bb_f h c11
    refine lv_iconst (v := 0) hx hb dX4_spells_10 (by decide) ?_
    exact t_zret C hr hlk w (by decide) ⟨_, so_v h, rfl, so_w h hw, so_n h hn, hk⟩ (by decide) (by decide) dX4_spells_11
theorem dX4_nameIn_0 : decode cX4_nameIn 0 = .ok (.aload_n 0, 1) := by decide +kernel
theorem dX4_nameIn_1 : decode cX4_nameIn 1 = .ok (.iload_n 1, 1) := by decide +kernel
theorem dX4_nameIn_2 : decode cX4_nameIn 2 = .ok (.iload_n 2, 1) := by decide +kernel
theorem dX4_nameIn_3 : decode cX4_nameIn 3 = .ok (.ldc 142, 2) := by decide +kernel
theorem dX4_nameIn_5 : decode cX4_nameIn 5 = .ok (.invokestatic 119, 3) := by decide +kernel
theorem dX4_nameIn_8 : decode cX4_nameIn 8 = .ok (.ifCond .eq 7, 3) := by decide +kernel
theorem dX4_nameIn_11 : decode cX4_nameIn 11 = .ok (.sipush 270, 3) := by decide +kernel
theorem dX4_nameIn_14 : decode cX4_nameIn 14 = .ok (.ireturn, 1) := by decide +kernel
theorem dX4_nameIn_15 : decode cX4_nameIn 15 = .ok (.aload_n 0, 1) := by decide +kernel
theorem dX4_nameIn_16 : decode cX4_nameIn 16 = .ok (.iload_n 1, 1) := by decide +kernel
theorem dX4_nameIn_17 : decode cX4_nameIn 17 = .ok (.iload_n 2, 1) := by decide +kernel
theorem dX4_nameIn_18 : decode cX4_nameIn 18 = .ok (.ldc 144, 2) := by decide +kernel
theorem dX4_nameIn_20 : decode cX4_nameIn 20 = .ok (.invokestatic 119, 3) := by decide +kernel
theorem dX4_nameIn_23 : decode cX4_nameIn 23 = .ok (.ifCond .eq 7, 3) := by decide +kernel
theorem dX4_nameIn_26 : decode cX4_nameIn 26 = .ok (.sipush 271, 3) := by decide +kernel
theorem dX4_nameIn_29 : decode cX4_nameIn 29 = .ok (.ireturn, 1) := by decide +kernel
theorem dX4_nameIn_30 : decode cX4_nameIn 30 = .ok (.aload_n 0, 1) := by decide +kernel
theorem dX4_nameIn_31 : decode cX4_nameIn 31 = .ok (.iload_n 1, 1) := by decide +kernel
theorem dX4_nameIn_32 : decode cX4_nameIn 32 = .ok (.iload_n 2, 1) := by decide +kernel
theorem dX4_nameIn_33 : decode cX4_nameIn 33 = .ok (.ldc 146, 2) := by decide +kernel
theorem dX4_nameIn_35 : decode cX4_nameIn 35 = .ok (.invokestatic 119, 3) := by decide +kernel
theorem dX4_nameIn_38 : decode cX4_nameIn 38 = .ok (.ifCond .eq 7, 3) := by decide +kernel
theorem dX4_nameIn_41 : decode cX4_nameIn 41 = .ok (.sipush 272, 3) := by decide +kernel
theorem dX4_nameIn_44 : decode cX4_nameIn 44 = .ok (.ireturn, 1) := by decide +kernel
theorem dX4_nameIn_45 : decode cX4_nameIn 45 = .ok (.aload_n 0, 1) := by decide +kernel
theorem dX4_nameIn_46 : decode cX4_nameIn 46 = .ok (.iload_n 1, 1) := by decide +kernel
theorem dX4_nameIn_47 : decode cX4_nameIn 47 = .ok (.iload_n 2, 1) := by decide +kernel
theorem dX4_nameIn_48 : decode cX4_nameIn 48 = .ok (.ldc 148, 2) := by decide +kernel
theorem dX4_nameIn_50 : decode cX4_nameIn 50 = .ok (.invokestatic 119, 3) := by decide +kernel
theorem dX4_nameIn_53 : decode cX4_nameIn 53 = .ok (.ifCond .eq 7, 3) := by decide +kernel
theorem dX4_nameIn_56 : decode cX4_nameIn 56 = .ok (.sipush 273, 3) := by decide +kernel
theorem dX4_nameIn_59 : decode cX4_nameIn 59 = .ok (.ireturn, 1) := by decide +kernel
theorem dX4_nameIn_60 : decode cX4_nameIn 60 = .ok (.aload_n 0, 1) := by decide +kernel
theorem dX4_nameIn_61 : decode cX4_nameIn 61 = .ok (.iload_n 1, 1) := by decide +kernel
theorem dX4_nameIn_62 : decode cX4_nameIn 62 = .ok (.iload_n 2, 1) := by decide +kernel
theorem dX4_nameIn_63 : decode cX4_nameIn 63 = .ok (.ldc 150, 2) := by decide +kernel
theorem dX4_nameIn_65 : decode cX4_nameIn 65 = .ok (.invokestatic 119, 3) := by decide +kernel
theorem dX4_nameIn_68 : decode cX4_nameIn 68 = .ok (.ifCond .eq 7, 3) := by decide +kernel
theorem dX4_nameIn_71 : decode cX4_nameIn 71 = .ok (.sipush 274, 3) := by decide +kernel
theorem dX4_nameIn_74 : decode cX4_nameIn 74 = .ok (.ireturn, 1) := by decide +kernel
theorem dX4_nameIn_75 : decode cX4_nameIn 75 = .ok (.aload_n 0, 1) := by decide +kernel
theorem dX4_nameIn_76 : decode cX4_nameIn 76 = .ok (.iload_n 1, 1) := by decide +kernel
theorem dX4_nameIn_77 : decode cX4_nameIn 77 = .ok (.iload_n 2, 1) := by decide +kernel
theorem dX4_nameIn_78 : decode cX4_nameIn 78 = .ok (.ldc 152, 2) := by decide +kernel
theorem dX4_nameIn_80 : decode cX4_nameIn 80 = .ok (.invokestatic 119, 3) := by decide +kernel
theorem dX4_nameIn_83 : decode cX4_nameIn 83 = .ok (.ifCond .eq 7, 3) := by decide +kernel
theorem dX4_nameIn_86 : decode cX4_nameIn 86 = .ok (.sipush 275, 3) := by decide +kernel
theorem dX4_nameIn_89 : decode cX4_nameIn 89 = .ok (.ireturn, 1) := by decide +kernel
theorem dX4_nameIn_90 : decode cX4_nameIn 90 = .ok (.aload_n 0, 1) := by decide +kernel
theorem dX4_nameIn_91 : decode cX4_nameIn 91 = .ok (.iload_n 1, 1) := by decide +kernel
theorem dX4_nameIn_92 : decode cX4_nameIn 92 = .ok (.iload_n 2, 1) := by decide +kernel
theorem dX4_nameIn_93 : decode cX4_nameIn 93 = .ok (.ldc 154, 2) := by decide +kernel
theorem dX4_nameIn_95 : decode cX4_nameIn 95 = .ok (.invokestatic 119, 3) := by decide +kernel
theorem dX4_nameIn_98 : decode cX4_nameIn 98 = .ok (.ifCond .eq 9, 3) := by decide +kernel
theorem dX4_nameIn_101 : decode cX4_nameIn 101 = .ok (.sipush 276, 3) := by decide +kernel
theorem dX4_nameIn_104 : decode cX4_nameIn 104 = .ok (.goto 6, 3) := by decide +kernel
theorem dX4_nameIn_107 : decode cX4_nameIn 107 = .ok (.sipush 258, 3) := by decide +kernel
theorem dX4_nameIn_110 : decode cX4_nameIn 110 = .ok (.ireturn, 1) := by decide +kernel
noncomputable def F_X4_nameIn (p1 : Int32) (p2 : Int32) (S0 : fS) : Option (Int32 × fS) := bd (F_X4_spells p1 p2 9 S0) (fun v1 S2 => bb (v1 = (0 : Int32)) (bd (F_X4_spells p1 p2 10 S2) (fun v5 S6 => bb (v5 = (0 : Int32)) (bd (F_X4_spells p1 p2 11 S6) (fun v9 S10 => bb (v9 = (0 : Int32)) (bd (F_X4_spells p1 p2 12 S10) (fun v13 S14 => bb (v13 = (0 : Int32)) (bd (F_X4_spells p1 p2 13 S14) (fun v17 S18 => bb (v17 = (0 : Int32)) (bd (F_X4_spells p1 p2 14 S18) (fun v21 S22 => bb (v21 = (0 : Int32)) (bd (F_X4_spells p1 p2 15 S22) (fun v25 S26 => bb (v25 = (0 : Int32)) (some (258, S26)) (some (276, S26)))) (some (275, S22)))) (some (274, S18)))) (some (273, S14)))) (some (272, S10)))) (some (271, S6)))) (some (270, S2)))
set_option maxHeartbeats 4000000 in
set_option maxRecDepth 100000 in
theorem c_X4_nameIn (l : Launch) (D : va_G) (K : Nat → ClassId) (b0 : Nat) (sa : sT) (sz : Nat) (L : List Nat) (f0 : Nat → va_E) (ad : Nat → Nat → Nat) (P : Nat → Nat → Prop) {n : Nat × Nat} (hP : ∀ a i : Nat, isn n a i → P a i) (S0 : fS) (hw : PW K ad P S0 L f0) (hn : S0.2.2.1 = n) (p1 : Int32) (p2 : Int32) (v : Int32) (S1 : fS) (h : F_X4_nameIn p1 p2 S0 = some (v, S1)) : Met l yX4_nameIn (.code yX4_nameIn cX4_nameIn 3 (some .int) :: gt) { frames := 5, cells := 0, slots := 0, locals := 109 } (va_Pc [.ref (ad 16 0), .int p1, .int p2] (hPre D K b0 sa sz L f0)) (hQ D K b0 (fun v9 u9 => ∃ f2 : Nat → va_E, v9 = some (.int v) ∧ u9 = lU L f2 ∧ PW K ad P S1 L f2 ∧ S1.2.2.1 = n ∧ Kp ad P L f0 f2)) 0 0 (fun q => b0 ≤ q) := by
  refine t_of (own := RX4) (by decide) rfl ?_ (Nat.le_of_ble_eq_true rfl)
  intro p e s m below meth c ls C w hsz hr hlk hnm hl
  have hx := C.1
  have hb := C.2.1
  have hl : lv_has ls 3 [(0, .ref (ad 16 0)), (1, .int p1), (2, .int p2)] := hl
  dsimp only [F_X4_nameIn] at h
  obtain ⟨f, ef⟩ : ∃ z, z = f0 := ⟨_, rfl⟩
  rw [← ef] at w hw
  have hk : Kp ad P L f0 f := by rw [ef]; exact Kp.rf
  obtain ⟨H, eH⟩ : ∃ z, z = s.heap := ⟨_, rfl⟩
  obtain ⟨locs, el⟩ : ∃ z : List Loc, z = [] := ⟨_, rfl⟩
  rw [← eH, ← el] at w ⊢
  refine lv_aload_n hx hb dX4_nameIn_0 rfl (lv_at hl 0 rfl) ?_
  refine lv_iload_n hx hb dX4_nameIn_1 rfl (lv_at hl 1 rfl) ?_
  refine lv_iload_n hx hb dX4_nameIn_2 rfl (lv_at hl 2 rfl) ?_
  refine t_ldcS C w 9 rfl dX4_nameIn_3 ?_
  obtain ⟨v1, S2, h3, h⟩ := bd_some h
  refine t_callS (n := 4) C w (c_X4_spells l D K b0 sa _ L _ ad P hP S0 hw hn p1 p2 9 (by decide) v1 S2 h3) gw_756 gw_754 gw_755 gw_5 ⟨by decide, by decide, by decide +kernel⟩ rfl rfl ⟨by decide, by decide⟩ rfl hl.1 rfl (Nat.le_of_ble_eq_true rfl) dX4_nameIn_5 ⟨Nat.le_of_ble_eq_true rfl, Nat.le_of_ble_eq_true rfl⟩ (fun v9 u H locs hp w => ?_)
  obtain ⟨f2, rfl, rfl, hw, hn, hk1⟩ := hp
  have hk := hk.tr hk1
  generalize f2 = f at w hw hk
  refine lv_if_eq (tgt := 15) hx hb dX4_nameIn_8 (by decide) (fun c4 => ?_) (fun c4 => ?_)
  · have h := bb_t h c4
    refine lv_aload_n hx hb dX4_nameIn_15 rfl (lv_at hl 0 rfl) ?_
    refine lv_iload_n hx hb dX4_nameIn_16 rfl (lv_at hl 1 rfl) ?_
    refine lv_iload_n hx hb dX4_nameIn_17 rfl (lv_at hl 2 rfl) ?_
    refine t_ldcS C w 10 rfl dX4_nameIn_18 ?_
    obtain ⟨v5, S6, h7, h⟩ := bd_some h
    refine t_callS (n := 4) C w (c_X4_spells l D K b0 sa _ L _ ad P hP S2 hw hn p1 p2 10 (by decide) v5 S6 h7) gw_756 gw_754 gw_755 gw_5 ⟨by decide, by decide, by decide +kernel⟩ rfl rfl ⟨by decide, by decide⟩ rfl hl.1 rfl (Nat.le_of_ble_eq_true rfl) dX4_nameIn_20 ⟨Nat.le_of_ble_eq_true rfl, Nat.le_of_ble_eq_true rfl⟩ (fun v9 u H locs hp w => ?_)
    obtain ⟨f2, rfl, rfl, hw, hn, hk1⟩ := hp
    have hk := hk.tr hk1
    generalize f2 = f at w hw hk
    refine lv_if_eq (tgt := 30) hx hb dX4_nameIn_23 (by decide) (fun c8 => ?_) (fun c8 => ?_)
    · have h := bb_t h c8
      refine lv_aload_n hx hb dX4_nameIn_30 rfl (lv_at hl 0 rfl) ?_
      refine lv_iload_n hx hb dX4_nameIn_31 rfl (lv_at hl 1 rfl) ?_
      refine lv_iload_n hx hb dX4_nameIn_32 rfl (lv_at hl 2 rfl) ?_
      refine t_ldcS C w 11 rfl dX4_nameIn_33 ?_
      obtain ⟨v9, S10, h11, h⟩ := bd_some h
      refine t_callS (n := 4) C w (c_X4_spells l D K b0 sa _ L _ ad P hP S6 hw hn p1 p2 11 (by decide) v9 S10 h11) gw_756 gw_754 gw_755 gw_5 ⟨by decide, by decide, by decide +kernel⟩ rfl rfl ⟨by decide, by decide⟩ rfl hl.1 rfl (Nat.le_of_ble_eq_true rfl) dX4_nameIn_35 ⟨Nat.le_of_ble_eq_true rfl, Nat.le_of_ble_eq_true rfl⟩ (fun v9 u H locs hp w => ?_)
      obtain ⟨f2, rfl, rfl, hw, hn, hk1⟩ := hp
      have hk := hk.tr hk1
      generalize f2 = f at w hw hk
      refine lv_if_eq (tgt := 45) hx hb dX4_nameIn_38 (by decide) (fun c12 => ?_) (fun c12 => ?_)
      · have h := bb_t h c12
        refine lv_aload_n hx hb dX4_nameIn_45 rfl (lv_at hl 0 rfl) ?_
        refine lv_iload_n hx hb dX4_nameIn_46 rfl (lv_at hl 1 rfl) ?_
        refine lv_iload_n hx hb dX4_nameIn_47 rfl (lv_at hl 2 rfl) ?_
        refine t_ldcS C w 12 rfl dX4_nameIn_48 ?_
        obtain ⟨v13, S14, h15, h⟩ := bd_some h
        refine t_callS (n := 4) C w (c_X4_spells l D K b0 sa _ L _ ad P hP S10 hw hn p1 p2 12 (by decide) v13 S14 h15) gw_756 gw_754 gw_755 gw_5 ⟨by decide, by decide, by decide +kernel⟩ rfl rfl ⟨by decide, by decide⟩ rfl hl.1 rfl (Nat.le_of_ble_eq_true rfl) dX4_nameIn_50 ⟨Nat.le_of_ble_eq_true rfl, Nat.le_of_ble_eq_true rfl⟩ (fun v9 u H locs hp w => ?_)
        obtain ⟨f2, rfl, rfl, hw, hn, hk1⟩ := hp
        have hk := hk.tr hk1
        generalize f2 = f at w hw hk
        refine lv_if_eq (tgt := 60) hx hb dX4_nameIn_53 (by decide) (fun c16 => ?_) (fun c16 => ?_)
        · have h := bb_t h c16
          refine lv_aload_n hx hb dX4_nameIn_60 rfl (lv_at hl 0 rfl) ?_
          refine lv_iload_n hx hb dX4_nameIn_61 rfl (lv_at hl 1 rfl) ?_
          refine lv_iload_n hx hb dX4_nameIn_62 rfl (lv_at hl 2 rfl) ?_
          refine t_ldcS C w 13 rfl dX4_nameIn_63 ?_
          obtain ⟨v17, S18, h19, h⟩ := bd_some h
          refine t_callS (n := 4) C w (c_X4_spells l D K b0 sa _ L _ ad P hP S14 hw hn p1 p2 13 (by decide) v17 S18 h19) gw_756 gw_754 gw_755 gw_5 ⟨by decide, by decide, by decide +kernel⟩ rfl rfl ⟨by decide, by decide⟩ rfl hl.1 rfl (Nat.le_of_ble_eq_true rfl) dX4_nameIn_65 ⟨Nat.le_of_ble_eq_true rfl, Nat.le_of_ble_eq_true rfl⟩ (fun v9 u H locs hp w => ?_)
          obtain ⟨f2, rfl, rfl, hw, hn, hk1⟩ := hp
          have hk := hk.tr hk1
          generalize f2 = f at w hw hk
          refine lv_if_eq (tgt := 75) hx hb dX4_nameIn_68 (by decide) (fun c20 => ?_) (fun c20 => ?_)
          · have h := bb_t h c20
            refine lv_aload_n hx hb dX4_nameIn_75 rfl (lv_at hl 0 rfl) ?_
            refine lv_iload_n hx hb dX4_nameIn_76 rfl (lv_at hl 1 rfl) ?_
            refine lv_iload_n hx hb dX4_nameIn_77 rfl (lv_at hl 2 rfl) ?_
            refine t_ldcS C w 14 rfl dX4_nameIn_78 ?_
            obtain ⟨v21, S22, h23, h⟩ := bd_some h
            refine t_callS (n := 4) C w (c_X4_spells l D K b0 sa _ L _ ad P hP S18 hw hn p1 p2 14 (by decide) v21 S22 h23) gw_756 gw_754 gw_755 gw_5 ⟨by decide, by decide, by decide +kernel⟩ rfl rfl ⟨by decide, by decide⟩ rfl hl.1 rfl (Nat.le_of_ble_eq_true rfl) dX4_nameIn_80 ⟨Nat.le_of_ble_eq_true rfl, Nat.le_of_ble_eq_true rfl⟩ (fun v9 u H locs hp w => ?_)
            obtain ⟨f2, rfl, rfl, hw, hn, hk1⟩ := hp
            have hk := hk.tr hk1
            generalize f2 = f at w hw hk
            refine lv_if_eq (tgt := 90) hx hb dX4_nameIn_83 (by decide) (fun c24 => ?_) (fun c24 => ?_)
            · have h := bb_t h c24
              refine lv_aload_n hx hb dX4_nameIn_90 rfl (lv_at hl 0 rfl) ?_
              refine lv_iload_n hx hb dX4_nameIn_91 rfl (lv_at hl 1 rfl) ?_
              refine lv_iload_n hx hb dX4_nameIn_92 rfl (lv_at hl 2 rfl) ?_
              refine t_ldcS C w 15 rfl dX4_nameIn_93 ?_
              obtain ⟨v25, S26, h27, h⟩ := bd_some h
              refine t_callS (n := 4) C w (c_X4_spells l D K b0 sa _ L _ ad P hP S22 hw hn p1 p2 15 (by decide) v25 S26 h27) gw_756 gw_754 gw_755 gw_5 ⟨by decide, by decide, by decide +kernel⟩ rfl rfl ⟨by decide, by decide⟩ rfl hl.1 rfl (Nat.le_of_ble_eq_true rfl) dX4_nameIn_95 ⟨Nat.le_of_ble_eq_true rfl, Nat.le_of_ble_eq_true rfl⟩ (fun v9 u H locs hp w => ?_)
              obtain ⟨f2, rfl, rfl, hw, hn, hk1⟩ := hp
              have hk := hk.tr hk1
              generalize f2 = f at w hw hk
              refine lv_if_eq (tgt := 107) hx hb dX4_nameIn_98 (by decide) (fun c28 => ?_) (fun c28 => ?_)
              · have h := bb_t h c28
                refine lv_sipush (v := 258) hx hb dX4_nameIn_107 (by decide) ?_
                exact t_iret C hr hlk w ⟨_, so_v h, rfl, so_w h hw, so_n h hn, hk⟩ (by decide) (by decide) dX4_nameIn_110
              · have h := bb_f h c28
                refine lv_sipush (v := 276) hx hb dX4_nameIn_101 (by decide) ?_
                refine lv_goto (tgt := 110) hx hb dX4_nameIn_104 (by decide) ?_
                exact t_iret C hr hlk w ⟨_, so_v h, rfl, so_w h hw, so_n h hn, hk⟩ (by decide) (by decide) dX4_nameIn_110
            · have h := bb_f h c24
              refine lv_sipush (v := 275) hx hb dX4_nameIn_86 (by decide) ?_
              exact t_iret C hr hlk w ⟨_, so_v h, rfl, so_w h hw, so_n h hn, hk⟩ (by decide) (by decide) dX4_nameIn_89
          · have h := bb_f h c20
            refine lv_sipush (v := 274) hx hb dX4_nameIn_71 (by decide) ?_
            exact t_iret C hr hlk w ⟨_, so_v h, rfl, so_w h hw, so_n h hn, hk⟩ (by decide) (by decide) dX4_nameIn_74
        · have h := bb_f h c16
          refine lv_sipush (v := 273) hx hb dX4_nameIn_56 (by decide) ?_
          exact t_iret C hr hlk w ⟨_, so_v h, rfl, so_w h hw, so_n h hn, hk⟩ (by decide) (by decide) dX4_nameIn_59
      · have h := bb_f h c12
        refine lv_sipush (v := 272) hx hb dX4_nameIn_41 (by decide) ?_
        exact t_iret C hr hlk w ⟨_, so_v h, rfl, so_w h hw, so_n h hn, hk⟩ (by decide) (by decide) dX4_nameIn_44
    · have h := bb_f h c8
      refine lv_sipush (v := 271) hx hb dX4_nameIn_26 (by decide) ?_
      exact t_iret C hr hlk w ⟨_, so_v h, rfl, so_w h hw, so_n h hn, hk⟩ (by decide) (by decide) dX4_nameIn_29
  · have h := bb_f h c4
    refine lv_sipush (v := 270) hx hb dX4_nameIn_11 (by decide) ?_
    exact t_iret C hr hlk w ⟨_, so_v h, rfl, so_w h hw, so_n h hn, hk⟩ (by decide) (by decide) dX4_nameIn_14
theorem dX4_wordIn_0 : decode cX4_wordIn 0 = .ok (.aload_n 0, 1) := by decide +kernel
theorem dX4_wordIn_1 : decode cX4_wordIn 1 = .ok (.iload_n 1, 1) := by decide +kernel
theorem dX4_wordIn_2 : decode cX4_wordIn 2 = .ok (.iload_n 2, 1) := by decide +kernel
theorem dX4_wordIn_3 : decode cX4_wordIn 3 = .ok (.ldc 117, 2) := by decide +kernel
theorem dX4_wordIn_5 : decode cX4_wordIn 5 = .ok (.invokestatic 119, 3) := by decide +kernel
theorem dX4_wordIn_8 : decode cX4_wordIn 8 = .ok (.ifCond .eq 7, 3) := by decide +kernel
theorem dX4_wordIn_11 : decode cX4_wordIn 11 = .ok (.sipush 260, 3) := by decide +kernel
theorem dX4_wordIn_14 : decode cX4_wordIn 14 = .ok (.ireturn, 1) := by decide +kernel
theorem dX4_wordIn_15 : decode cX4_wordIn 15 = .ok (.aload_n 0, 1) := by decide +kernel
theorem dX4_wordIn_16 : decode cX4_wordIn 16 = .ok (.iload_n 1, 1) := by decide +kernel
theorem dX4_wordIn_17 : decode cX4_wordIn 17 = .ok (.iload_n 2, 1) := by decide +kernel
theorem dX4_wordIn_18 : decode cX4_wordIn 18 = .ok (.ldc 123, 2) := by decide +kernel
theorem dX4_wordIn_20 : decode cX4_wordIn 20 = .ok (.invokestatic 119, 3) := by decide +kernel
theorem dX4_wordIn_23 : decode cX4_wordIn 23 = .ok (.ifCond .eq 7, 3) := by decide +kernel
theorem dX4_wordIn_26 : decode cX4_wordIn 26 = .ok (.sipush 261, 3) := by decide +kernel
theorem dX4_wordIn_29 : decode cX4_wordIn 29 = .ok (.ireturn, 1) := by decide +kernel
theorem dX4_wordIn_30 : decode cX4_wordIn 30 = .ok (.aload_n 0, 1) := by decide +kernel
theorem dX4_wordIn_31 : decode cX4_wordIn 31 = .ok (.iload_n 1, 1) := by decide +kernel
theorem dX4_wordIn_32 : decode cX4_wordIn 32 = .ok (.iload_n 2, 1) := by decide +kernel
theorem dX4_wordIn_33 : decode cX4_wordIn 33 = .ok (.ldc 125, 2) := by decide +kernel
theorem dX4_wordIn_35 : decode cX4_wordIn 35 = .ok (.invokestatic 119, 3) := by decide +kernel
theorem dX4_wordIn_38 : decode cX4_wordIn 38 = .ok (.ifCond .eq 7, 3) := by decide +kernel
theorem dX4_wordIn_41 : decode cX4_wordIn 41 = .ok (.sipush 262, 3) := by decide +kernel
theorem dX4_wordIn_44 : decode cX4_wordIn 44 = .ok (.ireturn, 1) := by decide +kernel
theorem dX4_wordIn_45 : decode cX4_wordIn 45 = .ok (.aload_n 0, 1) := by decide +kernel
theorem dX4_wordIn_46 : decode cX4_wordIn 46 = .ok (.iload_n 1, 1) := by decide +kernel
theorem dX4_wordIn_47 : decode cX4_wordIn 47 = .ok (.iload_n 2, 1) := by decide +kernel
theorem dX4_wordIn_48 : decode cX4_wordIn 48 = .ok (.ldc 127, 2) := by decide +kernel
theorem dX4_wordIn_50 : decode cX4_wordIn 50 = .ok (.invokestatic 119, 3) := by decide +kernel
theorem dX4_wordIn_53 : decode cX4_wordIn 53 = .ok (.ifCond .eq 7, 3) := by decide +kernel
theorem dX4_wordIn_56 : decode cX4_wordIn 56 = .ok (.sipush 263, 3) := by decide +kernel
theorem dX4_wordIn_59 : decode cX4_wordIn 59 = .ok (.ireturn, 1) := by decide +kernel
theorem dX4_wordIn_60 : decode cX4_wordIn 60 = .ok (.aload_n 0, 1) := by decide +kernel
theorem dX4_wordIn_61 : decode cX4_wordIn 61 = .ok (.iload_n 1, 1) := by decide +kernel
theorem dX4_wordIn_62 : decode cX4_wordIn 62 = .ok (.iload_n 2, 1) := by decide +kernel
theorem dX4_wordIn_63 : decode cX4_wordIn 63 = .ok (.ldc 129, 2) := by decide +kernel
theorem dX4_wordIn_65 : decode cX4_wordIn 65 = .ok (.invokestatic 119, 3) := by decide +kernel
theorem dX4_wordIn_68 : decode cX4_wordIn 68 = .ok (.ifCond .eq 7, 3) := by decide +kernel
theorem dX4_wordIn_71 : decode cX4_wordIn 71 = .ok (.sipush 264, 3) := by decide +kernel
theorem dX4_wordIn_74 : decode cX4_wordIn 74 = .ok (.ireturn, 1) := by decide +kernel
theorem dX4_wordIn_75 : decode cX4_wordIn 75 = .ok (.aload_n 0, 1) := by decide +kernel
theorem dX4_wordIn_76 : decode cX4_wordIn 76 = .ok (.iload_n 1, 1) := by decide +kernel
theorem dX4_wordIn_77 : decode cX4_wordIn 77 = .ok (.iload_n 2, 1) := by decide +kernel
theorem dX4_wordIn_78 : decode cX4_wordIn 78 = .ok (.ldc 131, 2) := by decide +kernel
theorem dX4_wordIn_80 : decode cX4_wordIn 80 = .ok (.invokestatic 119, 3) := by decide +kernel
theorem dX4_wordIn_83 : decode cX4_wordIn 83 = .ok (.ifCond .eq 7, 3) := by decide +kernel
theorem dX4_wordIn_86 : decode cX4_wordIn 86 = .ok (.sipush 265, 3) := by decide +kernel
theorem dX4_wordIn_89 : decode cX4_wordIn 89 = .ok (.ireturn, 1) := by decide +kernel
theorem dX4_wordIn_90 : decode cX4_wordIn 90 = .ok (.aload_n 0, 1) := by decide +kernel
theorem dX4_wordIn_91 : decode cX4_wordIn 91 = .ok (.iload_n 1, 1) := by decide +kernel
theorem dX4_wordIn_92 : decode cX4_wordIn 92 = .ok (.iload_n 2, 1) := by decide +kernel
theorem dX4_wordIn_93 : decode cX4_wordIn 93 = .ok (.ldc 133, 2) := by decide +kernel
theorem dX4_wordIn_95 : decode cX4_wordIn 95 = .ok (.invokestatic 119, 3) := by decide +kernel
theorem dX4_wordIn_98 : decode cX4_wordIn 98 = .ok (.ifCond .eq 7, 3) := by decide +kernel
theorem dX4_wordIn_101 : decode cX4_wordIn 101 = .ok (.sipush 266, 3) := by decide +kernel
theorem dX4_wordIn_104 : decode cX4_wordIn 104 = .ok (.ireturn, 1) := by decide +kernel
theorem dX4_wordIn_105 : decode cX4_wordIn 105 = .ok (.aload_n 0, 1) := by decide +kernel
theorem dX4_wordIn_106 : decode cX4_wordIn 106 = .ok (.iload_n 1, 1) := by decide +kernel
theorem dX4_wordIn_107 : decode cX4_wordIn 107 = .ok (.iload_n 2, 1) := by decide +kernel
theorem dX4_wordIn_108 : decode cX4_wordIn 108 = .ok (.ldc 135, 2) := by decide +kernel
theorem dX4_wordIn_110 : decode cX4_wordIn 110 = .ok (.invokestatic 119, 3) := by decide +kernel
theorem dX4_wordIn_113 : decode cX4_wordIn 113 = .ok (.ifCond .eq 7, 3) := by decide +kernel
theorem dX4_wordIn_116 : decode cX4_wordIn 116 = .ok (.sipush 267, 3) := by decide +kernel
theorem dX4_wordIn_119 : decode cX4_wordIn 119 = .ok (.ireturn, 1) := by decide +kernel
theorem dX4_wordIn_120 : decode cX4_wordIn 120 = .ok (.aload_n 0, 1) := by decide +kernel
theorem dX4_wordIn_121 : decode cX4_wordIn 121 = .ok (.iload_n 1, 1) := by decide +kernel
theorem dX4_wordIn_122 : decode cX4_wordIn 122 = .ok (.iload_n 2, 1) := by decide +kernel
theorem dX4_wordIn_123 : decode cX4_wordIn 123 = .ok (.ldc 137, 2) := by decide +kernel
theorem dX4_wordIn_125 : decode cX4_wordIn 125 = .ok (.invokestatic 119, 3) := by decide +kernel
theorem dX4_wordIn_128 : decode cX4_wordIn 128 = .ok (.ifCond .eq 7, 3) := by decide +kernel
theorem dX4_wordIn_131 : decode cX4_wordIn 131 = .ok (.sipush 268, 3) := by decide +kernel
theorem dX4_wordIn_134 : decode cX4_wordIn 134 = .ok (.ireturn, 1) := by decide +kernel
theorem dX4_wordIn_135 : decode cX4_wordIn 135 = .ok (.aload_n 0, 1) := by decide +kernel
theorem dX4_wordIn_136 : decode cX4_wordIn 136 = .ok (.iload_n 1, 1) := by decide +kernel
theorem dX4_wordIn_137 : decode cX4_wordIn 137 = .ok (.iload_n 2, 1) := by decide +kernel
theorem dX4_wordIn_138 : decode cX4_wordIn 138 = .ok (.invokestatic 139, 3) := by decide +kernel
theorem dX4_wordIn_141 : decode cX4_wordIn 141 = .ok (.ireturn, 1) := by decide +kernel
noncomputable def F_X4_wordIn (p1 : Int32) (p2 : Int32) (S0 : fS) : Option (Int32 × fS) := bd (F_X4_spells p1 p2 0 S0) (fun v1 S2 => bb (v1 = (0 : Int32)) (bd (F_X4_spells p1 p2 1 S2) (fun v5 S6 => bb (v5 = (0 : Int32)) (bd (F_X4_spells p1 p2 2 S6) (fun v9 S10 => bb (v9 = (0 : Int32)) (bd (F_X4_spells p1 p2 3 S10) (fun v13 S14 => bb (v13 = (0 : Int32)) (bd (F_X4_spells p1 p2 4 S14) (fun v17 S18 => bb (v17 = (0 : Int32)) (bd (F_X4_spells p1 p2 5 S18) (fun v21 S22 => bb (v21 = (0 : Int32)) (bd (F_X4_spells p1 p2 6 S22) (fun v25 S26 => bb (v25 = (0 : Int32)) (bd (F_X4_spells p1 p2 7 S26) (fun v29 S30 => bb (v29 = (0 : Int32)) (bd (F_X4_spells p1 p2 8 S30) (fun v33 S34 => bb (v33 = (0 : Int32)) (bd (F_X4_nameIn p1 p2 S34) (fun v37 S38 => some (v37, S38))) (some (268, S34)))) (some (267, S30)))) (some (266, S26)))) (some (265, S22)))) (some (264, S18)))) (some (263, S14)))) (some (262, S10)))) (some (261, S6)))) (some (260, S2)))
set_option maxHeartbeats 4000000 in
set_option maxRecDepth 100000 in
theorem c_X4_wordIn (l : Launch) (D : va_G) (K : Nat → ClassId) (b0 : Nat) (sa : sT) (sz : Nat) (L : List Nat) (f0 : Nat → va_E) (ad : Nat → Nat → Nat) (P : Nat → Nat → Prop) {n : Nat × Nat} (hP : ∀ a i : Nat, isn n a i → P a i) (S0 : fS) (hw : PW K ad P S0 L f0) (hn : S0.2.2.1 = n) (p1 : Int32) (p2 : Int32) (v : Int32) (S1 : fS) (h : F_X4_wordIn p1 p2 S0 = some (v, S1)) : Met l yX4_wordIn (.code yX4_wordIn cX4_wordIn 3 (some .int) :: gt) { frames := 6, cells := 0, slots := 0, locals := 131 } (va_Pc [.ref (ad 16 0), .int p1, .int p2] (hPre D K b0 sa sz L f0)) (hQ D K b0 (fun v9 u9 => ∃ f2 : Nat → va_E, v9 = some (.int v) ∧ u9 = lU L f2 ∧ PW K ad P S1 L f2 ∧ S1.2.2.1 = n ∧ Kp ad P L f0 f2)) 0 0 (fun q => b0 ≤ q) := by
  refine t_of (own := RX4) (by decide) rfl ?_ (Nat.le_of_ble_eq_true rfl)
  intro p e s m below meth c ls C w hsz hr hlk hnm hl
  have hx := C.1
  have hb := C.2.1
  have hl : lv_has ls 3 [(0, .ref (ad 16 0)), (1, .int p1), (2, .int p2)] := hl
  dsimp only [F_X4_wordIn] at h
  obtain ⟨f, ef⟩ : ∃ z, z = f0 := ⟨_, rfl⟩
  rw [← ef] at w hw
  have hk : Kp ad P L f0 f := by rw [ef]; exact Kp.rf
  obtain ⟨H, eH⟩ : ∃ z, z = s.heap := ⟨_, rfl⟩
  obtain ⟨locs, el⟩ : ∃ z : List Loc, z = [] := ⟨_, rfl⟩
  rw [← eH, ← el] at w ⊢
  refine lv_aload_n hx hb dX4_wordIn_0 rfl (lv_at hl 0 rfl) ?_
  refine lv_iload_n hx hb dX4_wordIn_1 rfl (lv_at hl 1 rfl) ?_
  refine lv_iload_n hx hb dX4_wordIn_2 rfl (lv_at hl 2 rfl) ?_
  refine t_ldcS C w 0 rfl dX4_wordIn_3 ?_
  obtain ⟨v1, S2, h3, h⟩ := bd_some h
  refine t_callS (n := 4) C w (c_X4_spells l D K b0 sa _ L _ ad P hP S0 hw hn p1 p2 0 (by decide) v1 S2 h3) gw_756 gw_754 gw_755 gw_5 ⟨by decide, by decide, by decide +kernel⟩ rfl rfl ⟨by decide, by decide⟩ rfl hl.1 rfl (Nat.le_of_ble_eq_true rfl) dX4_wordIn_5 ⟨Nat.le_of_ble_eq_true rfl, Nat.le_of_ble_eq_true rfl⟩ (fun v9 u H locs hp w => ?_)
  obtain ⟨f2, rfl, rfl, hw, hn, hk1⟩ := hp
  have hk := hk.tr hk1
  generalize f2 = f at w hw hk
  refine lv_if_eq (tgt := 15) hx hb dX4_wordIn_8 (by decide) (fun c4 => ?_) (fun c4 => ?_)
  · have h := bb_t h c4
    refine lv_aload_n hx hb dX4_wordIn_15 rfl (lv_at hl 0 rfl) ?_
    refine lv_iload_n hx hb dX4_wordIn_16 rfl (lv_at hl 1 rfl) ?_
    refine lv_iload_n hx hb dX4_wordIn_17 rfl (lv_at hl 2 rfl) ?_
    refine t_ldcS C w 1 rfl dX4_wordIn_18 ?_
    obtain ⟨v5, S6, h7, h⟩ := bd_some h
    refine t_callS (n := 4) C w (c_X4_spells l D K b0 sa _ L _ ad P hP S2 hw hn p1 p2 1 (by decide) v5 S6 h7) gw_756 gw_754 gw_755 gw_5 ⟨by decide, by decide, by decide +kernel⟩ rfl rfl ⟨by decide, by decide⟩ rfl hl.1 rfl (Nat.le_of_ble_eq_true rfl) dX4_wordIn_20 ⟨Nat.le_of_ble_eq_true rfl, Nat.le_of_ble_eq_true rfl⟩ (fun v9 u H locs hp w => ?_)
    obtain ⟨f2, rfl, rfl, hw, hn, hk1⟩ := hp
    have hk := hk.tr hk1
    generalize f2 = f at w hw hk
    refine lv_if_eq (tgt := 30) hx hb dX4_wordIn_23 (by decide) (fun c8 => ?_) (fun c8 => ?_)
    · have h := bb_t h c8
      refine lv_aload_n hx hb dX4_wordIn_30 rfl (lv_at hl 0 rfl) ?_
      refine lv_iload_n hx hb dX4_wordIn_31 rfl (lv_at hl 1 rfl) ?_
      refine lv_iload_n hx hb dX4_wordIn_32 rfl (lv_at hl 2 rfl) ?_
      refine t_ldcS C w 2 rfl dX4_wordIn_33 ?_
      obtain ⟨v9, S10, h11, h⟩ := bd_some h
      refine t_callS (n := 4) C w (c_X4_spells l D K b0 sa _ L _ ad P hP S6 hw hn p1 p2 2 (by decide) v9 S10 h11) gw_756 gw_754 gw_755 gw_5 ⟨by decide, by decide, by decide +kernel⟩ rfl rfl ⟨by decide, by decide⟩ rfl hl.1 rfl (Nat.le_of_ble_eq_true rfl) dX4_wordIn_35 ⟨Nat.le_of_ble_eq_true rfl, Nat.le_of_ble_eq_true rfl⟩ (fun v9 u H locs hp w => ?_)
      obtain ⟨f2, rfl, rfl, hw, hn, hk1⟩ := hp
      have hk := hk.tr hk1
      generalize f2 = f at w hw hk
      refine lv_if_eq (tgt := 45) hx hb dX4_wordIn_38 (by decide) (fun c12 => ?_) (fun c12 => ?_)
      · have h := bb_t h c12
        refine lv_aload_n hx hb dX4_wordIn_45 rfl (lv_at hl 0 rfl) ?_
        refine lv_iload_n hx hb dX4_wordIn_46 rfl (lv_at hl 1 rfl) ?_
        refine lv_iload_n hx hb dX4_wordIn_47 rfl (lv_at hl 2 rfl) ?_
        refine t_ldcS C w 3 rfl dX4_wordIn_48 ?_
        obtain ⟨v13, S14, h15, h⟩ := bd_some h
        refine t_callS (n := 4) C w (c_X4_spells l D K b0 sa _ L _ ad P hP S10 hw hn p1 p2 3 (by decide) v13 S14 h15) gw_756 gw_754 gw_755 gw_5 ⟨by decide, by decide, by decide +kernel⟩ rfl rfl ⟨by decide, by decide⟩ rfl hl.1 rfl (Nat.le_of_ble_eq_true rfl) dX4_wordIn_50 ⟨Nat.le_of_ble_eq_true rfl, Nat.le_of_ble_eq_true rfl⟩ (fun v9 u H locs hp w => ?_)
        obtain ⟨f2, rfl, rfl, hw, hn, hk1⟩ := hp
        have hk := hk.tr hk1
        generalize f2 = f at w hw hk
        refine lv_if_eq (tgt := 60) hx hb dX4_wordIn_53 (by decide) (fun c16 => ?_) (fun c16 => ?_)
        · have h := bb_t h c16
          refine lv_aload_n hx hb dX4_wordIn_60 rfl (lv_at hl 0 rfl) ?_
          refine lv_iload_n hx hb dX4_wordIn_61 rfl (lv_at hl 1 rfl) ?_
          refine lv_iload_n hx hb dX4_wordIn_62 rfl (lv_at hl 2 rfl) ?_
          refine t_ldcS C w 4 rfl dX4_wordIn_63 ?_
          obtain ⟨v17, S18, h19, h⟩ := bd_some h
          refine t_callS (n := 4) C w (c_X4_spells l D K b0 sa _ L _ ad P hP S14 hw hn p1 p2 4 (by decide) v17 S18 h19) gw_756 gw_754 gw_755 gw_5 ⟨by decide, by decide, by decide +kernel⟩ rfl rfl ⟨by decide, by decide⟩ rfl hl.1 rfl (Nat.le_of_ble_eq_true rfl) dX4_wordIn_65 ⟨Nat.le_of_ble_eq_true rfl, Nat.le_of_ble_eq_true rfl⟩ (fun v9 u H locs hp w => ?_)
          obtain ⟨f2, rfl, rfl, hw, hn, hk1⟩ := hp
          have hk := hk.tr hk1
          generalize f2 = f at w hw hk
          refine lv_if_eq (tgt := 75) hx hb dX4_wordIn_68 (by decide) (fun c20 => ?_) (fun c20 => ?_)
          · have h := bb_t h c20
            refine lv_aload_n hx hb dX4_wordIn_75 rfl (lv_at hl 0 rfl) ?_
            refine lv_iload_n hx hb dX4_wordIn_76 rfl (lv_at hl 1 rfl) ?_
            refine lv_iload_n hx hb dX4_wordIn_77 rfl (lv_at hl 2 rfl) ?_
            refine t_ldcS C w 5 rfl dX4_wordIn_78 ?_
            obtain ⟨v21, S22, h23, h⟩ := bd_some h
            refine t_callS (n := 4) C w (c_X4_spells l D K b0 sa _ L _ ad P hP S18 hw hn p1 p2 5 (by decide) v21 S22 h23) gw_756 gw_754 gw_755 gw_5 ⟨by decide, by decide, by decide +kernel⟩ rfl rfl ⟨by decide, by decide⟩ rfl hl.1 rfl (Nat.le_of_ble_eq_true rfl) dX4_wordIn_80 ⟨Nat.le_of_ble_eq_true rfl, Nat.le_of_ble_eq_true rfl⟩ (fun v9 u H locs hp w => ?_)
            obtain ⟨f2, rfl, rfl, hw, hn, hk1⟩ := hp
            have hk := hk.tr hk1
            generalize f2 = f at w hw hk
            refine lv_if_eq (tgt := 90) hx hb dX4_wordIn_83 (by decide) (fun c24 => ?_) (fun c24 => ?_)
            · have h := bb_t h c24
              refine lv_aload_n hx hb dX4_wordIn_90 rfl (lv_at hl 0 rfl) ?_
              refine lv_iload_n hx hb dX4_wordIn_91 rfl (lv_at hl 1 rfl) ?_
              refine lv_iload_n hx hb dX4_wordIn_92 rfl (lv_at hl 2 rfl) ?_
              refine t_ldcS C w 6 rfl dX4_wordIn_93 ?_
              obtain ⟨v25, S26, h27, h⟩ := bd_some h
              refine t_callS (n := 4) C w (c_X4_spells l D K b0 sa _ L _ ad P hP S22 hw hn p1 p2 6 (by decide) v25 S26 h27) gw_756 gw_754 gw_755 gw_5 ⟨by decide, by decide, by decide +kernel⟩ rfl rfl ⟨by decide, by decide⟩ rfl hl.1 rfl (Nat.le_of_ble_eq_true rfl) dX4_wordIn_95 ⟨Nat.le_of_ble_eq_true rfl, Nat.le_of_ble_eq_true rfl⟩ (fun v9 u H locs hp w => ?_)
              obtain ⟨f2, rfl, rfl, hw, hn, hk1⟩ := hp
              have hk := hk.tr hk1
              generalize f2 = f at w hw hk
              refine lv_if_eq (tgt := 105) hx hb dX4_wordIn_98 (by decide) (fun c28 => ?_) (fun c28 => ?_)
              · have h := bb_t h c28
                refine lv_aload_n hx hb dX4_wordIn_105 rfl (lv_at hl 0 rfl) ?_
                refine lv_iload_n hx hb dX4_wordIn_106 rfl (lv_at hl 1 rfl) ?_
                refine lv_iload_n hx hb dX4_wordIn_107 rfl (lv_at hl 2 rfl) ?_
                refine t_ldcS C w 7 rfl dX4_wordIn_108 ?_
                obtain ⟨v29, S30, h31, h⟩ := bd_some h
                refine t_callS (n := 4) C w (c_X4_spells l D K b0 sa _ L _ ad P hP S26 hw hn p1 p2 7 (by decide) v29 S30 h31) gw_756 gw_754 gw_755 gw_5 ⟨by decide, by decide, by decide +kernel⟩ rfl rfl ⟨by decide, by decide⟩ rfl hl.1 rfl (Nat.le_of_ble_eq_true rfl) dX4_wordIn_110 ⟨Nat.le_of_ble_eq_true rfl, Nat.le_of_ble_eq_true rfl⟩ (fun v9 u H locs hp w => ?_)
                obtain ⟨f2, rfl, rfl, hw, hn, hk1⟩ := hp
                have hk := hk.tr hk1
                generalize f2 = f at w hw hk
                refine lv_if_eq (tgt := 120) hx hb dX4_wordIn_113 (by decide) (fun c32 => ?_) (fun c32 => ?_)
                · have h := bb_t h c32
                  refine lv_aload_n hx hb dX4_wordIn_120 rfl (lv_at hl 0 rfl) ?_
                  refine lv_iload_n hx hb dX4_wordIn_121 rfl (lv_at hl 1 rfl) ?_
                  refine lv_iload_n hx hb dX4_wordIn_122 rfl (lv_at hl 2 rfl) ?_
                  refine t_ldcS C w 8 rfl dX4_wordIn_123 ?_
                  obtain ⟨v33, S34, h35, h⟩ := bd_some h
                  refine t_callS (n := 4) C w (c_X4_spells l D K b0 sa _ L _ ad P hP S30 hw hn p1 p2 8 (by decide) v33 S34 h35) gw_756 gw_754 gw_755 gw_5 ⟨by decide, by decide, by decide +kernel⟩ rfl rfl ⟨by decide, by decide⟩ rfl hl.1 rfl (Nat.le_of_ble_eq_true rfl) dX4_wordIn_125 ⟨Nat.le_of_ble_eq_true rfl, Nat.le_of_ble_eq_true rfl⟩ (fun v9 u H locs hp w => ?_)
                  obtain ⟨f2, rfl, rfl, hw, hn, hk1⟩ := hp
                  have hk := hk.tr hk1
                  generalize f2 = f at w hw hk
                  refine lv_if_eq (tgt := 135) hx hb dX4_wordIn_128 (by decide) (fun c36 => ?_) (fun c36 => ?_)
                  · have h := bb_t h c36
                    refine lv_aload_n hx hb dX4_wordIn_135 rfl (lv_at hl 0 rfl) ?_
                    refine lv_iload_n hx hb dX4_wordIn_136 rfl (lv_at hl 1 rfl) ?_
                    refine lv_iload_n hx hb dX4_wordIn_137 rfl (lv_at hl 2 rfl) ?_
                    obtain ⟨v37, S38, h39, h⟩ := bd_some h
                    refine t_callS (n := 3) C w (c_X4_nameIn l D K b0 sa _ L _ ad P hP S34 hw hn p1 p2 v37 S38 h39) gw_815 gw_813 gw_814 gw_5 ⟨by decide, by decide, by decide +kernel⟩ rfl rfl ⟨by decide, by decide⟩ rfl hl.1 rfl (Nat.le_of_ble_eq_true rfl) dX4_wordIn_138 ⟨Nat.le_of_ble_eq_true rfl, Nat.le_of_ble_eq_true rfl⟩ (fun v9 u H locs hp w => ?_)
                    obtain ⟨f2, rfl, rfl, hw, hn, hk1⟩ := hp
                    have hk := hk.tr hk1
                    generalize f2 = f at w hw hk
                    exact t_iret C hr hlk w ⟨_, so_v h, rfl, so_w h hw, so_n h hn, hk⟩ (by decide) (by decide) dX4_wordIn_141
                  · have h := bb_f h c36
                    refine lv_sipush (v := 268) hx hb dX4_wordIn_131 (by decide) ?_
                    exact t_iret C hr hlk w ⟨_, so_v h, rfl, so_w h hw, so_n h hn, hk⟩ (by decide) (by decide) dX4_wordIn_134
                · have h := bb_f h c32
                  refine lv_sipush (v := 267) hx hb dX4_wordIn_116 (by decide) ?_
                  exact t_iret C hr hlk w ⟨_, so_v h, rfl, so_w h hw, so_n h hn, hk⟩ (by decide) (by decide) dX4_wordIn_119
              · have h := bb_f h c28
                refine lv_sipush (v := 266) hx hb dX4_wordIn_101 (by decide) ?_
                exact t_iret C hr hlk w ⟨_, so_v h, rfl, so_w h hw, so_n h hn, hk⟩ (by decide) (by decide) dX4_wordIn_104
            · have h := bb_f h c24
              refine lv_sipush (v := 265) hx hb dX4_wordIn_86 (by decide) ?_
              exact t_iret C hr hlk w ⟨_, so_v h, rfl, so_w h hw, so_n h hn, hk⟩ (by decide) (by decide) dX4_wordIn_89
          · have h := bb_f h c20
            refine lv_sipush (v := 264) hx hb dX4_wordIn_71 (by decide) ?_
            exact t_iret C hr hlk w ⟨_, so_v h, rfl, so_w h hw, so_n h hn, hk⟩ (by decide) (by decide) dX4_wordIn_74
        · have h := bb_f h c16
          refine lv_sipush (v := 263) hx hb dX4_wordIn_56 (by decide) ?_
          exact t_iret C hr hlk w ⟨_, so_v h, rfl, so_w h hw, so_n h hn, hk⟩ (by decide) (by decide) dX4_wordIn_59
      · have h := bb_f h c12
        refine lv_sipush (v := 262) hx hb dX4_wordIn_41 (by decide) ?_
        exact t_iret C hr hlk w ⟨_, so_v h, rfl, so_w h hw, so_n h hn, hk⟩ (by decide) (by decide) dX4_wordIn_44
    · have h := bb_f h c8
      refine lv_sipush (v := 261) hx hb dX4_wordIn_26 (by decide) ?_
      exact t_iret C hr hlk w ⟨_, so_v h, rfl, so_w h hw, so_n h hn, hk⟩ (by decide) (by decide) dX4_wordIn_29
  · have h := bb_f h c4
    refine lv_sipush (v := 260) hx hb dX4_wordIn_11 (by decide) ?_
    exact t_iret C hr hlk w ⟨_, so_v h, rfl, so_w h hw, so_n h hn, hk⟩ (by decide) (by decide) dX4_wordIn_14
theorem dX4_addToken_0 : decode cX4_addToken 0 = .ok (.aload_n 1, 1) := by decide +kernel
theorem dX4_addToken_1 : decode cX4_addToken 1 = .ok (.iload_n 2, 1) := by decide +kernel
theorem dX4_addToken_2 : decode cX4_addToken 2 = .ok (.iaload, 1) := by decide +kernel
theorem dX4_addToken_3 : decode cX4_addToken 3 = .ok (.istore_n 3, 1) := by decide +kernel
theorem dX4_addToken_4 : decode cX4_addToken 4 = .ok (.iload_n 3, 1) := by decide +kernel
theorem dX4_addToken_5 : decode cX4_addToken 5 = .ok (.bipush 32, 2) := by decide +kernel
theorem dX4_addToken_7 : decode cX4_addToken 7 = .ok (.if_icmp .ne 7, 3) := by decide +kernel
theorem dX4_addToken_10 : decode cX4_addToken 10 = .ok (.iload_n 2, 1) := by decide +kernel
theorem dX4_addToken_11 : decode cX4_addToken 11 = .ok (.iconst 1, 1) := by decide +kernel
theorem dX4_addToken_12 : decode cX4_addToken 12 = .ok (.iadd, 1) := by decide +kernel
theorem dX4_addToken_13 : decode cX4_addToken 13 = .ok (.ireturn, 1) := by decide +kernel
theorem dX4_addToken_14 : decode cX4_addToken 14 = .ok (.iload_n 3, 1) := by decide +kernel
theorem dX4_addToken_15 : decode cX4_addToken 15 = .ok (.bipush 48, 2) := by decide +kernel
theorem dX4_addToken_17 : decode cX4_addToken 17 = .ok (.bipush 57, 2) := by decide +kernel
theorem dX4_addToken_19 : decode cX4_addToken 19 = .ok (.invokestatic 90, 3) := by decide +kernel
theorem dX4_addToken_22 : decode cX4_addToken 22 = .ok (.ifCond .eq 33, 3) := by decide +kernel
theorem dX4_addToken_25 : decode cX4_addToken 25 = .ok (.aload_n 0, 1) := by decide +kernel
theorem dX4_addToken_26 : decode cX4_addToken 26 = .ok (.aload_n 1, 1) := by decide +kernel
theorem dX4_addToken_27 : decode cX4_addToken 27 = .ok (.iload_n 2, 1) := by decide +kernel
theorem dX4_addToken_28 : decode cX4_addToken 28 = .ok (.bipush 48, 2) := by decide +kernel
theorem dX4_addToken_30 : decode cX4_addToken 30 = .ok (.bipush 57, 2) := by decide +kernel
theorem dX4_addToken_32 : decode cX4_addToken 32 = .ok (.invokevirtual 94, 3) := by decide +kernel
theorem dX4_addToken_35 : decode cX4_addToken 35 = .ok (.istore 4, 2) := by decide +kernel
theorem dX4_addToken_37 : decode cX4_addToken 37 = .ok (.aload_n 0, 1) := by decide +kernel
theorem dX4_addToken_38 : decode cX4_addToken 38 = .ok (.sipush 257, 3) := by decide +kernel
theorem dX4_addToken_41 : decode cX4_addToken 41 = .ok (.iload_n 2, 1) := by decide +kernel
theorem dX4_addToken_42 : decode cX4_addToken 42 = .ok (.aload_n 1, 1) := by decide +kernel
theorem dX4_addToken_43 : decode cX4_addToken 43 = .ok (.iload_n 2, 1) := by decide +kernel
theorem dX4_addToken_44 : decode cX4_addToken 44 = .ok (.iload 4, 2) := by decide +kernel
theorem dX4_addToken_46 : decode cX4_addToken 46 = .ok (.invokestatic 98, 3) := by decide +kernel
theorem dX4_addToken_49 : decode cX4_addToken 49 = .ok (.invokevirtual 102, 3) := by decide +kernel
theorem dX4_addToken_52 : decode cX4_addToken 52 = .ok (.iload 4, 2) := by decide +kernel
theorem dX4_addToken_54 : decode cX4_addToken 54 = .ok (.ireturn, 1) := by decide +kernel
theorem dX4_addToken_55 : decode cX4_addToken 55 = .ok (.iload_n 3, 1) := by decide +kernel
theorem dX4_addToken_56 : decode cX4_addToken 56 = .ok (.bipush 97, 2) := by decide +kernel
theorem dX4_addToken_58 : decode cX4_addToken 58 = .ok (.bipush 122, 2) := by decide +kernel
theorem dX4_addToken_60 : decode cX4_addToken 60 = .ok (.invokestatic 90, 3) := by decide +kernel
theorem dX4_addToken_63 : decode cX4_addToken 63 = .ok (.ifCond .eq 31, 3) := by decide +kernel
theorem dX4_addToken_66 : decode cX4_addToken 66 = .ok (.aload_n 0, 1) := by decide +kernel
theorem dX4_addToken_67 : decode cX4_addToken 67 = .ok (.aload_n 1, 1) := by decide +kernel
theorem dX4_addToken_68 : decode cX4_addToken 68 = .ok (.iload_n 2, 1) := by decide +kernel
theorem dX4_addToken_69 : decode cX4_addToken 69 = .ok (.bipush 97, 2) := by decide +kernel
theorem dX4_addToken_71 : decode cX4_addToken 71 = .ok (.bipush 122, 2) := by decide +kernel
theorem dX4_addToken_73 : decode cX4_addToken 73 = .ok (.invokevirtual 94, 3) := by decide +kernel
theorem dX4_addToken_76 : decode cX4_addToken 76 = .ok (.istore 4, 2) := by decide +kernel
theorem dX4_addToken_78 : decode cX4_addToken 78 = .ok (.aload_n 0, 1) := by decide +kernel
theorem dX4_addToken_79 : decode cX4_addToken 79 = .ok (.aload_n 1, 1) := by decide +kernel
theorem dX4_addToken_80 : decode cX4_addToken 80 = .ok (.iload_n 2, 1) := by decide +kernel
theorem dX4_addToken_81 : decode cX4_addToken 81 = .ok (.iload 4, 2) := by decide +kernel
theorem dX4_addToken_83 : decode cX4_addToken 83 = .ok (.invokestatic 106, 3) := by decide +kernel
theorem dX4_addToken_86 : decode cX4_addToken 86 = .ok (.iload_n 2, 1) := by decide +kernel
theorem dX4_addToken_87 : decode cX4_addToken 87 = .ok (.iconst 0, 1) := by decide +kernel
theorem dX4_addToken_88 : decode cX4_addToken 88 = .ok (.invokevirtual 102, 3) := by decide +kernel
theorem dX4_addToken_91 : decode cX4_addToken 91 = .ok (.iload 4, 2) := by decide +kernel
theorem dX4_addToken_93 : decode cX4_addToken 93 = .ok (.ireturn, 1) := by decide +kernel
theorem dX4_addToken_94 : decode cX4_addToken 94 = .ok (.aload_n 0, 1) := by decide +kernel
theorem dX4_addToken_95 : decode cX4_addToken 95 = .ok (.iload_n 3, 1) := by decide +kernel
theorem dX4_addToken_96 : decode cX4_addToken 96 = .ok (.iload_n 2, 1) := by decide +kernel
theorem dX4_addToken_97 : decode cX4_addToken 97 = .ok (.iconst 0, 1) := by decide +kernel
theorem dX4_addToken_98 : decode cX4_addToken 98 = .ok (.invokevirtual 102, 3) := by decide +kernel
theorem dX4_addToken_101 : decode cX4_addToken 101 = .ok (.iload_n 2, 1) := by decide +kernel
theorem dX4_addToken_102 : decode cX4_addToken 102 = .ok (.iconst 1, 1) := by decide +kernel
theorem dX4_addToken_103 : decode cX4_addToken 103 = .ok (.iadd, 1) := by decide +kernel
theorem dX4_addToken_104 : decode cX4_addToken 104 = .ok (.ireturn, 1) := by decide +kernel
noncomputable def F_X4_addToken (p2 : Int32) (S0 : fS) : Option (Int32 × fS) := gd (ib p2 300) (iv (ge S0 16 0 (p2 : Int32).toNatClampNeg) (fun x2 => bb (x2 = (32 : Int32)) (iv (p2 + (1 : Int32)) (fun x34 => some (x34, S0))) (bd (F_X6_within x2 48 57 S0) (fun v4 S5 => bb (v4 = (0 : Int32)) (bd (F_X6_within x2 97 122 S5) (fun v8 S9 => bb (v8 = (0 : Int32)) (bd (F_X4_keepToken x2 p2 0 S9) (fun v12 S13 => iv (p2 + (1 : Int32)) (fun x15 => some (x15, S13)))) (bd (F_X4_runEnd p2 97 122 S9) (fun v16 S17 => bd (F_X4_wordIn p2 v16 S17) (fun v19 S20 => bd (F_X4_keepToken v19 p2 0 S20) (fun v22 S23 => some (v16, S23))))))) (bd (F_X4_runEnd p2 48 57 S5) (fun v25 S26 => bd (F_X4_numberIn p2 v25 S26) (fun v28 S29 => bd (F_X4_keepToken 257 p2 v28 S29) (fun v31 S32 => some (v25, S32)))))))))
set_option maxHeartbeats 4000000 in
set_option maxRecDepth 100000 in
theorem c_X4_addToken (l : Launch) (D : va_G) (K : Nat → ClassId) (b0 : Nat) (sa : sT) (sz : Nat) (L : List Nat) (f0 : Nat → va_E) (ad : Nat → Nat → Nat) (P : Nat → Nat → Prop) {n : Nat × Nat} (hP : ∀ a i : Nat, isn n a i → P a i) (S0 : fS) (hw : PW K ad P S0 L f0) (hn : S0.2.2.1 = n) (p2 : Int32) (v : Int32) (S1 : fS) (h : F_X4_addToken p2 S0 = some (v, S1)) : Met l yX4_addToken (.code yX4_addToken cX4_addToken 5 (some .int) :: gt) { frames := 7, cells := 0, slots := 0, locals := 153 } (va_Pc [.ref (ad 17 0), .ref (ad 16 0), .int p2] (hPre D K b0 sa sz L f0)) (hQ D K b0 (fun v9 u9 => ∃ f2 : Nat → va_E, v9 = some (.int v) ∧ u9 = lU L f2 ∧ PW K ad P S1 L f2 ∧ S1.2.2.1 = n ∧ Kp ad P L f0 f2)) 0 0 (fun q => b0 ≤ q) := by
  refine t_of (own := RX4) (by decide) rfl ?_ (Nat.le_of_ble_eq_true rfl)
  intro p e s m below meth c ls C w hsz hr hlk hnm hl
  have hx := C.1
  have hb := C.2.1
  have hl : lv_has ls 5 [(0, .ref (ad 17 0)), (1, .ref (ad 16 0)), (2, .int p2)] := hl
  dsimp only [F_X4_addToken] at h
  obtain ⟨f, ef⟩ : ∃ z, z = f0 := ⟨_, rfl⟩
  rw [← ef] at w hw
  have hk : Kp ad P L f0 f := by rw [ef]; exact Kp.rf
  obtain ⟨H, eH⟩ : ∃ z, z = s.heap := ⟨_, rfl⟩
  obtain ⟨locs, el⟩ : ∃ z : List Loc, z = [] := ⟨_, rfl⟩
  rw [← eH, ← el] at w ⊢
  refine lv_aload_n hx hb dX4_addToken_0 rfl (lv_at hl 1 rfl) ?_
  refine lv_iload_n hx hb dX4_addToken_1 rfl (lv_at hl 2 rfl) ?_
  obtain ⟨g1, h⟩ := gd_some h
  refine u_iald C w hw (hP _ _ (isn_f rfl rfl (by decide))) rfl rfl (n := 300) rfl (vp_in_iff.mpr g1) dX4_addToken_2 ?_
  refine u_iv h (fun x2 h => ?_)
  refine lv_istore_n (lv' := [(3, .int x2), (0, .ref (ad 17 0)), (1, .ref (ad 16 0)), (2, .int p2)]) hx hb dX4_addToken_3 rfl hl (by decide) rfl (fun ls hl => ?_)
  refine lv_iload_n hx hb dX4_addToken_4 rfl (lv_at hl 0 rfl) ?_
  refine lv_bipush (v := 32) hx hb dX4_addToken_5 (by decide) ?_
  refine lv_icmp_ne (tgt := 14) hx hb dX4_addToken_7 (by decide) (fun c3 => ?_) (fun c3 => ?_)
  · have h := bb_f h c3
    refine lv_iload_n hx hb dX4_addToken_14 rfl (lv_at hl 0 rfl) ?_
    refine lv_bipush (v := 48) hx hb dX4_addToken_15 (by decide) ?_
    refine lv_bipush (v := 57) hx hb dX4_addToken_17 (by decide) ?_
    obtain ⟨v4, S5, h6, h⟩ := bd_some h
    refine t_callSN (host := RX6) (n := 3) C w (c_X6_within l D K b0 sa _ L _ ad P hP S0 hw hn x2 48 57 v4 S5 h6) gw_376 (List.mem_of_getElem? (i := 7) rfl) gw_375 gw_1 ⟨by decide, by decide, by decide +kernel⟩ rfl rfl ⟨by decide, by decide⟩ rfl hl.1 rfl (Nat.le_of_ble_eq_true rfl) dX4_addToken_19 ⟨Nat.le_of_ble_eq_true rfl, Nat.le_of_ble_eq_true rfl⟩ (fun v9 u H locs hp w => ?_)
    obtain ⟨f2, rfl, rfl, hw, hn, hk1⟩ := hp
    have hk := hk.tr hk1
    generalize f2 = f at w hw hk
    refine lv_if_eq (tgt := 55) hx hb dX4_addToken_22 (by decide) (fun c7 => ?_) (fun c7 => ?_)
    · have h := bb_t h c7
      refine lv_iload_n hx hb dX4_addToken_55 rfl (lv_at hl 0 rfl) ?_
      refine lv_bipush (v := 97) hx hb dX4_addToken_56 (by decide) ?_
      refine lv_bipush (v := 122) hx hb dX4_addToken_58 (by decide) ?_
      obtain ⟨v8, S9, h10, h⟩ := bd_some h
      refine t_callSN (host := RX6) (n := 3) C w (c_X6_within l D K b0 sa _ L _ ad P hP S5 hw hn x2 97 122 v8 S9 h10) gw_376 (List.mem_of_getElem? (i := 7) rfl) gw_375 gw_1 ⟨by decide, by decide, by decide +kernel⟩ rfl rfl ⟨by decide, by decide⟩ rfl hl.1 rfl (Nat.le_of_ble_eq_true rfl) dX4_addToken_60 ⟨Nat.le_of_ble_eq_true rfl, Nat.le_of_ble_eq_true rfl⟩ (fun v9 u H locs hp w => ?_)
      obtain ⟨f2, rfl, rfl, hw, hn, hk1⟩ := hp
      have hk := hk.tr hk1
      generalize f2 = f at w hw hk
      refine lv_if_eq (tgt := 94) hx hb dX4_addToken_63 (by decide) (fun c11 => ?_) (fun c11 => ?_)
      · have h := bb_t h c11
        refine lv_aload_n hx hb dX4_addToken_94 rfl (lv_at hl 1 rfl) ?_
        refine lv_iload_n hx hb dX4_addToken_95 rfl (lv_at hl 0 rfl) ?_
        refine lv_iload_n hx hb dX4_addToken_96 rfl (lv_at hl 3 rfl) ?_
        refine lv_iconst (v := 0) hx hb dX4_addToken_97 (by decide) ?_
        obtain ⟨v12, S13, h14, h⟩ := bd_some h
        refine u_callV (n := 3) C w hw (hP _ _ (isn_f rfl rfl (by decide))) rfl rfl rfl (c_X4_keepToken l D K b0 sa _ L _ ad P hP S9 hw hn x2 p2 0 v12 S13 h14) gw_749 gw_746 gw_747 gw_748 gw_5 ⟨by decide, by decide, by decide +kernel⟩ rfl rfl ⟨by decide, by decide⟩ rfl hl.1 rfl (Nat.le_of_ble_eq_true rfl) dX4_addToken_98 ⟨Nat.le_of_ble_eq_true rfl, Nat.le_of_ble_eq_true rfl⟩ (fun v9 u H locs hp w => ?_)
        obtain ⟨f2, rfl, rfl, hw, hn, hk1⟩ := hp
        have hk := hk.tr hk1
        generalize f2 = f at w hw hk
        refine lv_iload_n hx hb dX4_addToken_101 rfl (lv_at hl 3 rfl) ?_
        refine lv_iconst (v := 1) hx hb dX4_addToken_102 (by decide) ?_
        refine lv_iadd hx hb dX4_addToken_103 ?_
        refine u_iv h (fun x15 h => ?_)
        exact t_iret C hr hlk w ⟨_, so_v h, rfl, so_w h hw, so_n h hn, hk⟩ (by decide) (by decide) dX4_addToken_104
      · have h := bb_f h c11
        refine lv_aload_n hx hb dX4_addToken_66 rfl (lv_at hl 1 rfl) ?_
        refine lv_aload_n hx hb dX4_addToken_67 rfl (lv_at hl 2 rfl) ?_
        refine lv_iload_n hx hb dX4_addToken_68 rfl (lv_at hl 3 rfl) ?_
        refine lv_bipush (v := 97) hx hb dX4_addToken_69 (by decide) ?_
        refine lv_bipush (v := 122) hx hb dX4_addToken_71 (by decide) ?_
        obtain ⟨v16, S17, h18, h⟩ := bd_some h
        refine u_callV (n := 4) C w hw (hP _ _ (isn_f rfl rfl (by decide))) rfl rfl rfl (c_X4_runEnd l D K b0 sa _ L _ ad P hP S9 hw hn p2 97 122 v16 S17 h18) gw_742 gw_739 gw_740 gw_741 gw_5 ⟨by decide, by decide, by decide +kernel⟩ rfl rfl ⟨by decide, by decide⟩ rfl hl.1 rfl (Nat.le_of_ble_eq_true rfl) dX4_addToken_73 ⟨Nat.le_of_ble_eq_true rfl, Nat.le_of_ble_eq_true rfl⟩ (fun v9 u H locs hp w => ?_)
        obtain ⟨f2, rfl, rfl, hw, hn, hk1⟩ := hp
        have hk := hk.tr hk1
        generalize f2 = f at w hw hk
        refine lv_istore (lv' := [(4, .int v16), (3, .int x2), (0, .ref (ad 17 0)), (1, .ref (ad 16 0)), (2, .int p2)]) hx hb dX4_addToken_76 hl (by decide) rfl (fun ls hl => ?_)
        refine lv_aload_n hx hb dX4_addToken_78 rfl (lv_at hl 2 rfl) ?_
        refine lv_aload_n hx hb dX4_addToken_79 rfl (lv_at hl 3 rfl) ?_
        refine lv_iload_n hx hb dX4_addToken_80 rfl (lv_at hl 4 rfl) ?_
        refine lv_iload hx hb dX4_addToken_81 (lv_at hl 0 rfl) ?_
        obtain ⟨v19, S20, h21, h⟩ := bd_some h
        refine t_callS (n := 3) C w (c_X4_wordIn l D K b0 sa _ L _ ad P hP S17 hw hn p2 v16 v19 S20 h21) gw_752 gw_750 gw_751 gw_5 ⟨by decide, by decide, by decide +kernel⟩ rfl rfl ⟨by decide, by decide⟩ rfl hl.1 rfl (Nat.le_of_ble_eq_true rfl) dX4_addToken_83 ⟨Nat.le_of_ble_eq_true rfl, Nat.le_of_ble_eq_true rfl⟩ (fun v9 u H locs hp w => ?_)
        obtain ⟨f2, rfl, rfl, hw, hn, hk1⟩ := hp
        have hk := hk.tr hk1
        generalize f2 = f at w hw hk
        refine lv_iload_n hx hb dX4_addToken_86 rfl (lv_at hl 4 rfl) ?_
        refine lv_iconst (v := 0) hx hb dX4_addToken_87 (by decide) ?_
        obtain ⟨v22, S23, h24, h⟩ := bd_some h
        refine u_callV (n := 3) C w hw (hP _ _ (isn_f rfl rfl (by decide))) rfl rfl rfl (c_X4_keepToken l D K b0 sa _ L _ ad P hP S20 hw hn v19 p2 0 v22 S23 h24) gw_749 gw_746 gw_747 gw_748 gw_5 ⟨by decide, by decide, by decide +kernel⟩ rfl rfl ⟨by decide, by decide⟩ rfl hl.1 rfl (Nat.le_of_ble_eq_true rfl) dX4_addToken_88 ⟨Nat.le_of_ble_eq_true rfl, Nat.le_of_ble_eq_true rfl⟩ (fun v9 u H locs hp w => ?_)
        obtain ⟨f2, rfl, rfl, hw, hn, hk1⟩ := hp
        have hk := hk.tr hk1
        generalize f2 = f at w hw hk
        refine lv_iload hx hb dX4_addToken_91 (lv_at hl 0 rfl) ?_
        exact t_iret C hr hlk w ⟨_, so_v h, rfl, so_w h hw, so_n h hn, hk⟩ (by decide) (by decide) dX4_addToken_93
    · have h := bb_f h c7
      refine lv_aload_n hx hb dX4_addToken_25 rfl (lv_at hl 1 rfl) ?_
      refine lv_aload_n hx hb dX4_addToken_26 rfl (lv_at hl 2 rfl) ?_
      refine lv_iload_n hx hb dX4_addToken_27 rfl (lv_at hl 3 rfl) ?_
      refine lv_bipush (v := 48) hx hb dX4_addToken_28 (by decide) ?_
      refine lv_bipush (v := 57) hx hb dX4_addToken_30 (by decide) ?_
      obtain ⟨v25, S26, h27, h⟩ := bd_some h
      refine u_callV (n := 4) C w hw (hP _ _ (isn_f rfl rfl (by decide))) rfl rfl rfl (c_X4_runEnd l D K b0 sa _ L _ ad P hP S5 hw hn p2 48 57 v25 S26 h27) gw_742 gw_739 gw_740 gw_741 gw_5 ⟨by decide, by decide, by decide +kernel⟩ rfl rfl ⟨by decide, by decide⟩ rfl hl.1 rfl (Nat.le_of_ble_eq_true rfl) dX4_addToken_32 ⟨Nat.le_of_ble_eq_true rfl, Nat.le_of_ble_eq_true rfl⟩ (fun v9 u H locs hp w => ?_)
      obtain ⟨f2, rfl, rfl, hw, hn, hk1⟩ := hp
      have hk := hk.tr hk1
      generalize f2 = f at w hw hk
      refine lv_istore (lv' := [(4, .int v25), (3, .int x2), (0, .ref (ad 17 0)), (1, .ref (ad 16 0)), (2, .int p2)]) hx hb dX4_addToken_35 hl (by decide) rfl (fun ls hl => ?_)
      refine lv_aload_n hx hb dX4_addToken_37 rfl (lv_at hl 2 rfl) ?_
      refine lv_sipush (v := 257) hx hb dX4_addToken_38 (by decide) ?_
      refine lv_iload_n hx hb dX4_addToken_41 rfl (lv_at hl 4 rfl) ?_
      refine lv_aload_n hx hb dX4_addToken_42 rfl (lv_at hl 3 rfl) ?_
      refine lv_iload_n hx hb dX4_addToken_43 rfl (lv_at hl 4 rfl) ?_
      refine lv_iload hx hb dX4_addToken_44 (lv_at hl 0 rfl) ?_
      obtain ⟨v28, S29, h30, h⟩ := bd_some h
      refine t_callS (n := 3) C w (c_X4_numberIn l D K b0 sa _ L _ ad P hP S26 hw hn p2 v25 v28 S29 h30) gw_745 gw_743 gw_744 gw_5 ⟨by decide, by decide, by decide +kernel⟩ rfl rfl ⟨by decide, by decide⟩ rfl hl.1 rfl (Nat.le_of_ble_eq_true rfl) dX4_addToken_46 ⟨Nat.le_of_ble_eq_true rfl, Nat.le_of_ble_eq_true rfl⟩ (fun v9 u H locs hp w => ?_)
      obtain ⟨f2, rfl, rfl, hw, hn, hk1⟩ := hp
      have hk := hk.tr hk1
      generalize f2 = f at w hw hk
      obtain ⟨v31, S32, h33, h⟩ := bd_some h
      refine u_callV (n := 3) C w hw (hP _ _ (isn_f rfl rfl (by decide))) rfl rfl rfl (c_X4_keepToken l D K b0 sa _ L _ ad P hP S29 hw hn 257 p2 v28 v31 S32 h33) gw_749 gw_746 gw_747 gw_748 gw_5 ⟨by decide, by decide, by decide +kernel⟩ rfl rfl ⟨by decide, by decide⟩ rfl hl.1 rfl (Nat.le_of_ble_eq_true rfl) dX4_addToken_49 ⟨Nat.le_of_ble_eq_true rfl, Nat.le_of_ble_eq_true rfl⟩ (fun v9 u H locs hp w => ?_)
      obtain ⟨f2, rfl, rfl, hw, hn, hk1⟩ := hp
      have hk := hk.tr hk1
      generalize f2 = f at w hw hk
      refine lv_iload hx hb dX4_addToken_52 (lv_at hl 0 rfl) ?_
      exact t_iret C hr hlk w ⟨_, so_v h, rfl, so_w h hw, so_n h hn, hk⟩ (by decide) (by decide) dX4_addToken_54
  · have h := bb_t h c3
    refine lv_iload_n hx hb dX4_addToken_10 rfl (lv_at hl 3 rfl) ?_
    refine lv_iconst (v := 1) hx hb dX4_addToken_11 (by decide) ?_
    refine lv_iadd hx hb dX4_addToken_12 ?_
    refine u_iv h (fun x34 h => ?_)
    exact t_iret C hr hlk w ⟨_, so_v h, rfl, so_w h hw, so_n h hn, hk⟩ (by decide) (by decide) dX4_addToken_13
theorem dX4_begin_0 : decode cX4_begin 0 = .ok (.aload_n 0, 1) := by decide +kernel
theorem dX4_begin_1 : decode cX4_begin 1 = .ok (.iconst 0, 1) := by decide +kernel
theorem dX4_begin_2 : decode cX4_begin 2 = .ok (.iload_n 2, 1) := by decide +kernel
theorem dX4_begin_3 : decode cX4_begin 3 = .ok (.aload_n 1, 1) := by decide +kernel
theorem dX4_begin_4 : decode cX4_begin 4 = .ok (.arraylength, 1) := by decide +kernel
theorem dX4_begin_5 : decode cX4_begin 5 = .ok (.invokestatic 77, 3) := by decide +kernel
theorem dX4_begin_8 : decode cX4_begin 8 = .ok (.invokestatic 83, 3) := by decide +kernel
theorem dX4_begin_11 : decode cX4_begin 11 = .ok (.putfield 28, 3) := by decide +kernel
theorem dX4_begin_14 : decode cX4_begin 14 = .ok (.aload_n 0, 1) := by decide +kernel
theorem dX4_begin_15 : decode cX4_begin 15 = .ok (.iload_n 3, 1) := by decide +kernel
theorem dX4_begin_16 : decode cX4_begin 16 = .ok (.putfield 40, 3) := by decide +kernel
theorem dX4_begin_19 : decode cX4_begin 19 = .ok (.aload_n 0, 1) := by decide +kernel
theorem dX4_begin_20 : decode cX4_begin 20 = .ok (.iconst 0, 1) := by decide +kernel
theorem dX4_begin_21 : decode cX4_begin 21 = .ok (.putfield 21, 3) := by decide +kernel
theorem dX4_begin_24 : decode cX4_begin 24 = .ok (.aload_n 0, 1) := by decide +kernel
theorem dX4_begin_25 : decode cX4_begin 25 = .ok (.iconst 0, 1) := by decide +kernel
theorem dX4_begin_26 : decode cX4_begin 26 = .ok (.putfield 25, 3) := by decide +kernel
theorem dX4_begin_29 : decode cX4_begin 29 = .ok (.aload_n 0, 1) := by decide +kernel
theorem dX4_begin_30 : decode cX4_begin 30 = .ok (.iconst 0, 1) := by decide +kernel
theorem dX4_begin_31 : decode cX4_begin 31 = .ok (.putfield 34, 3) := by decide +kernel
theorem dX4_begin_34 : decode cX4_begin 34 = .ok (.aload_n 0, 1) := by decide +kernel
theorem dX4_begin_35 : decode cX4_begin 35 = .ok (.iconst 0, 1) := by decide +kernel
theorem dX4_begin_36 : decode cX4_begin 36 = .ok (.putfield 37, 3) := by decide +kernel
theorem dX4_begin_39 : decode cX4_begin 39 = .ok (.aload_n 0, 1) := by decide +kernel
theorem dX4_begin_40 : decode cX4_begin 40 = .ok (.iconst 0, 1) := by decide +kernel
theorem dX4_begin_41 : decode cX4_begin 41 = .ok (.putfield 44, 3) := by decide +kernel
theorem dX4_begin_44 : decode cX4_begin 44 = .ok (.aload_n 0, 1) := by decide +kernel
theorem dX4_begin_45 : decode cX4_begin 45 = .ok (.iconst (-1), 1) := by decide +kernel
theorem dX4_begin_46 : decode cX4_begin 46 = .ok (.putfield 47, 3) := by decide +kernel
theorem dX4_begin_49 : decode cX4_begin 49 = .ok (.iconst 0, 1) := by decide +kernel
theorem dX4_begin_50 : decode cX4_begin 50 = .ok (.istore 4, 2) := by decide +kernel
theorem dX4_begin_52 : decode cX4_begin 52 = .ok (.iconst 0, 1) := by decide +kernel
theorem dX4_begin_53 : decode cX4_begin 53 = .ok (.istore 5, 2) := by decide +kernel
theorem dX4_begin_55 : decode cX4_begin 55 = .ok (.iload 5, 2) := by decide +kernel
theorem dX4_begin_57 : decode cX4_begin 57 = .ok (.aload_n 0, 1) := by decide +kernel
theorem dX4_begin_58 : decode cX4_begin 58 = .ok (.getfield 28, 3) := by decide +kernel
theorem dX4_begin_61 : decode cX4_begin 61 = .ok (.if_icmp .ge 27, 3) := by decide +kernel
theorem dX4_begin_64 : decode cX4_begin 64 = .ok (.iload 4, 2) := by decide +kernel
theorem dX4_begin_66 : decode cX4_begin 66 = .ok (.aload_n 0, 1) := by decide +kernel
theorem dX4_begin_67 : decode cX4_begin 67 = .ok (.getfield 28, 3) := by decide +kernel
theorem dX4_begin_70 : decode cX4_begin 70 = .ok (.if_icmp .ge 18, 3) := by decide +kernel
theorem dX4_begin_73 : decode cX4_begin 73 = .ok (.aload_n 0, 1) := by decide +kernel
theorem dX4_begin_74 : decode cX4_begin 74 = .ok (.aload_n 1, 1) := by decide +kernel
theorem dX4_begin_75 : decode cX4_begin 75 = .ok (.iload 4, 2) := by decide +kernel
theorem dX4_begin_77 : decode cX4_begin 77 = .ok (.invokevirtual 86, 3) := by decide +kernel
theorem dX4_begin_80 : decode cX4_begin 80 = .ok (.istore 4, 2) := by decide +kernel
theorem dX4_begin_82 : decode cX4_begin 82 = .ok (.iinc 5 1, 3) := by decide +kernel
theorem dX4_begin_85 : decode cX4_begin 85 = .ok (.goto (-30), 3) := by decide +kernel
theorem dX4_begin_88 : decode cX4_begin 88 = .ok (.return_, 1) := by decide +kernel
noncomputable def B_X4_begin_55 (k55 : (Int32 × Int32) → fS → Option (Int32 × fS)) : (Int32 × Int32) → fS → Option (Int32 × fS) := fun ⟨a4, a5⟩ S => iv (ge S 17 0 5) (fun x1 => bb (x1 ≤ a5) (some (0, S)) (iv (ge S 17 0 5) (fun x3 => bb (x3 ≤ a4) (some (0, S)) (bd (F_X4_addToken a4 S) (fun v5 S6 => iv (a5 + Int32.ofInt 1) (fun x8 => k55 (v5, x8) S6))))))
noncomputable def F_X4_begin (p2 : Int32) (p3 : Int32) (S0 : fS) : Option (Int32 × fS) := iv ((if (300 : Int32) < p2 then (300 : Int32) else p2)) (fun x9 => iv ((if (0 : Int32) < x9 then x9 else (0 : Int32))) (fun x10 => sv (pu S0 17 0 5 x10) (fun S11 => gd (p3 = 0 ∨ p3 = 1) (sv (pu S11 17 0 9 p3) (fun S13 => sv (pu S13 17 0 3 0) (fun S14 => sv (pu S14 17 0 4 0) (fun S15 => sv (pu S15 17 0 7 0) (fun S16 => sv (pu S16 17 0 8 0) (fun S17 => sv (pu S17 17 0 10 0) (fun S18 => sv (pu S18 17 0 11 (-1)) (fun S19 => lp (B_X4_begin_55 ) fuel (0, 0) S19)))))))))))
set_option maxHeartbeats 4000000 in
set_option maxRecDepth 100000 in
theorem c_X4_begin (l : Launch) (D : va_G) (K : Nat → ClassId) (b0 : Nat) (sa : sT) (sz : Nat) (L : List Nat) (f0 : Nat → va_E) (ad : Nat → Nat → Nat) (P : Nat → Nat → Prop) {n : Nat × Nat} (hP : ∀ a i : Nat, isn n a i → P a i) (S0 : fS) (hw : PW K ad P S0 L f0) (hn : S0.2.2.1 = n) (p2 : Int32) (p3 : Int32) (v : Int32) (S1 : fS) (h : F_X4_begin p2 p3 S0 = some (v, S1)) : Met l yX4_begin (.code yX4_begin cX4_begin 6 none :: gt) { frames := 8, cells := 0, slots := 0, locals := 177 } (va_Pc [.ref (ad 17 0), .ref (ad 16 0), .int p2, .int p3] (hPre D K b0 sa sz L f0)) (hQ D K b0 (fun v9 u9 => ∃ f2 : Nat → va_E, v9 = none ∧ u9 = lU L f2 ∧ PW K ad P S1 L f2 ∧ S1.2.2.1 = n ∧ Kp ad P L f0 f2)) 0 0 (fun q => b0 ≤ q) := by
  refine t_of (own := RX4) (by decide) rfl ?_ (Nat.le_of_ble_eq_true rfl)
  intro p e s m below meth c ls C w hsz hr hlk hnm hl
  have hx := C.1
  have hb := C.2.1
  have hl : lv_has ls 6 [(0, .ref (ad 17 0)), (1, .ref (ad 16 0)), (2, .int p2), (3, .int p3)] := hl
  have J55 : ∀ (fu : Nat) (a4 : Int32) (a5 : Int32) (S : fS), lp (B_X4_begin_55 ) fu (a4, a5) S = some (v, S1) → Gw D K b0 sa ad P n L f0 p l e { frames := 8, cells := 0, slots := 0, locals := 177 } s m [.ref (ad 17 0), .ref (ad 16 0), .int p2, .int p3].toArray below meth c 6 (MQ below (hQ D K b0 (fun v9 u9 => ∃ f2 : Nat → va_E, v9 = none ∧ u9 = lU L f2 ∧ PW K ad P S1 L f2 ∧ S1.2.2.1 = n ∧ Kp ad P L f0 f2)) [.ref (ad 17 0), .ref (ad 16 0), .int p2, .int p3].toArray s 0 0 (fun q => b0 ≤ q)) 0 0 55 [(0, .ref (ad 17 0)), (1, .ref (ad 16 0)), (4, .int a4), (5, .int a5)] [] S := by
    intro fu a4 a5 S h
    refine lp_some (G := (fun q S => Gw D K b0 sa ad P n L f0 p l e { frames := 8, cells := 0, slots := 0, locals := 177 } s m [.ref (ad 17 0), .ref (ad 16 0), .int p2, .int p3].toArray below meth c 6 (MQ below (hQ D K b0 (fun v9 u9 => ∃ f2 : Nat → va_E, v9 = none ∧ u9 = lU L f2 ∧ PW K ad P S1 L f2 ∧ S1.2.2.1 = n ∧ Kp ad P L f0 f2)) [.ref (ad 17 0), .ref (ad 16 0), .int p2, .int p3].toArray s 0 0 (fun q => b0 ≤ q)) 0 0 55 [(0, .ref (ad 17 0)), (1, .ref (ad 16 0)), (4, .int q.1), (5, .int q.2)] [] S)) (fun k55 hk55 q S h => ?_) fu (a4, a5) S h
    obtain ⟨a4, a5⟩ := q
    have hk55 : ∀ (a4 : Int32) (a5 : Int32) (S : fS), k55 (a4, a5) S = some (v, S1) → Gw D K b0 sa ad P n L f0 p l e { frames := 8, cells := 0, slots := 0, locals := 177 } s m [.ref (ad 17 0), .ref (ad 16 0), .int p2, .int p3].toArray below meth c 6 (MQ below (hQ D K b0 (fun v9 u9 => ∃ f2 : Nat → va_E, v9 = none ∧ u9 = lU L f2 ∧ PW K ad P S1 L f2 ∧ S1.2.2.1 = n ∧ Kp ad P L f0 f2)) [.ref (ad 17 0), .ref (ad 16 0), .int p2, .int p3].toArray s 0 0 (fun q => b0 ≤ q)) 0 0 55 [(0, .ref (ad 17 0)), (1, .ref (ad 16 0)), (4, .int a4), (5, .int a5)] [] S := fun a4 a5 S h => hk55 (a4, a5) S h
    dsimp only [B_X4_begin_55] at h
    intro f H locs w hw hn hk ls hl
    refine lv_iload hx hb dX4_begin_55 (lv_at hl 3 rfl) ?_
    refine lv_aload_n hx hb dX4_begin_57 rfl (lv_at hl 0 rfl) ?_
    refine u_geti C w hw (hP _ _ (isn_f rfl rfl (by decide))) rfl (N := 12) rfl rfl cin_4 5 (by decide) rfl gw_163 dX4_begin_58 ?_
    refine u_iv h (fun x1 h => ?_)
    refine lv_icmp_ge (tgt := 88) hx hb dX4_begin_61 (by decide) (fun c2 => ?_) (fun c2 => ?_)
    · have h := bb_t h c2
      exact t_vret C hr hlk w ⟨_, rfl, rfl, so_w h hw, so_n h hn, hk⟩ (by decide) (by decide) dX4_begin_88
    · have h := bb_f h c2
      refine lv_iload hx hb dX4_begin_64 (lv_at hl 2 rfl) ?_
      refine lv_aload_n hx hb dX4_begin_66 rfl (lv_at hl 0 rfl) ?_
      refine u_geti C w hw (hP _ _ (isn_f rfl rfl (by decide))) rfl (N := 12) rfl rfl cin_4 5 (by decide) rfl gw_163 dX4_begin_67 ?_
      refine u_iv h (fun x3 h => ?_)
      refine lv_icmp_ge (tgt := 88) hx hb dX4_begin_70 (by decide) (fun c4 => ?_) (fun c4 => ?_)
      · have h := bb_t h c4
        exact t_vret C hr hlk w ⟨_, rfl, rfl, so_w h hw, so_n h hn, hk⟩ (by decide) (by decide) dX4_begin_88
      · have h := bb_f h c4
        refine lv_aload_n hx hb dX4_begin_73 rfl (lv_at hl 0 rfl) ?_
        refine lv_aload_n hx hb dX4_begin_74 rfl (lv_at hl 1 rfl) ?_
        refine lv_iload hx hb dX4_begin_75 (lv_at hl 2 rfl) ?_
        obtain ⟨v5, S6, h7, h⟩ := bd_some h
        refine u_callV (n := 2) C w hw (hP _ _ (isn_f rfl rfl (by decide))) rfl rfl rfl (c_X4_addToken l D K b0 sa _ L _ ad P hP S hw hn a4 v5 S6 h7) gw_737 gw_734 gw_735 gw_736 gw_5 ⟨by decide, by decide, by decide +kernel⟩ rfl rfl ⟨by decide, by decide⟩ rfl hl.1 rfl (Nat.le_of_ble_eq_true rfl) dX4_begin_77 ⟨Nat.le_of_ble_eq_true rfl, Nat.le_of_ble_eq_true rfl⟩ (fun v9 u H locs hp w => ?_)
        obtain ⟨f2, rfl, rfl, hw, hn, hk1⟩ := hp
        have hk := hk.tr hk1
        generalize f2 = f at w hw hk
        refine lv_istore (lv' := [(4, .int v5), (0, .ref (ad 17 0)), (1, .ref (ad 16 0)), (5, .int a5)]) hx hb dX4_begin_80 hl (by decide) rfl (fun ls hl => ?_)
        obtain ⟨x8, ex8, h⟩ := iv_some h
        refine lv_iinc (v := x8) (lv' := [(5, .int x8), (4, .int v5), (0, .ref (ad 17 0)), (1, .ref (ad 16 0))]) hx hb dX4_begin_82 hl (k := 3) rfl ex8.symm (by decide) rfl (fun ls hl => ?_)
        refine lv_goto (tgt := 55) hx hb dX4_begin_85 (by decide) ?_
        exact hk55 v5 x8 S6 h f H locs w hw hn hk ls (lv_sub hl [2, 3, 1, 0] rfl)
  dsimp only [F_X4_begin] at h
  obtain ⟨f, ef⟩ : ∃ z, z = f0 := ⟨_, rfl⟩
  rw [← ef] at w hw
  have hk : Kp ad P L f0 f := by rw [ef]; exact Kp.rf
  obtain ⟨H, eH⟩ : ∃ z, z = s.heap := ⟨_, rfl⟩
  obtain ⟨locs, el⟩ : ∃ z : List Loc, z = [] := ⟨_, rfl⟩
  rw [← eH, ← el] at w ⊢
  refine lv_aload_n hx hb dX4_begin_0 rfl (lv_at hl 0 rfl) ?_
  refine lv_iconst (v := 0) hx hb dX4_begin_1 (by decide) ?_
  refine lv_iload_n hx hb dX4_begin_2 rfl (lv_at hl 2 rfl) ?_
  refine lv_aload_n hx hb dX4_begin_3 rfl (lv_at hl 1 rfl) ?_
  refine u_alen C w hw (hP _ _ (isn_f rfl rfl (by decide))) rfl rfl (v := 300) rfl dX4_begin_4 ?_
  refine va_mmin hx hb (C.2.2.1.trans hl.1.symm) C.2.2.2.1 (C.2.2.2.2 _ gw_732) (C.2.2.2.2 _ gw_409) (C.2.2.2.2 _ gw_15) (C.2.2.2.2 _ gw_410) (by decide) (Nat.le_of_ble_eq_true rfl) (by decide) (by decide) dX4_begin_5 ?_
  refine u_iv h (fun x9 h => ?_)
  refine va_mmax hx hb (C.2.2.1.trans hl.1.symm) C.2.2.2.1 (C.2.2.2.2 _ gw_733) (C.2.2.2.2 _ gw_412) (C.2.2.2.2 _ gw_15) (C.2.2.2.2 _ gw_413) (by decide) (Nat.le_of_ble_eq_true rfl) (by decide) (by decide) dX4_begin_8 ?_
  refine u_iv h (fun x10 h => ?_)
  refine u_puti C w hw (hP _ _ (isn_f rfl rfl (by decide))) rfl (N := 12) rfl rfl cin_4 tyX4 tyX4_ok nmX4 5 (by decide) rfl rfl rfl rfl gw_163 dX4_begin_11 (fun f H locs w hw hk1 => ?_)
  have hk := hk.tr hk1
  refine u_sv h hw hn (fun S11 h hw hn => ?_)
  refine lv_aload_n hx hb dX4_begin_14 rfl (lv_at hl 0 rfl) ?_
  refine lv_iload_n hx hb dX4_begin_15 rfl (lv_at hl 3 rfl) ?_
  obtain ⟨g12, h⟩ := gd_some h
  refine u_puti C w hw (hP _ _ (isn_f rfl rfl (by decide))) rfl (N := 12) rfl rfl cin_4 tyX4 tyX4_ok nmX4 9 (by decide) rfl rfl (narb g12) (fitb g12) gw_167 dX4_begin_16 (fun f H locs w hw hk1 => ?_)
  have hk := hk.tr hk1
  refine u_sv h hw hn (fun S13 h hw hn => ?_)
  refine lv_aload_n hx hb dX4_begin_19 rfl (lv_at hl 0 rfl) ?_
  refine lv_iconst (v := 0) hx hb dX4_begin_20 (by decide) ?_
  refine u_puti C w hw (hP _ _ (isn_f rfl rfl (by decide))) rfl (N := 12) rfl rfl cin_4 tyX4 tyX4_ok nmX4 3 (by decide) rfl rfl rfl rfl gw_161 dX4_begin_21 (fun f H locs w hw hk1 => ?_)
  have hk := hk.tr hk1
  refine u_sv h hw hn (fun S14 h hw hn => ?_)
  refine lv_aload_n hx hb dX4_begin_24 rfl (lv_at hl 0 rfl) ?_
  refine lv_iconst (v := 0) hx hb dX4_begin_25 (by decide) ?_
  refine u_puti C w hw (hP _ _ (isn_f rfl rfl (by decide))) rfl (N := 12) rfl rfl cin_4 tyX4 tyX4_ok nmX4 4 (by decide) rfl rfl rfl rfl gw_162 dX4_begin_26 (fun f H locs w hw hk1 => ?_)
  have hk := hk.tr hk1
  refine u_sv h hw hn (fun S15 h hw hn => ?_)
  refine lv_aload_n hx hb dX4_begin_29 rfl (lv_at hl 0 rfl) ?_
  refine lv_iconst (v := 0) hx hb dX4_begin_30 (by decide) ?_
  refine u_puti C w hw (hP _ _ (isn_f rfl rfl (by decide))) rfl (N := 12) rfl rfl cin_4 tyX4 tyX4_ok nmX4 7 (by decide) rfl rfl rfl rfl gw_165 dX4_begin_31 (fun f H locs w hw hk1 => ?_)
  have hk := hk.tr hk1
  refine u_sv h hw hn (fun S16 h hw hn => ?_)
  refine lv_aload_n hx hb dX4_begin_34 rfl (lv_at hl 0 rfl) ?_
  refine lv_iconst (v := 0) hx hb dX4_begin_35 (by decide) ?_
  refine u_puti C w hw (hP _ _ (isn_f rfl rfl (by decide))) rfl (N := 12) rfl rfl cin_4 tyX4 tyX4_ok nmX4 8 (by decide) rfl rfl rfl rfl gw_166 dX4_begin_36 (fun f H locs w hw hk1 => ?_)
  have hk := hk.tr hk1
  refine u_sv h hw hn (fun S17 h hw hn => ?_)
  refine lv_aload_n hx hb dX4_begin_39 rfl (lv_at hl 0 rfl) ?_
  refine lv_iconst (v := 0) hx hb dX4_begin_40 (by decide) ?_
  refine u_puti C w hw (hP _ _ (isn_f rfl rfl (by decide))) rfl (N := 12) rfl rfl cin_4 tyX4 tyX4_ok nmX4 10 (by decide) rfl rfl rfl rfl gw_168 dX4_begin_41 (fun f H locs w hw hk1 => ?_)
  have hk := hk.tr hk1
  refine u_sv h hw hn (fun S18 h hw hn => ?_)
  refine lv_aload_n hx hb dX4_begin_44 rfl (lv_at hl 0 rfl) ?_
  refine lv_iconst (v := (-1)) hx hb dX4_begin_45 (by decide) ?_
  refine u_puti C w hw (hP _ _ (isn_f rfl rfl (by decide))) rfl (N := 12) rfl rfl cin_4 tyX4 tyX4_ok nmX4 11 (by decide) rfl rfl rfl rfl gw_170 dX4_begin_46 (fun f H locs w hw hk1 => ?_)
  have hk := hk.tr hk1
  refine u_sv h hw hn (fun S19 h hw hn => ?_)
  refine lv_iconst (v := 0) hx hb dX4_begin_49 (by decide) ?_
  refine lv_istore (lv' := [(4, .int 0), (0, .ref (ad 17 0)), (1, .ref (ad 16 0)), (2, .int p2), (3, .int p3)]) hx hb dX4_begin_50 hl (by decide) rfl (fun ls hl => ?_)
  refine lv_iconst (v := 0) hx hb dX4_begin_52 (by decide) ?_
  refine lv_istore (lv' := [(5, .int 0), (4, .int 0), (0, .ref (ad 17 0)), (1, .ref (ad 16 0)), (2, .int p2), (3, .int p3)]) hx hb dX4_begin_53 hl (by decide) rfl (fun ls hl => ?_)
  exact J55  fuel 0 0 S19 h f H locs w hw hn hk ls (lv_sub hl [2, 3, 1, 0] rfl)
theorem dX4_readProgram_0 : decode cX4_readProgram 0 = .ok (.aload_n 0, 1) := by decide +kernel
theorem dX4_readProgram_1 : decode cX4_readProgram 1 = .ok (.aload_n 1, 1) := by decide +kernel
theorem dX4_readProgram_2 : decode cX4_readProgram 2 = .ok (.iload_n 2, 1) := by decide +kernel
theorem dX4_readProgram_3 : decode cX4_readProgram 3 = .ok (.iconst 0, 1) := by decide +kernel
theorem dX4_readProgram_4 : decode cX4_readProgram 4 = .ok (.invokevirtual 50, 3) := by decide +kernel
theorem dX4_readProgram_7 : decode cX4_readProgram 7 = .ok (.iconst 0, 1) := by decide +kernel
theorem dX4_readProgram_8 : decode cX4_readProgram 8 = .ok (.istore_n 3, 1) := by decide +kernel
theorem dX4_readProgram_9 : decode cX4_readProgram 9 = .ok (.iload_n 3, 1) := by decide +kernel
theorem dX4_readProgram_10 : decode cX4_readProgram 10 = .ok (.sipush 300, 3) := by decide +kernel
theorem dX4_readProgram_13 : decode cX4_readProgram 13 = .ok (.if_icmp .gt 29, 3) := by decide +kernel
theorem dX4_readProgram_16 : decode cX4_readProgram 16 = .ok (.aload_n 0, 1) := by decide +kernel
theorem dX4_readProgram_17 : decode cX4_readProgram 17 = .ok (.invokevirtual 54, 3) := by decide +kernel
theorem dX4_readProgram_20 : decode cX4_readProgram 20 = .ok (.sipush 256, 3) := by decide +kernel
theorem dX4_readProgram_23 : decode cX4_readProgram 23 = .ok (.if_icmp .eq 19, 3) := by decide +kernel
theorem dX4_readProgram_26 : decode cX4_readProgram 26 = .ok (.aload_n 0, 1) := by decide +kernel
theorem dX4_readProgram_27 : decode cX4_readProgram 27 = .ok (.iload_n 3, 1) := by decide +kernel
theorem dX4_readProgram_28 : decode cX4_readProgram 28 = .ok (.invokevirtual 58, 3) := by decide +kernel
theorem dX4_readProgram_31 : decode cX4_readProgram 31 = .ok (.ifCond .ne 5, 3) := by decide +kernel
theorem dX4_readProgram_34 : decode cX4_readProgram 34 = .ok (.iconst 0, 1) := by decide +kernel
theorem dX4_readProgram_35 : decode cX4_readProgram 35 = .ok (.ireturn, 1) := by decide +kernel
theorem dX4_readProgram_36 : decode cX4_readProgram 36 = .ok (.iinc 3 1, 3) := by decide +kernel
theorem dX4_readProgram_39 : decode cX4_readProgram 39 = .ok (.goto (-30), 3) := by decide +kernel
theorem dX4_readProgram_42 : decode cX4_readProgram 42 = .ok (.iconst 1, 1) := by decide +kernel
theorem dX4_readProgram_43 : decode cX4_readProgram 43 = .ok (.ireturn, 1) := by decide +kernel
noncomputable def B_X4_readProgram_9 (k9 : (Int32) → fS → Option (Int32 × fS)) : (Int32) → fS → Option (Int32 × fS) := fun a3 S => bb ((300 : Int32) < a3) (some (1, S)) (bd (F_X4_here  S) (fun v2 S3 => bb (v2 = (256 : Int32)) (some (1, S3)) (bd (F_X4_clause a3 S3) (fun v6 S7 => bb (v6 = (0 : Int32)) (some (0, S7)) (iv (a3 + Int32.ofInt 1) (fun x10 => k9 x10 S7))))))
noncomputable def F_X4_readProgram (p2 : Int32) (S0 : fS) : Option (Int32 × fS) := bd (F_X4_begin p2 0 S0) (fun v11 S12 => lp (B_X4_readProgram_9 ) fuel 0 S12)
set_option maxHeartbeats 4000000 in
set_option maxRecDepth 100000 in
theorem c_X4_readProgram (l : Launch) (D : va_G) (K : Nat → ClassId) (b0 : Nat) (sa : sT) (sz : Nat) (L : List Nat) (f0 : Nat → va_E) (ad : Nat → Nat → Nat) (P : Nat → Nat → Prop) {n : Nat × Nat} (hP : ∀ a i : Nat, isn n a i → P a i) (S0 : fS) (hw : PW K ad P S0 L f0) (hn : S0.2.2.1 = n) (p2 : Int32) (v : Int32) (S1 : fS) (h : F_X4_readProgram p2 S0 = some (v, S1)) : Met l yX4_readProgram (.code yX4_readProgram cX4_readProgram 4 (some .boolean) :: gt) { frames := 70, cells := 0, slots := 0, locals := 2668 } (va_Pc [.ref (ad 17 0), .ref (ad 16 0), .int p2] (hPre D K b0 sa sz L f0)) (hQ D K b0 (fun v9 u9 => ∃ f2 : Nat → va_E, v9 = some (.int v) ∧ u9 = lU L f2 ∧ PW K ad P S1 L f2 ∧ S1.2.2.1 = n ∧ Kp ad P L f0 f2)) 0 0 (fun q => b0 ≤ q) := by
  refine t_of (own := RX4) (by decide) rfl ?_ (Nat.le_of_ble_eq_true rfl)
  intro p e s m below meth c ls C w hsz hr hlk hnm hl
  have hx := C.1
  have hb := C.2.1
  have hl : lv_has ls 4 [(0, .ref (ad 17 0)), (1, .ref (ad 16 0)), (2, .int p2)] := hl
  have J9 : ∀ (fu : Nat) (a3 : Int32) (S : fS), lp (B_X4_readProgram_9 ) fu a3 S = some (v, S1) → Gw D K b0 sa ad P n L f0 p l e { frames := 70, cells := 0, slots := 0, locals := 2668 } s m [.ref (ad 17 0), .ref (ad 16 0), .int p2].toArray below meth c 4 (MQ below (hQ D K b0 (fun v9 u9 => ∃ f2 : Nat → va_E, v9 = some (.int v) ∧ u9 = lU L f2 ∧ PW K ad P S1 L f2 ∧ S1.2.2.1 = n ∧ Kp ad P L f0 f2)) [.ref (ad 17 0), .ref (ad 16 0), .int p2].toArray s 0 0 (fun q => b0 ≤ q)) 0 0 9 [(0, .ref (ad 17 0)), (3, .int a3)] [] S := by
    intro fu a3 S h
    refine lp_some (G := (fun q S => Gw D K b0 sa ad P n L f0 p l e { frames := 70, cells := 0, slots := 0, locals := 2668 } s m [.ref (ad 17 0), .ref (ad 16 0), .int p2].toArray below meth c 4 (MQ below (hQ D K b0 (fun v9 u9 => ∃ f2 : Nat → va_E, v9 = some (.int v) ∧ u9 = lU L f2 ∧ PW K ad P S1 L f2 ∧ S1.2.2.1 = n ∧ Kp ad P L f0 f2)) [.ref (ad 17 0), .ref (ad 16 0), .int p2].toArray s 0 0 (fun q => b0 ≤ q)) 0 0 9 [(0, .ref (ad 17 0)), (3, .int q)] [] S)) (fun k9 hk9 q S h => ?_) fu a3 S h
    obtain ⟨a3, e9⟩ : ∃ z, z = q := ⟨_, rfl⟩
    subst e9
    dsimp only [B_X4_readProgram_9] at h
    intro f H locs w hw hn hk ls hl
    refine lv_iload_n hx hb dX4_readProgram_9 rfl (lv_at hl 1 rfl) ?_
    refine lv_sipush (v := 300) hx hb dX4_readProgram_10 (by decide) ?_
    refine lv_icmp_gt (tgt := 42) hx hb dX4_readProgram_13 (by decide) (fun c1 => ?_) (fun c1 => ?_)
    · have h := bb_t h c1
      refine lv_iconst (v := 1) hx hb dX4_readProgram_42 (by decide) ?_
      exact t_zret C hr hlk w (by decide) ⟨_, so_v h, rfl, so_w h hw, so_n h hn, hk⟩ (by decide) (by decide) dX4_readProgram_43
    · have h := bb_f h c1
      refine lv_aload_n hx hb dX4_readProgram_16 rfl (lv_at hl 0 rfl) ?_
      obtain ⟨v2, S3, h4, h⟩ := bd_some h
      refine u_callV (n := 0) C w hw (hP _ _ (isn_f rfl rfl (by decide))) rfl rfl rfl (c_X4_here l D K b0 sa _ L _ ad P hP S hw hn  v2 S3 h4) gw_834 gw_831 gw_832 gw_833 gw_5 ⟨by decide, by decide, by decide +kernel⟩ rfl rfl ⟨by decide, by decide⟩ rfl hl.1 rfl (Nat.le_of_ble_eq_true rfl) dX4_readProgram_17 ⟨Nat.le_of_ble_eq_true rfl, Nat.le_of_ble_eq_true rfl⟩ (fun v9 u H locs hp w => ?_)
      obtain ⟨f2, rfl, rfl, hw, hn, hk1⟩ := hp
      have hk := hk.tr hk1
      generalize f2 = f at w hw hk
      refine lv_sipush (v := 256) hx hb dX4_readProgram_20 (by decide) ?_
      refine lv_icmp_eq (tgt := 42) hx hb dX4_readProgram_23 (by decide) (fun c5 => ?_) (fun c5 => ?_)
      · have h := bb_t h c5
        refine lv_iconst (v := 1) hx hb dX4_readProgram_42 (by decide) ?_
        exact t_zret C hr hlk w (by decide) ⟨_, so_v h, rfl, so_w h hw, so_n h hn, hk⟩ (by decide) (by decide) dX4_readProgram_43
      · have h := bb_f h c5
        refine lv_aload_n hx hb dX4_readProgram_26 rfl (lv_at hl 0 rfl) ?_
        refine lv_iload_n hx hb dX4_readProgram_27 rfl (lv_at hl 1 rfl) ?_
        obtain ⟨v6, S7, h8, h⟩ := bd_some h
        refine u_callV (n := 1) C w hw (hP _ _ (isn_f rfl rfl (by decide))) rfl rfl rfl (c_X4_clause l D K b0 sa _ L _ ad P hP S3 hw hn a3 v6 S7 h8) gw_886 gw_883 gw_884 gw_885 gw_5 ⟨by decide, by decide, by decide +kernel⟩ rfl rfl ⟨by decide, by decide⟩ rfl hl.1 rfl (Nat.le_of_ble_eq_true rfl) dX4_readProgram_28 ⟨Nat.le_of_ble_eq_true rfl, Nat.le_of_ble_eq_true rfl⟩ (fun v9 u H locs hp w => ?_)
        obtain ⟨f2, rfl, rfl, hw, hn, hk1⟩ := hp
        have hk := hk.tr hk1
        generalize f2 = f at w hw hk
        refine lv_if_ne (tgt := 36) hx hb dX4_readProgram_31 (by decide) (fun c9 => ?_) (fun c9 => ?_)
        · have h := bb_f h c9
          obtain ⟨x10, ex10, h⟩ := iv_some h
          refine lv_iinc (v := x10) (lv' := [(3, .int x10), (0, .ref (ad 17 0))]) hx hb dX4_readProgram_36 hl (k := 1) rfl ex10.symm (by decide) rfl (fun ls hl => ?_)
          refine lv_goto (tgt := 9) hx hb dX4_readProgram_39 (by decide) ?_
          exact hk9 x10 S7 h f H locs w hw hn hk ls (lv_sub hl [1, 0] rfl)
        · have h := bb_t h c9
          refine lv_iconst (v := 0) hx hb dX4_readProgram_34 (by decide) ?_
          exact t_zret C hr hlk w (by decide) ⟨_, so_v h, rfl, so_w h hw, so_n h hn, hk⟩ (by decide) (by decide) dX4_readProgram_35
  dsimp only [F_X4_readProgram] at h
  obtain ⟨f, ef⟩ : ∃ z, z = f0 := ⟨_, rfl⟩
  rw [← ef] at w hw
  have hk : Kp ad P L f0 f := by rw [ef]; exact Kp.rf
  obtain ⟨H, eH⟩ : ∃ z, z = s.heap := ⟨_, rfl⟩
  obtain ⟨locs, el⟩ : ∃ z : List Loc, z = [] := ⟨_, rfl⟩
  rw [← eH, ← el] at w ⊢
  refine lv_aload_n hx hb dX4_readProgram_0 rfl (lv_at hl 0 rfl) ?_
  refine lv_aload_n hx hb dX4_readProgram_1 rfl (lv_at hl 1 rfl) ?_
  refine lv_iload_n hx hb dX4_readProgram_2 rfl (lv_at hl 2 rfl) ?_
  refine lv_iconst (v := 0) hx hb dX4_readProgram_3 (by decide) ?_
  obtain ⟨v11, S12, h13, h⟩ := bd_some h
  refine u_callV (n := 3) C w hw (hP _ _ (isn_f rfl rfl (by decide))) rfl rfl rfl (c_X4_begin l D K b0 sa _ L _ ad P hP S0 hw hn p2 0 v11 S12 h13) gw_731 gw_728 gw_729 gw_730 gw_5 ⟨by decide, by decide, by decide +kernel⟩ rfl rfl ⟨by decide, by decide⟩ rfl hl.1 rfl (Nat.le_of_ble_eq_true rfl) dX4_readProgram_4 ⟨Nat.le_of_ble_eq_true rfl, Nat.le_of_ble_eq_true rfl⟩ (fun v9 u H locs hp w => ?_)
  obtain ⟨f2, rfl, rfl, hw, hn, hk1⟩ := hp
  have hk := hk.tr hk1
  generalize f2 = f at w hw hk
  refine lv_iconst (v := 0) hx hb dX4_readProgram_7 (by decide) ?_
  refine lv_istore_n (lv' := [(3, .int 0), (0, .ref (ad 17 0)), (1, .ref (ad 16 0)), (2, .int p2)]) hx hb dX4_readProgram_8 rfl hl (by decide) rfl (fun ls hl => ?_)
  exact J9  fuel 0 S12 h f H locs w hw hn hk ls (lv_sub hl [1, 0] rfl)
theorem dX4_readLaw_0 : decode cX4_readLaw 0 = .ok (.aload_n 0, 1) := by decide +kernel
theorem dX4_readLaw_1 : decode cX4_readLaw 1 = .ok (.aload_n 1, 1) := by decide +kernel
theorem dX4_readLaw_2 : decode cX4_readLaw 2 = .ok (.iload_n 2, 1) := by decide +kernel
theorem dX4_readLaw_3 : decode cX4_readLaw 3 = .ok (.iconst 1, 1) := by decide +kernel
theorem dX4_readLaw_4 : decode cX4_readLaw 4 = .ok (.invokevirtual 50, 3) := by decide +kernel
theorem dX4_readLaw_7 : decode cX4_readLaw 7 = .ok (.aload_n 0, 1) := by decide +kernel
theorem dX4_readLaw_8 : decode cX4_readLaw 8 = .ok (.invokevirtual 62, 3) := by decide +kernel
theorem dX4_readLaw_11 : decode cX4_readLaw 11 = .ok (.ifCond .ne 5, 3) := by decide +kernel
theorem dX4_readLaw_14 : decode cX4_readLaw 14 = .ok (.iconst 0, 1) := by decide +kernel
theorem dX4_readLaw_15 : decode cX4_readLaw 15 = .ok (.ireturn, 1) := by decide +kernel
theorem dX4_readLaw_16 : decode cX4_readLaw 16 = .ok (.aload_n 0, 1) := by decide +kernel
theorem dX4_readLaw_17 : decode cX4_readLaw 17 = .ok (.bipush 59, 2) := by decide +kernel
theorem dX4_readLaw_19 : decode cX4_readLaw 19 = .ok (.invokevirtual 66, 3) := by decide +kernel
theorem dX4_readLaw_22 : decode cX4_readLaw 22 = .ok (.ifCond .ne 9, 3) := by decide +kernel
theorem dX4_readLaw_25 : decode cX4_readLaw 25 = .ok (.aload_n 0, 1) := by decide +kernel
theorem dX4_readLaw_26 : decode cX4_readLaw 26 = .ok (.iconst 1, 1) := by decide +kernel
theorem dX4_readLaw_27 : decode cX4_readLaw 27 = .ok (.invokevirtual 69, 3) := by decide +kernel
theorem dX4_readLaw_30 : decode cX4_readLaw 30 = .ok (.ireturn, 1) := by decide +kernel
theorem dX4_readLaw_31 : decode cX4_readLaw 31 = .ok (.aload_n 0, 1) := by decide +kernel
theorem dX4_readLaw_32 : decode cX4_readLaw 32 = .ok (.invokevirtual 54, 3) := by decide +kernel
theorem dX4_readLaw_35 : decode cX4_readLaw 35 = .ok (.sipush 256, 3) := by decide +kernel
theorem dX4_readLaw_38 : decode cX4_readLaw 38 = .ok (.if_icmp .eq 11, 3) := by decide +kernel
theorem dX4_readLaw_41 : decode cX4_readLaw 41 = .ok (.aload_n 0, 1) := by decide +kernel
theorem dX4_readLaw_42 : decode cX4_readLaw 42 = .ok (.iconst 1, 1) := by decide +kernel
theorem dX4_readLaw_43 : decode cX4_readLaw 43 = .ok (.invokevirtual 69, 3) := by decide +kernel
theorem dX4_readLaw_46 : decode cX4_readLaw 46 = .ok (.ifCond .eq 7, 3) := by decide +kernel
theorem dX4_readLaw_49 : decode cX4_readLaw 49 = .ok (.iconst 1, 1) := by decide +kernel
theorem dX4_readLaw_50 : decode cX4_readLaw 50 = .ok (.goto 4, 3) := by decide +kernel
theorem dX4_readLaw_53 : decode cX4_readLaw 53 = .ok (.iconst 0, 1) := by decide +kernel
theorem dX4_readLaw_54 : decode cX4_readLaw 54 = .ok (.ireturn, 1) := by decide +kernel
noncomputable def B_X4_readLaw_49 (S : fS) : Option (Int32 × fS) := some (1, S)
noncomputable def F_X4_readLaw (p2 : Int32) (S0 : fS) : Option (Int32 × fS) := bd (F_X4_begin p2 1 S0) (fun v1 S2 => bd (F_X4_condition  S2) (fun v4 S5 => bb (v4 = (0 : Int32)) (some (0, S5)) (bd (F_X4_passed 59 S5) (fun v8 S9 => bb (v8 = (0 : Int32)) (bd (F_X4_fail 1 S9) (fun v20 S21 => gd (v20 = 0 ∨ v20 = 1) (some (v20, S21)))) (bd (F_X4_here  S9) (fun v12 S13 => bb (v12 = (256 : Int32)) (B_X4_readLaw_49   S13) (bd (F_X4_fail 1 S13) (fun v16 S17 => bb (v16 = (0 : Int32)) (some (0, S17)) (B_X4_readLaw_49   S17)))))))))
set_option maxHeartbeats 4000000 in
set_option maxRecDepth 100000 in
theorem c_X4_readLaw (l : Launch) (D : va_G) (K : Nat → ClassId) (b0 : Nat) (sa : sT) (sz : Nat) (L : List Nat) (f0 : Nat → va_E) (ad : Nat → Nat → Nat) (P : Nat → Nat → Prop) {n : Nat × Nat} (hP : ∀ a i : Nat, isn n a i → P a i) (S0 : fS) (hw : PW K ad P S0 L f0) (hn : S0.2.2.1 = n) (p2 : Int32) (v : Int32) (S1 : fS) (h : F_X4_readLaw p2 S0 = some (v, S1)) : Met l yX4_readLaw (.code yX4_readLaw cX4_readLaw 3 (some .boolean) :: gt) { frames := 69, cells := 0, slots := 0, locals := 2645 } (va_Pc [.ref (ad 17 0), .ref (ad 16 0), .int p2] (hPre D K b0 sa sz L f0)) (hQ D K b0 (fun v9 u9 => ∃ f2 : Nat → va_E, v9 = some (.int v) ∧ u9 = lU L f2 ∧ PW K ad P S1 L f2 ∧ S1.2.2.1 = n ∧ Kp ad P L f0 f2)) 0 0 (fun q => b0 ≤ q) := by
  refine t_of (own := RX4) (by decide) rfl ?_ (Nat.le_of_ble_eq_true rfl)
  intro p e s m below meth c ls C w hsz hr hlk hnm hl
  have hx := C.1
  have hb := C.2.1
  have hl : lv_has ls 3 [(0, .ref (ad 17 0)), (1, .ref (ad 16 0)), (2, .int p2)] := hl
  have J49 : ∀ (S : fS), B_X4_readLaw_49   S = some (v, S1) → Gw D K b0 sa ad P n L f0 p l e { frames := 69, cells := 0, slots := 0, locals := 2645 } s m [.ref (ad 17 0), .ref (ad 16 0), .int p2].toArray below meth c 3 (MQ below (hQ D K b0 (fun v9 u9 => ∃ f2 : Nat → va_E, v9 = some (.int v) ∧ u9 = lU L f2 ∧ PW K ad P S1 L f2 ∧ S1.2.2.1 = n ∧ Kp ad P L f0 f2)) [.ref (ad 17 0), .ref (ad 16 0), .int p2].toArray s 0 0 (fun q => b0 ≤ q)) 0 0 49 [] [] S := by
    intro S h
    dsimp only [B_X4_readLaw_49] at h
    intro f H locs w hw hn hk ls hl
    refine lv_iconst (v := 1) hx hb dX4_readLaw_49 (by decide) ?_
    refine lv_goto (tgt := 54) hx hb dX4_readLaw_50 (by decide) ?_
    exact t_zret C hr hlk w (by decide) ⟨_, so_v h, rfl, so_w h hw, so_n h hn, hk⟩ (by decide) (by decide) dX4_readLaw_54
  dsimp only [F_X4_readLaw] at h
  obtain ⟨f, ef⟩ : ∃ z, z = f0 := ⟨_, rfl⟩
  rw [← ef] at w hw
  have hk : Kp ad P L f0 f := by rw [ef]; exact Kp.rf
  obtain ⟨H, eH⟩ : ∃ z, z = s.heap := ⟨_, rfl⟩
  obtain ⟨locs, el⟩ : ∃ z : List Loc, z = [] := ⟨_, rfl⟩
  rw [← eH, ← el] at w ⊢
  refine lv_aload_n hx hb dX4_readLaw_0 rfl (lv_at hl 0 rfl) ?_
  refine lv_aload_n hx hb dX4_readLaw_1 rfl (lv_at hl 1 rfl) ?_
  refine lv_iload_n hx hb dX4_readLaw_2 rfl (lv_at hl 2 rfl) ?_
  refine lv_iconst (v := 1) hx hb dX4_readLaw_3 (by decide) ?_
  obtain ⟨v1, S2, h3, h⟩ := bd_some h
  refine u_callV (n := 3) C w hw (hP _ _ (isn_f rfl rfl (by decide))) rfl rfl rfl (c_X4_begin l D K b0 sa _ L _ ad P hP S0 hw hn p2 1 v1 S2 h3) gw_731 gw_728 gw_729 gw_730 gw_5 ⟨by decide, by decide, by decide +kernel⟩ rfl rfl ⟨by decide, by decide⟩ rfl hl.1 rfl (Nat.le_of_ble_eq_true rfl) dX4_readLaw_4 ⟨Nat.le_of_ble_eq_true rfl, Nat.le_of_ble_eq_true rfl⟩ (fun v9 u H locs hp w => ?_)
  obtain ⟨f2, rfl, rfl, hw, hn, hk1⟩ := hp
  have hk := hk.tr hk1
  generalize f2 = f at w hw hk
  refine lv_aload_n hx hb dX4_readLaw_7 rfl (lv_at hl 0 rfl) ?_
  obtain ⟨v4, S5, h6, h⟩ := bd_some h
  refine u_callV (n := 0) C w hw (hP _ _ (isn_f rfl rfl (by decide))) rfl rfl rfl (c_X4_condition l D K b0 sa _ L _ ad P hP S2 hw hn  v4 S5 h6) gw_826 gw_823 gw_825 gs_8 gw_5 ⟨by decide, by decide, by decide +kernel⟩ rfl rfl ⟨by decide, by decide⟩ rfl hl.1 rfl (Nat.le_of_ble_eq_true rfl) dX4_readLaw_8 ⟨Nat.le_of_ble_eq_true rfl, Nat.le_of_ble_eq_true rfl⟩ (fun v9 u H locs hp w => ?_)
  obtain ⟨f2, rfl, rfl, hw, hn, hk1⟩ := hp
  have hk := hk.tr hk1
  generalize f2 = f at w hw hk
  refine lv_if_ne (tgt := 16) hx hb dX4_readLaw_11 (by decide) (fun c7 => ?_) (fun c7 => ?_)
  · have h := bb_f h c7
    refine lv_aload_n hx hb dX4_readLaw_16 rfl (lv_at hl 0 rfl) ?_
    refine lv_bipush (v := 59) hx hb dX4_readLaw_17 (by decide) ?_
    obtain ⟨v8, S9, h10, h⟩ := bd_some h
    refine u_callV (n := 1) C w hw (hP _ _ (isn_f rfl rfl (by decide))) rfl rfl rfl (c_X4_passed l D K b0 sa _ L _ ad P hP S5 hw hn 59 v8 S9 h10) gw_858 gw_855 gw_856 gw_857 gw_5 ⟨by decide, by decide, by decide +kernel⟩ rfl rfl ⟨by decide, by decide⟩ rfl hl.1 rfl (Nat.le_of_ble_eq_true rfl) dX4_readLaw_19 ⟨Nat.le_of_ble_eq_true rfl, Nat.le_of_ble_eq_true rfl⟩ (fun v9 u H locs hp w => ?_)
    obtain ⟨f2, rfl, rfl, hw, hn, hk1⟩ := hp
    have hk := hk.tr hk1
    generalize f2 = f at w hw hk
    refine lv_if_ne (tgt := 31) hx hb dX4_readLaw_22 (by decide) (fun c11 => ?_) (fun c11 => ?_)
    · have h := bb_f h c11
      refine lv_aload_n hx hb dX4_readLaw_31 rfl (lv_at hl 0 rfl) ?_
      obtain ⟨v12, S13, h14, h⟩ := bd_some h
      refine u_callV (n := 0) C w hw (hP _ _ (isn_f rfl rfl (by decide))) rfl rfl rfl (c_X4_here l D K b0 sa _ L _ ad P hP S9 hw hn  v12 S13 h14) gw_834 gw_831 gw_832 gw_833 gw_5 ⟨by decide, by decide, by decide +kernel⟩ rfl rfl ⟨by decide, by decide⟩ rfl hl.1 rfl (Nat.le_of_ble_eq_true rfl) dX4_readLaw_32 ⟨Nat.le_of_ble_eq_true rfl, Nat.le_of_ble_eq_true rfl⟩ (fun v9 u H locs hp w => ?_)
      obtain ⟨f2, rfl, rfl, hw, hn, hk1⟩ := hp
      have hk := hk.tr hk1
      generalize f2 = f at w hw hk
      refine lv_sipush (v := 256) hx hb dX4_readLaw_35 (by decide) ?_
      refine lv_icmp_eq (tgt := 49) hx hb dX4_readLaw_38 (by decide) (fun c15 => ?_) (fun c15 => ?_)
      · have h := bb_t h c15
        exact J49   S13 h f H locs w hw hn hk ls (lv_sub hl [] rfl)
      · have h := bb_f h c15
        refine lv_aload_n hx hb dX4_readLaw_41 rfl (lv_at hl 0 rfl) ?_
        refine lv_iconst (v := 1) hx hb dX4_readLaw_42 (by decide) ?_
        obtain ⟨v16, S17, h18, h⟩ := bd_some h
        refine u_callV (n := 1) C w hw (hP _ _ (isn_f rfl rfl (by decide))) rfl rfl rfl (c_X4_fail l D K b0 sa _ L _ ad P hP S13 hw hn 1 v16 S17 h18) gw_846 gw_843 gw_844 gw_845 gw_5 ⟨by decide, by decide, by decide +kernel⟩ rfl rfl ⟨by decide, by decide⟩ rfl hl.1 rfl (Nat.le_of_ble_eq_true rfl) dX4_readLaw_43 ⟨Nat.le_of_ble_eq_true rfl, Nat.le_of_ble_eq_true rfl⟩ (fun v9 u H locs hp w => ?_)
        obtain ⟨f2, rfl, rfl, hw, hn, hk1⟩ := hp
        have hk := hk.tr hk1
        generalize f2 = f at w hw hk
        refine lv_if_eq (tgt := 53) hx hb dX4_readLaw_46 (by decide) (fun c19 => ?_) (fun c19 => ?_)
        · have h := bb_t h c19
          refine lv_iconst (v := 0) hx hb dX4_readLaw_53 (by decide) ?_
          exact t_zret C hr hlk w (by decide) ⟨_, so_v h, rfl, so_w h hw, so_n h hn, hk⟩ (by decide) (by decide) dX4_readLaw_54
        · have h := bb_f h c19
          exact J49   S17 h f H locs w hw hn hk ls (lv_sub hl [] rfl)
    · have h := bb_t h c11
      refine lv_aload_n hx hb dX4_readLaw_25 rfl (lv_at hl 0 rfl) ?_
      refine lv_iconst (v := 1) hx hb dX4_readLaw_26 (by decide) ?_
      obtain ⟨v20, S21, h22, h⟩ := bd_some h
      refine u_callV (n := 1) C w hw (hP _ _ (isn_f rfl rfl (by decide))) rfl rfl rfl (c_X4_fail l D K b0 sa _ L _ ad P hP S9 hw hn 1 v20 S21 h22) gw_846 gw_843 gw_844 gw_845 gw_5 ⟨by decide, by decide, by decide +kernel⟩ rfl rfl ⟨by decide, by decide⟩ rfl hl.1 rfl (Nat.le_of_ble_eq_true rfl) dX4_readLaw_27 ⟨Nat.le_of_ble_eq_true rfl, Nat.le_of_ble_eq_true rfl⟩ (fun v9 u H locs hp w => ?_)
      obtain ⟨f2, rfl, rfl, hw, hn, hk1⟩ := hp
      have hk := hk.tr hk1
      generalize f2 = f at w hw hk
      obtain ⟨g23, h⟩ := gd_some h
      exact t_zret C hr hlk w (narb g23) ⟨_, so_v h, rfl, so_w h hw, so_n h hn, hk⟩ (by decide) (by decide) dX4_readLaw_30
  · have h := bb_t h c7
    refine lv_iconst (v := 0) hx hb dX4_readLaw_14 (by decide) ?_
    exact t_zret C hr hlk w (by decide) ⟨_, so_v h, rfl, so_w h hw, so_n h hn, hk⟩ (by decide) (by decide) dX4_readLaw_15
