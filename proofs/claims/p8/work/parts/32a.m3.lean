theorem dX7_beside_0 : decode cX7_beside 0 = .ok (.iload_n 0, 1) := by decide +kernel
theorem dX7_beside_1 : decode cX7_beside 1 = .ok (.bipush 8, 2) := by decide +kernel
theorem dX7_beside_3 : decode cX7_beside 3 = .ok (.irem, 1) := by decide +kernel
theorem dX7_beside_4 : decode cX7_beside 4 = .ok (.istore_n 2, 1) := by decide +kernel
theorem dX7_beside_5 : decode cX7_beside 5 = .ok (.iload_n 0, 1) := by decide +kernel
theorem dX7_beside_6 : decode cX7_beside 6 = .ok (.bipush 8, 2) := by decide +kernel
theorem dX7_beside_8 : decode cX7_beside 8 = .ok (.idiv, 1) := by decide +kernel
theorem dX7_beside_9 : decode cX7_beside 9 = .ok (.istore_n 3, 1) := by decide +kernel
theorem dX7_beside_10 : decode cX7_beside 10 = .ok (.iload_n 1, 1) := by decide +kernel
theorem dX7_beside_11 : decode cX7_beside 11 = .ok (.ifCond .ne 17, 3) := by decide +kernel
theorem dX7_beside_14 : decode cX7_beside 14 = .ok (.iload_n 2, 1) := by decide +kernel
theorem dX7_beside_15 : decode cX7_beside 15 = .ok (.bipush 7, 2) := by decide +kernel
theorem dX7_beside_17 : decode cX7_beside 17 = .ok (.if_icmp .ne 7, 3) := by decide +kernel
theorem dX7_beside_20 : decode cX7_beside 20 = .ok (.iconst (-1), 1) := by decide +kernel
theorem dX7_beside_21 : decode cX7_beside 21 = .ok (.goto 6, 3) := by decide +kernel
theorem dX7_beside_24 : decode cX7_beside 24 = .ok (.iload_n 0, 1) := by decide +kernel
theorem dX7_beside_25 : decode cX7_beside 25 = .ok (.iconst 1, 1) := by decide +kernel
theorem dX7_beside_26 : decode cX7_beside 26 = .ok (.iadd, 1) := by decide +kernel
theorem dX7_beside_27 : decode cX7_beside 27 = .ok (.ireturn, 1) := by decide +kernel
theorem dX7_beside_28 : decode cX7_beside 28 = .ok (.iload_n 1, 1) := by decide +kernel
theorem dX7_beside_29 : decode cX7_beside 29 = .ok (.iconst 1, 1) := by decide +kernel
theorem dX7_beside_30 : decode cX7_beside 30 = .ok (.if_icmp .ne 18, 3) := by decide +kernel
theorem dX7_beside_33 : decode cX7_beside 33 = .ok (.iload_n 3, 1) := by decide +kernel
theorem dX7_beside_34 : decode cX7_beside 34 = .ok (.bipush 7, 2) := by decide +kernel
theorem dX7_beside_36 : decode cX7_beside 36 = .ok (.if_icmp .ne 7, 3) := by decide +kernel
theorem dX7_beside_39 : decode cX7_beside 39 = .ok (.iconst (-1), 1) := by decide +kernel
theorem dX7_beside_40 : decode cX7_beside 40 = .ok (.goto 7, 3) := by decide +kernel
theorem dX7_beside_43 : decode cX7_beside 43 = .ok (.iload_n 0, 1) := by decide +kernel
theorem dX7_beside_44 : decode cX7_beside 44 = .ok (.bipush 8, 2) := by decide +kernel
theorem dX7_beside_46 : decode cX7_beside 46 = .ok (.iadd, 1) := by decide +kernel
theorem dX7_beside_47 : decode cX7_beside 47 = .ok (.ireturn, 1) := by decide +kernel
theorem dX7_beside_48 : decode cX7_beside 48 = .ok (.iload_n 1, 1) := by decide +kernel
theorem dX7_beside_49 : decode cX7_beside 49 = .ok (.iconst 2, 1) := by decide +kernel
theorem dX7_beside_50 : decode cX7_beside 50 = .ok (.if_icmp .ne 15, 3) := by decide +kernel
theorem dX7_beside_53 : decode cX7_beside 53 = .ok (.iload_n 2, 1) := by decide +kernel
theorem dX7_beside_54 : decode cX7_beside 54 = .ok (.ifCond .ne 7, 3) := by decide +kernel
theorem dX7_beside_57 : decode cX7_beside 57 = .ok (.iconst (-1), 1) := by decide +kernel
theorem dX7_beside_58 : decode cX7_beside 58 = .ok (.goto 6, 3) := by decide +kernel
theorem dX7_beside_61 : decode cX7_beside 61 = .ok (.iload_n 0, 1) := by decide +kernel
theorem dX7_beside_62 : decode cX7_beside 62 = .ok (.iconst 1, 1) := by decide +kernel
theorem dX7_beside_63 : decode cX7_beside 63 = .ok (.isub, 1) := by decide +kernel
theorem dX7_beside_64 : decode cX7_beside 64 = .ok (.ireturn, 1) := by decide +kernel
theorem dX7_beside_65 : decode cX7_beside 65 = .ok (.iload_n 3, 1) := by decide +kernel
theorem dX7_beside_66 : decode cX7_beside 66 = .ok (.ifCond .ne 7, 3) := by decide +kernel
theorem dX7_beside_69 : decode cX7_beside 69 = .ok (.iconst (-1), 1) := by decide +kernel
theorem dX7_beside_70 : decode cX7_beside 70 = .ok (.goto 7, 3) := by decide +kernel
theorem dX7_beside_73 : decode cX7_beside 73 = .ok (.iload_n 0, 1) := by decide +kernel
theorem dX7_beside_74 : decode cX7_beside 74 = .ok (.bipush 8, 2) := by decide +kernel
theorem dX7_beside_76 : decode cX7_beside 76 = .ok (.isub, 1) := by decide +kernel
theorem dX7_beside_77 : decode cX7_beside 77 = .ok (.ireturn, 1) := by decide +kernel
noncomputable def F_X7_beside (p0 : Int32) (p1 : Int32) (S0 : fS) : Option (Int32 × fS) := iv (p0 - p0 / (8 : Int32) * (8 : Int32)) (fun x1 => iv (p0 / (8 : Int32)) (fun x2 => bb (p1 = (0 : Int32)) (bb (x1 = (7 : Int32)) (some ((-1), S0)) (iv (p0 + (1 : Int32)) (fun x13 => some (x13, S0)))) (bb (p1 = (1 : Int32)) (bb (x2 = (7 : Int32)) (some ((-1), S0)) (iv (p0 + (8 : Int32)) (fun x11 => some (x11, S0)))) (bb (p1 = (2 : Int32)) (bb (x1 = (0 : Int32)) (some ((-1), S0)) (iv (p0 - (1 : Int32)) (fun x9 => some (x9, S0)))) (bb (x2 = (0 : Int32)) (some ((-1), S0)) (iv (p0 - (8 : Int32)) (fun x7 => some (x7, S0))))))))
set_option maxHeartbeats 4000000 in
set_option maxRecDepth 100000 in
theorem c_X7_beside (l : Launch) (D : va_G) (K : Nat → ClassId) (b0 : Nat) (sa : sT) (sz : Nat) (L : List Nat) (f0 : Nat → va_E) (ad : Nat → Nat → Nat) (P : Nat → Nat → Prop) {n : Nat × Nat} (hP : ∀ a i : Nat, isn n a i → P a i) (S0 : fS) (hw : PW K ad P S0 L f0) (hn : S0.2.2.1 = n) (p0 : Int32) (p1 : Int32) (v : Int32) (S1 : fS) (h : F_X7_beside p0 p1 S0 = some (v, S1)) : Met l yX7_beside (.code yX7_beside cX7_beside 4 (some .int) :: gt) { frames := 0, cells := 0, slots := 0, locals := 0 } (va_Pc [.int p0, .int p1] (hPre D K b0 sa sz L f0)) (hQ D K b0 (fun v9 u9 => ∃ f2 : Nat → va_E, v9 = some (.int v) ∧ u9 = lU L f2 ∧ PW K ad P S1 L f2 ∧ S1.2.2.1 = n ∧ Kp ad P L f0 f2)) 0 0 (fun q => b0 ≤ q) := by
  refine t_of (own := RX7) (by decide) rfl ?_ (Nat.le_of_ble_eq_true rfl)
  intro p e s m below meth c ls C w hsz hr hlk hnm hl
  have hx := C.1
  have hb := C.2.1
  have hl : lv_has ls 4 [(0, .int p0), (1, .int p1)] := hl
  dsimp only [F_X7_beside] at h
  obtain ⟨f, ef⟩ : ∃ z, z = f0 := ⟨_, rfl⟩
  rw [← ef] at w hw
  have hk : Kp ad P L f0 f := by rw [ef]; exact Kp.rf
  obtain ⟨H, eH⟩ : ∃ z, z = s.heap := ⟨_, rfl⟩
  obtain ⟨locs, el⟩ : ∃ z : List Loc, z = [] := ⟨_, rfl⟩
  rw [← eH, ← el] at w ⊢
  refine lv_iload_n hx hb dX7_beside_0 rfl (lv_at hl 0 rfl) ?_
  refine lv_bipush (v := 8) hx hb dX7_beside_1 (by decide) ?_
  refine lv_irem hx hb dX7_beside_3 (by decide) ?_
  refine u_iv h (fun x1 h => ?_)
  refine lv_istore_n (lv' := [(2, .int x1), (0, .int p0), (1, .int p1)]) hx hb dX7_beside_4 rfl hl (by decide) rfl (fun ls hl => ?_)
  refine lv_iload_n hx hb dX7_beside_5 rfl (lv_at hl 1 rfl) ?_
  refine lv_bipush (v := 8) hx hb dX7_beside_6 (by decide) ?_
  refine lv_idiv hx hb dX7_beside_8 (by decide) ?_
  refine u_iv h (fun x2 h => ?_)
  refine lv_istore_n (lv' := [(3, .int x2), (2, .int x1), (0, .int p0), (1, .int p1)]) hx hb dX7_beside_9 rfl hl (by decide) rfl (fun ls hl => ?_)
  refine lv_iload_n hx hb dX7_beside_10 rfl (lv_at hl 3 rfl) ?_
  refine lv_if_ne (tgt := 28) hx hb dX7_beside_11 (by decide) (fun c3 => ?_) (fun c3 => ?_)
  · have h := bb_f h c3
    refine lv_iload_n hx hb dX7_beside_28 rfl (lv_at hl 3 rfl) ?_
    refine lv_iconst (v := 1) hx hb dX7_beside_29 (by decide) ?_
    refine lv_icmp_ne (tgt := 48) hx hb dX7_beside_30 (by decide) (fun c4 => ?_) (fun c4 => ?_)
    · have h := bb_f h c4
      refine lv_iload_n hx hb dX7_beside_48 rfl (lv_at hl 3 rfl) ?_
      refine lv_iconst (v := 2) hx hb dX7_beside_49 (by decide) ?_
      refine lv_icmp_ne (tgt := 65) hx hb dX7_beside_50 (by decide) (fun c5 => ?_) (fun c5 => ?_)
      · have h := bb_f h c5
        refine lv_iload_n hx hb dX7_beside_65 rfl (lv_at hl 0 rfl) ?_
        refine lv_if_ne (tgt := 73) hx hb dX7_beside_66 (by decide) (fun c6 => ?_) (fun c6 => ?_)
        · have h := bb_f h c6
          refine lv_iload_n hx hb dX7_beside_73 rfl (lv_at hl 2 rfl) ?_
          refine lv_bipush (v := 8) hx hb dX7_beside_74 (by decide) ?_
          refine lv_isub hx hb dX7_beside_76 ?_
          refine u_iv h (fun x7 h => ?_)
          exact t_iret C hr hlk w ⟨_, so_v h, rfl, so_w h hw, so_n h hn, hk⟩ (by decide) (by decide) dX7_beside_77
        · have h := bb_t h c6
          refine lv_iconst (v := (-1)) hx hb dX7_beside_69 (by decide) ?_
          refine lv_goto (tgt := 77) hx hb dX7_beside_70 (by decide) ?_
          exact t_iret C hr hlk w ⟨_, so_v h, rfl, so_w h hw, so_n h hn, hk⟩ (by decide) (by decide) dX7_beside_77
      · have h := bb_t h c5
        refine lv_iload_n hx hb dX7_beside_53 rfl (lv_at hl 1 rfl) ?_
        refine lv_if_ne (tgt := 61) hx hb dX7_beside_54 (by decide) (fun c8 => ?_) (fun c8 => ?_)
        · have h := bb_f h c8
          refine lv_iload_n hx hb dX7_beside_61 rfl (lv_at hl 2 rfl) ?_
          refine lv_iconst (v := 1) hx hb dX7_beside_62 (by decide) ?_
          refine lv_isub hx hb dX7_beside_63 ?_
          refine u_iv h (fun x9 h => ?_)
          exact t_iret C hr hlk w ⟨_, so_v h, rfl, so_w h hw, so_n h hn, hk⟩ (by decide) (by decide) dX7_beside_64
        · have h := bb_t h c8
          refine lv_iconst (v := (-1)) hx hb dX7_beside_57 (by decide) ?_
          refine lv_goto (tgt := 64) hx hb dX7_beside_58 (by decide) ?_
          exact t_iret C hr hlk w ⟨_, so_v h, rfl, so_w h hw, so_n h hn, hk⟩ (by decide) (by decide) dX7_beside_64
    · have h := bb_t h c4
      refine lv_iload_n hx hb dX7_beside_33 rfl (lv_at hl 0 rfl) ?_
      refine lv_bipush (v := 7) hx hb dX7_beside_34 (by decide) ?_
      refine lv_icmp_ne (tgt := 43) hx hb dX7_beside_36 (by decide) (fun c10 => ?_) (fun c10 => ?_)
      · have h := bb_f h c10
        refine lv_iload_n hx hb dX7_beside_43 rfl (lv_at hl 2 rfl) ?_
        refine lv_bipush (v := 8) hx hb dX7_beside_44 (by decide) ?_
        refine lv_iadd hx hb dX7_beside_46 ?_
        refine u_iv h (fun x11 h => ?_)
        exact t_iret C hr hlk w ⟨_, so_v h, rfl, so_w h hw, so_n h hn, hk⟩ (by decide) (by decide) dX7_beside_47
      · have h := bb_t h c10
        refine lv_iconst (v := (-1)) hx hb dX7_beside_39 (by decide) ?_
        refine lv_goto (tgt := 47) hx hb dX7_beside_40 (by decide) ?_
        exact t_iret C hr hlk w ⟨_, so_v h, rfl, so_w h hw, so_n h hn, hk⟩ (by decide) (by decide) dX7_beside_47
  · have h := bb_t h c3
    refine lv_iload_n hx hb dX7_beside_14 rfl (lv_at hl 1 rfl) ?_
    refine lv_bipush (v := 7) hx hb dX7_beside_15 (by decide) ?_
    refine lv_icmp_ne (tgt := 24) hx hb dX7_beside_17 (by decide) (fun c12 => ?_) (fun c12 => ?_)
    · have h := bb_f h c12
      refine lv_iload_n hx hb dX7_beside_24 rfl (lv_at hl 2 rfl) ?_
      refine lv_iconst (v := 1) hx hb dX7_beside_25 (by decide) ?_
      refine lv_iadd hx hb dX7_beside_26 ?_
      refine u_iv h (fun x13 h => ?_)
      exact t_iret C hr hlk w ⟨_, so_v h, rfl, so_w h hw, so_n h hn, hk⟩ (by decide) (by decide) dX7_beside_27
    · have h := bb_t h c12
      refine lv_iconst (v := (-1)) hx hb dX7_beside_20 (by decide) ?_
      refine lv_goto (tgt := 27) hx hb dX7_beside_21 (by decide) ?_
      exact t_iret C hr hlk w ⟨_, so_v h, rfl, so_w h hw, so_n h hn, hk⟩ (by decide) (by decide) dX7_beside_27
