theorem dX7_within_0 : decode cX7_within 0 = .ok (.iload_n 0, 1) := by decide +kernel
theorem dX7_within_1 : decode cX7_within 1 = .ok (.iload_n 1, 1) := by decide +kernel
theorem dX7_within_2 : decode cX7_within 2 = .ok (.if_icmp .ge 7, 3) := by decide +kernel
theorem dX7_within_5 : decode cX7_within 5 = .ok (.iload_n 1, 1) := by decide +kernel
theorem dX7_within_6 : decode cX7_within 6 = .ok (.goto 13, 3) := by decide +kernel
theorem dX7_within_9 : decode cX7_within 9 = .ok (.iload_n 0, 1) := by decide +kernel
theorem dX7_within_10 : decode cX7_within 10 = .ok (.iload_n 2, 1) := by decide +kernel
theorem dX7_within_11 : decode cX7_within 11 = .ok (.if_icmp .le 7, 3) := by decide +kernel
theorem dX7_within_14 : decode cX7_within 14 = .ok (.iload_n 2, 1) := by decide +kernel
theorem dX7_within_15 : decode cX7_within 15 = .ok (.goto 4, 3) := by decide +kernel
theorem dX7_within_18 : decode cX7_within 18 = .ok (.iload_n 0, 1) := by decide +kernel
theorem dX7_within_19 : decode cX7_within 19 = .ok (.ireturn, 1) := by decide +kernel
theorem dX7_namesOf_0 : decode cX7_namesOf 0 = .ok (.aload_n 0, 1) := by decide +kernel
theorem dX7_namesOf_1 : decode cX7_namesOf 1 = .ok (.getfield 30, 3) := by decide +kernel
theorem dX7_namesOf_4 : decode cX7_namesOf 4 = .ok (.iconst 0, 1) := by decide +kernel
theorem dX7_namesOf_5 : decode cX7_namesOf 5 = .ok (.aload_n 0, 1) := by decide +kernel
theorem dX7_namesOf_6 : decode cX7_namesOf 6 = .ok (.getfield 222, 3) := by decide +kernel
theorem dX7_namesOf_9 : decode cX7_namesOf 9 = .ok (.iload_n 1, 1) := by decide +kernel
theorem dX7_namesOf_10 : decode cX7_namesOf 10 = .ok (.iadd, 1) := by decide +kernel
theorem dX7_namesOf_11 : decode cX7_namesOf 11 = .ok (.iastore, 1) := by decide +kernel
theorem dX7_namesOf_12 : decode cX7_namesOf 12 = .ok (.aload_n 0, 1) := by decide +kernel
theorem dX7_namesOf_13 : decode cX7_namesOf 13 = .ok (.getfield 30, 3) := by decide +kernel
theorem dX7_namesOf_16 : decode cX7_namesOf 16 = .ok (.iconst 1, 1) := by decide +kernel
theorem dX7_namesOf_17 : decode cX7_namesOf 17 = .ok (.aload_n 0, 1) := by decide +kernel
theorem dX7_namesOf_18 : decode cX7_namesOf 18 = .ok (.getfield 225, 3) := by decide +kernel
theorem dX7_namesOf_21 : decode cX7_namesOf 21 = .ok (.iload_n 1, 1) := by decide +kernel
theorem dX7_namesOf_22 : decode cX7_namesOf 22 = .ok (.iadd, 1) := by decide +kernel
theorem dX7_namesOf_23 : decode cX7_namesOf 23 = .ok (.iastore, 1) := by decide +kernel
theorem dX7_namesOf_24 : decode cX7_namesOf 24 = .ok (.aload_n 0, 1) := by decide +kernel
theorem dX7_namesOf_25 : decode cX7_namesOf 25 = .ok (.getfield 30, 3) := by decide +kernel
theorem dX7_namesOf_28 : decode cX7_namesOf 28 = .ok (.iconst 2, 1) := by decide +kernel
theorem dX7_namesOf_29 : decode cX7_namesOf 29 = .ok (.aload_n 0, 1) := by decide +kernel
theorem dX7_namesOf_30 : decode cX7_namesOf 30 = .ok (.getfield 228, 3) := by decide +kernel
theorem dX7_namesOf_33 : decode cX7_namesOf 33 = .ok (.iload_n 1, 1) := by decide +kernel
theorem dX7_namesOf_34 : decode cX7_namesOf 34 = .ok (.aload_n 0, 1) := by decide +kernel
theorem dX7_namesOf_35 : decode cX7_namesOf 35 = .ok (.getfield 64, 3) := by decide +kernel
theorem dX7_namesOf_38 : decode cX7_namesOf 38 = .ok (.imul, 1) := by decide +kernel
theorem dX7_namesOf_39 : decode cX7_namesOf 39 = .ok (.iadd, 1) := by decide +kernel
theorem dX7_namesOf_40 : decode cX7_namesOf 40 = .ok (.iastore, 1) := by decide +kernel
theorem dX7_namesOf_41 : decode cX7_namesOf 41 = .ok (.aload_n 0, 1) := by decide +kernel
theorem dX7_namesOf_42 : decode cX7_namesOf 42 = .ok (.getfield 30, 3) := by decide +kernel
theorem dX7_namesOf_45 : decode cX7_namesOf 45 = .ok (.iconst 3, 1) := by decide +kernel
theorem dX7_namesOf_46 : decode cX7_namesOf 46 = .ok (.aload_n 0, 1) := by decide +kernel
theorem dX7_namesOf_47 : decode cX7_namesOf 47 = .ok (.getfield 231, 3) := by decide +kernel
theorem dX7_namesOf_50 : decode cX7_namesOf 50 = .ok (.iastore, 1) := by decide +kernel
theorem dX7_namesOf_51 : decode cX7_namesOf 51 = .ok (.aload_n 0, 1) := by decide +kernel
theorem dX7_namesOf_52 : decode cX7_namesOf 52 = .ok (.getfield 30, 3) := by decide +kernel
theorem dX7_namesOf_55 : decode cX7_namesOf 55 = .ok (.iconst 4, 1) := by decide +kernel
theorem dX7_namesOf_56 : decode cX7_namesOf 56 = .ok (.aload_n 0, 1) := by decide +kernel
theorem dX7_namesOf_57 : decode cX7_namesOf 57 = .ok (.getfield 234, 3) := by decide +kernel
theorem dX7_namesOf_60 : decode cX7_namesOf 60 = .ok (.iastore, 1) := by decide +kernel
theorem dX7_namesOf_61 : decode cX7_namesOf 61 = .ok (.aload_n 0, 1) := by decide +kernel
theorem dX7_namesOf_62 : decode cX7_namesOf 62 = .ok (.getfield 30, 3) := by decide +kernel
theorem dX7_namesOf_65 : decode cX7_namesOf 65 = .ok (.iconst 5, 1) := by decide +kernel
theorem dX7_namesOf_66 : decode cX7_namesOf 66 = .ok (.iconst 0, 1) := by decide +kernel
theorem dX7_namesOf_67 : decode cX7_namesOf 67 = .ok (.iastore, 1) := by decide +kernel
theorem dX7_namesOf_68 : decode cX7_namesOf 68 = .ok (.aload_n 0, 1) := by decide +kernel
theorem dX7_namesOf_69 : decode cX7_namesOf 69 = .ok (.getfield 30, 3) := by decide +kernel
theorem dX7_namesOf_72 : decode cX7_namesOf 72 = .ok (.bipush 6, 2) := by decide +kernel
theorem dX7_namesOf_74 : decode cX7_namesOf 74 = .ok (.iconst 0, 1) := by decide +kernel
theorem dX7_namesOf_75 : decode cX7_namesOf 75 = .ok (.iastore, 1) := by decide +kernel
theorem dX7_namesOf_76 : decode cX7_namesOf 76 = .ok (.return_, 1) := by decide +kernel
theorem dX7_tellsBy_0 : decode cX7_tellsBy 0 = .ok (.aload_n 0, 1) := by decide +kernel
theorem dX7_tellsBy_1 : decode cX7_tellsBy 1 = .ok (.getfield 30, 3) := by decide +kernel
theorem dX7_tellsBy_4 : decode cX7_tellsBy 4 = .ok (.iconst 5, 1) := by decide +kernel
theorem dX7_tellsBy_5 : decode cX7_tellsBy 5 = .ok (.iload_n 2, 1) := by decide +kernel
theorem dX7_tellsBy_6 : decode cX7_tellsBy 6 = .ok (.iastore, 1) := by decide +kernel
theorem dX7_tellsBy_7 : decode cX7_tellsBy 7 = .ok (.aload_n 0, 1) := by decide +kernel
theorem dX7_tellsBy_8 : decode cX7_tellsBy 8 = .ok (.iconst 0, 1) := by decide +kernel
theorem dX7_tellsBy_9 : decode cX7_tellsBy 9 = .ok (.putfield 194, 3) := by decide +kernel
theorem dX7_tellsBy_12 : decode cX7_tellsBy 12 = .ok (.aload_n 0, 1) := by decide +kernel
theorem dX7_tellsBy_13 : decode cX7_tellsBy 13 = .ok (.iconst 0, 1) := by decide +kernel
theorem dX7_tellsBy_14 : decode cX7_tellsBy 14 = .ok (.putfield 197, 3) := by decide +kernel
theorem dX7_tellsBy_17 : decode cX7_tellsBy 17 = .ok (.aload_n 0, 1) := by decide +kernel
theorem dX7_tellsBy_18 : decode cX7_tellsBy 18 = .ok (.iconst 0, 1) := by decide +kernel
theorem dX7_tellsBy_19 : decode cX7_tellsBy 19 = .ok (.putfield 200, 3) := by decide +kernel
theorem dX7_tellsBy_22 : decode cX7_tellsBy 22 = .ok (.iload_n 1, 1) := by decide +kernel
theorem dX7_tellsBy_23 : decode cX7_tellsBy 23 = .ok (.iconst (-1), 1) := by decide +kernel
theorem dX7_tellsBy_24 : decode cX7_tellsBy 24 = .ok (.if_icmp .eq 12, 3) := by decide +kernel
theorem dX7_tellsBy_27 : decode cX7_tellsBy 27 = .ok (.aload_n 0, 1) := by decide +kernel
theorem dX7_tellsBy_28 : decode cX7_tellsBy 28 = .ok (.iload_n 1, 1) := by decide +kernel
theorem dX7_tellsBy_29 : decode cX7_tellsBy 29 = .ok (.invokevirtual 237, 3) := by decide +kernel
theorem dX7_tellsBy_32 : decode cX7_tellsBy 32 = .ok (.aload_n 0, 1) := by decide +kernel
theorem dX7_tellsBy_33 : decode cX7_tellsBy 33 = .ok (.invokevirtual 219, 3) := by decide +kernel
theorem dX7_tellsBy_36 : decode cX7_tellsBy 36 = .ok (.aload_n 0, 1) := by decide +kernel
theorem dX7_tellsBy_37 : decode cX7_tellsBy 37 = .ok (.aload_n 0, 1) := by decide +kernel
theorem dX7_tellsBy_38 : decode cX7_tellsBy 38 = .ok (.getfield 194, 3) := by decide +kernel
theorem dX7_tellsBy_41 : decode cX7_tellsBy 41 = .ok (.iconst 0, 1) := by decide +kernel
theorem dX7_tellsBy_42 : decode cX7_tellsBy 42 = .ok (.sipush 999, 3) := by decide +kernel
theorem dX7_tellsBy_45 : decode cX7_tellsBy 45 = .ok (.invokestatic 240, 3) := by decide +kernel
theorem dX7_tellsBy_48 : decode cX7_tellsBy 48 = .ok (.putfield 194, 3) := by decide +kernel
theorem dX7_tellsBy_51 : decode cX7_tellsBy 51 = .ok (.aload_n 0, 1) := by decide +kernel
theorem dX7_tellsBy_52 : decode cX7_tellsBy 52 = .ok (.aload_n 0, 1) := by decide +kernel
theorem dX7_tellsBy_53 : decode cX7_tellsBy 53 = .ok (.getfield 197, 3) := by decide +kernel
theorem dX7_tellsBy_56 : decode cX7_tellsBy 56 = .ok (.iconst 0, 1) := by decide +kernel
theorem dX7_tellsBy_57 : decode cX7_tellsBy 57 = .ok (.sipush 999, 3) := by decide +kernel
theorem dX7_tellsBy_60 : decode cX7_tellsBy 60 = .ok (.invokestatic 240, 3) := by decide +kernel
theorem dX7_tellsBy_63 : decode cX7_tellsBy 63 = .ok (.putfield 197, 3) := by decide +kernel
theorem dX7_tellsBy_66 : decode cX7_tellsBy 66 = .ok (.aload_n 0, 1) := by decide +kernel
theorem dX7_tellsBy_67 : decode cX7_tellsBy 67 = .ok (.aload_n 0, 1) := by decide +kernel
theorem dX7_tellsBy_68 : decode cX7_tellsBy 68 = .ok (.getfield 200, 3) := by decide +kernel
theorem dX7_tellsBy_71 : decode cX7_tellsBy 71 = .ok (.iconst 1, 1) := by decide +kernel
theorem dX7_tellsBy_72 : decode cX7_tellsBy 72 = .ok (.bipush 36, 2) := by decide +kernel
theorem dX7_tellsBy_74 : decode cX7_tellsBy 74 = .ok (.invokestatic 240, 3) := by decide +kernel
theorem dX7_tellsBy_77 : decode cX7_tellsBy 77 = .ok (.putfield 200, 3) := by decide +kernel
theorem dX7_tellsBy_80 : decode cX7_tellsBy 80 = .ok (.return_, 1) := by decide +kernel
theorem dX7_lotsBy_0 : decode cX7_lotsBy 0 = .ok (.aload_n 0, 1) := by decide +kernel
theorem dX7_lotsBy_1 : decode cX7_lotsBy 1 = .ok (.iload_n 1, 1) := by decide +kernel
theorem dX7_lotsBy_2 : decode cX7_lotsBy 2 = .ok (.iconst 0, 1) := by decide +kernel
theorem dX7_lotsBy_3 : decode cX7_lotsBy 3 = .ok (.invokevirtual 244, 3) := by decide +kernel
theorem dX7_lotsBy_6 : decode cX7_lotsBy 6 = .ok (.aload_n 0, 1) := by decide +kernel
theorem dX7_lotsBy_7 : decode cX7_lotsBy 7 = .ok (.getfield 200, 3) := by decide +kernel
theorem dX7_lotsBy_10 : decode cX7_lotsBy 10 = .ok (.ireturn, 1) := by decide +kernel
theorem dX7_tells_0 : decode cX7_tells 0 = .ok (.aload_n 0, 1) := by decide +kernel
theorem dX7_tells_1 : decode cX7_tells 1 = .ok (.iconst 0, 1) := by decide +kernel
theorem dX7_tells_2 : decode cX7_tells 2 = .ok (.putfield 97, 3) := by decide +kernel
theorem dX7_tells_5 : decode cX7_tells 5 = .ok (.aload_n 0, 1) := by decide +kernel
theorem dX7_tells_6 : decode cX7_tells 6 = .ok (.iload_n 1, 1) := by decide +kernel
theorem dX7_tells_7 : decode cX7_tells 7 = .ok (.iconst 0, 1) := by decide +kernel
theorem dX7_tells_8 : decode cX7_tells 8 = .ok (.iconst 2, 1) := by decide +kernel
theorem dX7_tells_9 : decode cX7_tells 9 = .ok (.invokestatic 100, 3) := by decide +kernel
theorem dX7_tells_12 : decode cX7_tells 12 = .ok (.ifCond .eq 13, 3) := by decide +kernel
theorem dX7_tells_15 : decode cX7_tells 15 = .ok (.iload_n 2, 1) := by decide +kernel
theorem dX7_tells_16 : decode cX7_tells 16 = .ok (.iconst 0, 1) := by decide +kernel
theorem dX7_tells_17 : decode cX7_tells 17 = .ok (.bipush 35, 2) := by decide +kernel
theorem dX7_tells_19 : decode cX7_tells 19 = .ok (.invokestatic 100, 3) := by decide +kernel
theorem dX7_tells_22 : decode cX7_tells 22 = .ok (.ifCond .ne 7, 3) := by decide +kernel
theorem dX7_tells_25 : decode cX7_tells 25 = .ok (.iconst 1, 1) := by decide +kernel
theorem dX7_tells_26 : decode cX7_tells 26 = .ok (.goto 4, 3) := by decide +kernel
theorem dX7_tells_29 : decode cX7_tells 29 = .ok (.iconst 0, 1) := by decide +kernel
theorem dX7_tells_30 : decode cX7_tells 30 = .ok (.iconst 1, 1) := by decide +kernel
theorem dX7_tells_31 : decode cX7_tells 31 = .ok (.invokevirtual 206, 3) := by decide +kernel
theorem dX7_tells_34 : decode cX7_tells 34 = .ok (.ifCond .eq 5, 3) := by decide +kernel
theorem dX7_tells_37 : decode cX7_tells 37 = .ok (.iconst 0, 1) := by decide +kernel
theorem dX7_tells_38 : decode cX7_tells 38 = .ok (.ireturn, 1) := by decide +kernel
theorem dX7_tells_39 : decode cX7_tells 39 = .ok (.aload_n 0, 1) := by decide +kernel
theorem dX7_tells_40 : decode cX7_tells 40 = .ok (.iconst 1, 1) := by decide +kernel
theorem dX7_tells_41 : decode cX7_tells 41 = .ok (.invokevirtual 247, 3) := by decide +kernel
theorem dX7_tells_44 : decode cX7_tells 44 = .ok (.iload_n 1, 1) := by decide +kernel
theorem dX7_tells_45 : decode cX7_tells 45 = .ok (.iconst 2, 1) := by decide +kernel
theorem dX7_tells_46 : decode cX7_tells 46 = .ok (.if_icmp .ne 12, 3) := by decide +kernel
theorem dX7_tells_49 : decode cX7_tells 49 = .ok (.aload_n 0, 1) := by decide +kernel
theorem dX7_tells_50 : decode cX7_tells 50 = .ok (.aload_n 0, 1) := by decide +kernel
theorem dX7_tells_51 : decode cX7_tells 51 = .ok (.getfield 27, 3) := by decide +kernel
theorem dX7_tells_54 : decode cX7_tells 54 = .ok (.invokevirtual 250, 3) := by decide +kernel
theorem dX7_tells_57 : decode cX7_tells 57 = .ok (.ireturn, 1) := by decide +kernel
theorem dX7_tells_58 : decode cX7_tells 58 = .ok (.aload_n 0, 1) := by decide +kernel
theorem dX7_tells_59 : decode cX7_tells 59 = .ok (.aload_n 0, 1) := by decide +kernel
theorem dX7_tells_60 : decode cX7_tells 60 = .ok (.getfield 27, 3) := by decide +kernel
theorem dX7_tells_63 : decode cX7_tells 63 = .ok (.iload_n 2, 1) := by decide +kernel
theorem dX7_tells_64 : decode cX7_tells 64 = .ok (.invokevirtual 244, 3) := by decide +kernel
theorem dX7_tells_67 : decode cX7_tells 67 = .ok (.iload_n 1, 1) := by decide +kernel
theorem dX7_tells_68 : decode cX7_tells 68 = .ok (.ifCond .ne 10, 3) := by decide +kernel
theorem dX7_tells_71 : decode cX7_tells 71 = .ok (.aload_n 0, 1) := by decide +kernel
theorem dX7_tells_72 : decode cX7_tells 72 = .ok (.getfield 194, 3) := by decide +kernel
theorem dX7_tells_75 : decode cX7_tells 75 = .ok (.goto 7, 3) := by decide +kernel
theorem dX7_tells_78 : decode cX7_tells 78 = .ok (.aload_n 0, 1) := by decide +kernel
theorem dX7_tells_79 : decode cX7_tells 79 = .ok (.getfield 197, 3) := by decide +kernel
theorem dX7_tells_82 : decode cX7_tells 82 = .ok (.ireturn, 1) := by decide +kernel
set_option maxHeartbeats 4000000 in
set_option maxRecDepth 100000 in
theorem c_X7_within0 (l : Launch) (D : va_G) (K : Nat → ClassId) (b0 : Nat) (sa : Nat × Nat × Nat) (sz : Nat) (L : List Nat) (f0 : Nat → va_E) (Ψ : Nat → Nat) (G : tG) (hT : TW K G Ψ L f0)  : Met l yX7_within (.code yX7_within cX7_within 3 (some .int) :: gt) { frames := 0, cells := 0, slots := 0, locals := 0 } (va_Pc [.int 0, .int 0, .int 999] (hPre D K b0 sa sz L f0)) (hQ D K b0 (fun v9 u9 => ∃ r : Int32, v9 = some (.int r) ∧ u9 = (G, Ψ, L, f0) ∧ (r = 0))) 0 0 (fun q => b0 ≤ q) := by
  refine t_of (own := RX7) (by decide) rfl ?_ (Nat.le_of_ble_eq_true rfl)
  intro p e s m below meth c ls C w hsz hr hlk hnm hl
  have hx := C.1
  have hb := C.2.1
  have hl : lv_has ls 3 [(0, .int 0), (1, .int 0), (2, .int 999)] := hl
  have hR : rawk Ψ L f0 f0 := rawk.rf
  refine lv_iload_n hx hb dX7_within_0 rfl (lv_at hl 0 rfl) ?_
  refine lv_iload_n hx hb dX7_within_1 rfl (lv_at hl 1 rfl) ?_
  refine lv_icmp_ge (tgt := 9) hx hb dX7_within_2 (by decide) (fun _ => ?_) (fun c0 => absurd c0 (by decide))
  refine lv_iload_n hx hb dX7_within_9 rfl (lv_at hl 0 rfl) ?_
  refine lv_iload_n hx hb dX7_within_10 rfl (lv_at hl 2 rfl) ?_
  refine lv_icmp_le (tgt := 18) hx hb dX7_within_11 (by decide) (fun _ => ?_) (fun c0 => absurd c0 (by decide))
  refine lv_iload_n hx hb dX7_within_18 rfl (lv_at hl 0 rfl) ?_
  have n0 : (0 : Int32).toInt = 0 := by decide
  exact t_iret C hr hlk w ⟨_, rfl, rfl, rfl⟩ (by decide) (by decide) dX7_within_19
set_option maxHeartbeats 4000000 in
set_option maxRecDepth 100000 in
theorem c_X7_within1 (l : Launch) (D : va_G) (K : Nat → ClassId) (b0 : Nat) (sa : Nat × Nat × Nat) (sz : Nat) (L : List Nat) (f0 : Nat → va_E) (Ψ : Nat → Nat) (G : tG) (hT : TW K G Ψ L f0)  : Met l yX7_within (.code yX7_within cX7_within 3 (some .int) :: gt) { frames := 0, cells := 0, slots := 0, locals := 0 } (va_Pc [.int 0, .int 1, .int 36] (hPre D K b0 sa sz L f0)) (hQ D K b0 (fun v9 u9 => ∃ r : Int32, v9 = some (.int r) ∧ u9 = (G, Ψ, L, f0) ∧ (r = 1))) 0 0 (fun q => b0 ≤ q) := by
  refine t_of (own := RX7) (by decide) rfl ?_ (Nat.le_of_ble_eq_true rfl)
  intro p e s m below meth c ls C w hsz hr hlk hnm hl
  have hx := C.1
  have hb := C.2.1
  have hl : lv_has ls 3 [(0, .int 0), (1, .int 1), (2, .int 36)] := hl
  have hR : rawk Ψ L f0 f0 := rawk.rf
  refine lv_iload_n hx hb dX7_within_0 rfl (lv_at hl 0 rfl) ?_
  refine lv_iload_n hx hb dX7_within_1 rfl (lv_at hl 1 rfl) ?_
  refine lv_icmp_ge (tgt := 9) hx hb dX7_within_2 (by decide) (fun c0 => absurd c0 (by decide)) (fun _ => ?_)
  refine lv_iload_n hx hb dX7_within_5 rfl (lv_at hl 1 rfl) ?_
  refine lv_goto (tgt := 19) hx hb dX7_within_6 (by decide) ?_
  have n1 : (1 : Int32).toInt = 1 := by decide
  exact t_iret C hr hlk w ⟨_, rfl, rfl, rfl⟩ (by decide) (by decide) dX7_within_19
set_option maxHeartbeats 4000000 in
set_option maxRecDepth 100000 in
theorem c_X7_withinB (l : Launch) (D : va_G) (K : Nat → ClassId) (b0 : Nat) (sa : Nat × Nat × Nat) (sz : Nat) (L : List Nat) (f0 : Nat → va_E) (Ψ : Nat → Nat) (G : tG) (hT : TW K G Ψ L f0) (v : Int32) : Met l yX7_within (.code yX7_within cX7_within 3 (some .int) :: gt) { frames := 0, cells := 0, slots := 0, locals := 0 } (va_Pc [.int v, .int 0, .int 99] (hPre D K b0 sa sz L f0)) (hQ D K b0 (fun v9 u9 => ∃ r : Int32, v9 = some (.int r) ∧ u9 = (G, Ψ, L, f0) ∧ ((0 ≤ r.toInt ∧ r.toInt ≤ 99 ∧ ((v.toInt < 0 ∧ r.toInt = 0) ∨ (99 < v.toInt ∧ r.toInt = 99) ∨ r.toInt = v.toInt))))) 0 0 (fun q => b0 ≤ q) := by
  refine t_of (own := RX7) (by decide) rfl ?_ (Nat.le_of_ble_eq_true rfl)
  intro p e s m below meth c ls C w hsz hr hlk hnm hl
  have hx := C.1
  have hb := C.2.1
  have hl : lv_has ls 3 [(0, .int v), (1, .int 0), (2, .int 99)] := hl
  have hb_v := ti_bd v
  have hR : rawk Ψ L f0 f0 := rawk.rf
  refine lv_iload_n hx hb dX7_within_0 rfl (lv_at hl 0 rfl) ?_
  refine lv_iload_n hx hb dX7_within_1 rfl (lv_at hl 1 rfl) ?_
  have n0 : (0 : Int32).toInt = 0 := by decide
  refine lv_icmp_ge (tgt := 9) hx hb dX7_within_2 (by decide) (fun c1 => ?_) (fun c1 => ?_)
  · have c1 := le_toInt c1
    refine lv_iload_n hx hb dX7_within_9 rfl (lv_at hl 0 rfl) ?_
    refine lv_iload_n hx hb dX7_within_10 rfl (lv_at hl 2 rfl) ?_
    have n99 : (99 : Int32).toInt = 99 := by decide
    refine lv_icmp_le (tgt := 18) hx hb dX7_within_11 (by decide) (fun c2 => ?_) (fun c2 => ?_)
    · have c2 := le_toInt c2
      refine lv_iload_n hx hb dX7_within_18 rfl (lv_at hl 0 rfl) ?_
      exact t_iret C hr hlk w ⟨_, rfl, rfl, (by omega)⟩ (by decide) (by decide) dX7_within_19
    · have c2 := nle_toInt c2
      refine lv_iload_n hx hb dX7_within_14 rfl (lv_at hl 2 rfl) ?_
      refine lv_goto (tgt := 19) hx hb dX7_within_15 (by decide) ?_
      exact t_iret C hr hlk w ⟨_, rfl, rfl, (by omega)⟩ (by decide) (by decide) dX7_within_19
  · have c1 := nle_toInt c1
    refine lv_iload_n hx hb dX7_within_5 rfl (lv_at hl 1 rfl) ?_
    refine lv_goto (tgt := 19) hx hb dX7_within_6 (by decide) ?_
    exact t_iret C hr hlk w ⟨_, rfl, rfl, (by omega)⟩ (by decide) (by decide) dX7_within_19
set_option maxHeartbeats 4000000 in
set_option maxRecDepth 100000 in
theorem c_X7_namesOf (l : Launch) (D : va_G) (K : Nat → ClassId) (b0 : Nat) (sa : Nat × Nat × Nat) (sz : Nat) (L : List Nat) (f0 : Nat → va_E) (Ψ : Nat → Nat) (hT : TW K (gof gM1) Ψ L f0) (m_ : Nat) (hm_m_ : m_ ∈ L) (ht_m_ : Ψ m_ = 7) (j_ : Int32) : Met l yX7_namesOf (.code yX7_namesOf cX7_namesOf 2 none :: gt) { frames := 0, cells := 0, slots := 0, locals := 0 } (va_Pc [.ref m_, .int j_] (hPre D K b0 sa sz L f0)) (hQ D K b0 (fun v9 u9 => ∃ f2 : Nat → va_E, v9 = none ∧ u9 = ((gof gM1), Ψ, L, f2) ∧ TW K (gof gM1) Ψ L f2 ∧ rawk Ψ L f0 f2)) 0 0 (fun q => b0 ≤ q) := by
  refine t_of (own := RX7) (by decide) rfl ?_ (Nat.le_of_ble_eq_true rfl)
  intro p e s m below meth c ls C w hsz hr hlk hnm hl
  have hx := C.1
  have hb := C.2.1
  have hl : lv_has ls 2 [(0, .ref m_), (1, .int j_)] := hl
  have hb_j_ := ti_bd j_
  have hR : rawk Ψ L f0 f0 := rawk.rf
  refine lv_aload_n hx hb dX7_namesOf_0 rfl (lv_at hl 0 rfl) ?_
  refine t_getr C w hT hm_m_ ht_m_ (by decide) rfl cin_7 17 (by decide) rfl gw_1173 dX7_namesOf_1 (fun q1 hm_q1 ht_q1 => ?_)
  refine lv_iconst (v := 0) hx hb dX7_namesOf_4 (by decide) ?_
  refine lv_aload_n hx hb dX7_namesOf_5 rfl (lv_at hl 0 rfl) ?_
  refine t_geti C w hT hm_m_ ht_m_ (by decide) rfl cin_7 35 (by decide) rfl rfl gw_1191 dX7_namesOf_6 (fun x2 hg => ?_)
  refine lv_iload_n hx hb dX7_namesOf_9 rfl (lv_at hl 1 rfl) ?_
  refine lv_iadd hx hb dX7_namesOf_10 ?_
  refine lv_topi (fun y3 ey3 => ?_)
  refine t_iast C w hT hm_q1 ht_q1 (by decide) (by decide) rfl (vp_in_iff.mpr ⟨by decide, by decide⟩) (gof_no rfl) dX7_namesOf_11 (fun f H locs w hT hR1 => ?_)
  have hR := hR.tr hR1
  refine lv_aload_n hx hb dX7_namesOf_12 rfl (lv_at hl 0 rfl) ?_
  refine t_getr C w hT hm_m_ ht_m_ (by decide) rfl cin_7 17 (by decide) rfl gw_1173 dX7_namesOf_13 (fun q4 hm_q4 ht_q4 => ?_)
  refine lv_iconst (v := 1) hx hb dX7_namesOf_16 (by decide) ?_
  refine lv_aload_n hx hb dX7_namesOf_17 rfl (lv_at hl 0 rfl) ?_
  refine t_geti C w hT hm_m_ ht_m_ (by decide) rfl cin_7 36 (by decide) rfl rfl gw_1192 dX7_namesOf_18 (fun x5 hg => ?_)
  refine lv_iload_n hx hb dX7_namesOf_21 rfl (lv_at hl 1 rfl) ?_
  refine lv_iadd hx hb dX7_namesOf_22 ?_
  refine lv_topi (fun y6 ey6 => ?_)
  refine t_iast C w hT hm_q4 ht_q4 (by decide) (by decide) rfl (vp_in_iff.mpr ⟨by decide, by decide⟩) (gof_no rfl) dX7_namesOf_23 (fun f H locs w hT hR1 => ?_)
  have hR := hR.tr hR1
  refine lv_aload_n hx hb dX7_namesOf_24 rfl (lv_at hl 0 rfl) ?_
  refine t_getr C w hT hm_m_ ht_m_ (by decide) rfl cin_7 17 (by decide) rfl gw_1173 dX7_namesOf_25 (fun q7 hm_q7 ht_q7 => ?_)
  refine lv_iconst (v := 2) hx hb dX7_namesOf_28 (by decide) ?_
  refine lv_aload_n hx hb dX7_namesOf_29 rfl (lv_at hl 0 rfl) ?_
  refine t_geti C w hT hm_m_ ht_m_ (by decide) rfl cin_7 37 (by decide) rfl rfl gw_1193 dX7_namesOf_30 (fun x8 hg => ?_)
  refine lv_iload_n hx hb dX7_namesOf_33 rfl (lv_at hl 1 rfl) ?_
  refine lv_aload_n hx hb dX7_namesOf_34 rfl (lv_at hl 0 rfl) ?_
  refine t_geti C w hT hm_m_ ht_m_ (by decide) rfl cin_7 32 (by decide) rfl rfl gw_1188 dX7_namesOf_35 (fun x9 hg => ?_)
  obtain rfl : x9 = 1 := gof_at rfl hg
  refine lv_imul hx hb dX7_namesOf_38 ?_
  refine lv_topi (fun y10 ey10 => ?_)
  refine lv_iadd hx hb dX7_namesOf_39 ?_
  refine lv_topi (fun y11 ey11 => ?_)
  refine t_iast C w hT hm_q7 ht_q7 (by decide) (by decide) rfl (vp_in_iff.mpr ⟨by decide, by decide⟩) (gof_no rfl) dX7_namesOf_40 (fun f H locs w hT hR1 => ?_)
  have hR := hR.tr hR1
  refine lv_aload_n hx hb dX7_namesOf_41 rfl (lv_at hl 0 rfl) ?_
  refine t_getr C w hT hm_m_ ht_m_ (by decide) rfl cin_7 17 (by decide) rfl gw_1173 dX7_namesOf_42 (fun q12 hm_q12 ht_q12 => ?_)
  refine lv_iconst (v := 3) hx hb dX7_namesOf_45 (by decide) ?_
  refine lv_aload_n hx hb dX7_namesOf_46 rfl (lv_at hl 0 rfl) ?_
  refine t_geti C w hT hm_m_ ht_m_ (by decide) rfl cin_7 38 (by decide) rfl rfl gw_1194 dX7_namesOf_47 (fun x13 hg => ?_)
  refine t_iast C w hT hm_q12 ht_q12 (by decide) (by decide) rfl (vp_in_iff.mpr ⟨by decide, by decide⟩) (gof_no rfl) dX7_namesOf_50 (fun f H locs w hT hR1 => ?_)
  have hR := hR.tr hR1
  refine lv_aload_n hx hb dX7_namesOf_51 rfl (lv_at hl 0 rfl) ?_
  refine t_getr C w hT hm_m_ ht_m_ (by decide) rfl cin_7 17 (by decide) rfl gw_1173 dX7_namesOf_52 (fun q14 hm_q14 ht_q14 => ?_)
  refine lv_iconst (v := 4) hx hb dX7_namesOf_55 (by decide) ?_
  refine lv_aload_n hx hb dX7_namesOf_56 rfl (lv_at hl 0 rfl) ?_
  refine t_geti C w hT hm_m_ ht_m_ (by decide) rfl cin_7 33 (by decide) rfl rfl gw_1189 dX7_namesOf_57 (fun x15 hg => ?_)
  obtain rfl : x15 = 0 := gof_at rfl hg
  refine t_iast C w hT hm_q14 ht_q14 (by decide) (by decide) rfl (vp_in_iff.mpr ⟨by decide, by decide⟩) (gof_no rfl) dX7_namesOf_60 (fun f H locs w hT hR1 => ?_)
  have hR := hR.tr hR1
  refine lv_aload_n hx hb dX7_namesOf_61 rfl (lv_at hl 0 rfl) ?_
  refine t_getr C w hT hm_m_ ht_m_ (by decide) rfl cin_7 17 (by decide) rfl gw_1173 dX7_namesOf_62 (fun q16 hm_q16 ht_q16 => ?_)
  refine lv_iconst (v := 5) hx hb dX7_namesOf_65 (by decide) ?_
  refine lv_iconst (v := 0) hx hb dX7_namesOf_66 (by decide) ?_
  refine t_iast C w hT hm_q16 ht_q16 (by decide) (by decide) rfl (vp_in_iff.mpr ⟨by decide, by decide⟩) (gof_no rfl) dX7_namesOf_67 (fun f H locs w hT hR1 => ?_)
  have hR := hR.tr hR1
  refine lv_aload_n hx hb dX7_namesOf_68 rfl (lv_at hl 0 rfl) ?_
  refine t_getr C w hT hm_m_ ht_m_ (by decide) rfl cin_7 17 (by decide) rfl gw_1173 dX7_namesOf_69 (fun q17 hm_q17 ht_q17 => ?_)
  refine lv_bipush (v := 6) hx hb dX7_namesOf_72 (by decide) ?_
  refine lv_iconst (v := 0) hx hb dX7_namesOf_74 (by decide) ?_
  refine t_iast C w hT hm_q17 ht_q17 (by decide) (by decide) rfl (vp_in_iff.mpr ⟨by decide, by decide⟩) (gof_no rfl) dX7_namesOf_75 (fun f H locs w hT hR1 => ?_)
  have hR := hR.tr hR1
  exact t_vret C hr hlk w ⟨_, rfl, rfl, hT, hR⟩ (by decide) (by decide) dX7_namesOf_76
set_option maxHeartbeats 4000000 in
set_option maxRecDepth 100000 in
theorem c_X7_tellsBy (l : Launch) (D : va_G) (K : Nat → ClassId) (b0 : Nat) (sa : Nat × Nat × Nat) (sz : Nat) (L : List Nat) (f0 : Nat → va_E) (Ψ : Nat → Nat) (hT : TW K (gof gM1) Ψ L f0) (m_ : Nat) (hm_m_ : m_ ∈ L) (ht_m_ : Ψ m_ = 7) (lt : Int32) (hu_7 : ∀ b c : Nat, b ∈ L → c ∈ L → Ψ b = 7 → Ψ c = 7 → b = c) : Met l yX7_tellsBy (.code yX7_tellsBy cX7_tellsBy 3 none :: gt) { frames := 1, cells := 0, slots := 0, locals := 22 } (va_Pc [.ref m_, .int (-1), .int lt] (hPre D K b0 sa sz L f0)) (hQ D K b0 (fun v9 u9 => ∃ f2 : Nat → va_E, v9 = none ∧ u9 = ((gof ((718, 0) :: ((719, 0) :: ((720, 1) :: gM1)))), Ψ, L, f2) ∧ TW K (gof ((718, 0) :: ((719, 0) :: ((720, 1) :: gM1)))) Ψ L f2 ∧ rawk Ψ L f0 f2)) 0 0 (fun q => b0 ≤ q) := by
  refine t_of (own := RX7) (by decide) rfl ?_ (Nat.le_of_ble_eq_true rfl)
  intro p e s m below meth c ls C w hsz hr hlk hnm hl
  have hx := C.1
  have hb := C.2.1
  have hl : lv_has ls 3 [(0, .ref m_), (1, .int (-1)), (2, .int lt)] := hl
  have hb_lt := ti_bd lt
  have hR : rawk Ψ L f0 f0 := rawk.rf
  refine lv_aload_n hx hb dX7_tellsBy_0 rfl (lv_at hl 0 rfl) ?_
  refine t_getr C w hT hm_m_ ht_m_ (by decide) rfl cin_7 17 (by decide) rfl gw_1173 dX7_tellsBy_1 (fun q1 hm_q1 ht_q1 => ?_)
  refine lv_iconst (v := 5) hx hb dX7_tellsBy_4 (by decide) ?_
  refine lv_iload_n hx hb dX7_tellsBy_5 rfl (lv_at hl 2 rfl) ?_
  refine t_iast C w hT hm_q1 ht_q1 (by decide) (by decide) rfl (vp_in_iff.mpr ⟨by decide, by decide⟩) (gof_no rfl) dX7_tellsBy_6 (fun f H locs w hT hR1 => ?_)
  have hR := hR.tr hR1
  refine lv_aload_n hx hb dX7_tellsBy_7 rfl (lv_at hl 0 rfl) ?_
  refine lv_iconst (v := 0) hx hb dX7_tellsBy_8 (by decide) ?_
  refine t_putS C w hT hm_m_ ht_m_ (fun b h1 h2 => hu_7 b m_ h1 hm_m_ h2 ht_m_) (by decide) rfl cin_7 tyX7 tyX7_ok nmX7 18 (by decide) rfl rfl rfl rfl rfl gw_1174 dX7_tellsBy_9 (fun f H locs w hT hR1 => ?_)
  have hT := hT.mono gof_set
  have hR := hR.tr hR1
  refine lv_aload_n hx hb dX7_tellsBy_12 rfl (lv_at hl 0 rfl) ?_
  refine lv_iconst (v := 0) hx hb dX7_tellsBy_13 (by decide) ?_
  refine t_putS C w hT hm_m_ ht_m_ (fun b h1 h2 => hu_7 b m_ h1 hm_m_ h2 ht_m_) (by decide) rfl cin_7 tyX7 tyX7_ok nmX7 19 (by decide) rfl rfl rfl rfl rfl gw_1175 dX7_tellsBy_14 (fun f H locs w hT hR1 => ?_)
  have hT := hT.mono gof_set
  have hR := hR.tr hR1
  refine lv_aload_n hx hb dX7_tellsBy_17 rfl (lv_at hl 0 rfl) ?_
  refine lv_iconst (v := 0) hx hb dX7_tellsBy_18 (by decide) ?_
  refine t_putS C w hT hm_m_ ht_m_ (fun b h1 h2 => hu_7 b m_ h1 hm_m_ h2 ht_m_) (by decide) rfl cin_7 tyX7 tyX7_ok nmX7 20 (by decide) rfl rfl rfl rfl rfl gw_1176 dX7_tellsBy_19 (fun f H locs w hT hR1 => ?_)
  have hT := hT.mono gof_set
  have hR := hR.tr hR1
  refine lv_iload_n hx hb dX7_tellsBy_22 rfl (lv_at hl 1 rfl) ?_
  refine lv_iconst (v := (-1)) hx hb dX7_tellsBy_23 (by decide) ?_
  refine lv_icmp_eq (tgt := 36) hx hb dX7_tellsBy_24 (by decide) (fun _ => ?_) (fun c0 => absurd c0 (by decide))
  refine lv_aload_n hx hb dX7_tellsBy_36 rfl (lv_at hl 0 rfl) ?_
  refine lv_aload_n hx hb dX7_tellsBy_37 rfl (lv_at hl 0 rfl) ?_
  refine t_geti C w hT hm_m_ ht_m_ (by decide) rfl cin_7 18 (by decide) rfl rfl gw_1174 dX7_tellsBy_38 (fun x2 hg => ?_)
  obtain rfl : x2 = 0 := gof_at rfl hg
  refine lv_iconst (v := 0) hx hb dX7_tellsBy_41 (by decide) ?_
  refine lv_sipush (v := 999) hx hb dX7_tellsBy_42 (by decide) ?_
  refine t_callS (n := 3) C w (c_X7_within0 l D K b0 sa _ L _ Ψ (gof ((720, 0) :: ((719, 0) :: ((718, 0) :: gM1)))) hT) gw_1460 gw_1458 gw_1459 gw_8 ⟨by decide, by decide, by decide +kernel⟩ rfl rfl ⟨by decide, by decide⟩ rfl hl.1 rfl (Nat.le_of_ble_eq_true rfl) dX7_tellsBy_45 ⟨by decide, by decide⟩ (fun v u H locs hp w => ?_)
  obtain ⟨r3, rfl, rfl, hrr3⟩ := hp
  obtain rfl := hrr3
  refine t_putS C w hT hm_m_ ht_m_ (fun b h1 h2 => hu_7 b m_ h1 hm_m_ h2 ht_m_) (by decide) rfl cin_7 tyX7 tyX7_ok nmX7 18 (by decide) rfl rfl rfl rfl rfl gw_1174 dX7_tellsBy_48 (fun f H locs w hT hR1 => ?_)
  have hT := hT.mono gof_set
  have hR := hR.tr hR1
  refine lv_aload_n hx hb dX7_tellsBy_51 rfl (lv_at hl 0 rfl) ?_
  refine lv_aload_n hx hb dX7_tellsBy_52 rfl (lv_at hl 0 rfl) ?_
  refine t_geti C w hT hm_m_ ht_m_ (by decide) rfl cin_7 19 (by decide) rfl rfl gw_1175 dX7_tellsBy_53 (fun x4 hg => ?_)
  obtain rfl : x4 = 0 := gof_at rfl hg
  refine lv_iconst (v := 0) hx hb dX7_tellsBy_56 (by decide) ?_
  refine lv_sipush (v := 999) hx hb dX7_tellsBy_57 (by decide) ?_
  refine t_callS (n := 3) C w (c_X7_within0 l D K b0 sa _ L _ Ψ (gof ((718, 0) :: ((720, 0) :: ((719, 0) :: ((718, 0) :: gM1))))) hT) gw_1460 gw_1458 gw_1459 gw_8 ⟨by decide, by decide, by decide +kernel⟩ rfl rfl ⟨by decide, by decide⟩ rfl hl.1 rfl (Nat.le_of_ble_eq_true rfl) dX7_tellsBy_60 ⟨by decide, by decide⟩ (fun v u H locs hp w => ?_)
  obtain ⟨r5, rfl, rfl, hrr5⟩ := hp
  obtain rfl := hrr5
  refine t_putS C w hT hm_m_ ht_m_ (fun b h1 h2 => hu_7 b m_ h1 hm_m_ h2 ht_m_) (by decide) rfl cin_7 tyX7 tyX7_ok nmX7 19 (by decide) rfl rfl rfl rfl rfl gw_1175 dX7_tellsBy_63 (fun f H locs w hT hR1 => ?_)
  have hT := hT.mono gof_set
  have hR := hR.tr hR1
  refine lv_aload_n hx hb dX7_tellsBy_66 rfl (lv_at hl 0 rfl) ?_
  refine lv_aload_n hx hb dX7_tellsBy_67 rfl (lv_at hl 0 rfl) ?_
  refine t_geti C w hT hm_m_ ht_m_ (by decide) rfl cin_7 20 (by decide) rfl rfl gw_1176 dX7_tellsBy_68 (fun x6 hg => ?_)
  obtain rfl : x6 = 0 := gof_at rfl hg
  refine lv_iconst (v := 1) hx hb dX7_tellsBy_71 (by decide) ?_
  refine lv_bipush (v := 36) hx hb dX7_tellsBy_72 (by decide) ?_
  refine t_callS (n := 3) C w (c_X7_within1 l D K b0 sa _ L _ Ψ (gof ((719, 0) :: ((718, 0) :: ((720, 0) :: ((719, 0) :: ((718, 0) :: gM1)))))) hT) gw_1460 gw_1458 gw_1459 gw_8 ⟨by decide, by decide, by decide +kernel⟩ rfl rfl ⟨by decide, by decide⟩ rfl hl.1 rfl (Nat.le_of_ble_eq_true rfl) dX7_tellsBy_74 ⟨by decide, by decide⟩ (fun v u H locs hp w => ?_)
  obtain ⟨r7, rfl, rfl, hrr7⟩ := hp
  obtain rfl := hrr7
  refine t_putS C w hT hm_m_ ht_m_ (fun b h1 h2 => hu_7 b m_ h1 hm_m_ h2 ht_m_) (by decide) rfl cin_7 tyX7 tyX7_ok nmX7 20 (by decide) rfl rfl rfl rfl rfl gw_1176 dX7_tellsBy_77 (fun f H locs w hT hR1 => ?_)
  have hT := hT.mono gof_set
  have hR := hR.tr hR1
  exact t_vret C hr hlk w ⟨_, rfl, rfl, (hT.mono (gof_sub rfl)), hR⟩ (by decide) (by decide) dX7_tellsBy_80
set_option maxHeartbeats 4000000 in
set_option maxRecDepth 100000 in
theorem c_X7_lotsBy (l : Launch) (D : va_G) (K : Nat → ClassId) (b0 : Nat) (sa : Nat × Nat × Nat) (sz : Nat) (L : List Nat) (f0 : Nat → va_E) (Ψ : Nat → Nat) (hT : TW K (gof gM1) Ψ L f0) (m_ : Nat) (hm_m_ : m_ ∈ L) (ht_m_ : Ψ m_ = 7) (hu_7 : ∀ b c : Nat, b ∈ L → c ∈ L → Ψ b = 7 → Ψ c = 7 → b = c) : Met l yX7_lotsBy (.code yX7_lotsBy cX7_lotsBy 2 (some .int) :: gt) { frames := 2, cells := 0, slots := 0, locals := 44 } (va_Pc [.ref m_, .int (-1)] (hPre D K b0 sa sz L f0)) (hQ D K b0 (fun v9 u9 => ∃ (r : Int32) (f2 : Nat → va_E), v9 = some (.int r) ∧ u9 = ((gof ((718, 0) :: ((719, 0) :: ((720, 1) :: gM1)))), Ψ, L, f2) ∧ TW K (gof ((718, 0) :: ((719, 0) :: ((720, 1) :: gM1)))) Ψ L f2 ∧ rawk Ψ L f0 f2 ∧ (r = 1))) 0 0 (fun q => b0 ≤ q) := by
  refine t_of (own := RX7) (by decide) rfl ?_ (Nat.le_of_ble_eq_true rfl)
  intro p e s m below meth c ls C w hsz hr hlk hnm hl
  have hx := C.1
  have hb := C.2.1
  have hl : lv_has ls 2 [(0, .ref m_), (1, .int (-1))] := hl
  have hR : rawk Ψ L f0 f0 := rawk.rf
  refine lv_aload_n hx hb dX7_lotsBy_0 rfl (lv_at hl 0 rfl) ?_
  refine lv_iload_n hx hb dX7_lotsBy_1 rfl (lv_at hl 1 rfl) ?_
  refine lv_iconst (v := 0) hx hb dX7_lotsBy_2 (by decide) ?_
  have n0 : (0 : Int32).toInt = 0 := by decide
  refine t_callV (n := 2) C w hT hm_m_ ht_m_ (by decide) rfl rfl (c_X7_tellsBy l D K b0 sa _ L _ Ψ hT m_ hm_m_ ht_m_ 0 hu_7) gw_1453 gw_1450 gw_1452 gs_44 gw_8 ⟨by decide, by decide, by decide +kernel⟩ rfl rfl ⟨by decide, by decide⟩ rfl hl.1 rfl (Nat.le_of_ble_eq_true rfl) dX7_lotsBy_3 ⟨by decide, by decide⟩ (fun v u H locs hp w => ?_)
  obtain ⟨f2, rfl, rfl, hT2, hR1⟩ := hp
  have hR := hR.tr hR1
  clear hT
  have hT := hT2
  clear hT2
  generalize f2 = f at w hT hR
  refine lv_aload_n hx hb dX7_lotsBy_6 rfl (lv_at hl 0 rfl) ?_
  refine t_geti C w hT hm_m_ ht_m_ (by decide) rfl cin_7 20 (by decide) rfl rfl gw_1176 dX7_lotsBy_7 (fun x1 hg => ?_)
  obtain rfl : x1 = 1 := gof_at rfl hg
  have n1 : (1 : Int32).toInt = 1 := by decide
  exact t_iret C hr hlk w ⟨_, _, rfl, rfl, hT, hR, rfl⟩ (by decide) (by decide) dX7_lotsBy_10
set_option maxHeartbeats 4000000 in
set_option maxRecDepth 100000 in
theorem c_X7_tells (l : Launch) (D : va_G) (K : Nat → ClassId) (b0 : Nat) (sa : Nat × Nat × Nat) (sz : Nat) (L : List Nat) (f0 : Nat → va_E) (Ψ : Nat → Nat) (hT : TW K (gof gM0) Ψ L f0) (m_ : Nat) (hm_m_ : m_ ∈ L) (ht_m_ : Ψ m_ = 7) (wh : Int32) (lo_ : Int32) (hu_7 : ∀ b c : Nat, b ∈ L → c ∈ L → Ψ b = 7 → Ψ c = 7 → b = c) : Met l yX7_tells (.code yX7_tells cX7_tells 3 (some .int) :: gt) { frames := 3, cells := 0, slots := 0, locals := 65 } (va_Pc [.ref m_, .int wh, .int lo_] (hPre D K b0 sa sz L f0)) (hQ D K b0 (fun v9 u9 => ∃ (r : Int32) (th : Int32) (f2 : Nat → va_E), v9 = some (.int r) ∧ u9 = (gof [(700, th)], Ψ, L, f2) ∧ TW K (gof [(700, th)]) Ψ L f2 ∧ rawk Ψ L f0 f2 ∧ ((r = 0 ∧ th = 1 ∧ (¬ (0 ≤ wh.toInt ∧ wh.toInt ≤ 2 ∧ 0 ≤ lo_.toInt ∧ lo_.toInt ≤ 35))) ∨ (r = 0 ∧ th = 0 ∧ ((0 ≤ wh.toInt ∧ wh.toInt ≤ 1) ∧ 0 ≤ lo_.toInt ∧ lo_.toInt ≤ 35)) ∨ (r = 1 ∧ th = 0 ∧ (wh.toInt = 2 ∧ 0 ≤ lo_.toInt ∧ lo_.toInt ≤ 35))))) 0 0 (fun q => b0 ≤ q) := by
  refine t_of (own := RX7) (by decide) rfl ?_ (Nat.le_of_ble_eq_true rfl)
  intro p e s m below meth c ls C w hsz hr hlk hnm hl
  have hx := C.1
  have hb := C.2.1
  have hl : lv_has ls 3 [(0, .ref m_), (1, .int wh), (2, .int lo_)] := hl
  have hb_wh := ti_bd wh
  have hb_lo_ := ti_bd lo_
  have hR : rawk Ψ L f0 f0 := rawk.rf
  refine lv_aload_n hx hb dX7_tells_0 rfl (lv_at hl 0 rfl) ?_
  refine lv_iconst (v := 0) hx hb dX7_tells_1 (by decide) ?_
  refine t_puti C w hT hm_m_ ht_m_ (by decide) rfl cin_7 tyX7 tyX7_ok nmX7 0 (by decide) rfl rfl rfl rfl rfl (gof_is rfl) gw_1156 dX7_tells_2 (fun f H locs w hT hR1 => ?_)
  have hR := hR.tr hR1
  refine lv_aload_n hx hb dX7_tells_5 rfl (lv_at hl 0 rfl) ?_
  refine lv_iload_n hx hb dX7_tells_6 rfl (lv_at hl 1 rfl) ?_
  refine lv_iconst (v := 0) hx hb dX7_tells_7 (by decide) ?_
  refine lv_iconst (v := 2) hx hb dX7_tells_8 (by decide) ?_
  have n0 : (0 : Int32).toInt = 0 := by decide
  have n2 : (2 : Int32).toInt = 2 := by decide
  refine t_callS (n := 3) C w (c_X7_in l D K b0 sa _ L _ Ψ (gof gM0) hT wh 0 2) gw_1343 gw_1341 gw_1342 gw_8 ⟨by decide, by decide, by decide +kernel⟩ rfl rfl ⟨by decide, by decide⟩ rfl hl.1 rfl (Nat.le_of_ble_eq_true rfl) dX7_tells_9 ⟨by decide, by decide⟩ (fun v u H locs hp w => ?_)
  obtain ⟨r1, rfl, rfl, hrr1⟩ := hp
  rcases hrr1 with ⟨rfl, hf0_r1, hf1_r1⟩ | ⟨rfl, hf0_r1⟩
  ·
    refine lv_if_eq (tgt := 25) hx hb dX7_tells_12 (by decide) (fun c0 => absurd c0 (by decide)) (fun _ => ?_)
    refine lv_iload_n hx hb dX7_tells_15 rfl (lv_at hl 2 rfl) ?_
    refine lv_iconst (v := 0) hx hb dX7_tells_16 (by decide) ?_
    refine lv_bipush (v := 35) hx hb dX7_tells_17 (by decide) ?_
    have n35 : (35 : Int32).toInt = 35 := by decide
    refine t_callS (n := 3) C w (c_X7_in l D K b0 sa _ L _ Ψ (gof gM0) hT lo_ 0 35) gw_1343 gw_1341 gw_1342 gw_8 ⟨by decide, by decide, by decide +kernel⟩ rfl rfl ⟨by decide, by decide⟩ rfl hl.1 rfl (Nat.le_of_ble_eq_true rfl) dX7_tells_19 ⟨by decide, by decide⟩ (fun v u H locs hp w => ?_)
    obtain ⟨r2, rfl, rfl, hrr2⟩ := hp
    rcases hrr2 with ⟨rfl, hf0_r2, hf1_r2⟩ | ⟨rfl, hf0_r2⟩
    ·
      refine lv_if_ne (tgt := 29) hx hb dX7_tells_22 (by decide) (fun _ => ?_) (fun c0 => absurd c0 (by decide))
      refine lv_iconst (v := 0) hx hb dX7_tells_29 (by decide) ?_
      refine lv_iconst (v := 1) hx hb dX7_tells_30 (by decide) ?_
      have n1 : (1 : Int32).toInt = 1 := by decide
      refine t_callV (n := 2) C w hT hm_m_ ht_m_ (by decide) rfl rfl (c_X7_bad0 l D K b0 sa _ L _ Ψ (hT.mono (gof_sub rfl)) m_ hm_m_ ht_m_ 1) gw_1347 gw_1344 gw_1346 gs_22 gw_8 ⟨by decide, by decide, by decide +kernel⟩ rfl rfl ⟨by decide, by decide⟩ rfl hl.1 rfl (Nat.le_of_ble_eq_true rfl) dX7_tells_31 ⟨by decide, by decide⟩ (fun v u H locs hp w => ?_)
      obtain ⟨r3, rfl, rfl, hrr3⟩ := hp
      obtain rfl := hrr3
      refine lv_if_eq (tgt := 39) hx hb dX7_tells_34 (by decide) (fun _ => ?_) (fun c0 => absurd c0 (by decide))
      refine lv_aload_n hx hb dX7_tells_39 rfl (lv_at hl 0 rfl) ?_
      refine lv_iconst (v := 1) hx hb dX7_tells_40 (by decide) ?_
      refine t_callV (n := 1) C w hT hm_m_ ht_m_ (by decide) rfl rfl (c_X7_namesOf l D K b0 sa _ L _ Ψ (hT.mono (gof_sub rfl)) m_ hm_m_ ht_m_ 1) gw_1445 gw_1442 gw_1444 gs_42 gw_8 ⟨by decide, by decide, by decide +kernel⟩ rfl rfl ⟨by decide, by decide⟩ rfl hl.1 rfl (Nat.le_of_ble_eq_true rfl) dX7_tells_41 ⟨by decide, by decide⟩ (fun v u H locs hp w => ?_)
      obtain ⟨f2, rfl, rfl, hT2, hR1⟩ := hp
      have hR := hR.tr hR1
      clear hT
      have hT := hT2
      clear hT2
      generalize f2 = f at w hT hR
      refine lv_iload_n hx hb dX7_tells_44 rfl (lv_at hl 1 rfl) ?_
      refine lv_iconst (v := 2) hx hb dX7_tells_45 (by decide) ?_
      refine lv_icmp_ne (tgt := 58) hx hb dX7_tells_46 (by decide) (fun c4 => ?_) (fun c4 => ?_)
      · have c4 := ne_toInt c4
        refine lv_aload_n hx hb dX7_tells_58 rfl (lv_at hl 0 rfl) ?_
        refine lv_aload_n hx hb dX7_tells_59 rfl (lv_at hl 0 rfl) ?_
        refine t_geti C w hT hm_m_ ht_m_ (by decide) rfl cin_7 15 (by decide) rfl rfl gw_1171 dX7_tells_60 (fun x5 hg => ?_)
        obtain rfl : x5 = (-1) := gof_at rfl hg
        refine lv_iload_n hx hb dX7_tells_63 rfl (lv_at hl 2 rfl) ?_
        refine t_callV (n := 2) C w hT hm_m_ ht_m_ (by decide) rfl rfl (c_X7_tellsBy l D K b0 sa _ L _ Ψ hT m_ hm_m_ ht_m_ lo_ hu_7) gw_1453 gw_1450 gw_1452 gs_44 gw_8 ⟨by decide, by decide, by decide +kernel⟩ rfl rfl ⟨by decide, by decide⟩ rfl hl.1 rfl (Nat.le_of_ble_eq_true rfl) dX7_tells_64 ⟨by decide, by decide⟩ (fun v u H locs hp w => ?_)
        obtain ⟨f2, rfl, rfl, hT2, hR1⟩ := hp
        have hR := hR.tr hR1
        clear hT
        have hT := hT2
        clear hT2
        generalize f2 = f at w hT hR
        refine lv_iload_n hx hb dX7_tells_67 rfl (lv_at hl 1 rfl) ?_
        refine lv_if_ne (tgt := 78) hx hb dX7_tells_68 (by decide) (fun c6 => ?_) (fun c6 => ?_)
        · have c6 := ne_toInt c6
          refine lv_aload_n hx hb dX7_tells_78 rfl (lv_at hl 0 rfl) ?_
          refine t_geti C w hT hm_m_ ht_m_ (by decide) rfl cin_7 19 (by decide) rfl rfl gw_1175 dX7_tells_79 (fun x7 hg => ?_)
          obtain rfl : x7 = 0 := gof_at rfl hg
          exact t_iret C hr hlk w ⟨_, 0, _, rfl, rfl, hT.mono (gof_sub rfl), hR, Or.inr (Or.inl ⟨rfl, rfl, (by omega)⟩)⟩ (by decide) (by decide) dX7_tells_82
        · have c6 := eq_toInt c6
          refine lv_aload_n hx hb dX7_tells_71 rfl (lv_at hl 0 rfl) ?_
          refine t_geti C w hT hm_m_ ht_m_ (by decide) rfl cin_7 18 (by decide) rfl rfl gw_1174 dX7_tells_72 (fun x8 hg => ?_)
          obtain rfl : x8 = 0 := gof_at rfl hg
          refine lv_goto (tgt := 82) hx hb dX7_tells_75 (by decide) ?_
          exact t_iret C hr hlk w ⟨_, 0, _, rfl, rfl, hT.mono (gof_sub rfl), hR, Or.inr (Or.inl ⟨rfl, rfl, (by omega)⟩)⟩ (by decide) (by decide) dX7_tells_82
      · have c4 := eq_toInt c4
        refine lv_aload_n hx hb dX7_tells_49 rfl (lv_at hl 0 rfl) ?_
        refine lv_aload_n hx hb dX7_tells_50 rfl (lv_at hl 0 rfl) ?_
        refine t_geti C w hT hm_m_ ht_m_ (by decide) rfl cin_7 15 (by decide) rfl rfl gw_1171 dX7_tells_51 (fun x9 hg => ?_)
        obtain rfl : x9 = (-1) := gof_at rfl hg
        refine t_callV (n := 1) C w hT hm_m_ ht_m_ (by decide) rfl rfl (c_X7_lotsBy l D K b0 sa _ L _ Ψ hT m_ hm_m_ ht_m_ hu_7) gw_1449 gw_1446 gw_1448 gs_43 gw_8 ⟨by decide, by decide, by decide +kernel⟩ rfl rfl ⟨by decide, by decide⟩ rfl hl.1 rfl (Nat.le_of_ble_eq_true rfl) dX7_tells_54 ⟨by decide, by decide⟩ (fun v u H locs hp w => ?_)
        obtain ⟨r10, f2, rfl, rfl, hT2, hR1, hrr10⟩ := hp
        have hR := hR.tr hR1
        clear hT
        have hT := hT2
        clear hT2
        generalize f2 = f at w hT hR
        obtain rfl := hrr10
        exact t_iret C hr hlk w ⟨_, 0, _, rfl, rfl, hT.mono (gof_sub rfl), hR, Or.inr (Or.inr (⟨rfl, rfl, (by omega)⟩))⟩ (by decide) (by decide) dX7_tells_57
    ·
      refine lv_if_ne (tgt := 29) hx hb dX7_tells_22 (by decide) (fun c0 => absurd c0 (by decide)) (fun _ => ?_)
      refine lv_iconst (v := 1) hx hb dX7_tells_25 (by decide) ?_
      refine lv_goto (tgt := 30) hx hb dX7_tells_26 (by decide) ?_
      refine lv_iconst (v := 1) hx hb dX7_tells_30 (by decide) ?_
      refine t_callV (n := 2) C w hT hm_m_ ht_m_ (by decide) rfl rfl (c_X7_bad1 l D K b0 sa _ L _ Ψ hT m_ hm_m_ ht_m_ hu_7) gw_1347 gw_1344 gw_1346 gs_22 gw_8 ⟨by decide, by decide, by decide +kernel⟩ rfl rfl ⟨by decide, by decide⟩ rfl hl.1 rfl (Nat.le_of_ble_eq_true rfl) dX7_tells_31 ⟨by decide, by decide⟩ (fun v u H locs hp w => ?_)
      obtain ⟨r11, f2, rfl, rfl, hT2, hR1, hrr11⟩ := hp
      have hR := hR.tr hR1
      clear hT
      have hT := hT2
      clear hT2
      generalize f2 = f at w hT hR
      obtain rfl := hrr11
      refine lv_if_eq (tgt := 39) hx hb dX7_tells_34 (by decide) (fun c0 => absurd c0 (by decide)) (fun _ => ?_)
      refine lv_iconst (v := 0) hx hb dX7_tells_37 (by decide) ?_
      exact t_iret C hr hlk w ⟨_, 1, _, rfl, rfl, hT.mono (gof_sub rfl), hR, Or.inl ⟨rfl, rfl, (by omega)⟩⟩ (by decide) (by decide) dX7_tells_38
  ·
    refine lv_if_eq (tgt := 25) hx hb dX7_tells_12 (by decide) (fun _ => ?_) (fun c0 => absurd c0 (by decide))
    refine lv_iconst (v := 1) hx hb dX7_tells_25 (by decide) ?_
    refine lv_goto (tgt := 30) hx hb dX7_tells_26 (by decide) ?_
    refine lv_iconst (v := 1) hx hb dX7_tells_30 (by decide) ?_
    refine t_callV (n := 2) C w hT hm_m_ ht_m_ (by decide) rfl rfl (c_X7_bad1 l D K b0 sa _ L _ Ψ hT m_ hm_m_ ht_m_ hu_7) gw_1347 gw_1344 gw_1346 gs_22 gw_8 ⟨by decide, by decide, by decide +kernel⟩ rfl rfl ⟨by decide, by decide⟩ rfl hl.1 rfl (Nat.le_of_ble_eq_true rfl) dX7_tells_31 ⟨by decide, by decide⟩ (fun v u H locs hp w => ?_)
    obtain ⟨r12, f2, rfl, rfl, hT2, hR1, hrr12⟩ := hp
    have hR := hR.tr hR1
    clear hT
    have hT := hT2
    clear hT2
    generalize f2 = f at w hT hR
    obtain rfl := hrr12
    refine lv_if_eq (tgt := 39) hx hb dX7_tells_34 (by decide) (fun c0 => absurd c0 (by decide)) (fun _ => ?_)
    refine lv_iconst (v := 0) hx hb dX7_tells_37 (by decide) ?_
    exact t_iret C hr hlk w ⟨_, 1, _, rfl, rfl, hT.mono (gof_sub rfl), hR, Or.inl ⟨rfl, rfl, (by omega)⟩⟩ (by decide) (by decide) dX7_tells_38
