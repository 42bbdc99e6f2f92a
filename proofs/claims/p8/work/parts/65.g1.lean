theorem dX6_tryAt_0 : decode cX6_tryAt 0 = .ok (.new 72, 3) := by decide +kernel
theorem dX6_tryAt_3 : decode cX6_tryAt 3 = .ok (.dup, 1) := by decide +kernel
theorem dX6_tryAt_4 : decode cX6_tryAt 4 = .ok (.invokespecial 74, 3) := by decide +kernel
theorem dX6_tryAt_7 : decode cX6_tryAt 7 = .ok (.astore_n 2, 1) := by decide +kernel
theorem dX6_tryAt_8 : decode cX6_tryAt 8 = .ok (.aload_n 2, 1) := by decide +kernel
theorem dX6_tryAt_9 : decode cX6_tryAt 9 = .ok (.aload_n 0, 1) := by decide +kernel
theorem dX6_tryAt_10 : decode cX6_tryAt 10 = .ok (.getfield 10, 3) := by decide +kernel
theorem dX6_tryAt_13 : decode cX6_tryAt 13 = .ok (.invokevirtual 178, 3) := by decide +kernel
theorem dX6_tryAt_16 : decode cX6_tryAt 16 = .ok (.aload_n 2, 1) := by decide +kernel
theorem dX6_tryAt_17 : decode cX6_tryAt 17 = .ok (.aload_n 0, 1) := by decide +kernel
theorem dX6_tryAt_18 : decode cX6_tryAt 18 = .ok (.iconst 0, 1) := by decide +kernel
theorem dX6_tryAt_19 : decode cX6_tryAt 19 = .ok (.invokevirtual 226, 3) := by decide +kernel
theorem dX6_tryAt_22 : decode cX6_tryAt 22 = .ok (.iconst (-1), 1) := by decide +kernel
theorem dX6_tryAt_23 : decode cX6_tryAt 23 = .ok (.if_icmp .ne 7, 3) := by decide +kernel
theorem dX6_tryAt_26 : decode cX6_tryAt 26 = .ok (.iconst 0, 1) := by decide +kernel
theorem dX6_tryAt_27 : decode cX6_tryAt 27 = .ok (.goto 4, 3) := by decide +kernel
theorem dX6_tryAt_30 : decode cX6_tryAt 30 = .ok (.iconst 1, 1) := by decide +kernel
theorem dX6_tryAt_31 : decode cX6_tryAt 31 = .ok (.putfield 291, 3) := by decide +kernel
theorem dX6_tryAt_34 : decode cX6_tryAt 34 = .ok (.aload_n 0, 1) := by decide +kernel
theorem dX6_tryAt_35 : decode cX6_tryAt 35 = .ok (.invokevirtual 182, 3) := by decide +kernel
theorem dX6_tryAt_38 : decode cX6_tryAt 38 = .ok (.astore_n 3, 1) := by decide +kernel
theorem dX6_tryAt_39 : decode cX6_tryAt 39 = .ok (.aload_n 0, 1) := by decide +kernel
theorem dX6_tryAt_40 : decode cX6_tryAt 40 = .ok (.getfield 68, 3) := by decide +kernel
theorem dX6_tryAt_43 : decode cX6_tryAt 43 = .ok (.aload_n 3, 1) := by decide +kernel
theorem dX6_tryAt_44 : decode cX6_tryAt 44 = .ok (.aload_n 2, 1) := by decide +kernel
theorem dX6_tryAt_45 : decode cX6_tryAt 45 = .ok (.iconst 0, 1) := by decide +kernel
theorem dX6_tryAt_46 : decode cX6_tryAt 46 = .ok (.invokevirtual 186, 3) := by decide +kernel
theorem dX6_tryAt_49 : decode cX6_tryAt 49 = .ok (.aload_n 0, 1) := by decide +kernel
theorem dX6_tryAt_50 : decode cX6_tryAt 50 = .ok (.getfield 68, 3) := by decide +kernel
theorem dX6_tryAt_53 : decode cX6_tryAt 53 = .ok (.invokevirtual 196, 3) := by decide +kernel
theorem dX6_tryAt_56 : decode cX6_tryAt 56 = .ok (.istore 4, 2) := by decide +kernel
theorem dX6_tryAt_58 : decode cX6_tryAt 58 = .ok (.aload_n 2, 1) := by decide +kernel
theorem dX6_tryAt_59 : decode cX6_tryAt 59 = .ok (.iload 4, 2) := by decide +kernel
theorem dX6_tryAt_61 : decode cX6_tryAt 61 = .ok (.iconst 1, 1) := by decide +kernel
theorem dX6_tryAt_62 : decode cX6_tryAt 62 = .ok (.if_icmp .ne 7, 3) := by decide +kernel
theorem dX6_tryAt_65 : decode cX6_tryAt 65 = .ok (.iconst 0, 1) := by decide +kernel
theorem dX6_tryAt_66 : decode cX6_tryAt 66 = .ok (.goto 12, 3) := by decide +kernel
theorem dX6_tryAt_69 : decode cX6_tryAt 69 = .ok (.aload_n 0, 1) := by decide +kernel
theorem dX6_tryAt_70 : decode cX6_tryAt 70 = .ok (.getfield 10, 3) := by decide +kernel
theorem dX6_tryAt_73 : decode cX6_tryAt 73 = .ok (.iload 4, 2) := by decide +kernel
theorem dX6_tryAt_75 : decode cX6_tryAt 75 = .ok (.invokevirtual 216, 3) := by decide +kernel
theorem dX6_tryAt_78 : decode cX6_tryAt 78 = .ok (.putfield 332, 3) := by decide +kernel
theorem dX6_tryAt_81 : decode cX6_tryAt 81 = .ok (.aload_n 0, 1) := by decide +kernel
theorem dX6_tryAt_82 : decode cX6_tryAt 82 = .ok (.getfield 68, 3) := by decide +kernel
theorem dX6_tryAt_85 : decode cX6_tryAt 85 = .ok (.aload_n 3, 1) := by decide +kernel
theorem dX6_tryAt_86 : decode cX6_tryAt 86 = .ok (.aload_n 2, 1) := by decide +kernel
theorem dX6_tryAt_87 : decode cX6_tryAt 87 = .ok (.aload_n 2, 1) := by decide +kernel
theorem dX6_tryAt_88 : decode cX6_tryAt 88 = .ok (.getfield 332, 3) := by decide +kernel
theorem dX6_tryAt_91 : decode cX6_tryAt 91 = .ok (.invokevirtual 186, 3) := by decide +kernel
theorem dX6_tryAt_94 : decode cX6_tryAt 94 = .ok (.aload_n 2, 1) := by decide +kernel
theorem dX6_tryAt_95 : decode cX6_tryAt 95 = .ok (.aload_n 0, 1) := by decide +kernel
theorem dX6_tryAt_96 : decode cX6_tryAt 96 = .ok (.getfield 10, 3) := by decide +kernel
theorem dX6_tryAt_99 : decode cX6_tryAt 99 = .ok (.iload_n 1, 1) := by decide +kernel
theorem dX6_tryAt_100 : decode cX6_tryAt 100 = .ok (.invokevirtual 234, 3) := by decide +kernel
theorem dX6_tryAt_103 : decode cX6_tryAt 103 = .ok (.aload_n 2, 1) := by decide +kernel
theorem dX6_tryAt_104 : decode cX6_tryAt 104 = .ok (.aload_n 0, 1) := by decide +kernel
theorem dX6_tryAt_105 : decode cX6_tryAt 105 = .ok (.getfield 68, 3) := by decide +kernel
theorem dX6_tryAt_108 : decode cX6_tryAt 108 = .ok (.invokevirtual 190, 3) := by decide +kernel
theorem dX6_tryAt_111 : decode cX6_tryAt 111 = .ok (.aload_n 0, 1) := by decide +kernel
theorem dX6_tryAt_112 : decode cX6_tryAt 112 = .ok (.getfield 68, 3) := by decide +kernel
theorem dX6_tryAt_115 : decode cX6_tryAt 115 = .ok (.invokevirtual 193, 3) := by decide +kernel
theorem dX6_tryAt_118 : decode cX6_tryAt 118 = .ok (.invokevirtual 335, 3) := by decide +kernel
theorem dX6_tryAt_121 : decode cX6_tryAt 121 = .ok (.aload_n 0, 1) := by decide +kernel
theorem dX6_tryAt_122 : decode cX6_tryAt 122 = .ok (.getfield 10, 3) := by decide +kernel
theorem dX6_tryAt_125 : decode cX6_tryAt 125 = .ok (.aload_n 2, 1) := by decide +kernel
theorem dX6_tryAt_126 : decode cX6_tryAt 126 = .ok (.invokevirtual 338, 3) := by decide +kernel
theorem dX6_tryAt_129 : decode cX6_tryAt 129 = .ok (.aload_n 0, 1) := by decide +kernel
theorem dX6_tryAt_130 : decode cX6_tryAt 130 = .ok (.getfield 10, 3) := by decide +kernel
theorem dX6_tryAt_133 : decode cX6_tryAt 133 = .ok (.aload_n 2, 1) := by decide +kernel
theorem dX6_tryAt_134 : decode cX6_tryAt 134 = .ok (.invokevirtual 342, 3) := by decide +kernel
theorem dX6_tryAt_137 : decode cX6_tryAt 137 = .ok (.aload_n 2, 1) := by decide +kernel
theorem dX6_tryAt_138 : decode cX6_tryAt 138 = .ok (.getfield 345, 3) := by decide +kernel
theorem dX6_tryAt_141 : decode cX6_tryAt 141 = .ok (.ireturn, 1) := by decide +kernel
noncomputable def B_X6_tryAt_78 (a1 : Int32) (a2 : Nat) (a3 : Option Nat) (t0 : Int32) (t1 : Nat) (S : fS) : Option (Int32 × fS) := sv (pu S 25 t1 3 t0) (fun S1 => iv (ge S1 25 a2 3) (fun x2 => bd (F_X3_run a3 a2 x2 S1) (fun v3 S4 => bd (F_X5_look a2 0 a1 S4) (fun v6 S7 => bd (F_X3_grip  S7) (fun v9 S10 => bd (F_X3_slip  S10) (fun v12 S13 => bd (F_X5_carry a2 v9 v12 S13) (fun v15 S16 => bd (F_X0_move 0 a2 S16) (fun v18 S19 => bd (F_X0_keep 0 a2 S19) (fun v21 S22 => iv (ge S22 25 a2 1) (fun x24 => some (x24, S22)))))))))))
noncomputable def B_X6_tryAt_31 (a1 : Int32) (a2 : Nat) (t0 : Int32) (t1 : Nat) (S : fS) : Option (Int32 × fS) := sv (pu S 25 t1 9 t0) (fun S25 => bd (F_X6_codeInForce  S25) (fun v26 S27 => bd (F_X3_run v26 a2 0 S27) (fun v29 S30 => bd (F_X3_lots  S30) (fun v32 S33 => bb (v32 = (1 : Int32)) (B_X6_tryAt_78  a1 a2 v26 0 a2 S33) (bd (F_X0_draw 0 v32 S33) (fun v36 S37 => B_X6_tryAt_78  a1 a2 v26 v36 a2 S37))))))
noncomputable def F_X6_tryAt (p1 : Int32) (S0 : fS) : Option (Int32 × fS) := gdc (Cl S0) (nv (nT S0) (fun t39 => sv (newT S0) (fun S40 => bd (F_X5_nameNext t39 0 S40) (fun v41 S42 => bd (F_X6_leastPaying 0 S42) (fun v44 S45 => bb (v44 = ((-1) : Int32)) (B_X6_tryAt_31  p1 t39 0 t39 S45) (B_X6_tryAt_31  p1 t39 1 t39 S45))))))
set_option maxHeartbeats 4000000 in
set_option maxRecDepth 100000 in
theorem c_X6_tryAt (l : Launch) (D : va_G) (K : Nat → ClassId) (b0 : Nat) (sa : sT) (sz : Nat) (LO : List Nat) (fO : Nat → va_E) (adO : Nat → Nat → Nat) (nO : Nat × Nat) (S0 : fS) (hw : PW K adO (isn nO) S0 LO fO) (hn : S0.2.2.1 = nO) (hprobe : 0 < nO.1) (p1 : Int32) (v : Int32) (S1 : fS) (h : F_X6_tryAt p1 S0 = some (v, S1)) : Met l yX6_tryAt (.code yX6_tryAt cX6_tryAt 5 (some .int) :: gt) { frames := 6, cells := 2, slots := 22, locals := 133 } (va_Pc [.ref (adO 0 0), .int p1] (hPre D K b0 sa sz LO fO)) (hQ D K b0 (fun v9 u9 => ∃ (ad2 : Nat → Nat → Nat) (L2 : List Nat) (f2 : Nat → va_E), v9 = some (.int v) ∧ u9 = lU L2 f2 ∧ PW K ad2 (isn S1.2.2.1) S1 L2 f2 ∧ Gr (fun _ => False) (isn nO) adO LO fO (isn S1.2.2.1) ad2 L2 f2)) 2 22 (fun q => b0 ≤ q) := by
  refine t_of (own := RX6) (by decide) rfl ?_ (Nat.le_of_ble_eq_true rfl)
  intro p e s m below meth c ls C w hsz hr hlk hnm hl
  have hx := C.1
  have hb := C.2.1
  have J78 : ∀ (a1 : Int32) (a2 : Nat) (a3 : Option Nat) (t0 : Int32) (t1 : Nat) (S : fS) (ha2 : a2 < nT S) (ht1 : t1 < nT S), B_X6_tryAt_78  a1 a2 a3 t0 t1 S = some (v, S1) → GwG D K b0 sa nO adO LO fO (fun _ => True) p l e { frames := 6, cells := 2, slots := 22, locals := 133 } s m [.ref (adO 0 0), .int p1].toArray below meth c 5 (MQ below (hQ D K b0 (fun v9 u9 => ∃ (ad2 : Nat → Nat → Nat) (L2 : List Nat) (f2 : Nat → va_E), v9 = some (.int v) ∧ u9 = lU L2 f2 ∧ PW K ad2 (isn S1.2.2.1) S1 L2 f2 ∧ Gr (fun _ => False) (isn nO) adO LO fO (isn S1.2.2.1) ad2 L2 f2)) [.ref (adO 0 0), .int p1].toArray s 2 22 (fun q => b0 ≤ q)) 2 22 78 (fun ad => [(0, .ref (ad 0 0)), (1, .int a1), (2, .ref (ad 25 a2)), (3, va_rf (a3.map (ad 29)))]) (fun ad => [.int t0, .ref (ad 25 t1)]) S := by
    intro a1 a2 a3 t0 t1 S ha2 ht1 h
    dsimp only [B_X6_tryAt_78] at h
    intro ad P n L f H locs w G ls hl
    obtain ⟨hw, hn, hprobe, hP, hle, hG, -⟩ := G
    have hl : lv_has ls 5 [(0, .ref (ad 0 0)), (1, .int a1), (2, .ref (ad 25 a2)), (3, va_rf (a3.map (ad 29)))] := hl
    have ha2 : a2 < n.1 := nT_lt hn ha2
    have ht1 : t1 < n.1 := nT_lt hn ht1
    refine u_puti C w hw (hP _ _ (isn_t25 ht1)) rfl (N := 17) rfl rfl cin_5 tyX5 tyX5_ok nmX5 3 (by decide) rfl rfl rfl rfl gw_226 dX6_tryAt_78 (fun f H locs w hw hk1 => ?_)
    have hG := hG.kp hk1
    refine u_sv h hw hn (fun S1 h hw hn => ?_)
    refine lv_aload_n hx hb dX6_tryAt_81 rfl (lv_at hl 0 rfl) ?_
    refine u_getr C w hw (hP _ _ (isn_f rfl rfl (by decide))) rfl (N := 18) rfl rfl cin_6 14 (by decide) (by decide) (a2 := 22) (i2 := 0) rfl gw_301 dX6_tryAt_82 ?_
    refine lv_aload_nQ hx hb dX6_tryAt_85 rfl (lv_at hl 3 rfl) ?_
    refine lv_aload_n hx hb dX6_tryAt_86 rfl (lv_at hl 2 rfl) ?_
    refine lv_aload_n hx hb dX6_tryAt_87 rfl (lv_at hl 2 rfl) ?_
    refine u_geti C w hw (hP _ _ (isn_t25 ha2)) rfl (N := 17) rfl rfl cin_5 3 (by decide) rfl gw_226 dX6_tryAt_88 ?_
    refine u_iv h (fun x2 h => ?_)
    obtain ⟨v3, S4, h5, h⟩ := bd_some h
    refine u_callV (n := 3) C w hw (hP _ _ (isn_f rfl rfl (by decide))) rfl rfl rfl (c_X3_run l D K b0 sa _ L _ ad P hP S1 hw hn a3 a2 ha2 x2 v3 S4 h5) gw_384 gw_381 gw_382 gw_383 gw_6 ⟨by decide, by decide, by decide +kernel⟩ rfl rfl ⟨by decide, by decide⟩ rfl hl.1 rfl (Nat.le_of_ble_eq_true rfl) dX6_tryAt_91 ⟨Nat.le_of_ble_eq_true rfl, Nat.le_of_ble_eq_true rfl⟩ (fun v9 u H locs hp w => ?_)
    obtain ⟨f2, rfl, rfl, hw, hn, hk1⟩ := hp
    have hG := hG.kp hk1
    generalize f2 = f at w hw hG
    refine lv_aload_n hx hb dX6_tryAt_94 rfl (lv_at hl 2 rfl) ?_
    refine lv_aload_n hx hb dX6_tryAt_95 rfl (lv_at hl 0 rfl) ?_
    refine u_getr C w hw (hP _ _ (isn_f rfl rfl (by decide))) rfl (N := 18) rfl rfl cin_6 0 (by decide) (by decide) (a2 := 1) (i2 := 0) rfl gw_287 dX6_tryAt_96 ?_
    refine lv_iload_n hx hb dX6_tryAt_99 rfl (lv_at hl 1 rfl) ?_
    obtain ⟨v6, S7, h8, h⟩ := bd_some h
    refine u_callV (n := 2) C w hw (hP _ _ (isn_t25 ha2)) rfl rfl rfl (c_X5_look l D K b0 sa _ L _ ad P hP S4 hw hn a2 ha2 0 (by decide) a1 v6 S7 h8) gw_429 gw_426 gw_427 gw_428 gw_7 ⟨by decide, by decide, by decide +kernel⟩ rfl rfl ⟨by decide, by decide⟩ rfl hl.1 rfl (Nat.le_of_ble_eq_true rfl) dX6_tryAt_100 ⟨Nat.le_of_ble_eq_true rfl, Nat.le_of_ble_eq_true rfl⟩ (fun v9 u H locs hp w => ?_)
    obtain ⟨f2, rfl, rfl, hw, hn, hk1⟩ := hp
    have hG := hG.kp hk1
    generalize f2 = f at w hw hG
    refine lv_aload_n hx hb dX6_tryAt_103 rfl (lv_at hl 2 rfl) ?_
    refine lv_aload_n hx hb dX6_tryAt_104 rfl (lv_at hl 0 rfl) ?_
    refine u_getr C w hw (hP _ _ (isn_f rfl rfl (by decide))) rfl (N := 18) rfl rfl cin_6 14 (by decide) (by decide) (a2 := 22) (i2 := 0) rfl gw_301 dX6_tryAt_105 ?_
    obtain ⟨v9, S10, h11, h⟩ := bd_some h
    refine u_callV (n := 0) C w hw (hP _ _ (isn_f rfl rfl (by decide))) rfl rfl rfl (c_X3_grip l D K b0 sa _ L _ ad P hP S7 hw hn  v9 S10 h11) gw_421 gw_418 gw_419 gw_420 gw_6 ⟨by decide, by decide, by decide +kernel⟩ rfl rfl ⟨by decide, by decide⟩ rfl hl.1 rfl (Nat.le_of_ble_eq_true rfl) dX6_tryAt_108 ⟨Nat.le_of_ble_eq_true rfl, Nat.le_of_ble_eq_true rfl⟩ (fun v9 u H locs hp w => ?_)
    obtain ⟨f2, rfl, rfl, hw, hn, hk1⟩ := hp
    have hG := hG.kp hk1
    generalize f2 = f at w hw hG
    refine lv_aload_n hx hb dX6_tryAt_111 rfl (lv_at hl 0 rfl) ?_
    refine u_getr C w hw (hP _ _ (isn_f rfl rfl (by decide))) rfl (N := 18) rfl rfl cin_6 14 (by decide) (by decide) (a2 := 22) (i2 := 0) rfl gw_301 dX6_tryAt_112 ?_
    obtain ⟨v12, S13, h14, h⟩ := bd_some h
    refine u_callV (n := 0) C w hw (hP _ _ (isn_f rfl rfl (by decide))) rfl rfl rfl (c_X3_slip l D K b0 sa _ L _ ad P hP S10 hw hn  v12 S13 h14) gw_425 gw_422 gw_423 gw_424 gw_6 ⟨by decide, by decide, by decide +kernel⟩ rfl rfl ⟨by decide, by decide⟩ rfl hl.1 rfl (Nat.le_of_ble_eq_true rfl) dX6_tryAt_115 ⟨Nat.le_of_ble_eq_true rfl, Nat.le_of_ble_eq_true rfl⟩ (fun v9 u H locs hp w => ?_)
    obtain ⟨f2, rfl, rfl, hw, hn, hk1⟩ := hp
    have hG := hG.kp hk1
    generalize f2 = f at w hw hG
    obtain ⟨v15, S16, h17, h⟩ := bd_some h
    refine u_callV (n := 2) C w hw (hP _ _ (isn_t25 ha2)) rfl rfl rfl (c_X5_carry l D K b0 sa _ L _ ad P hP S13 hw hn a2 ha2 v9 v12 v15 S16 h17) gw_956 gw_953 gw_954 gw_955 gw_7 ⟨by decide, by decide, by decide +kernel⟩ rfl rfl ⟨by decide, by decide⟩ rfl hl.1 rfl (Nat.le_of_ble_eq_true rfl) dX6_tryAt_118 ⟨Nat.le_of_ble_eq_true rfl, Nat.le_of_ble_eq_true rfl⟩ (fun v9 u H locs hp w => ?_)
    obtain ⟨f2, rfl, rfl, hw, hn, hk1⟩ := hp
    have hG := hG.kp hk1
    generalize f2 = f at w hw hG
    refine lv_aload_n hx hb dX6_tryAt_121 rfl (lv_at hl 0 rfl) ?_
    refine u_getr C w hw (hP _ _ (isn_f rfl rfl (by decide))) rfl (N := 18) rfl rfl cin_6 0 (by decide) (by decide) (a2 := 1) (i2 := 0) rfl gw_287 dX6_tryAt_122 ?_
    refine lv_aload_n hx hb dX6_tryAt_125 rfl (lv_at hl 2 rfl) ?_
    obtain ⟨v18, S19, h20, h⟩ := bd_some h
    refine u_callV (n := 1) C w hw (hP _ _ (isn_f rfl rfl (by decide))) rfl rfl rfl (c_X0_move l D K b0 sa _ L _ ad P hP S16 hw hn 0 (by decide) a2 ha2 v18 S19 h20) gw_960 gw_957 gw_958 gw_959 gw_2 ⟨by decide, by decide, by decide +kernel⟩ rfl rfl ⟨by decide, by decide⟩ rfl hl.1 rfl (Nat.le_of_ble_eq_true rfl) dX6_tryAt_126 ⟨Nat.le_of_ble_eq_true rfl, Nat.le_of_ble_eq_true rfl⟩ (fun v9 u H locs hp w => ?_)
    obtain ⟨f2, rfl, rfl, hw, hn, hk1⟩ := hp
    have hG := hG.kp hk1
    generalize f2 = f at w hw hG
    refine lv_aload_n hx hb dX6_tryAt_129 rfl (lv_at hl 0 rfl) ?_
    refine u_getr C w hw (hP _ _ (isn_f rfl rfl (by decide))) rfl (N := 18) rfl rfl cin_6 0 (by decide) (by decide) (a2 := 1) (i2 := 0) rfl gw_287 dX6_tryAt_130 ?_
    refine lv_aload_n hx hb dX6_tryAt_133 rfl (lv_at hl 2 rfl) ?_
    obtain ⟨v21, S22, h23, h⟩ := bd_some h
    refine u_callV (n := 1) C w hw (hP _ _ (isn_f rfl rfl (by decide))) rfl rfl rfl (c_X0_keep l D K b0 sa _ L _ ad P hP S19 hw hn 0 (by decide) a2 ha2 v21 S22 h23) gw_979 gw_976 gw_977 gw_978 gw_2 ⟨by decide, by decide, by decide +kernel⟩ rfl rfl ⟨by decide, by decide⟩ rfl hl.1 rfl (Nat.le_of_ble_eq_true rfl) dX6_tryAt_134 ⟨Nat.le_of_ble_eq_true rfl, Nat.le_of_ble_eq_true rfl⟩ (fun v9 u H locs hp w => ?_)
    obtain ⟨f2, rfl, rfl, hw, hn, hk1⟩ := hp
    have hG := hG.kp hk1
    generalize f2 = f at w hw hG
    refine lv_aload_n hx hb dX6_tryAt_137 rfl (lv_at hl 2 rfl) ?_
    refine u_geti C w hw (hP _ _ (isn_t25 ha2)) rfl (N := 17) rfl rfl cin_5 1 (by decide) rfl gw_222 dX6_tryAt_138 ?_
    refine u_iv h (fun x24 h => ?_)
    exact t_iret C hr hlk w ⟨ad, L, _, so_v h, rfl, gq_w h hw hn hP, gq_g h hn hP hle hG⟩ (by decide) (by decide) dX6_tryAt_141
  have J31 : ∀ (a1 : Int32) (a2 : Nat) (t0 : Int32) (t1 : Nat) (S : fS) (ha2 : a2 < nT S) (ht1 : t1 < nT S), B_X6_tryAt_31  a1 a2 t0 t1 S = some (v, S1) → GwG D K b0 sa nO adO LO fO (fun _ => True) p l e { frames := 6, cells := 2, slots := 22, locals := 133 } s m [.ref (adO 0 0), .int p1].toArray below meth c 5 (MQ below (hQ D K b0 (fun v9 u9 => ∃ (ad2 : Nat → Nat → Nat) (L2 : List Nat) (f2 : Nat → va_E), v9 = some (.int v) ∧ u9 = lU L2 f2 ∧ PW K ad2 (isn S1.2.2.1) S1 L2 f2 ∧ Gr (fun _ => False) (isn nO) adO LO fO (isn S1.2.2.1) ad2 L2 f2)) [.ref (adO 0 0), .int p1].toArray s 2 22 (fun q => b0 ≤ q)) 2 22 31 (fun ad => [(0, .ref (ad 0 0)), (1, .int a1), (2, .ref (ad 25 a2))]) (fun ad => [.int t0, .ref (ad 25 t1)]) S := by
    intro a1 a2 t0 t1 S ha2 ht1 h
    dsimp only [B_X6_tryAt_31] at h
    intro ad P n L f H locs w G ls hl
    obtain ⟨hw, hn, hprobe, hP, hle, hG, -⟩ := G
    have hl : lv_has ls 5 [(0, .ref (ad 0 0)), (1, .int a1), (2, .ref (ad 25 a2))] := hl
    have ha2 : a2 < n.1 := nT_lt hn ha2
    have ht1 : t1 < n.1 := nT_lt hn ht1
    refine u_puti C w hw (hP _ _ (isn_t25 ht1)) rfl (N := 17) rfl rfl cin_5 tyX5 tyX5_ok nmX5 9 (by decide) rfl rfl rfl rfl gw_242 dX6_tryAt_31 (fun f H locs w hw hk1 => ?_)
    have hG := hG.kp hk1
    refine u_sv h hw hn (fun S25 h hw hn => ?_)
    refine lv_aload_n hx hb dX6_tryAt_34 rfl (lv_at hl 0 rfl) ?_
    obtain ⟨v26, S27, h28, h⟩ := bd_some h
    refine u_callV (n := 0) C w hw (hP _ _ (isn_f rfl rfl (by decide))) rfl rfl rfl (c_X6_codeInForce l D K b0 sa _ L _ ad P hP S25 hw hn  v26 S27 h28) gw_373 gw_370 gw_372 gs_3 gw_1 ⟨by decide, by decide, by decide +kernel⟩ rfl rfl ⟨by decide, by decide⟩ rfl hl.1 rfl (Nat.le_of_ble_eq_true rfl) dX6_tryAt_35 ⟨Nat.le_of_ble_eq_true rfl, Nat.le_of_ble_eq_true rfl⟩ (fun v9 u H locs hp w => ?_)
    obtain ⟨f2, rfl, rfl, hw, hn, hk1⟩ := hp
    have hG := hG.kp hk1
    generalize f2 = f at w hw hG
    refine lv_astore_nQ (lv' := [(3, va_rf (v26.map (ad 29))), (0, .ref (ad 0 0)), (1, .int a1), (2, .ref (ad 25 a2))]) hx hb dX6_tryAt_38 rfl hl (by decide) (by cases v26 <;> rfl) (fun ls hl => ?_)
    refine lv_aload_n hx hb dX6_tryAt_39 rfl (lv_at hl 1 rfl) ?_
    refine u_getr C w hw (hP _ _ (isn_f rfl rfl (by decide))) rfl (N := 18) rfl rfl cin_6 14 (by decide) (by decide) (a2 := 22) (i2 := 0) rfl gw_301 dX6_tryAt_40 ?_
    refine lv_aload_nQ hx hb dX6_tryAt_43 rfl (lv_at hl 0 rfl) ?_
    refine lv_aload_n hx hb dX6_tryAt_44 rfl (lv_at hl 3 rfl) ?_
    refine lv_iconst (v := 0) hx hb dX6_tryAt_45 (by decide) ?_
    obtain ⟨v29, S30, h31, h⟩ := bd_some h
    refine u_callV (n := 3) C w hw (hP _ _ (isn_f rfl rfl (by decide))) rfl rfl rfl (c_X3_run l D K b0 sa _ L _ ad P hP S27 hw hn v26 a2 ha2 0 v29 S30 h31) gw_384 gw_381 gw_382 gw_383 gw_6 ⟨by decide, by decide, by decide +kernel⟩ rfl rfl ⟨by decide, by decide⟩ rfl hl.1 rfl (Nat.le_of_ble_eq_true rfl) dX6_tryAt_46 ⟨Nat.le_of_ble_eq_true rfl, Nat.le_of_ble_eq_true rfl⟩ (fun v9 u H locs hp w => ?_)
    obtain ⟨f2, rfl, rfl, hw, hn, hk1⟩ := hp
    have hG := hG.kp hk1
    generalize f2 = f at w hw hG
    refine lv_aload_n hx hb dX6_tryAt_49 rfl (lv_at hl 1 rfl) ?_
    refine u_getr C w hw (hP _ _ (isn_f rfl rfl (by decide))) rfl (N := 18) rfl rfl cin_6 14 (by decide) (by decide) (a2 := 22) (i2 := 0) rfl gw_301 dX6_tryAt_50 ?_
    obtain ⟨v32, S33, h34, h⟩ := bd_some h
    refine u_callV (n := 0) C w hw (hP _ _ (isn_f rfl rfl (by decide))) rfl rfl rfl (c_X3_lots l D K b0 sa _ L _ ad P hP S30 hw hn  v32 S33 h34) gw_417 gw_414 gw_415 gw_416 gw_6 ⟨by decide, by decide, by decide +kernel⟩ rfl rfl ⟨by decide, by decide⟩ rfl hl.1 rfl (Nat.le_of_ble_eq_true rfl) dX6_tryAt_53 ⟨Nat.le_of_ble_eq_true rfl, Nat.le_of_ble_eq_true rfl⟩ (fun v9 u H locs hp w => ?_)
    obtain ⟨f2, rfl, rfl, hw, hn, hk1⟩ := hp
    have hG := hG.kp hk1
    generalize f2 = f at w hw hG
    refine lv_istore (lv' := [(4, .int v32), (3, va_rf (v26.map (ad 29))), (0, .ref (ad 0 0)), (1, .int a1), (2, .ref (ad 25 a2))]) hx hb dX6_tryAt_56 hl (by decide) (by cases v26 <;> rfl) (fun ls hl => ?_)
    refine lv_aload_n hx hb dX6_tryAt_58 rfl (lv_at hl 4 rfl) ?_
    refine lv_iload hx hb dX6_tryAt_59 (lv_at hl 0 rfl) ?_
    refine lv_iconst (v := 1) hx hb dX6_tryAt_61 (by decide) ?_
    refine lv_icmp_ne (tgt := 69) hx hb dX6_tryAt_62 (by decide) (fun c35 => ?_) (fun c35 => ?_)
    · have h := bb_f h c35
      refine lv_aload_n hx hb dX6_tryAt_69 rfl (lv_at hl 2 rfl) ?_
      refine u_getr C w hw (hP _ _ (isn_f rfl rfl (by decide))) rfl (N := 18) rfl rfl cin_6 0 (by decide) (by decide) (a2 := 1) (i2 := 0) rfl gw_287 dX6_tryAt_70 ?_
      refine lv_iload hx hb dX6_tryAt_73 (lv_at hl 0 rfl) ?_
      obtain ⟨v36, S37, h38, h⟩ := bd_some h
      refine u_callV (n := 1) C w hw (hP _ _ (isn_f rfl rfl (by decide))) rfl rfl rfl (c_X0_draw l D K b0 sa _ L _ ad P hP S33 hw hn 0 (by decide) v32 v36 S37 h38) gw_951 gw_948 gw_949 gw_950 gw_2 ⟨by decide, by decide, by decide +kernel⟩ rfl rfl ⟨by decide, by decide⟩ rfl hl.1 rfl (Nat.le_of_ble_eq_true rfl) dX6_tryAt_75 ⟨Nat.le_of_ble_eq_true rfl, Nat.le_of_ble_eq_true rfl⟩ (fun v9 u H locs hp w => ?_)
      obtain ⟨f2, rfl, rfl, hw, hn, hk1⟩ := hp
      have hG := hG.kp hk1
      generalize f2 = f at w hw hG
      exact J78  a1 a2 v26 v36 a2 S37 (lt_nT hn ha2) (lt_nT hn ha2) h ad P n L f H locs w ⟨hw, hn, hprobe, hP, hle, hG, trivial⟩ ls (lv_sub hl [2, 3, 4, 1] rfl)
    · have h := bb_t h c35
      refine lv_iconst (v := 0) hx hb dX6_tryAt_65 (by decide) ?_
      refine lv_goto (tgt := 78) hx hb dX6_tryAt_66 (by decide) ?_
      exact J78  a1 a2 v26 0 a2 S33 (lt_nT hn ha2) (lt_nT hn ha2) h ad P n L f H locs w ⟨hw, hn, hprobe, hP, hle, hG, trivial⟩ ls (lv_sub hl [2, 3, 4, 1] rfl)
  dsimp only [F_X6_tryAt] at h
  obtain ⟨H, eH⟩ : ∃ z, z = s.heap := ⟨_, rfl⟩
  obtain ⟨locs, el⟩ : ∃ z : List Loc, z = [] := ⟨_, rfl⟩
  rw [← eH, ← el] at w ⊢
  obtain ⟨ad, P, n, L, f, w, hw, hn, hprobe, hP, hle, hG, hl⟩ : ∃ (ad2 : Nat → Nat → Nat) (P2 : Nat → Nat → Prop) (n2 : Nat × Nat) (L2 : List Nat) (f2 : Nat → va_E), Wh D K b0 sa s H locs L2 f2 ∧ PW K ad2 P2 S0 L2 f2 ∧ S0.2.2.1 = n2 ∧ 0 < n2.1 ∧ (∀ a i : Nat, isn n2 a i → P2 a i) ∧ (∀ a i : Nat, isn nO a i → isn n2 a i) ∧ Gr (fun _ => False) (isn nO) adO LO fO P2 ad2 L2 f2 ∧ lv_has ls 5 [(0, .ref (ad2 0 0)), (1, .int p1)] := ⟨adO, isn nO, nO, LO, fO, w, hw, hn, hprobe, fun _ _ h => h, fun _ _ h => h, Gr.rf, hl⟩
  obtain ⟨gC, h⟩ := gdc_some h
  obtain ⟨t39, et, h⟩ := nv_some h
  refine g_new C w (t := 5) rfl cin_5 tyX5 tyX5_ok gw_213 gw_214 gw_7 (fs := [.int 0, .int 0, .int 0, .int 0, .int 0, .int 0, .int 0, .int 0, .int 0, .int 0, .int 0, .int 0, .int 0, .int 0, .int 0, .null, .int 0]) dfl_5 (Nat.le_of_ble_eq_true rfl) (Nat.le_of_ble_eq_true rfl) dX6_tryAt_0 (fun q H hq w => ?_)
  refine lv_dup hx hb dX6_tryAt_3 rfl ?_
  refine t_callIN (host := RX6) (n := 0) (As := []) C w (g_X5_init l D K b0 sa _ (L ++ [q]) _ ad (isn n) (newT S0) ((hw.newT hP hn).pool hq) (rc_newT gC hn hprobe) (nT S0) (new_25 S0) (new_26 S0) (isn_no25 hn) (isn_no26 hn) q (List.mem_append_right _ (List.mem_singleton.mpr rfl)) (va_up_self _ _ _) ((hw.mono hP).fr hq)) gw_217 (List.mem_of_getElem? (i := 3) rfl) rfl gw_216 gw_7 ⟨by decide, by decide, by decide +kernel⟩ rfl rfl ⟨by decide, by decide⟩ rfl hl.1 rfl (Nat.le_of_ble_eq_true rfl) dX6_tryAt_4 ⟨Nat.le_of_ble_eq_true rfl, Nat.le_of_ble_eq_true rfl⟩ (fun v9 u H locs hp w => ?_)
  obtain ⟨P3, ad3, L3, f3, rfl, rfl, g1, -, hI3, g3, had⟩ := hp
  obtain ⟨S40, eS, h⟩ := sv_some h
  obtain ⟨ad, P, n, L, f, w, hw, hn, hprobe, hP, hle, hG, hl, hq2, ht39⟩ : ∃ (ad2 : Nat → Nat → Nat) (P2 : Nat → Nat → Prop) (n2 : Nat × Nat) (L2 : List Nat) (f2 : Nat → va_E), Wh D K b0 sa s H locs L2 f2 ∧ PW K ad2 P2 S40 L2 f2 ∧ S40.2.2.1 = n2 ∧ 0 < n2.1 ∧ (∀ a i : Nat, isn n2 a i → P2 a i) ∧ (∀ a i : Nat, isn nO a i → isn n2 a i) ∧ Gr (fun _ => False) (isn nO) adO LO fO P2 ad2 L2 f2 ∧ lv_has ls 5 [(0, .ref (ad2 0 0)), (1, .int p1)] ∧ q = ad2 25 t39 ∧ t39 < n2.1 := by
    subst eS
    subst et
    have hnT : nT S0 = n.1 := by rw [← hn]; rfl
    refine ⟨ad3, isn (n.1 + 1, n.2), (n.1 + 1, n.2), L3, f3, w, g1.mono (isn_sT hn hI3), (by show (nT S0 + 1, nC S0) = _; rw [← hn]; rfl), Nat.succ_pos _, fun _ _ h => h, fun a i h => isn_up (n := n) (n2 := (n.1 + 1, n.2)) (Nat.le_succ _) (Nat.le_refl _) (hle a i h), gr_T hG hP hle hq g3 (isn_sT hn hI3) (Nat.le_succ _) (Nat.le_refl _), ?_, had.symm, (by show nT S0 < n.1 + 1; omega)⟩
    rw [(g3.1 0 0 (isn_f rfl rfl (by decide))).2]
    exact hl
  rw [hq2]
  refine lv_astore_n (lv' := [(2, .ref (ad 25 t39)), (0, .ref (ad 0 0)), (1, .int p1)]) hx hb dX6_tryAt_7 rfl hl (by decide) rfl (fun ls hl => ?_)
  refine lv_aload_n hx hb dX6_tryAt_8 rfl (lv_at hl 0 rfl) ?_
  refine lv_aload_n hx hb dX6_tryAt_9 rfl (lv_at hl 1 rfl) ?_
  refine u_getr C w hw (hP _ _ (isn_f rfl rfl (by decide))) rfl (N := 18) rfl rfl cin_6 0 (by decide) (by decide) (a2 := 1) (i2 := 0) rfl gw_287 dX6_tryAt_10 ?_
  obtain ⟨v41, S42, h43, h⟩ := bd_some h
  refine u_callV (n := 1) C w hw (hP _ _ (isn_t25 ht39)) rfl rfl rfl (c_X5_nameNext l D K b0 sa _ L _ ad P hP S40 hw hn t39 ht39 0 (by decide) v41 S42 h43) gw_380 gw_377 gw_378 gw_379 gw_7 ⟨by decide, by decide, by decide +kernel⟩ rfl rfl ⟨by decide, by decide⟩ rfl hl.1 rfl (Nat.le_of_ble_eq_true rfl) dX6_tryAt_13 ⟨Nat.le_of_ble_eq_true rfl, Nat.le_of_ble_eq_true rfl⟩ (fun v9 u H locs hp w => ?_)
  obtain ⟨f2, rfl, rfl, hw, hn, hk1⟩ := hp
  have hG := hG.kp hk1
  generalize f2 = f at w hw hG
  refine lv_aload_n hx hb dX6_tryAt_16 rfl (lv_at hl 0 rfl) ?_
  refine lv_aload_n hx hb dX6_tryAt_17 rfl (lv_at hl 1 rfl) ?_
  refine lv_iconst (v := 0) hx hb dX6_tryAt_18 (by decide) ?_
  obtain ⟨v44, S45, h46, h⟩ := bd_some h
  refine u_callV (n := 1) C w hw (hP _ _ (isn_f rfl rfl (by decide))) rfl rfl rfl (c_X6_leastPaying l D K b0 sa _ L _ ad P hP S42 hw hn hprobe 0 v44 S45 h46) gw_365 gw_362 gw_364 gs_1 gw_1 ⟨by decide, by decide, by decide +kernel⟩ rfl rfl ⟨by decide, by decide⟩ rfl hl.1 rfl (Nat.le_of_ble_eq_true rfl) dX6_tryAt_19 ⟨Nat.le_of_ble_eq_true rfl, Nat.le_of_ble_eq_true rfl⟩ (fun v9 u H locs hp w => ?_)
  obtain ⟨f2, rfl, rfl, hw, hn, hk1⟩ := hp
  have hG := hG.kp hk1
  generalize f2 = f at w hw hG
  refine lv_iconst (v := (-1)) hx hb dX6_tryAt_22 (by decide) ?_
  refine lv_icmp_ne (tgt := 30) hx hb dX6_tryAt_23 (by decide) (fun c47 => ?_) (fun c47 => ?_)
  · have h := bb_f h c47
    refine lv_iconst (v := 1) hx hb dX6_tryAt_30 (by decide) ?_
    exact J31  p1 t39 1 t39 S45 (lt_nT hn ht39) (lt_nT hn ht39) h ad P n L f H locs w ⟨hw, hn, hprobe, hP, hle, hG, trivial⟩ ls (lv_sub hl [1, 2, 0] rfl)
  · have h := bb_t h c47
    refine lv_iconst (v := 0) hx hb dX6_tryAt_26 (by decide) ?_
    refine lv_goto (tgt := 31) hx hb dX6_tryAt_27 (by decide) ?_
    exact J31  p1 t39 0 t39 S45 (lt_nT hn ht39) (lt_nT hn ht39) h ad P n L f H locs w ⟨hw, hn, hprobe, hP, hle, hG, trivial⟩ ls (lv_sub hl [1, 2, 0] rfl)
theorem dX6_attempt_0 : decode cX6_attempt 0 = .ok (.iload_n 1, 1) := by decide +kernel
theorem dX6_attempt_1 : decode cX6_attempt 1 = .ok (.invokestatic 85, 3) := by decide +kernel
theorem dX6_attempt_4 : decode cX6_attempt 4 = .ok (.aload_n 0, 1) := by decide +kernel
theorem dX6_attempt_5 : decode cX6_attempt 5 = .ok (.getfield 10, 3) := by decide +kernel
theorem dX6_attempt_8 : decode cX6_attempt 8 = .ok (.getfield 199, 3) := by decide +kernel
theorem dX6_attempt_11 : decode cX6_attempt 11 = .ok (.sipush 200, 3) := by decide +kernel
theorem dX6_attempt_14 : decode cX6_attempt 14 = .ok (.if_icmp .lt 7, 3) := by decide +kernel
theorem dX6_attempt_17 : decode cX6_attempt 17 = .ok (.iconst (-1), 1) := by decide +kernel
theorem dX6_attempt_18 : decode cX6_attempt 18 = .ok (.goto 8, 3) := by decide +kernel
theorem dX6_attempt_21 : decode cX6_attempt 21 = .ok (.aload_n 0, 1) := by decide +kernel
theorem dX6_attempt_22 : decode cX6_attempt 22 = .ok (.iload_n 1, 1) := by decide +kernel
theorem dX6_attempt_23 : decode cX6_attempt 23 = .ok (.invokevirtual 202, 3) := by decide +kernel
theorem dX6_attempt_26 : decode cX6_attempt 26 = .ok (.ireturn, 1) := by decide +kernel
noncomputable def F_X6_attempt (p1 : Int32) (S0 : fS) : Option ((Nat × Int32) × fS) := bx (F_X6_needCell p1 S0) (fun v1 S2 => iv (ge S2 1 0 12) (fun x5 => bb (x5 < (200 : Int32)) (bd (F_X6_tryAt p1 S2) (fun v7 S8 => some ((0, v7), S8))) (some ((0, (-1)), S2))))
set_option maxHeartbeats 4000000 in
set_option maxRecDepth 100000 in
theorem c_X6_attempt (l : Launch) (hls : l.stackTraces = false) (D : va_G) (K : Nat → ClassId) (b0 : Nat) (sa : sT) (sz : Nat) (LO : List Nat) (fO : Nat → va_E) (adO : Nat → Nat → Nat) (nO : Nat × Nat) (S0 : fS) (hw : PW K adO (isn nO) S0 LO fO) (hn : S0.2.2.1 = nO) (hprobe : 0 < nO.1) (p1 : Int32) (ec : Nat) (v : Int32) (S1 : fS) (h : F_X6_attempt p1 S0 = some ((ec, v), S1)) : vx_Met l yX6_attempt (.code yX6_attempt cX6_attempt 2 (some .int) :: gt) { frames := 7, cells := 3, slots := 28, locals := 157 } (va_Pc [.ref (adO 0 0), .int p1] (hPre D K b0 sa sz LO fO)) (hQ D K b0 (fun v9 u9 => ec = 0 ∧ v9 = some (.int v) ∧ ∃ (ad2 : Nat → Nat → Nat) (L2 : List Nat) (f2 : Nat → va_E), u9 = lU L2 f2 ∧ PW K ad2 (isn S1.2.2.1) S1 L2 f2 ∧ Gr (fun _ => False) (isn nO) adO LO fO (isn S1.2.2.1) ad2 L2 f2)) (hX D K b0 (fun E u9 => (ec ≠ 0 ∧ E = exn ec) ∧ ∃ (ad2 : Nat → Nat → Nat) (L2 : List Nat) (f2 : Nat → va_E), u9 = lU L2 f2 ∧ PW K ad2 (isn S1.2.2.1) S1 L2 f2 ∧ Gr (fun _ => False) (isn nO) adO LO fO (isn S1.2.2.1) ad2 L2 f2)) 3 28 (fun q => b0 ≤ q) := by
  refine t_xof (own := RX6) (by decide) rfl ?_ (Nat.le_of_ble_eq_true rfl)
  intro p e s m below meth c ls C w hsz hr hlk htb hl
  have hx := C.1
  have hb := C.2.1
  dsimp only [F_X6_attempt] at h
  obtain ⟨H, eH⟩ : ∃ z, z = s.heap := ⟨_, rfl⟩
  obtain ⟨locs, el⟩ : ∃ z : List Loc, z = [] := ⟨_, rfl⟩
  rw [← eH, ← el] at w ⊢
  obtain ⟨ad, P, n, L, f, w, hw, hn, hprobe, hP, hle, hG, hl⟩ : ∃ (ad2 : Nat → Nat → Nat) (P2 : Nat → Nat → Prop) (n2 : Nat × Nat) (L2 : List Nat) (f2 : Nat → va_E), Wh D K b0 sa s H locs L2 f2 ∧ PW K ad2 P2 S0 L2 f2 ∧ S0.2.2.1 = n2 ∧ 0 < n2.1 ∧ (∀ a i : Nat, isn n2 a i → P2 a i) ∧ (∀ a i : Nat, isn nO a i → isn n2 a i) ∧ Gr (fun _ => False) (isn nO) adO LO fO P2 ad2 L2 f2 ∧ lv_has ls 2 [(0, .ref (ad2 0 0)), (1, .int p1)] := ⟨adO, isn nO, nO, LO, fO, w, hw, hn, hprobe, fun _ _ h => h, fun _ _ h => h, Gr.rf, hl⟩
  refine lv_iload_n hx hb dX6_attempt_0 rfl (lv_at hl 1 rfl) ?_
  rcases bx_some h with ⟨v1, S2, h3, h⟩ | ⟨e4, v1, S2, h3, h⟩
  rotate_left
  · refine t_xcallS (n := 1) C w (c_X6_needCell l hls D K b0 sa _ L _ ad P hP S0 hw hn p1 (e4 + 1) v1 S2 h3) gw_554 gw_552 gw_553 gw_1 ⟨by decide, by decide, by decide +kernel⟩ rfl rfl ⟨by decide, by decide⟩ rfl hl.1 rfl (Nat.le_of_ble_eq_true rfl) dX6_attempt_1 ⟨Nat.le_of_ble_eq_true rfl, Nat.le_of_ble_eq_true rfl⟩ (fun E ce q9 u H locs hp w hcell hv0 hcl => ?_) (fun v9 u H locs hp w => absurd hp.1 (Nat.succ_ne_zero _))
    obtain ⟨⟨he, hE⟩, f2, rfl, hw, hn, hk1⟩ := hp
    exact t_xout w htb hlk hcell hv0 hcl ⟨sz_e h he hE, ad, L, _, rfl, gz_w h hw hn hP, gz_g h hn hP hle (hG.kp hk1)⟩ (by decide) (by decide)
  refine t_xcallS (n := 1) C w (c_X6_needCell l hls D K b0 sa _ L _ ad P hP S0 hw hn p1 0 v1 S2 h3) gw_554 gw_552 gw_553 gw_1 ⟨by decide, by decide, by decide +kernel⟩ rfl rfl ⟨by decide, by decide⟩ rfl hl.1 rfl (Nat.le_of_ble_eq_true rfl) dX6_attempt_1 ⟨Nat.le_of_ble_eq_true rfl, Nat.le_of_ble_eq_true rfl⟩ (fun E ce q9 u H locs hp w hcell hv0 hcl => absurd rfl hp.1.1) (fun v9 u H locs hp w => ?_)
  obtain ⟨-, rfl, f2, rfl, hw, hn, hk1⟩ := hp
  have hG := hG.kp hk1
  generalize f2 = f at w hw hG
  refine lv_aload_n hx hb dX6_attempt_4 rfl (lv_at hl 0 rfl) ?_
  refine u_getr C w hw (hP _ _ (isn_f rfl rfl (by decide))) rfl (N := 18) rfl rfl cin_6 0 (by decide) (by decide) (a2 := 1) (i2 := 0) rfl gw_287 dX6_attempt_5 ?_
  refine u_geti C w hw (hP _ _ (isn_f rfl rfl (by decide))) rfl (N := 13) rfl rfl cin_0 12 (by decide) rfl gw_121 dX6_attempt_8 ?_
  refine u_iv h (fun x5 h => ?_)
  refine lv_sipush (v := 200) hx hb dX6_attempt_11 (by decide) ?_
  refine lv_icmp_lt (tgt := 21) hx hb dX6_attempt_14 (by decide) (fun c6 => ?_) (fun c6 => ?_)
  · have h := bb_t h c6
    refine lv_aload_n hx hb dX6_attempt_21 rfl (lv_at hl 0 rfl) ?_
    refine lv_iload_n hx hb dX6_attempt_22 rfl (lv_at hl 1 rfl) ?_
    obtain ⟨v7, S8, h9, h⟩ := bd_some h
    refine u_callV (n := 1) C w hw (hP _ _ (isn_f rfl rfl (by decide))) rfl rfl rfl (c_X6_tryAt l D K b0 sa _ L f ad n S2 (hw.mono hP) hn hprobe p1 v7 S8 h9) gw_947 gw_944 gw_946 gs_16 gw_1 ⟨by decide, by decide, by decide +kernel⟩ rfl rfl ⟨by decide, by decide⟩ rfl hl.1 rfl (Nat.le_of_ble_eq_true rfl) dX6_attempt_23 ⟨Nat.le_of_ble_eq_true rfl, Nat.le_of_ble_eq_true rfl⟩ (fun v9 u H locs hp w => ?_)
    obtain ⟨ad2, L2, f2, rfl, rfl, hw2, hG2⟩ := hp
    obtain ⟨ad, P, n, L, f, w, hw, hn, hprobe, hP, hle, hG, hl⟩ : ∃ (ad3 : Nat → Nat → Nat) (P3 : Nat → Nat → Prop) (n3 : Nat × Nat) (L3 : List Nat) (f3 : Nat → va_E), Wh D K b0 sa s H locs L3 f3 ∧ PW K ad3 P3 S8 L3 f3 ∧ S8.2.2.1 = n3 ∧ 0 < n3.1 ∧ (∀ a i : Nat, isn n3 a i → P3 a i) ∧ (∀ a i : Nat, isn nO a i → isn n3 a i) ∧ Gr (fun _ => False) (isn nO) adO LO fO P3 ad3 L3 f3 ∧ lv_has ls 2 [(0, .ref (ad3 0 0)), (1, .int p1)] := ⟨ad2, isn S8.2.2.1, S8.2.2.1, L2, f2, w, hw2, rfl, gr_pos hG2 hprobe, fun _ _ h => h, fun a i h => (hG2.1 a i (hle a i h)).1, (hG.sub hP hle).tr hG2 (fun _ _ h => h), (by rw [(hG2.1 0 0 (isn_f rfl rfl (by decide))).2]; exact hl)⟩
    refine vx_ret ?_
    exact t_iret C hr hlk w ⟨sx_e h, sx_v h, ad, L, _, rfl, gq_w h hw hn hP, gq_g h hn hP hle hG⟩ (by decide) (by decide) dX6_attempt_26
  · have h := bb_f h c6
    refine lv_iconst (v := (-1)) hx hb dX6_attempt_17 (by decide) ?_
    refine lv_goto (tgt := 26) hx hb dX6_attempt_18 (by decide) ?_
    refine vx_ret ?_
    exact t_iret C hr hlk w ⟨sx_e h, sx_v h, ad, L, _, rfl, gq_w h hw hn hP, gq_g h hn hP hle hG⟩ (by decide) (by decide) dX6_attempt_26
theorem dX6_play_0 : decode cX6_play 0 = .ok (.iload_n 1, 1) := by decide +kernel
theorem dX6_play_1 : decode cX6_play 1 = .ok (.aload_n 0, 1) := by decide +kernel
theorem dX6_play_2 : decode cX6_play 2 = .ok (.getfield 46, 3) := by decide +kernel
theorem dX6_play_5 : decode cX6_play 5 = .ok (.invokestatic 113, 3) := by decide +kernel
theorem dX6_play_8 : decode cX6_play 8 = .ok (.iload_n 2, 1) := by decide +kernel
theorem dX6_play_9 : decode cX6_play 9 = .ok (.invokestatic 85, 3) := by decide +kernel
theorem dX6_play_12 : decode cX6_play 12 = .ok (.aload_n 0, 1) := by decide +kernel
theorem dX6_play_13 : decode cX6_play 13 = .ok (.getfield 10, 3) := by decide +kernel
theorem dX6_play_16 : decode cX6_play 16 = .ok (.getfield 199, 3) := by decide +kernel
theorem dX6_play_19 : decode cX6_play 19 = .ok (.sipush 200, 3) := by decide +kernel
theorem dX6_play_22 : decode cX6_play 22 = .ok (.if_icmp .lt 5, 3) := by decide +kernel
theorem dX6_play_25 : decode cX6_play 25 = .ok (.iconst (-1), 1) := by decide +kernel
theorem dX6_play_26 : decode cX6_play 26 = .ok (.ireturn, 1) := by decide +kernel
theorem dX6_play_27 : decode cX6_play 27 = .ok (.aload_n 0, 1) := by decide +kernel
theorem dX6_play_28 : decode cX6_play 28 = .ok (.getfield 10, 3) := by decide +kernel
theorem dX6_play_31 : decode cX6_play 31 = .ok (.aload_n 0, 1) := by decide +kernel
theorem dX6_play_32 : decode cX6_play 32 = .ok (.getfield 42, 3) := by decide +kernel
theorem dX6_play_35 : decode cX6_play 35 = .ok (.iload_n 1, 1) := by decide +kernel
theorem dX6_play_36 : decode cX6_play 36 = .ok (.iaload, 1) := by decide +kernel
theorem dX6_play_37 : decode cX6_play 37 = .ok (.invokestatic 213, 3) := by decide +kernel
theorem dX6_play_40 : decode cX6_play 40 = .ok (.invokevirtual 216, 3) := by decide +kernel
theorem dX6_play_43 : decode cX6_play 43 = .ok (.istore_n 3, 1) := by decide +kernel
theorem dX6_play_44 : decode cX6_play 44 = .ok (.iconst 0, 1) := by decide +kernel
theorem dX6_play_45 : decode cX6_play 45 = .ok (.istore 4, 2) := by decide +kernel
theorem dX6_play_47 : decode cX6_play 47 = .ok (.iload 4, 2) := by decide +kernel
theorem dX6_play_49 : decode cX6_play 49 = .ok (.bipush 8, 2) := by decide +kernel
theorem dX6_play_51 : decode cX6_play 51 = .ok (.if_icmp .ge 38, 3) := by decide +kernel
theorem dX6_play_54 : decode cX6_play 54 = .ok (.iload_n 3, 1) := by decide +kernel
theorem dX6_play_55 : decode cX6_play 55 = .ok (.aload_n 0, 1) := by decide +kernel
theorem dX6_play_56 : decode cX6_play 56 = .ok (.getfield 42, 3) := by decide +kernel
theorem dX6_play_59 : decode cX6_play 59 = .ok (.iload_n 1, 1) := by decide +kernel
theorem dX6_play_60 : decode cX6_play 60 = .ok (.iaload, 1) := by decide +kernel
theorem dX6_play_61 : decode cX6_play 61 = .ok (.iload 4, 2) := by decide +kernel
theorem dX6_play_63 : decode cX6_play 63 = .ok (.invokestatic 219, 3) := by decide +kernel
theorem dX6_play_66 : decode cX6_play 66 = .ok (.if_icmp .lt 23, 3) := by decide +kernel
theorem dX6_play_69 : decode cX6_play 69 = .ok (.iload_n 3, 1) := by decide +kernel
theorem dX6_play_70 : decode cX6_play 70 = .ok (.aload_n 0, 1) := by decide +kernel
theorem dX6_play_71 : decode cX6_play 71 = .ok (.getfield 42, 3) := by decide +kernel
theorem dX6_play_74 : decode cX6_play 74 = .ok (.iload_n 1, 1) := by decide +kernel
theorem dX6_play_75 : decode cX6_play 75 = .ok (.iaload, 1) := by decide +kernel
theorem dX6_play_76 : decode cX6_play 76 = .ok (.iload 4, 2) := by decide +kernel
theorem dX6_play_78 : decode cX6_play 78 = .ok (.invokestatic 219, 3) := by decide +kernel
theorem dX6_play_81 : decode cX6_play 81 = .ok (.isub, 1) := by decide +kernel
theorem dX6_play_82 : decode cX6_play 82 = .ok (.istore_n 3, 1) := by decide +kernel
theorem dX6_play_83 : decode cX6_play 83 = .ok (.iinc 4 1, 3) := by decide +kernel
theorem dX6_play_86 : decode cX6_play 86 = .ok (.goto (-39), 3) := by decide +kernel
theorem dX6_play_89 : decode cX6_play 89 = .ok (.aload_n 0, 1) := by decide +kernel
theorem dX6_play_90 : decode cX6_play 90 = .ok (.iload_n 2, 1) := by decide +kernel
theorem dX6_play_91 : decode cX6_play 91 = .ok (.iload 4, 2) := by decide +kernel
theorem dX6_play_93 : decode cX6_play 93 = .ok (.invokestatic 223, 3) := by decide +kernel
theorem dX6_play_96 : decode cX6_play 96 = .ok (.invokevirtual 202, 3) := by decide +kernel
theorem dX6_play_99 : decode cX6_play 99 = .ok (.ireturn, 1) := by decide +kernel
noncomputable def B_X6_play_89 (a2 : Int32) (a4 : Int32) (S : fS) : Option ((Nat × Int32) × fS) := bd (F_X6_cellReached a2 a4 S) (fun v1 S2 => bd (F_X6_tryAt v1 S2) (fun v4 S5 => some ((0, v4), S5)))
noncomputable def B_X6_play_47 (k47 : (Int32 × Int32 × Int32 × Int32) → fS → Option ((Nat × Int32) × fS)) : (Int32 × Int32 × Int32 × Int32) → fS → Option ((Nat × Int32) × fS) := fun ⟨a1, a2, a3, a4⟩ S => bb ((8 : Int32) ≤ a4) (B_X6_play_89  a2 a4 S) (gd (ib a1 6) (iv (ge S 15 0 (a1 : Int32).toNatClampNeg) (fun x9 => bd (F_X6_weightAt x9 a4 S) (fun v10 S11 => bb (a3 < v10) (B_X6_play_89  a2 a4 S11) (gd (ib a1 6) (iv (ge S11 15 0 (a1 : Int32).toNatClampNeg) (fun x15 => bd (F_X6_weightAt x15 a4 S11) (fun v16 S17 => iv (a3 - v16) (fun x19 => iv (a4 + Int32.ofInt 1) (fun x20 => k47 (a1, a2, x19, x20) S17))))))))))
noncomputable def F_X6_play (p1 : Int32) (p2 : Int32) (S0 : fS) : Option ((Nat × Int32) × fS) := iv (ge S0 0 0 9) (fun x21 => bx (F_X6_needElement p1 x21 S0) (fun v22 S23 => bx (F_X6_needCell p2 S23) (fun v26 S27 => iv (ge S27 1 0 12) (fun x30 => bb (x30 < (200 : Int32)) (gd (ib p1 6) (iv (ge S27 15 0 (p1 : Int32).toNatClampNeg) (fun x33 => bd (F_X6_allWeights x33 S27) (fun v34 S35 => bd (F_X0_draw 0 v34 S35) (fun v37 S38 => lp (B_X6_play_47 ) fuel (p1, p2, v37, 0) S38))))) (some ((0, (-1)), S27))))))
set_option maxHeartbeats 4000000 in
set_option maxRecDepth 100000 in
theorem c_X6_play (l : Launch) (hls : l.stackTraces = false) (D : va_G) (K : Nat → ClassId) (b0 : Nat) (sa : sT) (sz : Nat) (LO : List Nat) (fO : Nat → va_E) (adO : Nat → Nat → Nat) (nO : Nat × Nat) (S0 : fS) (hw : PW K adO (isn nO) S0 LO fO) (hn : S0.2.2.1 = nO) (hprobe : 0 < nO.1) (p1 : Int32) (p2 : Int32) (ec : Nat) (v : Int32) (S1 : fS) (h : F_X6_play p1 p2 S0 = some ((ec, v), S1)) : vx_Met l yX6_play (.code yX6_play cX6_play 5 (some .int) :: gt) { frames := 7, cells := 4, slots := 34, locals := 157 } (va_Pc [.ref (adO 0 0), .int p1, .int p2] (hPre D K b0 sa sz LO fO)) (hQ D K b0 (fun v9 u9 => ec = 0 ∧ v9 = some (.int v) ∧ ∃ (ad2 : Nat → Nat → Nat) (L2 : List Nat) (f2 : Nat → va_E), u9 = lU L2 f2 ∧ PW K ad2 (isn S1.2.2.1) S1 L2 f2 ∧ Gr (fun _ => False) (isn nO) adO LO fO (isn S1.2.2.1) ad2 L2 f2)) (hX D K b0 (fun E u9 => (ec ≠ 0 ∧ E = exn ec) ∧ ∃ (ad2 : Nat → Nat → Nat) (L2 : List Nat) (f2 : Nat → va_E), u9 = lU L2 f2 ∧ PW K ad2 (isn S1.2.2.1) S1 L2 f2 ∧ Gr (fun _ => False) (isn nO) adO LO fO (isn S1.2.2.1) ad2 L2 f2)) 4 34 (fun q => b0 ≤ q) := by
  refine t_xof (own := RX6) (by decide) rfl ?_ (Nat.le_of_ble_eq_true rfl)
  intro p e s m below meth c ls C w hsz hr hlk htb hl
  have hx := C.1
  have hb := C.2.1
  have J89 : ∀ (a2 : Int32) (a4 : Int32) (S : fS), B_X6_play_89  a2 a4 S = some ((ec, v), S1) → GwG D K b0 sa nO adO LO fO (fun _ => True) p l e { frames := 7, cells := 4, slots := 34, locals := 157 } s m [.ref (adO 0 0), .int p1, .int p2].toArray below meth c 5 (vx_MQ below (hQ D K b0 (fun v9 u9 => ec = 0 ∧ v9 = some (.int v) ∧ ∃ (ad2 : Nat → Nat → Nat) (L2 : List Nat) (f2 : Nat → va_E), u9 = lU L2 f2 ∧ PW K ad2 (isn S1.2.2.1) S1 L2 f2 ∧ Gr (fun _ => False) (isn nO) adO LO fO (isn S1.2.2.1) ad2 L2 f2)) (hX D K b0 (fun E u9 => (ec ≠ 0 ∧ E = exn ec) ∧ ∃ (ad2 : Nat → Nat → Nat) (L2 : List Nat) (f2 : Nat → va_E), u9 = lU L2 f2 ∧ PW K ad2 (isn S1.2.2.1) S1 L2 f2 ∧ Gr (fun _ => False) (isn nO) adO LO fO (isn S1.2.2.1) ad2 L2 f2)) [.ref (adO 0 0), .int p1, .int p2].toArray s 4 34 (fun q => b0 ≤ q)) 2 12 89 (fun ad => [(0, .ref (ad 0 0)), (2, .int a2), (4, .int a4)]) (fun ad => []) S := by
    intro a2 a4 S h
    dsimp only [B_X6_play_89] at h
    intro ad P n L f H locs w G ls hl
    obtain ⟨hw, hn, hprobe, hP, hle, hG, -⟩ := G
    have hl : lv_has ls 5 [(0, .ref (ad 0 0)), (2, .int a2), (4, .int a4)] := hl
    refine lv_aload_n hx hb dX6_play_89 rfl (lv_at hl 0 rfl) ?_
    refine lv_iload_n hx hb dX6_play_90 rfl (lv_at hl 1 rfl) ?_
    refine lv_iload hx hb dX6_play_91 (lv_at hl 2 rfl) ?_
    obtain ⟨v1, S2, h3, h⟩ := bd_some h
    refine t_callS (n := 2) C w (c_X6_cellReached l D K b0 sa _ L _ ad P hP S hw hn a2 a4 v1 S2 h3) gw_1014 gw_1012 gw_1013 gw_1 ⟨by decide, by decide, by decide +kernel⟩ rfl rfl ⟨by decide, by decide⟩ rfl hl.1 rfl (Nat.le_of_ble_eq_true rfl) dX6_play_93 ⟨Nat.le_of_ble_eq_true rfl, Nat.le_of_ble_eq_true rfl⟩ (fun v9 u H locs hp w => ?_)
    obtain ⟨f2, rfl, rfl, hw, hn, hk1⟩ := hp
    have hG := hG.kp hk1
    generalize f2 = f at w hw hG
    obtain ⟨v4, S5, h6, h⟩ := bd_some h
    refine u_callV (n := 1) C w hw (hP _ _ (isn_f rfl rfl (by decide))) rfl rfl rfl (c_X6_tryAt l D K b0 sa _ L f ad n S2 (hw.mono hP) hn hprobe v1 v4 S5 h6) gw_947 gw_944 gw_946 gs_16 gw_1 ⟨by decide, by decide, by decide +kernel⟩ rfl rfl ⟨by decide, by decide⟩ rfl hl.1 rfl (Nat.le_of_ble_eq_true rfl) dX6_play_96 ⟨Nat.le_of_ble_eq_true rfl, Nat.le_of_ble_eq_true rfl⟩ (fun v9 u H locs hp w => ?_)
    obtain ⟨ad2, L2, f2, rfl, rfl, hw2, hG2⟩ := hp
    obtain ⟨ad, P, n, L, f, w, hw, hn, hprobe, hP, hle, hG, hl⟩ : ∃ (ad3 : Nat → Nat → Nat) (P3 : Nat → Nat → Prop) (n3 : Nat × Nat) (L3 : List Nat) (f3 : Nat → va_E), Wh D K b0 sa s H locs L3 f3 ∧ PW K ad3 P3 S5 L3 f3 ∧ S5.2.2.1 = n3 ∧ 0 < n3.1 ∧ (∀ a i : Nat, isn n3 a i → P3 a i) ∧ (∀ a i : Nat, isn nO a i → isn n3 a i) ∧ Gr (fun _ => False) (isn nO) adO LO fO P3 ad3 L3 f3 ∧ lv_has ls 5 [(0, .ref (ad3 0 0)), (2, .int a2), (4, .int a4)] := ⟨ad2, isn S5.2.2.1, S5.2.2.1, L2, f2, w, hw2, rfl, gr_pos hG2 hprobe, fun _ _ h => h, fun a i h => (hG2.1 a i (hle a i h)).1, (hG.sub hP hle).tr hG2 (fun _ _ h => h), (by rw [(hG2.1 0 0 (isn_f rfl rfl (by decide))).2]; exact hl)⟩
    refine vx_ret ?_
    exact t_iret C hr hlk w ⟨sx_e h, sx_v h, ad, L, _, rfl, gq_w h hw hn hP, gq_g h hn hP hle hG⟩ (by decide) (by decide) dX6_play_99
  have J47 : ∀ (fu : Nat) (a1 : Int32) (a2 : Int32) (a3 : Int32) (a4 : Int32) (S : fS), lp (B_X6_play_47 ) fu (a1, a2, a3, a4) S = some ((ec, v), S1) → GwG D K b0 sa nO adO LO fO (fun _ => True) p l e { frames := 7, cells := 4, slots := 34, locals := 157 } s m [.ref (adO 0 0), .int p1, .int p2].toArray below meth c 5 (vx_MQ below (hQ D K b0 (fun v9 u9 => ec = 0 ∧ v9 = some (.int v) ∧ ∃ (ad2 : Nat → Nat → Nat) (L2 : List Nat) (f2 : Nat → va_E), u9 = lU L2 f2 ∧ PW K ad2 (isn S1.2.2.1) S1 L2 f2 ∧ Gr (fun _ => False) (isn nO) adO LO fO (isn S1.2.2.1) ad2 L2 f2)) (hX D K b0 (fun E u9 => (ec ≠ 0 ∧ E = exn ec) ∧ ∃ (ad2 : Nat → Nat → Nat) (L2 : List Nat) (f2 : Nat → va_E), u9 = lU L2 f2 ∧ PW K ad2 (isn S1.2.2.1) S1 L2 f2 ∧ Gr (fun _ => False) (isn nO) adO LO fO (isn S1.2.2.1) ad2 L2 f2)) [.ref (adO 0 0), .int p1, .int p2].toArray s 4 34 (fun q => b0 ≤ q)) 2 12 47 (fun ad => [(0, .ref (ad 0 0)), (1, .int a1), (2, .int a2), (3, .int a3), (4, .int a4)]) (fun ad => []) S := by
    intro fu a1 a2 a3 a4 S h
    refine lp_some (G := (fun q S => GwG D K b0 sa nO adO LO fO (fun _ => True) p l e { frames := 7, cells := 4, slots := 34, locals := 157 } s m [.ref (adO 0 0), .int p1, .int p2].toArray below meth c 5 (vx_MQ below (hQ D K b0 (fun v9 u9 => ec = 0 ∧ v9 = some (.int v) ∧ ∃ (ad2 : Nat → Nat → Nat) (L2 : List Nat) (f2 : Nat → va_E), u9 = lU L2 f2 ∧ PW K ad2 (isn S1.2.2.1) S1 L2 f2 ∧ Gr (fun _ => False) (isn nO) adO LO fO (isn S1.2.2.1) ad2 L2 f2)) (hX D K b0 (fun E u9 => (ec ≠ 0 ∧ E = exn ec) ∧ ∃ (ad2 : Nat → Nat → Nat) (L2 : List Nat) (f2 : Nat → va_E), u9 = lU L2 f2 ∧ PW K ad2 (isn S1.2.2.1) S1 L2 f2 ∧ Gr (fun _ => False) (isn nO) adO LO fO (isn S1.2.2.1) ad2 L2 f2)) [.ref (adO 0 0), .int p1, .int p2].toArray s 4 34 (fun q => b0 ≤ q)) 2 12 47 (fun ad => [(0, .ref (ad 0 0)), (1, .int q.1), (2, .int q.2.1), (3, .int q.2.2.1), (4, .int q.2.2.2)]) (fun ad => []) S)) (fun k47 hk47 q S h => ?_) fu (a1, a2, a3, a4) S h
    obtain ⟨a1, a2, a3, a4⟩ := q
    have hk47 : ∀ (a1 : Int32) (a2 : Int32) (a3 : Int32) (a4 : Int32) (S : fS), k47 (a1, a2, a3, a4) S = some ((ec, v), S1) → GwG D K b0 sa nO adO LO fO (fun _ => True) p l e { frames := 7, cells := 4, slots := 34, locals := 157 } s m [.ref (adO 0 0), .int p1, .int p2].toArray below meth c 5 (vx_MQ below (hQ D K b0 (fun v9 u9 => ec = 0 ∧ v9 = some (.int v) ∧ ∃ (ad2 : Nat → Nat → Nat) (L2 : List Nat) (f2 : Nat → va_E), u9 = lU L2 f2 ∧ PW K ad2 (isn S1.2.2.1) S1 L2 f2 ∧ Gr (fun _ => False) (isn nO) adO LO fO (isn S1.2.2.1) ad2 L2 f2)) (hX D K b0 (fun E u9 => (ec ≠ 0 ∧ E = exn ec) ∧ ∃ (ad2 : Nat → Nat → Nat) (L2 : List Nat) (f2 : Nat → va_E), u9 = lU L2 f2 ∧ PW K ad2 (isn S1.2.2.1) S1 L2 f2 ∧ Gr (fun _ => False) (isn nO) adO LO fO (isn S1.2.2.1) ad2 L2 f2)) [.ref (adO 0 0), .int p1, .int p2].toArray s 4 34 (fun q => b0 ≤ q)) 2 12 47 (fun ad => [(0, .ref (ad 0 0)), (1, .int a1), (2, .int a2), (3, .int a3), (4, .int a4)]) (fun ad => []) S := fun a1 a2 a3 a4 S h => hk47 (a1, a2, a3, a4) S h
    dsimp only [B_X6_play_47] at h
    intro ad P n L f H locs w G ls hl
    obtain ⟨hw, hn, hprobe, hP, hle, hG, -⟩ := G
    have hl : lv_has ls 5 [(0, .ref (ad 0 0)), (1, .int a1), (2, .int a2), (3, .int a3), (4, .int a4)] := hl
    refine lv_iload hx hb dX6_play_47 (lv_at hl 4 rfl) ?_
    refine lv_bipush (v := 8) hx hb dX6_play_49 (by decide) ?_
    refine lv_icmp_ge (tgt := 89) hx hb dX6_play_51 (by decide) (fun c7 => ?_) (fun c7 => ?_)
    · have h := bb_t h c7
      exact J89  a2 a4 S h ad P n L f H locs w ⟨hw, hn, hprobe, hP, hle, hG, trivial⟩ ls (lv_sub hl [0, 2, 4] rfl)
    · have h := bb_f h c7
      refine lv_iload_n hx hb dX6_play_54 rfl (lv_at hl 3 rfl) ?_
      refine lv_aload_n hx hb dX6_play_55 rfl (lv_at hl 0 rfl) ?_
      refine u_getr C w hw (hP _ _ (isn_f rfl rfl (by decide))) rfl (N := 18) rfl rfl cin_6 8 (by decide) (by decide) (a2 := 15) (i2 := 0) rfl gw_295 dX6_play_56 ?_
      refine lv_iload_n hx hb dX6_play_59 rfl (lv_at hl 1 rfl) ?_
      obtain ⟨g8, h⟩ := gd_some h
      refine u_iald C w hw (hP _ _ (isn_f rfl rfl (by decide))) rfl rfl (n := 6) rfl (vp_in_iff.mpr g8) dX6_play_60 ?_
      refine u_iv h (fun x9 h => ?_)
      refine lv_iload hx hb dX6_play_61 (lv_at hl 4 rfl) ?_
      obtain ⟨v10, S11, h12, h⟩ := bd_some h
      refine t_callS (n := 2) C w (c_X6_weightAt l D K b0 sa _ L _ ad P hP S hw hn x9 a4 v10 S11 h12) gw_1011 gw_1009 gw_1010 gw_1 ⟨by decide, by decide, by decide +kernel⟩ rfl rfl ⟨by decide, by decide⟩ rfl hl.1 rfl (Nat.le_of_ble_eq_true rfl) dX6_play_63 ⟨Nat.le_of_ble_eq_true rfl, Nat.le_of_ble_eq_true rfl⟩ (fun v9 u H locs hp w => ?_)
      obtain ⟨f2, rfl, rfl, hw, hn, hk1⟩ := hp
      have hG := hG.kp hk1
      generalize f2 = f at w hw hG
      refine lv_icmp_lt (tgt := 89) hx hb dX6_play_66 (by decide) (fun c13 => ?_) (fun c13 => ?_)
      · have h := bb_t h c13
        exact J89  a2 a4 S11 h ad P n L f H locs w ⟨hw, hn, hprobe, hP, hle, hG, trivial⟩ ls (lv_sub hl [0, 2, 4] rfl)
      · have h := bb_f h c13
        refine lv_iload_n hx hb dX6_play_69 rfl (lv_at hl 3 rfl) ?_
        refine lv_aload_n hx hb dX6_play_70 rfl (lv_at hl 0 rfl) ?_
        refine u_getr C w hw (hP _ _ (isn_f rfl rfl (by decide))) rfl (N := 18) rfl rfl cin_6 8 (by decide) (by decide) (a2 := 15) (i2 := 0) rfl gw_295 dX6_play_71 ?_
        refine lv_iload_n hx hb dX6_play_74 rfl (lv_at hl 1 rfl) ?_
        obtain ⟨g14, h⟩ := gd_some h
        refine u_iald C w hw (hP _ _ (isn_f rfl rfl (by decide))) rfl rfl (n := 6) rfl (vp_in_iff.mpr g14) dX6_play_75 ?_
        refine u_iv h (fun x15 h => ?_)
        refine lv_iload hx hb dX6_play_76 (lv_at hl 4 rfl) ?_
        obtain ⟨v16, S17, h18, h⟩ := bd_some h
        refine t_callS (n := 2) C w (c_X6_weightAt l D K b0 sa _ L _ ad P hP S11 hw hn x15 a4 v16 S17 h18) gw_1011 gw_1009 gw_1010 gw_1 ⟨by decide, by decide, by decide +kernel⟩ rfl rfl ⟨by decide, by decide⟩ rfl hl.1 rfl (Nat.le_of_ble_eq_true rfl) dX6_play_78 ⟨Nat.le_of_ble_eq_true rfl, Nat.le_of_ble_eq_true rfl⟩ (fun v9 u H locs hp w => ?_)
        obtain ⟨f2, rfl, rfl, hw, hn, hk1⟩ := hp
        have hG := hG.kp hk1
        generalize f2 = f at w hw hG
        refine lv_isub hx hb dX6_play_81 ?_
        refine u_iv h (fun x19 h => ?_)
        refine lv_istore_n (lv' := [(3, .int x19), (0, .ref (ad 0 0)), (1, .int a1), (2, .int a2), (4, .int a4)]) hx hb dX6_play_82 rfl hl (by decide) rfl (fun ls hl => ?_)
        obtain ⟨x20, ex20, h⟩ := iv_some h
        refine lv_iinc (v := x20) (lv' := [(4, .int x20), (3, .int x19), (0, .ref (ad 0 0)), (1, .int a1), (2, .int a2)]) hx hb dX6_play_83 hl (k := 4) rfl ex20.symm (by decide) rfl (fun ls hl => ?_)
        refine lv_goto (tgt := 47) hx hb dX6_play_86 (by decide) ?_
        exact hk47 a1 a2 x19 x20 S17 h ad P n L f H locs w ⟨hw, hn, hprobe, hP, hle, hG, trivial⟩ ls (lv_sub hl [2, 3, 4, 1, 0] rfl)
  dsimp only [F_X6_play] at h
  obtain ⟨H, eH⟩ : ∃ z, z = s.heap := ⟨_, rfl⟩
  obtain ⟨locs, el⟩ : ∃ z : List Loc, z = [] := ⟨_, rfl⟩
  rw [← eH, ← el] at w ⊢
  obtain ⟨ad, P, n, L, f, w, hw, hn, hprobe, hP, hle, hG, hl⟩ : ∃ (ad2 : Nat → Nat → Nat) (P2 : Nat → Nat → Prop) (n2 : Nat × Nat) (L2 : List Nat) (f2 : Nat → va_E), Wh D K b0 sa s H locs L2 f2 ∧ PW K ad2 P2 S0 L2 f2 ∧ S0.2.2.1 = n2 ∧ 0 < n2.1 ∧ (∀ a i : Nat, isn n2 a i → P2 a i) ∧ (∀ a i : Nat, isn nO a i → isn n2 a i) ∧ Gr (fun _ => False) (isn nO) adO LO fO P2 ad2 L2 f2 ∧ lv_has ls 5 [(0, .ref (ad2 0 0)), (1, .int p1), (2, .int p2)] := ⟨adO, isn nO, nO, LO, fO, w, hw, hn, hprobe, fun _ _ h => h, fun _ _ h => h, Gr.rf, hl⟩
  refine lv_iload_n hx hb dX6_play_0 rfl (lv_at hl 1 rfl) ?_
  refine lv_aload_n hx hb dX6_play_1 rfl (lv_at hl 0 rfl) ?_
  refine u_geti C w hw (hP _ _ (isn_f rfl rfl (by decide))) rfl (N := 18) rfl rfl cin_6 9 (by decide) rfl gw_296 dX6_play_2 ?_
  refine u_iv h (fun x21 h => ?_)
  rcases bx_some h with ⟨v22, S23, h24, h⟩ | ⟨e25, v22, S23, h24, h⟩
  rotate_left
  · refine t_xcallS (n := 2) C w (c_X6_needElement l hls D K b0 sa _ L _ ad P hP S0 hw hn p1 x21 (e25 + 1) v22 S23 h24) gw_656 gw_654 gw_655 gw_1 ⟨by decide, by decide, by decide +kernel⟩ rfl rfl ⟨by decide, by decide⟩ rfl hl.1 rfl (Nat.le_of_ble_eq_true rfl) dX6_play_5 ⟨Nat.le_of_ble_eq_true rfl, Nat.le_of_ble_eq_true rfl⟩ (fun E ce q9 u H locs hp w hcell hv0 hcl => ?_) (fun v9 u H locs hp w => absurd hp.1 (Nat.succ_ne_zero _))
    obtain ⟨⟨he, hE⟩, f2, rfl, hw, hn, hk1⟩ := hp
    exact t_xout w htb hlk hcell hv0 hcl ⟨sz_e h he hE, ad, L, _, rfl, gz_w h hw hn hP, gz_g h hn hP hle (hG.kp hk1)⟩ (by decide) (by decide)
  refine t_xcallS (n := 2) C w (c_X6_needElement l hls D K b0 sa _ L _ ad P hP S0 hw hn p1 x21 0 v22 S23 h24) gw_656 gw_654 gw_655 gw_1 ⟨by decide, by decide, by decide +kernel⟩ rfl rfl ⟨by decide, by decide⟩ rfl hl.1 rfl (Nat.le_of_ble_eq_true rfl) dX6_play_5 ⟨Nat.le_of_ble_eq_true rfl, Nat.le_of_ble_eq_true rfl⟩ (fun E ce q9 u H locs hp w hcell hv0 hcl => absurd rfl hp.1.1) (fun v9 u H locs hp w => ?_)
  obtain ⟨-, rfl, f2, rfl, hw, hn, hk1⟩ := hp
  have hG := hG.kp hk1
  generalize f2 = f at w hw hG
  refine lv_iload_n hx hb dX6_play_8 rfl (lv_at hl 2 rfl) ?_
  rcases bx_some h with ⟨v26, S27, h28, h⟩ | ⟨e29, v26, S27, h28, h⟩
  rotate_left
  · refine t_xcallS (n := 1) C w (c_X6_needCell l hls D K b0 sa _ L _ ad P hP S23 hw hn p2 (e29 + 1) v26 S27 h28) gw_554 gw_552 gw_553 gw_1 ⟨by decide, by decide, by decide +kernel⟩ rfl rfl ⟨by decide, by decide⟩ rfl hl.1 rfl (Nat.le_of_ble_eq_true rfl) dX6_play_9 ⟨Nat.le_of_ble_eq_true rfl, Nat.le_of_ble_eq_true rfl⟩ (fun E ce q9 u H locs hp w hcell hv0 hcl => ?_) (fun v9 u H locs hp w => absurd hp.1 (Nat.succ_ne_zero _))
    obtain ⟨⟨he, hE⟩, f2, rfl, hw, hn, hk1⟩ := hp
    exact t_xout w htb hlk hcell hv0 hcl ⟨sz_e h he hE, ad, L, _, rfl, gz_w h hw hn hP, gz_g h hn hP hle (hG.kp hk1)⟩ (by decide) (by decide)
  refine t_xcallS (n := 1) C w (c_X6_needCell l hls D K b0 sa _ L _ ad P hP S23 hw hn p2 0 v26 S27 h28) gw_554 gw_552 gw_553 gw_1 ⟨by decide, by decide, by decide +kernel⟩ rfl rfl ⟨by decide, by decide⟩ rfl hl.1 rfl (Nat.le_of_ble_eq_true rfl) dX6_play_9 ⟨Nat.le_of_ble_eq_true rfl, Nat.le_of_ble_eq_true rfl⟩ (fun E ce q9 u H locs hp w hcell hv0 hcl => absurd rfl hp.1.1) (fun v9 u H locs hp w => ?_)
  obtain ⟨-, rfl, f2, rfl, hw, hn, hk1⟩ := hp
  have hG := hG.kp hk1
  generalize f2 = f at w hw hG
  refine lv_aload_n hx hb dX6_play_12 rfl (lv_at hl 0 rfl) ?_
  refine u_getr C w hw (hP _ _ (isn_f rfl rfl (by decide))) rfl (N := 18) rfl rfl cin_6 0 (by decide) (by decide) (a2 := 1) (i2 := 0) rfl gw_287 dX6_play_13 ?_
  refine u_geti C w hw (hP _ _ (isn_f rfl rfl (by decide))) rfl (N := 13) rfl rfl cin_0 12 (by decide) rfl gw_121 dX6_play_16 ?_
  refine u_iv h (fun x30 h => ?_)
  refine lv_sipush (v := 200) hx hb dX6_play_19 (by decide) ?_
  refine lv_icmp_lt (tgt := 27) hx hb dX6_play_22 (by decide) (fun c31 => ?_) (fun c31 => ?_)
  · have h := bb_t h c31
    refine lv_aload_n hx hb dX6_play_27 rfl (lv_at hl 0 rfl) ?_
    refine u_getr C w hw (hP _ _ (isn_f rfl rfl (by decide))) rfl (N := 18) rfl rfl cin_6 0 (by decide) (by decide) (a2 := 1) (i2 := 0) rfl gw_287 dX6_play_28 ?_
    refine lv_aload_n hx hb dX6_play_31 rfl (lv_at hl 0 rfl) ?_
    refine u_getr C w hw (hP _ _ (isn_f rfl rfl (by decide))) rfl (N := 18) rfl rfl cin_6 8 (by decide) (by decide) (a2 := 15) (i2 := 0) rfl gw_295 dX6_play_32 ?_
    refine lv_iload_n hx hb dX6_play_35 rfl (lv_at hl 1 rfl) ?_
    obtain ⟨g32, h⟩ := gd_some h
    refine u_iald C w hw (hP _ _ (isn_f rfl rfl (by decide))) rfl rfl (n := 6) rfl (vp_in_iff.mpr g32) dX6_play_36 ?_
    refine u_iv h (fun x33 h => ?_)
    obtain ⟨v34, S35, h36, h⟩ := bd_some h
    refine t_callS (n := 1) C w (c_X6_allWeights l D K b0 sa _ L _ ad P hP S27 hw hn x33 v34 S35 h36) gw_1008 gw_1006 gw_1007 gw_1 ⟨by decide, by decide, by decide +kernel⟩ rfl rfl ⟨by decide, by decide⟩ rfl hl.1 rfl (Nat.le_of_ble_eq_true rfl) dX6_play_37 ⟨Nat.le_of_ble_eq_true rfl, Nat.le_of_ble_eq_true rfl⟩ (fun v9 u H locs hp w => ?_)
    obtain ⟨f2, rfl, rfl, hw, hn, hk1⟩ := hp
    have hG := hG.kp hk1
    generalize f2 = f at w hw hG
    obtain ⟨v37, S38, h39, h⟩ := bd_some h
    refine u_callV (n := 1) C w hw (hP _ _ (isn_f rfl rfl (by decide))) rfl rfl rfl (c_X0_draw l D K b0 sa _ L _ ad P hP S35 hw hn 0 (by decide) v34 v37 S38 h39) gw_951 gw_948 gw_949 gw_950 gw_2 ⟨by decide, by decide, by decide +kernel⟩ rfl rfl ⟨by decide, by decide⟩ rfl hl.1 rfl (Nat.le_of_ble_eq_true rfl) dX6_play_40 ⟨Nat.le_of_ble_eq_true rfl, Nat.le_of_ble_eq_true rfl⟩ (fun v9 u H locs hp w => ?_)
    obtain ⟨f2, rfl, rfl, hw, hn, hk1⟩ := hp
    have hG := hG.kp hk1
    generalize f2 = f at w hw hG
    refine lv_istore_n (lv' := [(3, .int v37), (0, .ref (ad 0 0)), (1, .int p1), (2, .int p2)]) hx hb dX6_play_43 rfl hl (by decide) rfl (fun ls hl => ?_)
    refine lv_iconst (v := 0) hx hb dX6_play_44 (by decide) ?_
    refine lv_istore (lv' := [(4, .int 0), (3, .int v37), (0, .ref (ad 0 0)), (1, .int p1), (2, .int p2)]) hx hb dX6_play_45 hl (by decide) rfl (fun ls hl => ?_)
    exact J47  fuel p1 p2 v37 0 S38 h ad P n L f H locs w ⟨hw, hn, hprobe, hP, hle, hG, trivial⟩ ls (lv_sub hl [2, 3, 4, 1, 0] rfl)
  · have h := bb_f h c31
    refine lv_iconst (v := (-1)) hx hb dX6_play_25 (by decide) ?_
    refine vx_ret ?_
    exact t_iret C hr hlk w ⟨sx_e h, sx_v h, ad, L, _, rfl, gq_w h hw hn hP, gq_g h hn hP hle hG⟩ (by decide) (by decide) dX6_play_26
