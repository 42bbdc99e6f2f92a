theorem dX4_condition_0 : decode cX4_condition 0 = .ok (.iconst 0, 1) := by decide +kernel
theorem dX4_condition_1 : decode cX4_condition 1 = .ok (.istore_n 1, 1) := by decide +kernel
theorem dX4_condition_2 : decode cX4_condition 2 = .ok (.iconst 0, 1) := by decide +kernel
theorem dX4_condition_3 : decode cX4_condition 3 = .ok (.istore_n 2, 1) := by decide +kernel
theorem dX4_condition_4 : decode cX4_condition 4 = .ok (.iconst 0, 1) := by decide +kernel
theorem dX4_condition_5 : decode cX4_condition 5 = .ok (.istore_n 3, 1) := by decide +kernel
theorem dX4_condition_6 : decode cX4_condition 6 = .ok (.iload_n 3, 1) := by decide +kernel
theorem dX4_condition_7 : decode cX4_condition 7 = .ok (.sipush 300, 3) := by decide +kernel
theorem dX4_condition_10 : decode cX4_condition 10 = .ok (.if_icmp .gt 66, 3) := by decide +kernel
theorem dX4_condition_13 : decode cX4_condition 13 = .ok (.aload_n 0, 1) := by decide +kernel
theorem dX4_condition_14 : decode cX4_condition 14 = .ok (.invokevirtual 163, 3) := by decide +kernel
theorem dX4_condition_17 : decode cX4_condition 17 = .ok (.ifCond .ne 5, 3) := by decide +kernel
theorem dX4_condition_20 : decode cX4_condition 20 = .ok (.iconst 0, 1) := by decide +kernel
theorem dX4_condition_21 : decode cX4_condition 21 = .ok (.ireturn, 1) := by decide +kernel
theorem dX4_condition_22 : decode cX4_condition 22 = .ok (.iload_n 2, 1) := by decide +kernel
theorem dX4_condition_23 : decode cX4_condition 23 = .ok (.ifCond .eq 10, 3) := by decide +kernel
theorem dX4_condition_26 : decode cX4_condition 26 = .ok (.aload_n 0, 1) := by decide +kernel
theorem dX4_condition_27 : decode cX4_condition 27 = .ok (.sipush 2009, 3) := by decide +kernel
theorem dX4_condition_30 : decode cX4_condition 30 = .ok (.invokevirtual 159, 3) := by decide +kernel
theorem dX4_condition_33 : decode cX4_condition 33 = .ok (.aload_n 0, 1) := by decide +kernel
theorem dX4_condition_34 : decode cX4_condition 34 = .ok (.sipush 265, 3) := by decide +kernel
theorem dX4_condition_37 : decode cX4_condition 37 = .ok (.invokevirtual 66, 3) := by decide +kernel
theorem dX4_condition_40 : decode cX4_condition 40 = .ok (.istore_n 2, 1) := by decide +kernel
theorem dX4_condition_41 : decode cX4_condition 41 = .ok (.iload_n 2, 1) := by decide +kernel
theorem dX4_condition_42 : decode cX4_condition 42 = .ok (.ifCond .ne 28, 3) := by decide +kernel
theorem dX4_condition_45 : decode cX4_condition 45 = .ok (.iload_n 1, 1) := by decide +kernel
theorem dX4_condition_46 : decode cX4_condition 46 = .ok (.ifCond .eq 10, 3) := by decide +kernel
theorem dX4_condition_49 : decode cX4_condition 49 = .ok (.aload_n 0, 1) := by decide +kernel
theorem dX4_condition_50 : decode cX4_condition 50 = .ok (.sipush 2010, 3) := by decide +kernel
theorem dX4_condition_53 : decode cX4_condition 53 = .ok (.invokevirtual 159, 3) := by decide +kernel
theorem dX4_condition_56 : decode cX4_condition 56 = .ok (.aload_n 0, 1) := by decide +kernel
theorem dX4_condition_57 : decode cX4_condition 57 = .ok (.sipush 264, 3) := by decide +kernel
theorem dX4_condition_60 : decode cX4_condition 60 = .ok (.invokevirtual 66, 3) := by decide +kernel
theorem dX4_condition_63 : decode cX4_condition 63 = .ok (.istore_n 1, 1) := by decide +kernel
theorem dX4_condition_64 : decode cX4_condition 64 = .ok (.iload_n 1, 1) := by decide +kernel
theorem dX4_condition_65 : decode cX4_condition 65 = .ok (.ifCond .ne 5, 3) := by decide +kernel
theorem dX4_condition_68 : decode cX4_condition 68 = .ok (.iconst 1, 1) := by decide +kernel
theorem dX4_condition_69 : decode cX4_condition 69 = .ok (.ireturn, 1) := by decide +kernel
theorem dX4_condition_70 : decode cX4_condition 70 = .ok (.iinc 3 1, 3) := by decide +kernel
theorem dX4_condition_73 : decode cX4_condition 73 = .ok (.goto (-67), 3) := by decide +kernel
theorem dX4_condition_76 : decode cX4_condition 76 = .ok (.aload_n 0, 1) := by decide +kernel
theorem dX4_condition_77 : decode cX4_condition 77 = .ok (.iconst 1, 1) := by decide +kernel
theorem dX4_condition_78 : decode cX4_condition 78 = .ok (.invokevirtual 69, 3) := by decide +kernel
theorem dX4_condition_81 : decode cX4_condition 81 = .ok (.ireturn, 1) := by decide +kernel
noncomputable def B_X4_condition_70 (R : Nat → Int32 → fS → Option (Int32 × fS)) (k6 : (Int32 × Int32 × Int32) → fS → Option (Int32 × fS)) (a1 : Int32) (a2 : Int32) (a3 : Int32) (S : fS) : Option (Int32 × fS) := iv (a3 + Int32.ofInt 1) (fun x1 => k6 (a1, a2, x1) S)
noncomputable def B_X4_condition_56 (R : Nat → Int32 → fS → Option (Int32 × fS)) (k6 : (Int32 × Int32 × Int32) → fS → Option (Int32 × fS)) (a2 : Int32) (a3 : Int32) (S : fS) : Option (Int32 × fS) := bd (F_X4_passed 264 S) (fun v2 S3 => bb (v2 = (0 : Int32)) (some (1, S3)) (B_X4_condition_70 R k6 v2 a2 a3 S3))
noncomputable def B_X4_condition_33 (R : Nat → Int32 → fS → Option (Int32 × fS)) (k6 : (Int32 × Int32 × Int32) → fS → Option (Int32 × fS)) (a1 : Int32) (a3 : Int32) (S : fS) : Option (Int32 × fS) := bd (F_X4_passed 265 S) (fun v6 S7 => bb (v6 = (0 : Int32)) (bb (a1 = (0 : Int32)) (B_X4_condition_56 R k6 v6 a3 S7) (bd (F_X4_emit 2010 S7) (fun v11 S12 => B_X4_condition_56 R k6 v6 a3 S12))) (B_X4_condition_70 R k6 a1 v6 a3 S7))
noncomputable def B_X4_condition_6 (R : Nat → Int32 → fS → Option (Int32 × fS)) (k6 : (Int32 × Int32 × Int32) → fS → Option (Int32 × fS)) : (Int32 × Int32 × Int32) → fS → Option (Int32 × fS) := fun ⟨a1, a2, a3⟩ S => bb ((300 : Int32) < a3) (bd (F_X4_fail 1 S) (fun v15 S16 => gd (v15 = 0 ∨ v15 = 1) (some (v15, S16)))) (bd (R 1 0 S) (fun v19 S20 => bb (v19 = (0 : Int32)) (some (0, S20)) (bb (a2 = (0 : Int32)) (B_X4_condition_33 R k6 a1 a3 S20) (bd (F_X4_emit 2009 S20) (fun v24 S25 => B_X4_condition_33 R k6 a1 a3 S25)))))
noncomputable def N_X4_condition (R : Nat → Int32 → fS → Option (Int32 × fS))  (S0 : fS) : Option (Int32 × fS) := lp (B_X4_condition_6 R ) fuel (0, 0, 0) S0
set_option maxHeartbeats 4000000 in
set_option maxRecDepth 100000 in
theorem n_X4_condition (l : Launch) (D : va_G) (K : Nat → ClassId) (b0 : Nat) (sa : sT) (ad : Nat → Nat → Nat) {n : Nat × Nat} (P : Nat → Nat → Prop) (hP : ∀ a i : Nat, isn n a i → P a i) (R : Nat → Int32 → fS → Option (Int32 × fS)) (d : Nat) (hR0 : ∀ (sz : Nat) (L : List Nat) (f0 : Nat → va_E) (S0 : fS) (hw : PW K ad P S0 L f0) (hn : S0.2.2.1 = n) (v : Int32) (S1 : fS) (h : R 0 0 S0 = some (v, S1)), Met l yX4_condition (.code yX4_condition cX4_condition 4 (some .boolean) :: gt) { frames := 4 + d, cells := 0, slots := 0, locals := 62 + 40 * d } (va_Pc [.ref (ad 17 0)] (hPre D K b0 sa sz L f0)) (hQ D K b0 (fun v9 u9 => ∃ f2 : Nat → va_E, v9 = some (.int v) ∧ u9 = lU L f2 ∧ PW K ad P S1 L f2 ∧ S1.2.2.1 = n ∧ Kp ad P L f0 f2)) 0 0 (fun q => b0 ≤ q)) (hR1 : ∀ (sz : Nat) (L : List Nat) (f0 : Nat → va_E) (S0 : fS) (hw : PW K ad P S0 L f0) (hn : S0.2.2.1 = n) (v : Int32) (S1 : fS) (h : R 1 0 S0 = some (v, S1)), Met l yX4_claim (.code yX4_claim cX4_claim 2 (some .boolean) :: gt) { frames := 4 + d, cells := 0, slots := 0, locals := 62 + 40 * d } (va_Pc [.ref (ad 17 0)] (hPre D K b0 sa sz L f0)) (hQ D K b0 (fun v9 u9 => ∃ f2 : Nat → va_E, v9 = some (.int v) ∧ u9 = lU L f2 ∧ PW K ad P S1 L f2 ∧ S1.2.2.1 = n ∧ Kp ad P L f0 f2)) 0 0 (fun q => b0 ≤ q)) (hR2 : ∀ (sz : Nat) (L : List Nat) (f0 : Nat → va_E) (S0 : fS) (hw : PW K ad P S0 L f0) (hn : S0.2.2.1 = n) (v : Int32) (S1 : fS) (h : R 2 0 S0 = some (v, S1)), Met l yX4_denial (.code yX4_denial cX4_denial 1 (some .boolean) :: gt) { frames := 4 + d, cells := 0, slots := 0, locals := 62 + 40 * d } (va_Pc [.ref (ad 17 0)] (hPre D K b0 sa sz L f0)) (hQ D K b0 (fun v9 u9 => ∃ f2 : Nat → va_E, v9 = some (.int v) ∧ u9 = lU L f2 ∧ PW K ad P S1 L f2 ∧ S1.2.2.1 = n ∧ Kp ad P L f0 f2)) 0 0 (fun q => b0 ≤ q)) (hR3 : ∀ (sz : Nat) (L : List Nat) (f0 : Nat → va_E) (S0 : fS) (hw : PW K ad P S0 L f0) (hn : S0.2.2.1 = n) (v : Int32) (S1 : fS) (h : R 3 0 S0 = some (v, S1)), Met l yX4_sum (.code yX4_sum cX4_sum 4 (some .boolean) :: gt) { frames := 4 + d, cells := 0, slots := 0, locals := 62 + 40 * d } (va_Pc [.ref (ad 17 0)] (hPre D K b0 sa sz L f0)) (hQ D K b0 (fun v9 u9 => ∃ f2 : Nat → va_E, v9 = some (.int v) ∧ u9 = lU L f2 ∧ PW K ad P S1 L f2 ∧ S1.2.2.1 = n ∧ Kp ad P L f0 f2)) 0 0 (fun q => b0 ≤ q)) (hR4 : ∀ (sz : Nat) (L : List Nat) (f0 : Nat → va_E) (S0 : fS) (hw : PW K ad P S0 L f0) (hn : S0.2.2.1 = n) (v : Int32) (S1 : fS) (h : R 4 0 S0 = some (v, S1)), Met l yX4_unit (.code yX4_unit cX4_unit 2 (some .boolean) :: gt) { frames := 4 + d, cells := 0, slots := 0, locals := 62 + 40 * d } (va_Pc [.ref (ad 17 0)] (hPre D K b0 sa sz L f0)) (hQ D K b0 (fun v9 u9 => ∃ f2 : Nat → va_E, v9 = some (.int v) ∧ u9 = lU L f2 ∧ PW K ad P S1 L f2 ∧ S1.2.2.1 = n ∧ Kp ad P L f0 f2)) 0 0 (fun q => b0 ≤ q)) (hR5 : ∀ (sz : Nat) (L : List Nat) (f0 : Nat → va_E) (S0 : fS) (hw : PW K ad P S0 L f0) (hn : S0.2.2.1 = n) (p1 : Int32) (v : Int32) (S1 : fS) (h : R 5 p1 S0 = some (v, S1)), Met l yX4_choice (.code yX4_choice cX4_choice 2 (some .boolean) :: gt) { frames := 4 + d, cells := 0, slots := 0, locals := 62 + 40 * d } (va_Pc [.ref (ad 17 0), .int p1] (hPre D K b0 sa sz L f0)) (hQ D K b0 (fun v9 u9 => ∃ f2 : Nat → va_E, v9 = some (.int v) ∧ u9 = lU L f2 ∧ PW K ad P S1 L f2 ∧ S1.2.2.1 = n ∧ Kp ad P L f0 f2)) 0 0 (fun q => b0 ≤ q)) (sz : Nat) (L : List Nat) (f0 : Nat → va_E) (S0 : fS) (hw : PW K ad P S0 L f0) (hn : S0.2.2.1 = n)  (v : Int32) (S1 : fS) (h : N_X4_condition R  S0 = some (v, S1)) : Met l yX4_condition (.code yX4_condition cX4_condition 4 (some .boolean) :: gt) { frames := 4 + (d + 1), cells := 0, slots := 0, locals := 62 + 40 * (d + 1) } (va_Pc [.ref (ad 17 0)] (hPre D K b0 sa sz L f0)) (hQ D K b0 (fun v9 u9 => ∃ f2 : Nat → va_E, v9 = some (.int v) ∧ u9 = lU L f2 ∧ PW K ad P S1 L f2 ∧ S1.2.2.1 = n ∧ Kp ad P L f0 f2)) 0 0 (fun q => b0 ≤ q) := by
  refine t_of (own := RX4) (by decide) rfl ?_ (Nat.le_of_ble_eq_true rfl)
  intro p e s m below meth c ls C w hsz hr hlk hnm hl
  have hx := C.1
  have hb := C.2.1
  have hl : lv_has ls 4 [(0, .ref (ad 17 0))] := hl
  have J70 : ∀ (k6 : (Int32 × Int32 × Int32) → fS → Option (Int32 × fS)) (hk6 : ∀ (a1 : Int32) (a2 : Int32) (a3 : Int32) (S : fS), k6 (a1, a2, a3) S = some (v, S1) → Gw D K b0 sa ad P n L f0 p l e { frames := 4 + (d + 1), cells := 0, slots := 0, locals := 62 + 40 * (d + 1) } s m [.ref (ad 17 0)].toArray below meth c 4 (MQ below (hQ D K b0 (fun v9 u9 => ∃ f2 : Nat → va_E, v9 = some (.int v) ∧ u9 = lU L f2 ∧ PW K ad P S1 L f2 ∧ S1.2.2.1 = n ∧ Kp ad P L f0 f2)) [.ref (ad 17 0)].toArray s 0 0 (fun q => b0 ≤ q)) 0 0 6 [(0, .ref (ad 17 0)), (1, .int a1), (2, .int a2), (3, .int a3)] [] S) (a1 : Int32) (a2 : Int32) (a3 : Int32) (S : fS), B_X4_condition_70 R k6 a1 a2 a3 S = some (v, S1) → Gw D K b0 sa ad P n L f0 p l e { frames := 4 + (d + 1), cells := 0, slots := 0, locals := 62 + 40 * (d + 1) } s m [.ref (ad 17 0)].toArray below meth c 4 (MQ below (hQ D K b0 (fun v9 u9 => ∃ f2 : Nat → va_E, v9 = some (.int v) ∧ u9 = lU L f2 ∧ PW K ad P S1 L f2 ∧ S1.2.2.1 = n ∧ Kp ad P L f0 f2)) [.ref (ad 17 0)].toArray s 0 0 (fun q => b0 ≤ q)) 0 0 70 [(0, .ref (ad 17 0)), (1, .int a1), (2, .int a2), (3, .int a3)] [] S := by
    intro k6 hk6 a1 a2 a3 S h
    dsimp only [B_X4_condition_70] at h
    intro f H locs w hw hn hk ls hl
    obtain ⟨x1, ex1, h⟩ := iv_some h
    refine lv_iinc (v := x1) (lv' := [(3, .int x1), (0, .ref (ad 17 0)), (1, .int a1), (2, .int a2)]) hx hb dX4_condition_70 hl (k := 3) rfl ex1.symm (by decide) rfl (fun ls hl => ?_)
    refine lv_goto (tgt := 6) hx hb dX4_condition_73 (by decide) ?_
    exact hk6 a1 a2 x1 S h f H locs w hw hn hk ls (lv_sub hl [1, 2, 3, 0] rfl)
  have J56 : ∀ (k6 : (Int32 × Int32 × Int32) → fS → Option (Int32 × fS)) (hk6 : ∀ (a1 : Int32) (a2 : Int32) (a3 : Int32) (S : fS), k6 (a1, a2, a3) S = some (v, S1) → Gw D K b0 sa ad P n L f0 p l e { frames := 4 + (d + 1), cells := 0, slots := 0, locals := 62 + 40 * (d + 1) } s m [.ref (ad 17 0)].toArray below meth c 4 (MQ below (hQ D K b0 (fun v9 u9 => ∃ f2 : Nat → va_E, v9 = some (.int v) ∧ u9 = lU L f2 ∧ PW K ad P S1 L f2 ∧ S1.2.2.1 = n ∧ Kp ad P L f0 f2)) [.ref (ad 17 0)].toArray s 0 0 (fun q => b0 ≤ q)) 0 0 6 [(0, .ref (ad 17 0)), (1, .int a1), (2, .int a2), (3, .int a3)] [] S) (a2 : Int32) (a3 : Int32) (S : fS), B_X4_condition_56 R k6 a2 a3 S = some (v, S1) → Gw D K b0 sa ad P n L f0 p l e { frames := 4 + (d + 1), cells := 0, slots := 0, locals := 62 + 40 * (d + 1) } s m [.ref (ad 17 0)].toArray below meth c 4 (MQ below (hQ D K b0 (fun v9 u9 => ∃ f2 : Nat → va_E, v9 = some (.int v) ∧ u9 = lU L f2 ∧ PW K ad P S1 L f2 ∧ S1.2.2.1 = n ∧ Kp ad P L f0 f2)) [.ref (ad 17 0)].toArray s 0 0 (fun q => b0 ≤ q)) 0 0 56 [(0, .ref (ad 17 0)), (2, .int a2), (3, .int a3)] [] S := by
    intro k6 hk6 a2 a3 S h
    dsimp only [B_X4_condition_56] at h
    intro f H locs w hw hn hk ls hl
    refine lv_aload_n hx hb dX4_condition_56 rfl (lv_at hl 0 rfl) ?_
    refine lv_sipush (v := 264) hx hb dX4_condition_57 (by decide) ?_
    obtain ⟨v2, S3, h4, h⟩ := bd_some h
    refine u_callV (n := 1) C w hw (hP _ _ (isn_f rfl rfl (by decide))) rfl rfl rfl (c_X4_passed l D K b0 sa _ L _ ad P hP S hw hn 264 v2 S3 h4) gw_858 gw_855 gw_856 gw_857 gw_5 ⟨by decide, by decide, by decide +kernel⟩ rfl rfl ⟨by dsimp only; omega, by dsimp only; omega⟩ rfl hl.1 rfl (Nat.le_of_ble_eq_true rfl) dX4_condition_60 ⟨Nat.le_of_ble_eq_true rfl, Nat.le_of_ble_eq_true rfl⟩ (fun v9 u H locs hp w => ?_)
    obtain ⟨f2, rfl, rfl, hw, hn, hk1⟩ := hp
    have hk := hk.tr hk1
    generalize f2 = f at w hw hk
    refine lv_istore_n (lv' := [(1, .int v2), (0, .ref (ad 17 0)), (2, .int a2), (3, .int a3)]) hx hb dX4_condition_63 rfl hl (by decide) rfl (fun ls hl => ?_)
    refine lv_iload_n hx hb dX4_condition_64 rfl (lv_at hl 0 rfl) ?_
    refine lv_if_ne (tgt := 70) hx hb dX4_condition_65 (by decide) (fun c5 => ?_) (fun c5 => ?_)
    · have h := bb_f h c5
      exact J70 k6 hk6 v2 a2 a3 S3 h f H locs w hw hn hk ls (lv_sub hl [1, 0, 2, 3] rfl)
    · have h := bb_t h c5
      refine lv_iconst (v := 1) hx hb dX4_condition_68 (by decide) ?_
      exact t_zret C hr hlk w (by decide) ⟨_, so_v h, rfl, so_w h hw, so_n h hn, hk⟩ (by decide) (by decide) dX4_condition_69
  have J33 : ∀ (k6 : (Int32 × Int32 × Int32) → fS → Option (Int32 × fS)) (hk6 : ∀ (a1 : Int32) (a2 : Int32) (a3 : Int32) (S : fS), k6 (a1, a2, a3) S = some (v, S1) → Gw D K b0 sa ad P n L f0 p l e { frames := 4 + (d + 1), cells := 0, slots := 0, locals := 62 + 40 * (d + 1) } s m [.ref (ad 17 0)].toArray below meth c 4 (MQ below (hQ D K b0 (fun v9 u9 => ∃ f2 : Nat → va_E, v9 = some (.int v) ∧ u9 = lU L f2 ∧ PW K ad P S1 L f2 ∧ S1.2.2.1 = n ∧ Kp ad P L f0 f2)) [.ref (ad 17 0)].toArray s 0 0 (fun q => b0 ≤ q)) 0 0 6 [(0, .ref (ad 17 0)), (1, .int a1), (2, .int a2), (3, .int a3)] [] S) (a1 : Int32) (a3 : Int32) (S : fS), B_X4_condition_33 R k6 a1 a3 S = some (v, S1) → Gw D K b0 sa ad P n L f0 p l e { frames := 4 + (d + 1), cells := 0, slots := 0, locals := 62 + 40 * (d + 1) } s m [.ref (ad 17 0)].toArray below meth c 4 (MQ below (hQ D K b0 (fun v9 u9 => ∃ f2 : Nat → va_E, v9 = some (.int v) ∧ u9 = lU L f2 ∧ PW K ad P S1 L f2 ∧ S1.2.2.1 = n ∧ Kp ad P L f0 f2)) [.ref (ad 17 0)].toArray s 0 0 (fun q => b0 ≤ q)) 0 0 33 [(0, .ref (ad 17 0)), (1, .int a1), (3, .int a3)] [] S := by
    intro k6 hk6 a1 a3 S h
    dsimp only [B_X4_condition_33] at h
    intro f H locs w hw hn hk ls hl
    refine lv_aload_n hx hb dX4_condition_33 rfl (lv_at hl 0 rfl) ?_
    refine lv_sipush (v := 265) hx hb dX4_condition_34 (by decide) ?_
    obtain ⟨v6, S7, h8, h⟩ := bd_some h
    refine u_callV (n := 1) C w hw (hP _ _ (isn_f rfl rfl (by decide))) rfl rfl rfl (c_X4_passed l D K b0 sa _ L _ ad P hP S hw hn 265 v6 S7 h8) gw_858 gw_855 gw_856 gw_857 gw_5 ⟨by decide, by decide, by decide +kernel⟩ rfl rfl ⟨by dsimp only; omega, by dsimp only; omega⟩ rfl hl.1 rfl (Nat.le_of_ble_eq_true rfl) dX4_condition_37 ⟨Nat.le_of_ble_eq_true rfl, Nat.le_of_ble_eq_true rfl⟩ (fun v9 u H locs hp w => ?_)
    obtain ⟨f2, rfl, rfl, hw, hn, hk1⟩ := hp
    have hk := hk.tr hk1
    generalize f2 = f at w hw hk
    refine lv_istore_n (lv' := [(2, .int v6), (0, .ref (ad 17 0)), (1, .int a1), (3, .int a3)]) hx hb dX4_condition_40 rfl hl (by decide) rfl (fun ls hl => ?_)
    refine lv_iload_n hx hb dX4_condition_41 rfl (lv_at hl 0 rfl) ?_
    refine lv_if_ne (tgt := 70) hx hb dX4_condition_42 (by decide) (fun c9 => ?_) (fun c9 => ?_)
    · have h := bb_f h c9
      exact J70 k6 hk6 a1 v6 a3 S7 h f H locs w hw hn hk ls (lv_sub hl [1, 2, 0, 3] rfl)
    · have h := bb_t h c9
      refine lv_iload_n hx hb dX4_condition_45 rfl (lv_at hl 2 rfl) ?_
      refine lv_if_eq (tgt := 56) hx hb dX4_condition_46 (by decide) (fun c10 => ?_) (fun c10 => ?_)
      · have h := bb_t h c10
        exact J56 k6 hk6 v6 a3 S7 h f H locs w hw hn hk ls (lv_sub hl [1, 0, 3] rfl)
      · have h := bb_f h c10
        refine lv_aload_n hx hb dX4_condition_49 rfl (lv_at hl 1 rfl) ?_
        refine lv_sipush (v := 2010) hx hb dX4_condition_50 (by decide) ?_
        obtain ⟨v11, S12, h13, h⟩ := bd_some h
        refine u_callV (n := 1) C w hw (hP _ _ (isn_f rfl rfl (by decide))) rfl rfl rfl (c_X4_emit l D K b0 sa _ L _ ad P hP S7 hw hn 2010 v11 S12 h13) gw_850 gw_847 gw_848 gw_849 gw_5 ⟨by decide, by decide, by decide +kernel⟩ rfl rfl ⟨by dsimp only; omega, by dsimp only; omega⟩ rfl hl.1 rfl (Nat.le_of_ble_eq_true rfl) dX4_condition_53 ⟨Nat.le_of_ble_eq_true rfl, Nat.le_of_ble_eq_true rfl⟩ (fun v9 u H locs hp w => ?_)
        obtain ⟨f2, rfl, rfl, hw, hn, hk1⟩ := hp
        have hk := hk.tr hk1
        generalize f2 = f at w hw hk
        exact J56 k6 hk6 v6 a3 S12 h f H locs w hw hn hk ls (lv_sub hl [1, 0, 3] rfl)
  have J6 : ∀ (fu : Nat) (a1 : Int32) (a2 : Int32) (a3 : Int32) (S : fS), lp (B_X4_condition_6 R ) fu (a1, a2, a3) S = some (v, S1) → Gw D K b0 sa ad P n L f0 p l e { frames := 4 + (d + 1), cells := 0, slots := 0, locals := 62 + 40 * (d + 1) } s m [.ref (ad 17 0)].toArray below meth c 4 (MQ below (hQ D K b0 (fun v9 u9 => ∃ f2 : Nat → va_E, v9 = some (.int v) ∧ u9 = lU L f2 ∧ PW K ad P S1 L f2 ∧ S1.2.2.1 = n ∧ Kp ad P L f0 f2)) [.ref (ad 17 0)].toArray s 0 0 (fun q => b0 ≤ q)) 0 0 6 [(0, .ref (ad 17 0)), (1, .int a1), (2, .int a2), (3, .int a3)] [] S := by
    intro fu a1 a2 a3 S h
    refine lp_some (G := (fun q S => Gw D K b0 sa ad P n L f0 p l e { frames := 4 + (d + 1), cells := 0, slots := 0, locals := 62 + 40 * (d + 1) } s m [.ref (ad 17 0)].toArray below meth c 4 (MQ below (hQ D K b0 (fun v9 u9 => ∃ f2 : Nat → va_E, v9 = some (.int v) ∧ u9 = lU L f2 ∧ PW K ad P S1 L f2 ∧ S1.2.2.1 = n ∧ Kp ad P L f0 f2)) [.ref (ad 17 0)].toArray s 0 0 (fun q => b0 ≤ q)) 0 0 6 [(0, .ref (ad 17 0)), (1, .int q.1), (2, .int q.2.1), (3, .int q.2.2)] [] S)) (fun k6 hk6 q S h => ?_) fu (a1, a2, a3) S h
    obtain ⟨a1, a2, a3⟩ := q
    have hk6 : ∀ (a1 : Int32) (a2 : Int32) (a3 : Int32) (S : fS), k6 (a1, a2, a3) S = some (v, S1) → Gw D K b0 sa ad P n L f0 p l e { frames := 4 + (d + 1), cells := 0, slots := 0, locals := 62 + 40 * (d + 1) } s m [.ref (ad 17 0)].toArray below meth c 4 (MQ below (hQ D K b0 (fun v9 u9 => ∃ f2 : Nat → va_E, v9 = some (.int v) ∧ u9 = lU L f2 ∧ PW K ad P S1 L f2 ∧ S1.2.2.1 = n ∧ Kp ad P L f0 f2)) [.ref (ad 17 0)].toArray s 0 0 (fun q => b0 ≤ q)) 0 0 6 [(0, .ref (ad 17 0)), (1, .int a1), (2, .int a2), (3, .int a3)] [] S := fun a1 a2 a3 S h => hk6 (a1, a2, a3) S h
    dsimp only [B_X4_condition_6] at h
    intro f H locs w hw hn hk ls hl
    refine lv_iload_n hx hb dX4_condition_6 rfl (lv_at hl 3 rfl) ?_
    refine lv_sipush (v := 300) hx hb dX4_condition_7 (by decide) ?_
    refine lv_icmp_gt (tgt := 76) hx hb dX4_condition_10 (by decide) (fun c14 => ?_) (fun c14 => ?_)
    · have h := bb_t h c14
      refine lv_aload_n hx hb dX4_condition_76 rfl (lv_at hl 0 rfl) ?_
      refine lv_iconst (v := 1) hx hb dX4_condition_77 (by decide) ?_
      obtain ⟨v15, S16, h17, h⟩ := bd_some h
      refine u_callV (n := 1) C w hw (hP _ _ (isn_f rfl rfl (by decide))) rfl rfl rfl (c_X4_fail l D K b0 sa _ L _ ad P hP S hw hn 1 v15 S16 h17) gw_846 gw_843 gw_844 gw_845 gw_5 ⟨by decide, by decide, by decide +kernel⟩ rfl rfl ⟨by dsimp only; omega, by dsimp only; omega⟩ rfl hl.1 rfl (Nat.le_of_ble_eq_true rfl) dX4_condition_78 ⟨Nat.le_of_ble_eq_true rfl, Nat.le_of_ble_eq_true rfl⟩ (fun v9 u H locs hp w => ?_)
      obtain ⟨f2, rfl, rfl, hw, hn, hk1⟩ := hp
      have hk := hk.tr hk1
      generalize f2 = f at w hw hk
      obtain ⟨g18, h⟩ := gd_some h
      exact t_zret C hr hlk w (narb g18) ⟨_, so_v h, rfl, so_w h hw, so_n h hn, hk⟩ (by decide) (by decide) dX4_condition_81
    · have h := bb_f h c14
      refine lv_aload_n hx hb dX4_condition_13 rfl (lv_at hl 0 rfl) ?_
      obtain ⟨v19, S20, h21, h⟩ := bd_some h
      refine u_callV (n := 0) C w hw (hP _ _ (isn_f rfl rfl (by decide))) rfl rfl rfl (hR1 _ L _ S hw hn v19 S20 h21) gw_830 gw_827 gw_829 gs_9 gw_5 ⟨by decide, by decide, by decide +kernel⟩ rfl rfl ⟨by dsimp only; omega, by dsimp only; omega⟩ rfl hl.1 rfl (Nat.le_of_ble_eq_true rfl) dX4_condition_14 ⟨Nat.le_of_ble_eq_true rfl, Nat.le_of_ble_eq_true rfl⟩ (fun v9 u H locs hp w => ?_)
      obtain ⟨f2, rfl, rfl, hw, hn, hk1⟩ := hp
      have hk := hk.tr hk1
      generalize f2 = f at w hw hk
      refine lv_if_ne (tgt := 22) hx hb dX4_condition_17 (by decide) (fun c22 => ?_) (fun c22 => ?_)
      · have h := bb_f h c22
        refine lv_iload_n hx hb dX4_condition_22 rfl (lv_at hl 2 rfl) ?_
        refine lv_if_eq (tgt := 33) hx hb dX4_condition_23 (by decide) (fun c23 => ?_) (fun c23 => ?_)
        · have h := bb_t h c23
          exact J33 k6 hk6 a1 a3 S20 h f H locs w hw hn hk ls (lv_sub hl [0, 1, 3] rfl)
        · have h := bb_f h c23
          refine lv_aload_n hx hb dX4_condition_26 rfl (lv_at hl 0 rfl) ?_
          refine lv_sipush (v := 2009) hx hb dX4_condition_27 (by decide) ?_
          obtain ⟨v24, S25, h26, h⟩ := bd_some h
          refine u_callV (n := 1) C w hw (hP _ _ (isn_f rfl rfl (by decide))) rfl rfl rfl (c_X4_emit l D K b0 sa _ L _ ad P hP S20 hw hn 2009 v24 S25 h26) gw_850 gw_847 gw_848 gw_849 gw_5 ⟨by decide, by decide, by decide +kernel⟩ rfl rfl ⟨by dsimp only; omega, by dsimp only; omega⟩ rfl hl.1 rfl (Nat.le_of_ble_eq_true rfl) dX4_condition_30 ⟨Nat.le_of_ble_eq_true rfl, Nat.le_of_ble_eq_true rfl⟩ (fun v9 u H locs hp w => ?_)
          obtain ⟨f2, rfl, rfl, hw, hn, hk1⟩ := hp
          have hk := hk.tr hk1
          generalize f2 = f at w hw hk
          exact J33 k6 hk6 a1 a3 S25 h f H locs w hw hn hk ls (lv_sub hl [0, 1, 3] rfl)
      · have h := bb_t h c22
        refine lv_iconst (v := 0) hx hb dX4_condition_20 (by decide) ?_
        exact t_zret C hr hlk w (by decide) ⟨_, so_v h, rfl, so_w h hw, so_n h hn, hk⟩ (by decide) (by decide) dX4_condition_21
  dsimp only [N_X4_condition] at h
  obtain ⟨f, ef⟩ : ∃ z, z = f0 := ⟨_, rfl⟩
  rw [← ef] at w hw
  have hk : Kp ad P L f0 f := by rw [ef]; exact Kp.rf
  obtain ⟨H, eH⟩ : ∃ z, z = s.heap := ⟨_, rfl⟩
  obtain ⟨locs, el⟩ : ∃ z : List Loc, z = [] := ⟨_, rfl⟩
  rw [← eH, ← el] at w ⊢
  refine lv_iconst (v := 0) hx hb dX4_condition_0 (by decide) ?_
  refine lv_istore_n (lv' := [(1, .int 0), (0, .ref (ad 17 0))]) hx hb dX4_condition_1 rfl hl (by decide) rfl (fun ls hl => ?_)
  refine lv_iconst (v := 0) hx hb dX4_condition_2 (by decide) ?_
  refine lv_istore_n (lv' := [(2, .int 0), (1, .int 0), (0, .ref (ad 17 0))]) hx hb dX4_condition_3 rfl hl (by decide) rfl (fun ls hl => ?_)
  refine lv_iconst (v := 0) hx hb dX4_condition_4 (by decide) ?_
  refine lv_istore_n (lv' := [(3, .int 0), (2, .int 0), (1, .int 0), (0, .ref (ad 17 0))]) hx hb dX4_condition_5 rfl hl (by decide) rfl (fun ls hl => ?_)
  exact J6  fuel 0 0 0 S0 h f H locs w hw hn hk ls (lv_sub hl [3, 2, 1, 0] rfl)
theorem dX4_claim_0 : decode cX4_claim 0 = .ok (.aload_n 0, 1) := by decide +kernel
theorem dX4_claim_1 : decode cX4_claim 1 = .ok (.invokevirtual 54, 3) := by decide +kernel
theorem dX4_claim_4 : decode cX4_claim 4 = .ok (.sipush 266, 3) := by decide +kernel
theorem dX4_claim_7 : decode cX4_claim 7 = .ok (.if_icmp .ne 8, 3) := by decide +kernel
theorem dX4_claim_10 : decode cX4_claim 10 = .ok (.aload_n 0, 1) := by decide +kernel
theorem dX4_claim_11 : decode cX4_claim 11 = .ok (.invokevirtual 166, 3) := by decide +kernel
theorem dX4_claim_14 : decode cX4_claim 14 = .ok (.ireturn, 1) := by decide +kernel
theorem dX4_claim_15 : decode cX4_claim 15 = .ok (.aload_n 0, 1) := by decide +kernel
theorem dX4_claim_16 : decode cX4_claim 16 = .ok (.invokevirtual 54, 3) := by decide +kernel
theorem dX4_claim_19 : decode cX4_claim 19 = .ok (.bipush 91, 2) := by decide +kernel
theorem dX4_claim_21 : decode cX4_claim 21 = .ok (.if_icmp .ne 34, 3) := by decide +kernel
theorem dX4_claim_24 : decode cX4_claim 24 = .ok (.aload_n 0, 1) := by decide +kernel
theorem dX4_claim_25 : decode cX4_claim 25 = .ok (.bipush 91, 2) := by decide +kernel
theorem dX4_claim_27 : decode cX4_claim 27 = .ok (.invokevirtual 169, 3) := by decide +kernel
theorem dX4_claim_30 : decode cX4_claim 30 = .ok (.ifCond .eq 23, 3) := by decide +kernel
theorem dX4_claim_33 : decode cX4_claim 33 = .ok (.aload_n 0, 1) := by decide +kernel
theorem dX4_claim_34 : decode cX4_claim 34 = .ok (.invokevirtual 62, 3) := by decide +kernel
theorem dX4_claim_37 : decode cX4_claim 37 = .ok (.ifCond .eq 16, 3) := by decide +kernel
theorem dX4_claim_40 : decode cX4_claim 40 = .ok (.aload_n 0, 1) := by decide +kernel
theorem dX4_claim_41 : decode cX4_claim 41 = .ok (.bipush 93, 2) := by decide +kernel
theorem dX4_claim_43 : decode cX4_claim 43 = .ok (.invokevirtual 172, 3) := by decide +kernel
theorem dX4_claim_46 : decode cX4_claim 46 = .ok (.ifCond .eq 7, 3) := by decide +kernel
theorem dX4_claim_49 : decode cX4_claim 49 = .ok (.iconst 1, 1) := by decide +kernel
theorem dX4_claim_50 : decode cX4_claim 50 = .ok (.goto 4, 3) := by decide +kernel
theorem dX4_claim_53 : decode cX4_claim 53 = .ok (.iconst 0, 1) := by decide +kernel
theorem dX4_claim_54 : decode cX4_claim 54 = .ok (.ireturn, 1) := by decide +kernel
theorem dX4_claim_55 : decode cX4_claim 55 = .ok (.aload_n 0, 1) := by decide +kernel
theorem dX4_claim_56 : decode cX4_claim 56 = .ok (.invokevirtual 156, 3) := by decide +kernel
theorem dX4_claim_59 : decode cX4_claim 59 = .ok (.ifCond .ne 5, 3) := by decide +kernel
theorem dX4_claim_62 : decode cX4_claim 62 = .ok (.iconst 0, 1) := by decide +kernel
theorem dX4_claim_63 : decode cX4_claim 63 = .ok (.ireturn, 1) := by decide +kernel
theorem dX4_claim_64 : decode cX4_claim 64 = .ok (.aload_n 0, 1) := by decide +kernel
theorem dX4_claim_65 : decode cX4_claim 65 = .ok (.invokevirtual 175, 3) := by decide +kernel
theorem dX4_claim_68 : decode cX4_claim 68 = .ok (.istore_n 1, 1) := by decide +kernel
theorem dX4_claim_69 : decode cX4_claim 69 = .ok (.iload_n 1, 1) := by decide +kernel
theorem dX4_claim_70 : decode cX4_claim 70 = .ok (.iconst (-1), 1) := by decide +kernel
theorem dX4_claim_71 : decode cX4_claim 71 = .ok (.if_icmp .ne 9, 3) := by decide +kernel
theorem dX4_claim_74 : decode cX4_claim 74 = .ok (.aload_n 0, 1) := by decide +kernel
theorem dX4_claim_75 : decode cX4_claim 75 = .ok (.iconst 1, 1) := by decide +kernel
theorem dX4_claim_76 : decode cX4_claim 76 = .ok (.invokevirtual 69, 3) := by decide +kernel
theorem dX4_claim_79 : decode cX4_claim 79 = .ok (.ireturn, 1) := by decide +kernel
theorem dX4_claim_80 : decode cX4_claim 80 = .ok (.aload_n 0, 1) := by decide +kernel
theorem dX4_claim_81 : decode cX4_claim 81 = .ok (.dup, 1) := by decide +kernel
theorem dX4_claim_82 : decode cX4_claim 82 = .ok (.getfield 25, 3) := by decide +kernel
theorem dX4_claim_85 : decode cX4_claim 85 = .ok (.iconst 1, 1) := by decide +kernel
theorem dX4_claim_86 : decode cX4_claim 86 = .ok (.iadd, 1) := by decide +kernel
theorem dX4_claim_87 : decode cX4_claim 87 = .ok (.putfield 25, 3) := by decide +kernel
theorem dX4_claim_90 : decode cX4_claim 90 = .ok (.aload_n 0, 1) := by decide +kernel
theorem dX4_claim_91 : decode cX4_claim 91 = .ok (.invokevirtual 156, 3) := by decide +kernel
theorem dX4_claim_94 : decode cX4_claim 94 = .ok (.ifCond .ne 5, 3) := by decide +kernel
theorem dX4_claim_97 : decode cX4_claim 97 = .ok (.iconst 0, 1) := by decide +kernel
theorem dX4_claim_98 : decode cX4_claim 98 = .ok (.ireturn, 1) := by decide +kernel
theorem dX4_claim_99 : decode cX4_claim 99 = .ok (.aload_n 0, 1) := by decide +kernel
theorem dX4_claim_100 : decode cX4_claim 100 = .ok (.iload_n 1, 1) := by decide +kernel
theorem dX4_claim_101 : decode cX4_claim 101 = .ok (.invokevirtual 159, 3) := by decide +kernel
theorem dX4_claim_104 : decode cX4_claim 104 = .ok (.iconst 1, 1) := by decide +kernel
theorem dX4_claim_105 : decode cX4_claim 105 = .ok (.ireturn, 1) := by decide +kernel
noncomputable def N_X4_claim (R : Nat → Int32 → fS → Option (Int32 × fS))  (S0 : fS) : Option (Int32 × fS) := bd (F_X4_here  S0) (fun v1 S2 => bb (v1 = (266 : Int32)) (bd (R 2 0 S2) (fun v43 S44 => gd (v43 = 0 ∨ v43 = 1) (some (v43, S44)))) (bd (F_X4_here  S2) (fun v5 S6 => bb (v5 = (91 : Int32)) (bd (F_X4_opened 91 S6) (fun v31 S32 => bb (v31 = (0 : Int32)) (some (0, S32)) (bd (R 0 0 S32) (fun v35 S36 => bb (v35 = (0 : Int32)) (some (0, S36)) (bd (F_X4_closed 93 S36) (fun v39 S40 => bb (v39 = (0 : Int32)) (some (0, S40)) (some (1, S40)))))))) (bd (R 3 0 S6) (fun v9 S10 => bb (v9 = (0 : Int32)) (some (0, S10)) (bd (F_X4_comparison  S10) (fun v13 S14 => bb (v13 = ((-1) : Int32)) (bd (F_X4_fail 1 S14) (fun v27 S28 => gd (v27 = 0 ∨ v27 = 1) (some (v27, S28)))) (iv (ge S14 17 0 4) (fun x17 => iv (x17 + (1 : Int32)) (fun x18 => sv (pu S14 17 0 4 x18) (fun S19 => bd (R 3 0 S19) (fun v20 S21 => bb (v20 = (0 : Int32)) (some (0, S21)) (bd (F_X4_emit v13 S21) (fun v24 S25 => some (1, S25)))))))))))))))
set_option maxHeartbeats 4000000 in
set_option maxRecDepth 100000 in
theorem n_X4_claim (l : Launch) (D : va_G) (K : Nat → ClassId) (b0 : Nat) (sa : sT) (ad : Nat → Nat → Nat) {n : Nat × Nat} (P : Nat → Nat → Prop) (hP : ∀ a i : Nat, isn n a i → P a i) (R : Nat → Int32 → fS → Option (Int32 × fS)) (d : Nat) (hR0 : ∀ (sz : Nat) (L : List Nat) (f0 : Nat → va_E) (S0 : fS) (hw : PW K ad P S0 L f0) (hn : S0.2.2.1 = n) (v : Int32) (S1 : fS) (h : R 0 0 S0 = some (v, S1)), Met l yX4_condition (.code yX4_condition cX4_condition 4 (some .boolean) :: gt) { frames := 4 + d, cells := 0, slots := 0, locals := 62 + 40 * d } (va_Pc [.ref (ad 17 0)] (hPre D K b0 sa sz L f0)) (hQ D K b0 (fun v9 u9 => ∃ f2 : Nat → va_E, v9 = some (.int v) ∧ u9 = lU L f2 ∧ PW K ad P S1 L f2 ∧ S1.2.2.1 = n ∧ Kp ad P L f0 f2)) 0 0 (fun q => b0 ≤ q)) (hR1 : ∀ (sz : Nat) (L : List Nat) (f0 : Nat → va_E) (S0 : fS) (hw : PW K ad P S0 L f0) (hn : S0.2.2.1 = n) (v : Int32) (S1 : fS) (h : R 1 0 S0 = some (v, S1)), Met l yX4_claim (.code yX4_claim cX4_claim 2 (some .boolean) :: gt) { frames := 4 + d, cells := 0, slots := 0, locals := 62 + 40 * d } (va_Pc [.ref (ad 17 0)] (hPre D K b0 sa sz L f0)) (hQ D K b0 (fun v9 u9 => ∃ f2 : Nat → va_E, v9 = some (.int v) ∧ u9 = lU L f2 ∧ PW K ad P S1 L f2 ∧ S1.2.2.1 = n ∧ Kp ad P L f0 f2)) 0 0 (fun q => b0 ≤ q)) (hR2 : ∀ (sz : Nat) (L : List Nat) (f0 : Nat → va_E) (S0 : fS) (hw : PW K ad P S0 L f0) (hn : S0.2.2.1 = n) (v : Int32) (S1 : fS) (h : R 2 0 S0 = some (v, S1)), Met l yX4_denial (.code yX4_denial cX4_denial 1 (some .boolean) :: gt) { frames := 4 + d, cells := 0, slots := 0, locals := 62 + 40 * d } (va_Pc [.ref (ad 17 0)] (hPre D K b0 sa sz L f0)) (hQ D K b0 (fun v9 u9 => ∃ f2 : Nat → va_E, v9 = some (.int v) ∧ u9 = lU L f2 ∧ PW K ad P S1 L f2 ∧ S1.2.2.1 = n ∧ Kp ad P L f0 f2)) 0 0 (fun q => b0 ≤ q)) (hR3 : ∀ (sz : Nat) (L : List Nat) (f0 : Nat → va_E) (S0 : fS) (hw : PW K ad P S0 L f0) (hn : S0.2.2.1 = n) (v : Int32) (S1 : fS) (h : R 3 0 S0 = some (v, S1)), Met l yX4_sum (.code yX4_sum cX4_sum 4 (some .boolean) :: gt) { frames := 4 + d, cells := 0, slots := 0, locals := 62 + 40 * d } (va_Pc [.ref (ad 17 0)] (hPre D K b0 sa sz L f0)) (hQ D K b0 (fun v9 u9 => ∃ f2 : Nat → va_E, v9 = some (.int v) ∧ u9 = lU L f2 ∧ PW K ad P S1 L f2 ∧ S1.2.2.1 = n ∧ Kp ad P L f0 f2)) 0 0 (fun q => b0 ≤ q)) (hR4 : ∀ (sz : Nat) (L : List Nat) (f0 : Nat → va_E) (S0 : fS) (hw : PW K ad P S0 L f0) (hn : S0.2.2.1 = n) (v : Int32) (S1 : fS) (h : R 4 0 S0 = some (v, S1)), Met l yX4_unit (.code yX4_unit cX4_unit 2 (some .boolean) :: gt) { frames := 4 + d, cells := 0, slots := 0, locals := 62 + 40 * d } (va_Pc [.ref (ad 17 0)] (hPre D K b0 sa sz L f0)) (hQ D K b0 (fun v9 u9 => ∃ f2 : Nat → va_E, v9 = some (.int v) ∧ u9 = lU L f2 ∧ PW K ad P S1 L f2 ∧ S1.2.2.1 = n ∧ Kp ad P L f0 f2)) 0 0 (fun q => b0 ≤ q)) (hR5 : ∀ (sz : Nat) (L : List Nat) (f0 : Nat → va_E) (S0 : fS) (hw : PW K ad P S0 L f0) (hn : S0.2.2.1 = n) (p1 : Int32) (v : Int32) (S1 : fS) (h : R 5 p1 S0 = some (v, S1)), Met l yX4_choice (.code yX4_choice cX4_choice 2 (some .boolean) :: gt) { frames := 4 + d, cells := 0, slots := 0, locals := 62 + 40 * d } (va_Pc [.ref (ad 17 0), .int p1] (hPre D K b0 sa sz L f0)) (hQ D K b0 (fun v9 u9 => ∃ f2 : Nat → va_E, v9 = some (.int v) ∧ u9 = lU L f2 ∧ PW K ad P S1 L f2 ∧ S1.2.2.1 = n ∧ Kp ad P L f0 f2)) 0 0 (fun q => b0 ≤ q)) (sz : Nat) (L : List Nat) (f0 : Nat → va_E) (S0 : fS) (hw : PW K ad P S0 L f0) (hn : S0.2.2.1 = n)  (v : Int32) (S1 : fS) (h : N_X4_claim R  S0 = some (v, S1)) : Met l yX4_claim (.code yX4_claim cX4_claim 2 (some .boolean) :: gt) { frames := 4 + (d + 1), cells := 0, slots := 0, locals := 62 + 40 * (d + 1) } (va_Pc [.ref (ad 17 0)] (hPre D K b0 sa sz L f0)) (hQ D K b0 (fun v9 u9 => ∃ f2 : Nat → va_E, v9 = some (.int v) ∧ u9 = lU L f2 ∧ PW K ad P S1 L f2 ∧ S1.2.2.1 = n ∧ Kp ad P L f0 f2)) 0 0 (fun q => b0 ≤ q) := by
  refine t_of (own := RX4) (by decide) rfl ?_ (Nat.le_of_ble_eq_true rfl)
  intro p e s m below meth c ls C w hsz hr hlk hnm hl
  have hx := C.1
  have hb := C.2.1
  have hl : lv_has ls 2 [(0, .ref (ad 17 0))] := hl
  dsimp only [N_X4_claim] at h
  obtain ⟨f, ef⟩ : ∃ z, z = f0 := ⟨_, rfl⟩
  rw [← ef] at w hw
  have hk : Kp ad P L f0 f := by rw [ef]; exact Kp.rf
  obtain ⟨H, eH⟩ : ∃ z, z = s.heap := ⟨_, rfl⟩
  obtain ⟨locs, el⟩ : ∃ z : List Loc, z = [] := ⟨_, rfl⟩
  rw [← eH, ← el] at w ⊢
  refine lv_aload_n hx hb dX4_claim_0 rfl (lv_at hl 0 rfl) ?_
  obtain ⟨v1, S2, h3, h⟩ := bd_some h
  refine u_callV (n := 0) C w hw (hP _ _ (isn_f rfl rfl (by decide))) rfl rfl rfl (c_X4_here l D K b0 sa _ L _ ad P hP S0 hw hn  v1 S2 h3) gw_834 gw_831 gw_832 gw_833 gw_5 ⟨by decide, by decide, by decide +kernel⟩ rfl rfl ⟨by dsimp only; omega, by dsimp only; omega⟩ rfl hl.1 rfl (Nat.le_of_ble_eq_true rfl) dX4_claim_1 ⟨Nat.le_of_ble_eq_true rfl, Nat.le_of_ble_eq_true rfl⟩ (fun v9 u H locs hp w => ?_)
  obtain ⟨f2, rfl, rfl, hw, hn, hk1⟩ := hp
  have hk := hk.tr hk1
  generalize f2 = f at w hw hk
  refine lv_sipush (v := 266) hx hb dX4_claim_4 (by decide) ?_
  refine lv_icmp_ne (tgt := 15) hx hb dX4_claim_7 (by decide) (fun c4 => ?_) (fun c4 => ?_)
  · have h := bb_f h c4
    refine lv_aload_n hx hb dX4_claim_15 rfl (lv_at hl 0 rfl) ?_
    obtain ⟨v5, S6, h7, h⟩ := bd_some h
    refine u_callV (n := 0) C w hw (hP _ _ (isn_f rfl rfl (by decide))) rfl rfl rfl (c_X4_here l D K b0 sa _ L _ ad P hP S2 hw hn  v5 S6 h7) gw_834 gw_831 gw_832 gw_833 gw_5 ⟨by decide, by decide, by decide +kernel⟩ rfl rfl ⟨by dsimp only; omega, by dsimp only; omega⟩ rfl hl.1 rfl (Nat.le_of_ble_eq_true rfl) dX4_claim_16 ⟨Nat.le_of_ble_eq_true rfl, Nat.le_of_ble_eq_true rfl⟩ (fun v9 u H locs hp w => ?_)
    obtain ⟨f2, rfl, rfl, hw, hn, hk1⟩ := hp
    have hk := hk.tr hk1
    generalize f2 = f at w hw hk
    refine lv_bipush (v := 91) hx hb dX4_claim_19 (by decide) ?_
    refine lv_icmp_ne (tgt := 55) hx hb dX4_claim_21 (by decide) (fun c8 => ?_) (fun c8 => ?_)
    · have h := bb_f h c8
      refine lv_aload_n hx hb dX4_claim_55 rfl (lv_at hl 0 rfl) ?_
      obtain ⟨v9, S10, h11, h⟩ := bd_some h
      refine u_callV (n := 0) C w hw (hP _ _ (isn_f rfl rfl (by decide))) rfl rfl rfl (hR3 _ L _ S6 hw hn v9 S10 h11) gw_862 gw_859 gw_861 gs_11 gw_5 ⟨by decide, by decide, by decide +kernel⟩ rfl rfl ⟨by dsimp only; omega, by dsimp only; omega⟩ rfl hl.1 rfl (Nat.le_of_ble_eq_true rfl) dX4_claim_56 ⟨Nat.le_of_ble_eq_true rfl, Nat.le_of_ble_eq_true rfl⟩ (fun v9 u H locs hp w => ?_)
      obtain ⟨f2, rfl, rfl, hw, hn, hk1⟩ := hp
      have hk := hk.tr hk1
      generalize f2 = f at w hw hk
      refine lv_if_ne (tgt := 64) hx hb dX4_claim_59 (by decide) (fun c12 => ?_) (fun c12 => ?_)
      · have h := bb_f h c12
        refine lv_aload_n hx hb dX4_claim_64 rfl (lv_at hl 0 rfl) ?_
        obtain ⟨v13, S14, h15, h⟩ := bd_some h
        refine u_callV (n := 0) C w hw (hP _ _ (isn_f rfl rfl (by decide))) rfl rfl rfl (c_X4_comparison l D K b0 sa _ L _ ad P hP S10 hw hn  v13 S14 h15) gw_878 gw_875 gw_876 gw_877 gw_5 ⟨by decide, by decide, by decide +kernel⟩ rfl rfl ⟨by dsimp only; omega, by dsimp only; omega⟩ rfl hl.1 rfl (Nat.le_of_ble_eq_true rfl) dX4_claim_65 ⟨Nat.le_of_ble_eq_true rfl, Nat.le_of_ble_eq_true rfl⟩ (fun v9 u H locs hp w => ?_)
        obtain ⟨f2, rfl, rfl, hw, hn, hk1⟩ := hp
        have hk := hk.tr hk1
        generalize f2 = f at w hw hk
        refine lv_istore_n (lv' := [(1, .int v13), (0, .ref (ad 17 0))]) hx hb dX4_claim_68 rfl hl (by decide) rfl (fun ls hl => ?_)
        refine lv_iload_n hx hb dX4_claim_69 rfl (lv_at hl 0 rfl) ?_
        refine lv_iconst (v := (-1)) hx hb dX4_claim_70 (by decide) ?_
        refine lv_icmp_ne (tgt := 80) hx hb dX4_claim_71 (by decide) (fun c16 => ?_) (fun c16 => ?_)
        · have h := bb_f h c16
          refine lv_aload_n hx hb dX4_claim_80 rfl (lv_at hl 1 rfl) ?_
          refine lv_dup hx hb dX4_claim_81 rfl ?_
          refine u_geti C w hw (hP _ _ (isn_f rfl rfl (by decide))) rfl (N := 12) rfl rfl cin_4 4 (by decide) rfl gw_162 dX4_claim_82 ?_
          refine u_iv h (fun x17 h => ?_)
          refine lv_iconst (v := 1) hx hb dX4_claim_85 (by decide) ?_
          refine lv_iadd hx hb dX4_claim_86 ?_
          refine u_iv h (fun x18 h => ?_)
          refine u_puti C w hw (hP _ _ (isn_f rfl rfl (by decide))) rfl (N := 12) rfl rfl cin_4 tyX4 tyX4_ok nmX4 4 (by decide) rfl rfl rfl rfl gw_162 dX4_claim_87 (fun f H locs w hw hk1 => ?_)
          have hk := hk.tr hk1
          refine u_sv h hw hn (fun S19 h hw hn => ?_)
          refine lv_aload_n hx hb dX4_claim_90 rfl (lv_at hl 1 rfl) ?_
          obtain ⟨v20, S21, h22, h⟩ := bd_some h
          refine u_callV (n := 0) C w hw (hP _ _ (isn_f rfl rfl (by decide))) rfl rfl rfl (hR3 _ L _ S19 hw hn v20 S21 h22) gw_862 gw_859 gw_861 gs_11 gw_5 ⟨by decide, by decide, by decide +kernel⟩ rfl rfl ⟨by dsimp only; omega, by dsimp only; omega⟩ rfl hl.1 rfl (Nat.le_of_ble_eq_true rfl) dX4_claim_91 ⟨Nat.le_of_ble_eq_true rfl, Nat.le_of_ble_eq_true rfl⟩ (fun v9 u H locs hp w => ?_)
          obtain ⟨f2, rfl, rfl, hw, hn, hk1⟩ := hp
          have hk := hk.tr hk1
          generalize f2 = f at w hw hk
          refine lv_if_ne (tgt := 99) hx hb dX4_claim_94 (by decide) (fun c23 => ?_) (fun c23 => ?_)
          · have h := bb_f h c23
            refine lv_aload_n hx hb dX4_claim_99 rfl (lv_at hl 1 rfl) ?_
            refine lv_iload_n hx hb dX4_claim_100 rfl (lv_at hl 0 rfl) ?_
            obtain ⟨v24, S25, h26, h⟩ := bd_some h
            refine u_callV (n := 1) C w hw (hP _ _ (isn_f rfl rfl (by decide))) rfl rfl rfl (c_X4_emit l D K b0 sa _ L _ ad P hP S21 hw hn v13 v24 S25 h26) gw_850 gw_847 gw_848 gw_849 gw_5 ⟨by decide, by decide, by decide +kernel⟩ rfl rfl ⟨by dsimp only; omega, by dsimp only; omega⟩ rfl hl.1 rfl (Nat.le_of_ble_eq_true rfl) dX4_claim_101 ⟨Nat.le_of_ble_eq_true rfl, Nat.le_of_ble_eq_true rfl⟩ (fun v9 u H locs hp w => ?_)
            obtain ⟨f2, rfl, rfl, hw, hn, hk1⟩ := hp
            have hk := hk.tr hk1
            generalize f2 = f at w hw hk
            refine lv_iconst (v := 1) hx hb dX4_claim_104 (by decide) ?_
            exact t_zret C hr hlk w (by decide) ⟨_, so_v h, rfl, so_w h hw, so_n h hn, hk⟩ (by decide) (by decide) dX4_claim_105
          · have h := bb_t h c23
            refine lv_iconst (v := 0) hx hb dX4_claim_97 (by decide) ?_
            exact t_zret C hr hlk w (by decide) ⟨_, so_v h, rfl, so_w h hw, so_n h hn, hk⟩ (by decide) (by decide) dX4_claim_98
        · have h := bb_t h c16
          refine lv_aload_n hx hb dX4_claim_74 rfl (lv_at hl 1 rfl) ?_
          refine lv_iconst (v := 1) hx hb dX4_claim_75 (by decide) ?_
          obtain ⟨v27, S28, h29, h⟩ := bd_some h
          refine u_callV (n := 1) C w hw (hP _ _ (isn_f rfl rfl (by decide))) rfl rfl rfl (c_X4_fail l D K b0 sa _ L _ ad P hP S14 hw hn 1 v27 S28 h29) gw_846 gw_843 gw_844 gw_845 gw_5 ⟨by decide, by decide, by decide +kernel⟩ rfl rfl ⟨by dsimp only; omega, by dsimp only; omega⟩ rfl hl.1 rfl (Nat.le_of_ble_eq_true rfl) dX4_claim_76 ⟨Nat.le_of_ble_eq_true rfl, Nat.le_of_ble_eq_true rfl⟩ (fun v9 u H locs hp w => ?_)
          obtain ⟨f2, rfl, rfl, hw, hn, hk1⟩ := hp
          have hk := hk.tr hk1
          generalize f2 = f at w hw hk
          obtain ⟨g30, h⟩ := gd_some h
          exact t_zret C hr hlk w (narb g30) ⟨_, so_v h, rfl, so_w h hw, so_n h hn, hk⟩ (by decide) (by decide) dX4_claim_79
      · have h := bb_t h c12
        refine lv_iconst (v := 0) hx hb dX4_claim_62 (by decide) ?_
        exact t_zret C hr hlk w (by decide) ⟨_, so_v h, rfl, so_w h hw, so_n h hn, hk⟩ (by decide) (by decide) dX4_claim_63
    · have h := bb_t h c8
      refine lv_aload_n hx hb dX4_claim_24 rfl (lv_at hl 0 rfl) ?_
      refine lv_bipush (v := 91) hx hb dX4_claim_25 (by decide) ?_
      obtain ⟨v31, S32, h33, h⟩ := bd_some h
      refine u_callV (n := 1) C w hw (hP _ _ (isn_f rfl rfl (by decide))) rfl rfl rfl (c_X4_opened l D K b0 sa _ L _ ad P hP S6 hw hn 91 v31 S32 h33) gw_842 gw_839 gw_840 gw_841 gw_5 ⟨by decide, by decide, by decide +kernel⟩ rfl rfl ⟨by dsimp only; omega, by dsimp only; omega⟩ rfl hl.1 rfl (Nat.le_of_ble_eq_true rfl) dX4_claim_27 ⟨Nat.le_of_ble_eq_true rfl, Nat.le_of_ble_eq_true rfl⟩ (fun v9 u H locs hp w => ?_)
      obtain ⟨f2, rfl, rfl, hw, hn, hk1⟩ := hp
      have hk := hk.tr hk1
      generalize f2 = f at w hw hk
      refine lv_if_eq (tgt := 53) hx hb dX4_claim_30 (by decide) (fun c34 => ?_) (fun c34 => ?_)
      · have h := bb_t h c34
        refine lv_iconst (v := 0) hx hb dX4_claim_53 (by decide) ?_
        exact t_zret C hr hlk w (by decide) ⟨_, so_v h, rfl, so_w h hw, so_n h hn, hk⟩ (by decide) (by decide) dX4_claim_54
      · have h := bb_f h c34
        refine lv_aload_n hx hb dX4_claim_33 rfl (lv_at hl 0 rfl) ?_
        obtain ⟨v35, S36, h37, h⟩ := bd_some h
        refine u_callV (n := 0) C w hw (hP _ _ (isn_f rfl rfl (by decide))) rfl rfl rfl (hR0 _ L _ S32 hw hn v35 S36 h37) gw_826 gw_823 gw_825 gs_8 gw_5 ⟨by decide, by decide, by decide +kernel⟩ rfl rfl ⟨by dsimp only; omega, by dsimp only; omega⟩ rfl hl.1 rfl (Nat.le_of_ble_eq_true rfl) dX4_claim_34 ⟨Nat.le_of_ble_eq_true rfl, Nat.le_of_ble_eq_true rfl⟩ (fun v9 u H locs hp w => ?_)
        obtain ⟨f2, rfl, rfl, hw, hn, hk1⟩ := hp
        have hk := hk.tr hk1
        generalize f2 = f at w hw hk
        refine lv_if_eq (tgt := 53) hx hb dX4_claim_37 (by decide) (fun c38 => ?_) (fun c38 => ?_)
        · have h := bb_t h c38
          refine lv_iconst (v := 0) hx hb dX4_claim_53 (by decide) ?_
          exact t_zret C hr hlk w (by decide) ⟨_, so_v h, rfl, so_w h hw, so_n h hn, hk⟩ (by decide) (by decide) dX4_claim_54
        · have h := bb_f h c38
          refine lv_aload_n hx hb dX4_claim_40 rfl (lv_at hl 0 rfl) ?_
          refine lv_bipush (v := 93) hx hb dX4_claim_41 (by decide) ?_
          obtain ⟨v39, S40, h41, h⟩ := bd_some h
          refine u_callV (n := 1) C w hw (hP _ _ (isn_f rfl rfl (by decide))) rfl rfl rfl (c_X4_closed l D K b0 sa _ L _ ad P hP S36 hw hn 93 v39 S40 h41) gw_854 gw_851 gw_852 gw_853 gw_5 ⟨by decide, by decide, by decide +kernel⟩ rfl rfl ⟨by dsimp only; omega, by dsimp only; omega⟩ rfl hl.1 rfl (Nat.le_of_ble_eq_true rfl) dX4_claim_43 ⟨Nat.le_of_ble_eq_true rfl, Nat.le_of_ble_eq_true rfl⟩ (fun v9 u H locs hp w => ?_)
          obtain ⟨f2, rfl, rfl, hw, hn, hk1⟩ := hp
          have hk := hk.tr hk1
          generalize f2 = f at w hw hk
          refine lv_if_eq (tgt := 53) hx hb dX4_claim_46 (by decide) (fun c42 => ?_) (fun c42 => ?_)
          · have h := bb_t h c42
            refine lv_iconst (v := 0) hx hb dX4_claim_53 (by decide) ?_
            exact t_zret C hr hlk w (by decide) ⟨_, so_v h, rfl, so_w h hw, so_n h hn, hk⟩ (by decide) (by decide) dX4_claim_54
          · have h := bb_f h c42
            refine lv_iconst (v := 1) hx hb dX4_claim_49 (by decide) ?_
            refine lv_goto (tgt := 54) hx hb dX4_claim_50 (by decide) ?_
            exact t_zret C hr hlk w (by decide) ⟨_, so_v h, rfl, so_w h hw, so_n h hn, hk⟩ (by decide) (by decide) dX4_claim_54
  · have h := bb_t h c4
    refine lv_aload_n hx hb dX4_claim_10 rfl (lv_at hl 0 rfl) ?_
    obtain ⟨v43, S44, h45, h⟩ := bd_some h
    refine u_callV (n := 0) C w hw (hP _ _ (isn_f rfl rfl (by decide))) rfl rfl rfl (hR2 _ L _ S2 hw hn v43 S44 h45) gw_838 gw_835 gw_837 gs_10 gw_5 ⟨by decide, by decide, by decide +kernel⟩ rfl rfl ⟨by dsimp only; omega, by dsimp only; omega⟩ rfl hl.1 rfl (Nat.le_of_ble_eq_true rfl) dX4_claim_11 ⟨Nat.le_of_ble_eq_true rfl, Nat.le_of_ble_eq_true rfl⟩ (fun v9 u H locs hp w => ?_)
    obtain ⟨f2, rfl, rfl, hw, hn, hk1⟩ := hp
    have hk := hk.tr hk1
    generalize f2 = f at w hw hk
    obtain ⟨g46, h⟩ := gd_some h
    exact t_zret C hr hlk w (narb g46) ⟨_, so_v h, rfl, so_w h hw, so_n h hn, hk⟩ (by decide) (by decide) dX4_claim_14
theorem dX4_denial_0 : decode cX4_denial 0 = .ok (.aload_n 0, 1) := by decide +kernel
theorem dX4_denial_1 : decode cX4_denial 1 = .ok (.sipush 266, 3) := by decide +kernel
theorem dX4_denial_4 : decode cX4_denial 4 = .ok (.invokevirtual 169, 3) := by decide +kernel
theorem dX4_denial_7 : decode cX4_denial 7 = .ok (.ifCond .eq 10, 3) := by decide +kernel
theorem dX4_denial_10 : decode cX4_denial 10 = .ok (.aload_n 0, 1) := by decide +kernel
theorem dX4_denial_11 : decode cX4_denial 11 = .ok (.invokevirtual 163, 3) := by decide +kernel
theorem dX4_denial_14 : decode cX4_denial 14 = .ok (.ifCond .ne 5, 3) := by decide +kernel
theorem dX4_denial_17 : decode cX4_denial 17 = .ok (.iconst 0, 1) := by decide +kernel
theorem dX4_denial_18 : decode cX4_denial 18 = .ok (.ireturn, 1) := by decide +kernel
theorem dX4_denial_19 : decode cX4_denial 19 = .ok (.aload_n 0, 1) := by decide +kernel
theorem dX4_denial_20 : decode cX4_denial 20 = .ok (.dup, 1) := by decide +kernel
theorem dX4_denial_21 : decode cX4_denial 21 = .ok (.getfield 37, 3) := by decide +kernel
theorem dX4_denial_24 : decode cX4_denial 24 = .ok (.iconst 1, 1) := by decide +kernel
theorem dX4_denial_25 : decode cX4_denial 25 = .ok (.isub, 1) := by decide +kernel
theorem dX4_denial_26 : decode cX4_denial 26 = .ok (.putfield 37, 3) := by decide +kernel
theorem dX4_denial_29 : decode cX4_denial 29 = .ok (.aload_n 0, 1) := by decide +kernel
theorem dX4_denial_30 : decode cX4_denial 30 = .ok (.sipush 2011, 3) := by decide +kernel
theorem dX4_denial_33 : decode cX4_denial 33 = .ok (.invokevirtual 159, 3) := by decide +kernel
theorem dX4_denial_36 : decode cX4_denial 36 = .ok (.iconst 1, 1) := by decide +kernel
theorem dX4_denial_37 : decode cX4_denial 37 = .ok (.ireturn, 1) := by decide +kernel
noncomputable def N_X4_denial (R : Nat → Int32 → fS → Option (Int32 × fS))  (S0 : fS) : Option (Int32 × fS) := bd (F_X4_opened 266 S0) (fun v1 S2 => bb (v1 = (0 : Int32)) (some (0, S2)) (bd (R 1 0 S2) (fun v5 S6 => bb (v5 = (0 : Int32)) (some (0, S6)) (iv (ge S6 17 0 8) (fun x9 => iv (x9 - (1 : Int32)) (fun x10 => sv (pu S6 17 0 8 x10) (fun S11 => bd (F_X4_emit 2011 S11) (fun v12 S13 => some (1, S13)))))))))
set_option maxHeartbeats 4000000 in
set_option maxRecDepth 100000 in
theorem n_X4_denial (l : Launch) (D : va_G) (K : Nat → ClassId) (b0 : Nat) (sa : sT) (ad : Nat → Nat → Nat) {n : Nat × Nat} (P : Nat → Nat → Prop) (hP : ∀ a i : Nat, isn n a i → P a i) (R : Nat → Int32 → fS → Option (Int32 × fS)) (d : Nat) (hR0 : ∀ (sz : Nat) (L : List Nat) (f0 : Nat → va_E) (S0 : fS) (hw : PW K ad P S0 L f0) (hn : S0.2.2.1 = n) (v : Int32) (S1 : fS) (h : R 0 0 S0 = some (v, S1)), Met l yX4_condition (.code yX4_condition cX4_condition 4 (some .boolean) :: gt) { frames := 4 + d, cells := 0, slots := 0, locals := 62 + 40 * d } (va_Pc [.ref (ad 17 0)] (hPre D K b0 sa sz L f0)) (hQ D K b0 (fun v9 u9 => ∃ f2 : Nat → va_E, v9 = some (.int v) ∧ u9 = lU L f2 ∧ PW K ad P S1 L f2 ∧ S1.2.2.1 = n ∧ Kp ad P L f0 f2)) 0 0 (fun q => b0 ≤ q)) (hR1 : ∀ (sz : Nat) (L : List Nat) (f0 : Nat → va_E) (S0 : fS) (hw : PW K ad P S0 L f0) (hn : S0.2.2.1 = n) (v : Int32) (S1 : fS) (h : R 1 0 S0 = some (v, S1)), Met l yX4_claim (.code yX4_claim cX4_claim 2 (some .boolean) :: gt) { frames := 4 + d, cells := 0, slots := 0, locals := 62 + 40 * d } (va_Pc [.ref (ad 17 0)] (hPre D K b0 sa sz L f0)) (hQ D K b0 (fun v9 u9 => ∃ f2 : Nat → va_E, v9 = some (.int v) ∧ u9 = lU L f2 ∧ PW K ad P S1 L f2 ∧ S1.2.2.1 = n ∧ Kp ad P L f0 f2)) 0 0 (fun q => b0 ≤ q)) (hR2 : ∀ (sz : Nat) (L : List Nat) (f0 : Nat → va_E) (S0 : fS) (hw : PW K ad P S0 L f0) (hn : S0.2.2.1 = n) (v : Int32) (S1 : fS) (h : R 2 0 S0 = some (v, S1)), Met l yX4_denial (.code yX4_denial cX4_denial 1 (some .boolean) :: gt) { frames := 4 + d, cells := 0, slots := 0, locals := 62 + 40 * d } (va_Pc [.ref (ad 17 0)] (hPre D K b0 sa sz L f0)) (hQ D K b0 (fun v9 u9 => ∃ f2 : Nat → va_E, v9 = some (.int v) ∧ u9 = lU L f2 ∧ PW K ad P S1 L f2 ∧ S1.2.2.1 = n ∧ Kp ad P L f0 f2)) 0 0 (fun q => b0 ≤ q)) (hR3 : ∀ (sz : Nat) (L : List Nat) (f0 : Nat → va_E) (S0 : fS) (hw : PW K ad P S0 L f0) (hn : S0.2.2.1 = n) (v : Int32) (S1 : fS) (h : R 3 0 S0 = some (v, S1)), Met l yX4_sum (.code yX4_sum cX4_sum 4 (some .boolean) :: gt) { frames := 4 + d, cells := 0, slots := 0, locals := 62 + 40 * d } (va_Pc [.ref (ad 17 0)] (hPre D K b0 sa sz L f0)) (hQ D K b0 (fun v9 u9 => ∃ f2 : Nat → va_E, v9 = some (.int v) ∧ u9 = lU L f2 ∧ PW K ad P S1 L f2 ∧ S1.2.2.1 = n ∧ Kp ad P L f0 f2)) 0 0 (fun q => b0 ≤ q)) (hR4 : ∀ (sz : Nat) (L : List Nat) (f0 : Nat → va_E) (S0 : fS) (hw : PW K ad P S0 L f0) (hn : S0.2.2.1 = n) (v : Int32) (S1 : fS) (h : R 4 0 S0 = some (v, S1)), Met l yX4_unit (.code yX4_unit cX4_unit 2 (some .boolean) :: gt) { frames := 4 + d, cells := 0, slots := 0, locals := 62 + 40 * d } (va_Pc [.ref (ad 17 0)] (hPre D K b0 sa sz L f0)) (hQ D K b0 (fun v9 u9 => ∃ f2 : Nat → va_E, v9 = some (.int v) ∧ u9 = lU L f2 ∧ PW K ad P S1 L f2 ∧ S1.2.2.1 = n ∧ Kp ad P L f0 f2)) 0 0 (fun q => b0 ≤ q)) (hR5 : ∀ (sz : Nat) (L : List Nat) (f0 : Nat → va_E) (S0 : fS) (hw : PW K ad P S0 L f0) (hn : S0.2.2.1 = n) (p1 : Int32) (v : Int32) (S1 : fS) (h : R 5 p1 S0 = some (v, S1)), Met l yX4_choice (.code yX4_choice cX4_choice 2 (some .boolean) :: gt) { frames := 4 + d, cells := 0, slots := 0, locals := 62 + 40 * d } (va_Pc [.ref (ad 17 0), .int p1] (hPre D K b0 sa sz L f0)) (hQ D K b0 (fun v9 u9 => ∃ f2 : Nat → va_E, v9 = some (.int v) ∧ u9 = lU L f2 ∧ PW K ad P S1 L f2 ∧ S1.2.2.1 = n ∧ Kp ad P L f0 f2)) 0 0 (fun q => b0 ≤ q)) (sz : Nat) (L : List Nat) (f0 : Nat → va_E) (S0 : fS) (hw : PW K ad P S0 L f0) (hn : S0.2.2.1 = n)  (v : Int32) (S1 : fS) (h : N_X4_denial R  S0 = some (v, S1)) : Met l yX4_denial (.code yX4_denial cX4_denial 1 (some .boolean) :: gt) { frames := 4 + (d + 1), cells := 0, slots := 0, locals := 62 + 40 * (d + 1) } (va_Pc [.ref (ad 17 0)] (hPre D K b0 sa sz L f0)) (hQ D K b0 (fun v9 u9 => ∃ f2 : Nat → va_E, v9 = some (.int v) ∧ u9 = lU L f2 ∧ PW K ad P S1 L f2 ∧ S1.2.2.1 = n ∧ Kp ad P L f0 f2)) 0 0 (fun q => b0 ≤ q) := by
  refine t_of (own := RX4) (by decide) rfl ?_ (Nat.le_of_ble_eq_true rfl)
  intro p e s m below meth c ls C w hsz hr hlk hnm hl
  have hx := C.1
  have hb := C.2.1
  have hl : lv_has ls 1 [(0, .ref (ad 17 0))] := hl
  dsimp only [N_X4_denial] at h
  obtain ⟨f, ef⟩ : ∃ z, z = f0 := ⟨_, rfl⟩
  rw [← ef] at w hw
  have hk : Kp ad P L f0 f := by rw [ef]; exact Kp.rf
  obtain ⟨H, eH⟩ : ∃ z, z = s.heap := ⟨_, rfl⟩
  obtain ⟨locs, el⟩ : ∃ z : List Loc, z = [] := ⟨_, rfl⟩
  rw [← eH, ← el] at w ⊢
  refine lv_aload_n hx hb dX4_denial_0 rfl (lv_at hl 0 rfl) ?_
  refine lv_sipush (v := 266) hx hb dX4_denial_1 (by decide) ?_
  obtain ⟨v1, S2, h3, h⟩ := bd_some h
  refine u_callV (n := 1) C w hw (hP _ _ (isn_f rfl rfl (by decide))) rfl rfl rfl (c_X4_opened l D K b0 sa _ L _ ad P hP S0 hw hn 266 v1 S2 h3) gw_842 gw_839 gw_840 gw_841 gw_5 ⟨by decide, by decide, by decide +kernel⟩ rfl rfl ⟨by dsimp only; omega, by dsimp only; omega⟩ rfl hl.1 rfl (Nat.le_of_ble_eq_true rfl) dX4_denial_4 ⟨Nat.le_of_ble_eq_true rfl, Nat.le_of_ble_eq_true rfl⟩ (fun v9 u H locs hp w => ?_)
  obtain ⟨f2, rfl, rfl, hw, hn, hk1⟩ := hp
  have hk := hk.tr hk1
  generalize f2 = f at w hw hk
  refine lv_if_eq (tgt := 17) hx hb dX4_denial_7 (by decide) (fun c4 => ?_) (fun c4 => ?_)
  · have h := bb_t h c4
    refine lv_iconst (v := 0) hx hb dX4_denial_17 (by decide) ?_
    exact t_zret C hr hlk w (by decide) ⟨_, so_v h, rfl, so_w h hw, so_n h hn, hk⟩ (by decide) (by decide) dX4_denial_18
  · have h := bb_f h c4
    refine lv_aload_n hx hb dX4_denial_10 rfl (lv_at hl 0 rfl) ?_
    obtain ⟨v5, S6, h7, h⟩ := bd_some h
    refine u_callV (n := 0) C w hw (hP _ _ (isn_f rfl rfl (by decide))) rfl rfl rfl (hR1 _ L _ S2 hw hn v5 S6 h7) gw_830 gw_827 gw_829 gs_9 gw_5 ⟨by decide, by decide, by decide +kernel⟩ rfl rfl ⟨by dsimp only; omega, by dsimp only; omega⟩ rfl hl.1 rfl (Nat.le_of_ble_eq_true rfl) dX4_denial_11 ⟨Nat.le_of_ble_eq_true rfl, Nat.le_of_ble_eq_true rfl⟩ (fun v9 u H locs hp w => ?_)
    obtain ⟨f2, rfl, rfl, hw, hn, hk1⟩ := hp
    have hk := hk.tr hk1
    generalize f2 = f at w hw hk
    refine lv_if_ne (tgt := 19) hx hb dX4_denial_14 (by decide) (fun c8 => ?_) (fun c8 => ?_)
    · have h := bb_f h c8
      refine lv_aload_n hx hb dX4_denial_19 rfl (lv_at hl 0 rfl) ?_
      refine lv_dup hx hb dX4_denial_20 rfl ?_
      refine u_geti C w hw (hP _ _ (isn_f rfl rfl (by decide))) rfl (N := 12) rfl rfl cin_4 8 (by decide) rfl gw_166 dX4_denial_21 ?_
      refine u_iv h (fun x9 h => ?_)
      refine lv_iconst (v := 1) hx hb dX4_denial_24 (by decide) ?_
      refine lv_isub hx hb dX4_denial_25 ?_
      refine u_iv h (fun x10 h => ?_)
      refine u_puti C w hw (hP _ _ (isn_f rfl rfl (by decide))) rfl (N := 12) rfl rfl cin_4 tyX4 tyX4_ok nmX4 8 (by decide) rfl rfl rfl rfl gw_166 dX4_denial_26 (fun f H locs w hw hk1 => ?_)
      have hk := hk.tr hk1
      refine u_sv h hw hn (fun S11 h hw hn => ?_)
      refine lv_aload_n hx hb dX4_denial_29 rfl (lv_at hl 0 rfl) ?_
      refine lv_sipush (v := 2011) hx hb dX4_denial_30 (by decide) ?_
      obtain ⟨v12, S13, h14, h⟩ := bd_some h
      refine u_callV (n := 1) C w hw (hP _ _ (isn_f rfl rfl (by decide))) rfl rfl rfl (c_X4_emit l D K b0 sa _ L _ ad P hP S11 hw hn 2011 v12 S13 h14) gw_850 gw_847 gw_848 gw_849 gw_5 ⟨by decide, by decide, by decide +kernel⟩ rfl rfl ⟨by dsimp only; omega, by dsimp only; omega⟩ rfl hl.1 rfl (Nat.le_of_ble_eq_true rfl) dX4_denial_33 ⟨Nat.le_of_ble_eq_true rfl, Nat.le_of_ble_eq_true rfl⟩ (fun v9 u H locs hp w => ?_)
      obtain ⟨f2, rfl, rfl, hw, hn, hk1⟩ := hp
      have hk := hk.tr hk1
      generalize f2 = f at w hw hk
      refine lv_iconst (v := 1) hx hb dX4_denial_36 (by decide) ?_
      exact t_zret C hr hlk w (by decide) ⟨_, so_v h, rfl, so_w h hw, so_n h hn, hk⟩ (by decide) (by decide) dX4_denial_37
    · have h := bb_t h c8
      refine lv_iconst (v := 0) hx hb dX4_denial_17 (by decide) ?_
      exact t_zret C hr hlk w (by decide) ⟨_, so_v h, rfl, so_w h hw, so_n h hn, hk⟩ (by decide) (by decide) dX4_denial_18
theorem dX4_sum_0 : decode cX4_sum 0 = .ok (.iconst (-1), 1) := by decide +kernel
theorem dX4_sum_1 : decode cX4_sum 1 = .ok (.istore_n 1, 1) := by decide +kernel
theorem dX4_sum_2 : decode cX4_sum 2 = .ok (.iconst (-1), 1) := by decide +kernel
theorem dX4_sum_3 : decode cX4_sum 3 = .ok (.istore_n 2, 1) := by decide +kernel
theorem dX4_sum_4 : decode cX4_sum 4 = .ok (.iconst 0, 1) := by decide +kernel
theorem dX4_sum_5 : decode cX4_sum 5 = .ok (.istore_n 3, 1) := by decide +kernel
theorem dX4_sum_6 : decode cX4_sum 6 = .ok (.iload_n 3, 1) := by decide +kernel
theorem dX4_sum_7 : decode cX4_sum 7 = .ok (.sipush 300, 3) := by decide +kernel
theorem dX4_sum_10 : decode cX4_sum 10 = .ok (.if_icmp .gt 114, 3) := by decide +kernel
theorem dX4_sum_13 : decode cX4_sum 13 = .ok (.aload_n 0, 1) := by decide +kernel
theorem dX4_sum_14 : decode cX4_sum 14 = .ok (.invokevirtual 178, 3) := by decide +kernel
theorem dX4_sum_17 : decode cX4_sum 17 = .ok (.ifCond .ne 5, 3) := by decide +kernel
theorem dX4_sum_20 : decode cX4_sum 20 = .ok (.iconst 0, 1) := by decide +kernel
theorem dX4_sum_21 : decode cX4_sum 21 = .ok (.ireturn, 1) := by decide +kernel
theorem dX4_sum_22 : decode cX4_sum 22 = .ok (.iload_n 2, 1) := by decide +kernel
theorem dX4_sum_23 : decode cX4_sum 23 = .ok (.iconst (-1), 1) := by decide +kernel
theorem dX4_sum_24 : decode cX4_sum 24 = .ok (.if_icmp .eq 8, 3) := by decide +kernel
theorem dX4_sum_27 : decode cX4_sum 27 = .ok (.aload_n 0, 1) := by decide +kernel
theorem dX4_sum_28 : decode cX4_sum 28 = .ok (.iload_n 2, 1) := by decide +kernel
theorem dX4_sum_29 : decode cX4_sum 29 = .ok (.invokevirtual 159, 3) := by decide +kernel
theorem dX4_sum_32 : decode cX4_sum 32 = .ok (.aload_n 0, 1) := by decide +kernel
theorem dX4_sum_33 : decode cX4_sum 33 = .ok (.bipush 42, 2) := by decide +kernel
theorem dX4_sum_35 : decode cX4_sum 35 = .ok (.invokevirtual 66, 3) := by decide +kernel
theorem dX4_sum_38 : decode cX4_sum 38 = .ok (.ifCond .eq 9, 3) := by decide +kernel
theorem dX4_sum_41 : decode cX4_sum 41 = .ok (.sipush 2002, 3) := by decide +kernel
theorem dX4_sum_44 : decode cX4_sum 44 = .ok (.goto 19, 3) := by decide +kernel
theorem dX4_sum_47 : decode cX4_sum 47 = .ok (.aload_n 0, 1) := by decide +kernel
theorem dX4_sum_48 : decode cX4_sum 48 = .ok (.bipush 47, 2) := by decide +kernel
theorem dX4_sum_50 : decode cX4_sum 50 = .ok (.invokevirtual 66, 3) := by decide +kernel
theorem dX4_sum_53 : decode cX4_sum 53 = .ok (.ifCond .eq 9, 3) := by decide +kernel
theorem dX4_sum_56 : decode cX4_sum 56 = .ok (.sipush 2003, 3) := by decide +kernel
theorem dX4_sum_59 : decode cX4_sum 59 = .ok (.goto 4, 3) := by decide +kernel
theorem dX4_sum_62 : decode cX4_sum 62 = .ok (.iconst (-1), 1) := by decide +kernel
theorem dX4_sum_63 : decode cX4_sum 63 = .ok (.istore_n 2, 1) := by decide +kernel
theorem dX4_sum_64 : decode cX4_sum 64 = .ok (.iload_n 2, 1) := by decide +kernel
theorem dX4_sum_65 : decode cX4_sum 65 = .ok (.iconst (-1), 1) := by decide +kernel
theorem dX4_sum_66 : decode cX4_sum 66 = .ok (.if_icmp .ne 52, 3) := by decide +kernel
theorem dX4_sum_69 : decode cX4_sum 69 = .ok (.iload_n 1, 1) := by decide +kernel
theorem dX4_sum_70 : decode cX4_sum 70 = .ok (.iconst (-1), 1) := by decide +kernel
theorem dX4_sum_71 : decode cX4_sum 71 = .ok (.if_icmp .eq 8, 3) := by decide +kernel
theorem dX4_sum_74 : decode cX4_sum 74 = .ok (.aload_n 0, 1) := by decide +kernel
theorem dX4_sum_75 : decode cX4_sum 75 = .ok (.iload_n 1, 1) := by decide +kernel
theorem dX4_sum_76 : decode cX4_sum 76 = .ok (.invokevirtual 159, 3) := by decide +kernel
theorem dX4_sum_79 : decode cX4_sum 79 = .ok (.aload_n 0, 1) := by decide +kernel
theorem dX4_sum_80 : decode cX4_sum 80 = .ok (.bipush 43, 2) := by decide +kernel
theorem dX4_sum_82 : decode cX4_sum 82 = .ok (.invokevirtual 66, 3) := by decide +kernel
theorem dX4_sum_85 : decode cX4_sum 85 = .ok (.ifCond .eq 9, 3) := by decide +kernel
theorem dX4_sum_88 : decode cX4_sum 88 = .ok (.sipush 2000, 3) := by decide +kernel
theorem dX4_sum_91 : decode cX4_sum 91 = .ok (.goto 19, 3) := by decide +kernel
theorem dX4_sum_94 : decode cX4_sum 94 = .ok (.aload_n 0, 1) := by decide +kernel
theorem dX4_sum_95 : decode cX4_sum 95 = .ok (.bipush 45, 2) := by decide +kernel
theorem dX4_sum_97 : decode cX4_sum 97 = .ok (.invokevirtual 66, 3) := by decide +kernel
theorem dX4_sum_100 : decode cX4_sum 100 = .ok (.ifCond .eq 9, 3) := by decide +kernel
theorem dX4_sum_103 : decode cX4_sum 103 = .ok (.sipush 2001, 3) := by decide +kernel
theorem dX4_sum_106 : decode cX4_sum 106 = .ok (.goto 4, 3) := by decide +kernel
theorem dX4_sum_109 : decode cX4_sum 109 = .ok (.iconst (-1), 1) := by decide +kernel
theorem dX4_sum_110 : decode cX4_sum 110 = .ok (.istore_n 1, 1) := by decide +kernel
theorem dX4_sum_111 : decode cX4_sum 111 = .ok (.iload_n 1, 1) := by decide +kernel
theorem dX4_sum_112 : decode cX4_sum 112 = .ok (.iconst (-1), 1) := by decide +kernel
theorem dX4_sum_113 : decode cX4_sum 113 = .ok (.if_icmp .ne 5, 3) := by decide +kernel
theorem dX4_sum_116 : decode cX4_sum 116 = .ok (.iconst 1, 1) := by decide +kernel
theorem dX4_sum_117 : decode cX4_sum 117 = .ok (.ireturn, 1) := by decide +kernel
theorem dX4_sum_118 : decode cX4_sum 118 = .ok (.iinc 3 1, 3) := by decide +kernel
theorem dX4_sum_121 : decode cX4_sum 121 = .ok (.goto (-115), 3) := by decide +kernel
theorem dX4_sum_124 : decode cX4_sum 124 = .ok (.aload_n 0, 1) := by decide +kernel
theorem dX4_sum_125 : decode cX4_sum 125 = .ok (.iconst 1, 1) := by decide +kernel
theorem dX4_sum_126 : decode cX4_sum 126 = .ok (.invokevirtual 69, 3) := by decide +kernel
theorem dX4_sum_129 : decode cX4_sum 129 = .ok (.ireturn, 1) := by decide +kernel
noncomputable def B_X4_sum_118 (R : Nat → Int32 → fS → Option (Int32 × fS)) (k6 : (Int32 × Int32 × Int32) → fS → Option (Int32 × fS)) (a1 : Int32) (a2 : Int32) (a3 : Int32) (S : fS) : Option (Int32 × fS) := iv (a3 + Int32.ofInt 1) (fun x1 => k6 (a1, a2, x1) S)
noncomputable def B_X4_sum_110 (R : Nat → Int32 → fS → Option (Int32 × fS)) (k6 : (Int32 × Int32 × Int32) → fS → Option (Int32 × fS)) (a2 : Int32) (a3 : Int32) (t0 : Int32) (S : fS) : Option (Int32 × fS) := bb (t0 = ((-1) : Int32)) (some (1, S)) (B_X4_sum_118 R k6 t0 a2 a3 S)
noncomputable def B_X4_sum_79 (R : Nat → Int32 → fS → Option (Int32 × fS)) (k6 : (Int32 × Int32 × Int32) → fS → Option (Int32 × fS)) (a2 : Int32) (a3 : Int32) (S : fS) : Option (Int32 × fS) := bd (F_X4_passed 43 S) (fun v3 S4 => bb (v3 = (0 : Int32)) (bd (F_X4_passed 45 S4) (fun v7 S8 => bb (v7 = (0 : Int32)) (B_X4_sum_110 R k6 a2 a3 (-1) S8) (B_X4_sum_110 R k6 a2 a3 2001 S8))) (B_X4_sum_110 R k6 a2 a3 2000 S4))
noncomputable def B_X4_sum_63 (R : Nat → Int32 → fS → Option (Int32 × fS)) (k6 : (Int32 × Int32 × Int32) → fS → Option (Int32 × fS)) (a1 : Int32) (a3 : Int32) (t0 : Int32) (S : fS) : Option (Int32 × fS) := bb (t0 = ((-1) : Int32)) (bb (a1 = ((-1) : Int32)) (B_X4_sum_79 R k6 t0 a3 S) (bd (F_X4_emit a1 S) (fun v13 S14 => B_X4_sum_79 R k6 t0 a3 S14))) (B_X4_sum_118 R k6 a1 t0 a3 S)
noncomputable def B_X4_sum_32 (R : Nat → Int32 → fS → Option (Int32 × fS)) (k6 : (Int32 × Int32 × Int32) → fS → Option (Int32 × fS)) (a1 : Int32) (a3 : Int32) (S : fS) : Option (Int32 × fS) := bd (F_X4_passed 42 S) (fun v16 S17 => bb (v16 = (0 : Int32)) (bd (F_X4_passed 47 S17) (fun v20 S21 => bb (v20 = (0 : Int32)) (B_X4_sum_63 R k6 a1 a3 (-1) S21) (B_X4_sum_63 R k6 a1 a3 2003 S21))) (B_X4_sum_63 R k6 a1 a3 2002 S17))
noncomputable def B_X4_sum_6 (R : Nat → Int32 → fS → Option (Int32 × fS)) (k6 : (Int32 × Int32 × Int32) → fS → Option (Int32 × fS)) : (Int32 × Int32 × Int32) → fS → Option (Int32 × fS) := fun ⟨a1, a2, a3⟩ S => bb ((300 : Int32) < a3) (bd (F_X4_fail 1 S) (fun v25 S26 => gd (v25 = 0 ∨ v25 = 1) (some (v25, S26)))) (bd (R 4 0 S) (fun v29 S30 => bb (v29 = (0 : Int32)) (some (0, S30)) (bb (a2 = ((-1) : Int32)) (B_X4_sum_32 R k6 a1 a3 S30) (bd (F_X4_emit a2 S30) (fun v34 S35 => B_X4_sum_32 R k6 a1 a3 S35)))))
noncomputable def N_X4_sum (R : Nat → Int32 → fS → Option (Int32 × fS))  (S0 : fS) : Option (Int32 × fS) := lp (B_X4_sum_6 R ) fuel ((-1), (-1), 0) S0
set_option maxHeartbeats 4000000 in
set_option maxRecDepth 100000 in
theorem n_X4_sum (l : Launch) (D : va_G) (K : Nat → ClassId) (b0 : Nat) (sa : sT) (ad : Nat → Nat → Nat) {n : Nat × Nat} (P : Nat → Nat → Prop) (hP : ∀ a i : Nat, isn n a i → P a i) (R : Nat → Int32 → fS → Option (Int32 × fS)) (d : Nat) (hR0 : ∀ (sz : Nat) (L : List Nat) (f0 : Nat → va_E) (S0 : fS) (hw : PW K ad P S0 L f0) (hn : S0.2.2.1 = n) (v : Int32) (S1 : fS) (h : R 0 0 S0 = some (v, S1)), Met l yX4_condition (.code yX4_condition cX4_condition 4 (some .boolean) :: gt) { frames := 4 + d, cells := 0, slots := 0, locals := 62 + 40 * d } (va_Pc [.ref (ad 17 0)] (hPre D K b0 sa sz L f0)) (hQ D K b0 (fun v9 u9 => ∃ f2 : Nat → va_E, v9 = some (.int v) ∧ u9 = lU L f2 ∧ PW K ad P S1 L f2 ∧ S1.2.2.1 = n ∧ Kp ad P L f0 f2)) 0 0 (fun q => b0 ≤ q)) (hR1 : ∀ (sz : Nat) (L : List Nat) (f0 : Nat → va_E) (S0 : fS) (hw : PW K ad P S0 L f0) (hn : S0.2.2.1 = n) (v : Int32) (S1 : fS) (h : R 1 0 S0 = some (v, S1)), Met l yX4_claim (.code yX4_claim cX4_claim 2 (some .boolean) :: gt) { frames := 4 + d, cells := 0, slots := 0, locals := 62 + 40 * d } (va_Pc [.ref (ad 17 0)] (hPre D K b0 sa sz L f0)) (hQ D K b0 (fun v9 u9 => ∃ f2 : Nat → va_E, v9 = some (.int v) ∧ u9 = lU L f2 ∧ PW K ad P S1 L f2 ∧ S1.2.2.1 = n ∧ Kp ad P L f0 f2)) 0 0 (fun q => b0 ≤ q)) (hR2 : ∀ (sz : Nat) (L : List Nat) (f0 : Nat → va_E) (S0 : fS) (hw : PW K ad P S0 L f0) (hn : S0.2.2.1 = n) (v : Int32) (S1 : fS) (h : R 2 0 S0 = some (v, S1)), Met l yX4_denial (.code yX4_denial cX4_denial 1 (some .boolean) :: gt) { frames := 4 + d, cells := 0, slots := 0, locals := 62 + 40 * d } (va_Pc [.ref (ad 17 0)] (hPre D K b0 sa sz L f0)) (hQ D K b0 (fun v9 u9 => ∃ f2 : Nat → va_E, v9 = some (.int v) ∧ u9 = lU L f2 ∧ PW K ad P S1 L f2 ∧ S1.2.2.1 = n ∧ Kp ad P L f0 f2)) 0 0 (fun q => b0 ≤ q)) (hR3 : ∀ (sz : Nat) (L : List Nat) (f0 : Nat → va_E) (S0 : fS) (hw : PW K ad P S0 L f0) (hn : S0.2.2.1 = n) (v : Int32) (S1 : fS) (h : R 3 0 S0 = some (v, S1)), Met l yX4_sum (.code yX4_sum cX4_sum 4 (some .boolean) :: gt) { frames := 4 + d, cells := 0, slots := 0, locals := 62 + 40 * d } (va_Pc [.ref (ad 17 0)] (hPre D K b0 sa sz L f0)) (hQ D K b0 (fun v9 u9 => ∃ f2 : Nat → va_E, v9 = some (.int v) ∧ u9 = lU L f2 ∧ PW K ad P S1 L f2 ∧ S1.2.2.1 = n ∧ Kp ad P L f0 f2)) 0 0 (fun q => b0 ≤ q)) (hR4 : ∀ (sz : Nat) (L : List Nat) (f0 : Nat → va_E) (S0 : fS) (hw : PW K ad P S0 L f0) (hn : S0.2.2.1 = n) (v : Int32) (S1 : fS) (h : R 4 0 S0 = some (v, S1)), Met l yX4_unit (.code yX4_unit cX4_unit 2 (some .boolean) :: gt) { frames := 4 + d, cells := 0, slots := 0, locals := 62 + 40 * d } (va_Pc [.ref (ad 17 0)] (hPre D K b0 sa sz L f0)) (hQ D K b0 (fun v9 u9 => ∃ f2 : Nat → va_E, v9 = some (.int v) ∧ u9 = lU L f2 ∧ PW K ad P S1 L f2 ∧ S1.2.2.1 = n ∧ Kp ad P L f0 f2)) 0 0 (fun q => b0 ≤ q)) (hR5 : ∀ (sz : Nat) (L : List Nat) (f0 : Nat → va_E) (S0 : fS) (hw : PW K ad P S0 L f0) (hn : S0.2.2.1 = n) (p1 : Int32) (v : Int32) (S1 : fS) (h : R 5 p1 S0 = some (v, S1)), Met l yX4_choice (.code yX4_choice cX4_choice 2 (some .boolean) :: gt) { frames := 4 + d, cells := 0, slots := 0, locals := 62 + 40 * d } (va_Pc [.ref (ad 17 0), .int p1] (hPre D K b0 sa sz L f0)) (hQ D K b0 (fun v9 u9 => ∃ f2 : Nat → va_E, v9 = some (.int v) ∧ u9 = lU L f2 ∧ PW K ad P S1 L f2 ∧ S1.2.2.1 = n ∧ Kp ad P L f0 f2)) 0 0 (fun q => b0 ≤ q)) (sz : Nat) (L : List Nat) (f0 : Nat → va_E) (S0 : fS) (hw : PW K ad P S0 L f0) (hn : S0.2.2.1 = n)  (v : Int32) (S1 : fS) (h : N_X4_sum R  S0 = some (v, S1)) : Met l yX4_sum (.code yX4_sum cX4_sum 4 (some .boolean) :: gt) { frames := 4 + (d + 1), cells := 0, slots := 0, locals := 62 + 40 * (d + 1) } (va_Pc [.ref (ad 17 0)] (hPre D K b0 sa sz L f0)) (hQ D K b0 (fun v9 u9 => ∃ f2 : Nat → va_E, v9 = some (.int v) ∧ u9 = lU L f2 ∧ PW K ad P S1 L f2 ∧ S1.2.2.1 = n ∧ Kp ad P L f0 f2)) 0 0 (fun q => b0 ≤ q) := by
  refine t_of (own := RX4) (by decide) rfl ?_ (Nat.le_of_ble_eq_true rfl)
  intro p e s m below meth c ls C w hsz hr hlk hnm hl
  have hx := C.1
  have hb := C.2.1
  have hl : lv_has ls 4 [(0, .ref (ad 17 0))] := hl
  have J118 : ∀ (k6 : (Int32 × Int32 × Int32) → fS → Option (Int32 × fS)) (hk6 : ∀ (a1 : Int32) (a2 : Int32) (a3 : Int32) (S : fS), k6 (a1, a2, a3) S = some (v, S1) → Gw D K b0 sa ad P n L f0 p l e { frames := 4 + (d + 1), cells := 0, slots := 0, locals := 62 + 40 * (d + 1) } s m [.ref (ad 17 0)].toArray below meth c 4 (MQ below (hQ D K b0 (fun v9 u9 => ∃ f2 : Nat → va_E, v9 = some (.int v) ∧ u9 = lU L f2 ∧ PW K ad P S1 L f2 ∧ S1.2.2.1 = n ∧ Kp ad P L f0 f2)) [.ref (ad 17 0)].toArray s 0 0 (fun q => b0 ≤ q)) 0 0 6 [(0, .ref (ad 17 0)), (1, .int a1), (2, .int a2), (3, .int a3)] [] S) (a1 : Int32) (a2 : Int32) (a3 : Int32) (S : fS), B_X4_sum_118 R k6 a1 a2 a3 S = some (v, S1) → Gw D K b0 sa ad P n L f0 p l e { frames := 4 + (d + 1), cells := 0, slots := 0, locals := 62 + 40 * (d + 1) } s m [.ref (ad 17 0)].toArray below meth c 4 (MQ below (hQ D K b0 (fun v9 u9 => ∃ f2 : Nat → va_E, v9 = some (.int v) ∧ u9 = lU L f2 ∧ PW K ad P S1 L f2 ∧ S1.2.2.1 = n ∧ Kp ad P L f0 f2)) [.ref (ad 17 0)].toArray s 0 0 (fun q => b0 ≤ q)) 0 0 118 [(0, .ref (ad 17 0)), (1, .int a1), (2, .int a2), (3, .int a3)] [] S := by
    intro k6 hk6 a1 a2 a3 S h
    dsimp only [B_X4_sum_118] at h
    intro f H locs w hw hn hk ls hl
    obtain ⟨x1, ex1, h⟩ := iv_some h
    refine lv_iinc (v := x1) (lv' := [(3, .int x1), (0, .ref (ad 17 0)), (1, .int a1), (2, .int a2)]) hx hb dX4_sum_118 hl (k := 3) rfl ex1.symm (by decide) rfl (fun ls hl => ?_)
    refine lv_goto (tgt := 6) hx hb dX4_sum_121 (by decide) ?_
    exact hk6 a1 a2 x1 S h f H locs w hw hn hk ls (lv_sub hl [1, 2, 3, 0] rfl)
  have J110 : ∀ (k6 : (Int32 × Int32 × Int32) → fS → Option (Int32 × fS)) (hk6 : ∀ (a1 : Int32) (a2 : Int32) (a3 : Int32) (S : fS), k6 (a1, a2, a3) S = some (v, S1) → Gw D K b0 sa ad P n L f0 p l e { frames := 4 + (d + 1), cells := 0, slots := 0, locals := 62 + 40 * (d + 1) } s m [.ref (ad 17 0)].toArray below meth c 4 (MQ below (hQ D K b0 (fun v9 u9 => ∃ f2 : Nat → va_E, v9 = some (.int v) ∧ u9 = lU L f2 ∧ PW K ad P S1 L f2 ∧ S1.2.2.1 = n ∧ Kp ad P L f0 f2)) [.ref (ad 17 0)].toArray s 0 0 (fun q => b0 ≤ q)) 0 0 6 [(0, .ref (ad 17 0)), (1, .int a1), (2, .int a2), (3, .int a3)] [] S) (a2 : Int32) (a3 : Int32) (t0 : Int32) (S : fS), B_X4_sum_110 R k6 a2 a3 t0 S = some (v, S1) → Gw D K b0 sa ad P n L f0 p l e { frames := 4 + (d + 1), cells := 0, slots := 0, locals := 62 + 40 * (d + 1) } s m [.ref (ad 17 0)].toArray below meth c 4 (MQ below (hQ D K b0 (fun v9 u9 => ∃ f2 : Nat → va_E, v9 = some (.int v) ∧ u9 = lU L f2 ∧ PW K ad P S1 L f2 ∧ S1.2.2.1 = n ∧ Kp ad P L f0 f2)) [.ref (ad 17 0)].toArray s 0 0 (fun q => b0 ≤ q)) 0 0 110 [(0, .ref (ad 17 0)), (2, .int a2), (3, .int a3)] [.int t0] S := by
    intro k6 hk6 a2 a3 t0 S h
    dsimp only [B_X4_sum_110] at h
    intro f H locs w hw hn hk ls hl
    refine lv_istore_n (lv' := [(1, .int t0), (0, .ref (ad 17 0)), (2, .int a2), (3, .int a3)]) hx hb dX4_sum_110 rfl hl (by decide) rfl (fun ls hl => ?_)
    refine lv_iload_n hx hb dX4_sum_111 rfl (lv_at hl 0 rfl) ?_
    refine lv_iconst (v := (-1)) hx hb dX4_sum_112 (by decide) ?_
    refine lv_icmp_ne (tgt := 118) hx hb dX4_sum_113 (by decide) (fun c2 => ?_) (fun c2 => ?_)
    · have h := bb_f h c2
      exact J118 k6 hk6 t0 a2 a3 S h f H locs w hw hn hk ls (lv_sub hl [1, 0, 2, 3] rfl)
    · have h := bb_t h c2
      refine lv_iconst (v := 1) hx hb dX4_sum_116 (by decide) ?_
      exact t_zret C hr hlk w (by decide) ⟨_, so_v h, rfl, so_w h hw, so_n h hn, hk⟩ (by decide) (by decide) dX4_sum_117
  have J79 : ∀ (k6 : (Int32 × Int32 × Int32) → fS → Option (Int32 × fS)) (hk6 : ∀ (a1 : Int32) (a2 : Int32) (a3 : Int32) (S : fS), k6 (a1, a2, a3) S = some (v, S1) → Gw D K b0 sa ad P n L f0 p l e { frames := 4 + (d + 1), cells := 0, slots := 0, locals := 62 + 40 * (d + 1) } s m [.ref (ad 17 0)].toArray below meth c 4 (MQ below (hQ D K b0 (fun v9 u9 => ∃ f2 : Nat → va_E, v9 = some (.int v) ∧ u9 = lU L f2 ∧ PW K ad P S1 L f2 ∧ S1.2.2.1 = n ∧ Kp ad P L f0 f2)) [.ref (ad 17 0)].toArray s 0 0 (fun q => b0 ≤ q)) 0 0 6 [(0, .ref (ad 17 0)), (1, .int a1), (2, .int a2), (3, .int a3)] [] S) (a2 : Int32) (a3 : Int32) (S : fS), B_X4_sum_79 R k6 a2 a3 S = some (v, S1) → Gw D K b0 sa ad P n L f0 p l e { frames := 4 + (d + 1), cells := 0, slots := 0, locals := 62 + 40 * (d + 1) } s m [.ref (ad 17 0)].toArray below meth c 4 (MQ below (hQ D K b0 (fun v9 u9 => ∃ f2 : Nat → va_E, v9 = some (.int v) ∧ u9 = lU L f2 ∧ PW K ad P S1 L f2 ∧ S1.2.2.1 = n ∧ Kp ad P L f0 f2)) [.ref (ad 17 0)].toArray s 0 0 (fun q => b0 ≤ q)) 0 0 79 [(0, .ref (ad 17 0)), (2, .int a2), (3, .int a3)] [] S := by
    intro k6 hk6 a2 a3 S h
    dsimp only [B_X4_sum_79] at h
    intro f H locs w hw hn hk ls hl
    refine lv_aload_n hx hb dX4_sum_79 rfl (lv_at hl 0 rfl) ?_
    refine lv_bipush (v := 43) hx hb dX4_sum_80 (by decide) ?_
    obtain ⟨v3, S4, h5, h⟩ := bd_some h
    refine u_callV (n := 1) C w hw (hP _ _ (isn_f rfl rfl (by decide))) rfl rfl rfl (c_X4_passed l D K b0 sa _ L _ ad P hP S hw hn 43 v3 S4 h5) gw_858 gw_855 gw_856 gw_857 gw_5 ⟨by decide, by decide, by decide +kernel⟩ rfl rfl ⟨by dsimp only; omega, by dsimp only; omega⟩ rfl hl.1 rfl (Nat.le_of_ble_eq_true rfl) dX4_sum_82 ⟨Nat.le_of_ble_eq_true rfl, Nat.le_of_ble_eq_true rfl⟩ (fun v9 u H locs hp w => ?_)
    obtain ⟨f2, rfl, rfl, hw, hn, hk1⟩ := hp
    have hk := hk.tr hk1
    generalize f2 = f at w hw hk
    refine lv_if_eq (tgt := 94) hx hb dX4_sum_85 (by decide) (fun c6 => ?_) (fun c6 => ?_)
    · have h := bb_t h c6
      refine lv_aload_n hx hb dX4_sum_94 rfl (lv_at hl 0 rfl) ?_
      refine lv_bipush (v := 45) hx hb dX4_sum_95 (by decide) ?_
      obtain ⟨v7, S8, h9, h⟩ := bd_some h
      refine u_callV (n := 1) C w hw (hP _ _ (isn_f rfl rfl (by decide))) rfl rfl rfl (c_X4_passed l D K b0 sa _ L _ ad P hP S4 hw hn 45 v7 S8 h9) gw_858 gw_855 gw_856 gw_857 gw_5 ⟨by decide, by decide, by decide +kernel⟩ rfl rfl ⟨by dsimp only; omega, by dsimp only; omega⟩ rfl hl.1 rfl (Nat.le_of_ble_eq_true rfl) dX4_sum_97 ⟨Nat.le_of_ble_eq_true rfl, Nat.le_of_ble_eq_true rfl⟩ (fun v9 u H locs hp w => ?_)
      obtain ⟨f2, rfl, rfl, hw, hn, hk1⟩ := hp
      have hk := hk.tr hk1
      generalize f2 = f at w hw hk
      refine lv_if_eq (tgt := 109) hx hb dX4_sum_100 (by decide) (fun c10 => ?_) (fun c10 => ?_)
      · have h := bb_t h c10
        refine lv_iconst (v := (-1)) hx hb dX4_sum_109 (by decide) ?_
        exact J110 k6 hk6 a2 a3 (-1) S8 h f H locs w hw hn hk ls (lv_sub hl [0, 1, 2] rfl)
      · have h := bb_f h c10
        refine lv_sipush (v := 2001) hx hb dX4_sum_103 (by decide) ?_
        refine lv_goto (tgt := 110) hx hb dX4_sum_106 (by decide) ?_
        exact J110 k6 hk6 a2 a3 2001 S8 h f H locs w hw hn hk ls (lv_sub hl [0, 1, 2] rfl)
    · have h := bb_f h c6
      refine lv_sipush (v := 2000) hx hb dX4_sum_88 (by decide) ?_
      refine lv_goto (tgt := 110) hx hb dX4_sum_91 (by decide) ?_
      exact J110 k6 hk6 a2 a3 2000 S4 h f H locs w hw hn hk ls (lv_sub hl [0, 1, 2] rfl)
  have J63 : ∀ (k6 : (Int32 × Int32 × Int32) → fS → Option (Int32 × fS)) (hk6 : ∀ (a1 : Int32) (a2 : Int32) (a3 : Int32) (S : fS), k6 (a1, a2, a3) S = some (v, S1) → Gw D K b0 sa ad P n L f0 p l e { frames := 4 + (d + 1), cells := 0, slots := 0, locals := 62 + 40 * (d + 1) } s m [.ref (ad 17 0)].toArray below meth c 4 (MQ below (hQ D K b0 (fun v9 u9 => ∃ f2 : Nat → va_E, v9 = some (.int v) ∧ u9 = lU L f2 ∧ PW K ad P S1 L f2 ∧ S1.2.2.1 = n ∧ Kp ad P L f0 f2)) [.ref (ad 17 0)].toArray s 0 0 (fun q => b0 ≤ q)) 0 0 6 [(0, .ref (ad 17 0)), (1, .int a1), (2, .int a2), (3, .int a3)] [] S) (a1 : Int32) (a3 : Int32) (t0 : Int32) (S : fS), B_X4_sum_63 R k6 a1 a3 t0 S = some (v, S1) → Gw D K b0 sa ad P n L f0 p l e { frames := 4 + (d + 1), cells := 0, slots := 0, locals := 62 + 40 * (d + 1) } s m [.ref (ad 17 0)].toArray below meth c 4 (MQ below (hQ D K b0 (fun v9 u9 => ∃ f2 : Nat → va_E, v9 = some (.int v) ∧ u9 = lU L f2 ∧ PW K ad P S1 L f2 ∧ S1.2.2.1 = n ∧ Kp ad P L f0 f2)) [.ref (ad 17 0)].toArray s 0 0 (fun q => b0 ≤ q)) 0 0 63 [(0, .ref (ad 17 0)), (1, .int a1), (3, .int a3)] [.int t0] S := by
    intro k6 hk6 a1 a3 t0 S h
    dsimp only [B_X4_sum_63] at h
    intro f H locs w hw hn hk ls hl
    refine lv_istore_n (lv' := [(2, .int t0), (0, .ref (ad 17 0)), (1, .int a1), (3, .int a3)]) hx hb dX4_sum_63 rfl hl (by decide) rfl (fun ls hl => ?_)
    refine lv_iload_n hx hb dX4_sum_64 rfl (lv_at hl 0 rfl) ?_
    refine lv_iconst (v := (-1)) hx hb dX4_sum_65 (by decide) ?_
    refine lv_icmp_ne (tgt := 118) hx hb dX4_sum_66 (by decide) (fun c11 => ?_) (fun c11 => ?_)
    · have h := bb_f h c11
      exact J118 k6 hk6 a1 t0 a3 S h f H locs w hw hn hk ls (lv_sub hl [1, 2, 0, 3] rfl)
    · have h := bb_t h c11
      refine lv_iload_n hx hb dX4_sum_69 rfl (lv_at hl 2 rfl) ?_
      refine lv_iconst (v := (-1)) hx hb dX4_sum_70 (by decide) ?_
      refine lv_icmp_eq (tgt := 79) hx hb dX4_sum_71 (by decide) (fun c12 => ?_) (fun c12 => ?_)
      · have h := bb_t h c12
        exact J79 k6 hk6 t0 a3 S h f H locs w hw hn hk ls (lv_sub hl [1, 0, 3] rfl)
      · have h := bb_f h c12
        refine lv_aload_n hx hb dX4_sum_74 rfl (lv_at hl 1 rfl) ?_
        refine lv_iload_n hx hb dX4_sum_75 rfl (lv_at hl 2 rfl) ?_
        obtain ⟨v13, S14, h15, h⟩ := bd_some h
        refine u_callV (n := 1) C w hw (hP _ _ (isn_f rfl rfl (by decide))) rfl rfl rfl (c_X4_emit l D K b0 sa _ L _ ad P hP S hw hn a1 v13 S14 h15) gw_850 gw_847 gw_848 gw_849 gw_5 ⟨by decide, by decide, by decide +kernel⟩ rfl rfl ⟨by dsimp only; omega, by dsimp only; omega⟩ rfl hl.1 rfl (Nat.le_of_ble_eq_true rfl) dX4_sum_76 ⟨Nat.le_of_ble_eq_true rfl, Nat.le_of_ble_eq_true rfl⟩ (fun v9 u H locs hp w => ?_)
        obtain ⟨f2, rfl, rfl, hw, hn, hk1⟩ := hp
        have hk := hk.tr hk1
        generalize f2 = f at w hw hk
        exact J79 k6 hk6 t0 a3 S14 h f H locs w hw hn hk ls (lv_sub hl [1, 0, 3] rfl)
  have J32 : ∀ (k6 : (Int32 × Int32 × Int32) → fS → Option (Int32 × fS)) (hk6 : ∀ (a1 : Int32) (a2 : Int32) (a3 : Int32) (S : fS), k6 (a1, a2, a3) S = some (v, S1) → Gw D K b0 sa ad P n L f0 p l e { frames := 4 + (d + 1), cells := 0, slots := 0, locals := 62 + 40 * (d + 1) } s m [.ref (ad 17 0)].toArray below meth c 4 (MQ below (hQ D K b0 (fun v9 u9 => ∃ f2 : Nat → va_E, v9 = some (.int v) ∧ u9 = lU L f2 ∧ PW K ad P S1 L f2 ∧ S1.2.2.1 = n ∧ Kp ad P L f0 f2)) [.ref (ad 17 0)].toArray s 0 0 (fun q => b0 ≤ q)) 0 0 6 [(0, .ref (ad 17 0)), (1, .int a1), (2, .int a2), (3, .int a3)] [] S) (a1 : Int32) (a3 : Int32) (S : fS), B_X4_sum_32 R k6 a1 a3 S = some (v, S1) → Gw D K b0 sa ad P n L f0 p l e { frames := 4 + (d + 1), cells := 0, slots := 0, locals := 62 + 40 * (d + 1) } s m [.ref (ad 17 0)].toArray below meth c 4 (MQ below (hQ D K b0 (fun v9 u9 => ∃ f2 : Nat → va_E, v9 = some (.int v) ∧ u9 = lU L f2 ∧ PW K ad P S1 L f2 ∧ S1.2.2.1 = n ∧ Kp ad P L f0 f2)) [.ref (ad 17 0)].toArray s 0 0 (fun q => b0 ≤ q)) 0 0 32 [(0, .ref (ad 17 0)), (1, .int a1), (3, .int a3)] [] S := by
    intro k6 hk6 a1 a3 S h
    dsimp only [B_X4_sum_32] at h
    intro f H locs w hw hn hk ls hl
    refine lv_aload_n hx hb dX4_sum_32 rfl (lv_at hl 0 rfl) ?_
    refine lv_bipush (v := 42) hx hb dX4_sum_33 (by decide) ?_
    obtain ⟨v16, S17, h18, h⟩ := bd_some h
    refine u_callV (n := 1) C w hw (hP _ _ (isn_f rfl rfl (by decide))) rfl rfl rfl (c_X4_passed l D K b0 sa _ L _ ad P hP S hw hn 42 v16 S17 h18) gw_858 gw_855 gw_856 gw_857 gw_5 ⟨by decide, by decide, by decide +kernel⟩ rfl rfl ⟨by dsimp only; omega, by dsimp only; omega⟩ rfl hl.1 rfl (Nat.le_of_ble_eq_true rfl) dX4_sum_35 ⟨Nat.le_of_ble_eq_true rfl, Nat.le_of_ble_eq_true rfl⟩ (fun v9 u H locs hp w => ?_)
    obtain ⟨f2, rfl, rfl, hw, hn, hk1⟩ := hp
    have hk := hk.tr hk1
    generalize f2 = f at w hw hk
    refine lv_if_eq (tgt := 47) hx hb dX4_sum_38 (by decide) (fun c19 => ?_) (fun c19 => ?_)
    · have h := bb_t h c19
      refine lv_aload_n hx hb dX4_sum_47 rfl (lv_at hl 0 rfl) ?_
      refine lv_bipush (v := 47) hx hb dX4_sum_48 (by decide) ?_
      obtain ⟨v20, S21, h22, h⟩ := bd_some h
      refine u_callV (n := 1) C w hw (hP _ _ (isn_f rfl rfl (by decide))) rfl rfl rfl (c_X4_passed l D K b0 sa _ L _ ad P hP S17 hw hn 47 v20 S21 h22) gw_858 gw_855 gw_856 gw_857 gw_5 ⟨by decide, by decide, by decide +kernel⟩ rfl rfl ⟨by dsimp only; omega, by dsimp only; omega⟩ rfl hl.1 rfl (Nat.le_of_ble_eq_true rfl) dX4_sum_50 ⟨Nat.le_of_ble_eq_true rfl, Nat.le_of_ble_eq_true rfl⟩ (fun v9 u H locs hp w => ?_)
      obtain ⟨f2, rfl, rfl, hw, hn, hk1⟩ := hp
      have hk := hk.tr hk1
      generalize f2 = f at w hw hk
      refine lv_if_eq (tgt := 62) hx hb dX4_sum_53 (by decide) (fun c23 => ?_) (fun c23 => ?_)
      · have h := bb_t h c23
        refine lv_iconst (v := (-1)) hx hb dX4_sum_62 (by decide) ?_
        exact J63 k6 hk6 a1 a3 (-1) S21 h f H locs w hw hn hk ls (lv_sub hl [0, 1, 2] rfl)
      · have h := bb_f h c23
        refine lv_sipush (v := 2003) hx hb dX4_sum_56 (by decide) ?_
        refine lv_goto (tgt := 63) hx hb dX4_sum_59 (by decide) ?_
        exact J63 k6 hk6 a1 a3 2003 S21 h f H locs w hw hn hk ls (lv_sub hl [0, 1, 2] rfl)
    · have h := bb_f h c19
      refine lv_sipush (v := 2002) hx hb dX4_sum_41 (by decide) ?_
      refine lv_goto (tgt := 63) hx hb dX4_sum_44 (by decide) ?_
      exact J63 k6 hk6 a1 a3 2002 S17 h f H locs w hw hn hk ls (lv_sub hl [0, 1, 2] rfl)
  have J6 : ∀ (fu : Nat) (a1 : Int32) (a2 : Int32) (a3 : Int32) (S : fS), lp (B_X4_sum_6 R ) fu (a1, a2, a3) S = some (v, S1) → Gw D K b0 sa ad P n L f0 p l e { frames := 4 + (d + 1), cells := 0, slots := 0, locals := 62 + 40 * (d + 1) } s m [.ref (ad 17 0)].toArray below meth c 4 (MQ below (hQ D K b0 (fun v9 u9 => ∃ f2 : Nat → va_E, v9 = some (.int v) ∧ u9 = lU L f2 ∧ PW K ad P S1 L f2 ∧ S1.2.2.1 = n ∧ Kp ad P L f0 f2)) [.ref (ad 17 0)].toArray s 0 0 (fun q => b0 ≤ q)) 0 0 6 [(0, .ref (ad 17 0)), (1, .int a1), (2, .int a2), (3, .int a3)] [] S := by
    intro fu a1 a2 a3 S h
    refine lp_some (G := (fun q S => Gw D K b0 sa ad P n L f0 p l e { frames := 4 + (d + 1), cells := 0, slots := 0, locals := 62 + 40 * (d + 1) } s m [.ref (ad 17 0)].toArray below meth c 4 (MQ below (hQ D K b0 (fun v9 u9 => ∃ f2 : Nat → va_E, v9 = some (.int v) ∧ u9 = lU L f2 ∧ PW K ad P S1 L f2 ∧ S1.2.2.1 = n ∧ Kp ad P L f0 f2)) [.ref (ad 17 0)].toArray s 0 0 (fun q => b0 ≤ q)) 0 0 6 [(0, .ref (ad 17 0)), (1, .int q.1), (2, .int q.2.1), (3, .int q.2.2)] [] S)) (fun k6 hk6 q S h => ?_) fu (a1, a2, a3) S h
    obtain ⟨a1, a2, a3⟩ := q
    have hk6 : ∀ (a1 : Int32) (a2 : Int32) (a3 : Int32) (S : fS), k6 (a1, a2, a3) S = some (v, S1) → Gw D K b0 sa ad P n L f0 p l e { frames := 4 + (d + 1), cells := 0, slots := 0, locals := 62 + 40 * (d + 1) } s m [.ref (ad 17 0)].toArray below meth c 4 (MQ below (hQ D K b0 (fun v9 u9 => ∃ f2 : Nat → va_E, v9 = some (.int v) ∧ u9 = lU L f2 ∧ PW K ad P S1 L f2 ∧ S1.2.2.1 = n ∧ Kp ad P L f0 f2)) [.ref (ad 17 0)].toArray s 0 0 (fun q => b0 ≤ q)) 0 0 6 [(0, .ref (ad 17 0)), (1, .int a1), (2, .int a2), (3, .int a3)] [] S := fun a1 a2 a3 S h => hk6 (a1, a2, a3) S h
    dsimp only [B_X4_sum_6] at h
    intro f H locs w hw hn hk ls hl
    refine lv_iload_n hx hb dX4_sum_6 rfl (lv_at hl 3 rfl) ?_
    refine lv_sipush (v := 300) hx hb dX4_sum_7 (by decide) ?_
    refine lv_icmp_gt (tgt := 124) hx hb dX4_sum_10 (by decide) (fun c24 => ?_) (fun c24 => ?_)
    · have h := bb_t h c24
      refine lv_aload_n hx hb dX4_sum_124 rfl (lv_at hl 0 rfl) ?_
      refine lv_iconst (v := 1) hx hb dX4_sum_125 (by decide) ?_
      obtain ⟨v25, S26, h27, h⟩ := bd_some h
      refine u_callV (n := 1) C w hw (hP _ _ (isn_f rfl rfl (by decide))) rfl rfl rfl (c_X4_fail l D K b0 sa _ L _ ad P hP S hw hn 1 v25 S26 h27) gw_846 gw_843 gw_844 gw_845 gw_5 ⟨by decide, by decide, by decide +kernel⟩ rfl rfl ⟨by dsimp only; omega, by dsimp only; omega⟩ rfl hl.1 rfl (Nat.le_of_ble_eq_true rfl) dX4_sum_126 ⟨Nat.le_of_ble_eq_true rfl, Nat.le_of_ble_eq_true rfl⟩ (fun v9 u H locs hp w => ?_)
      obtain ⟨f2, rfl, rfl, hw, hn, hk1⟩ := hp
      have hk := hk.tr hk1
      generalize f2 = f at w hw hk
      obtain ⟨g28, h⟩ := gd_some h
      exact t_zret C hr hlk w (narb g28) ⟨_, so_v h, rfl, so_w h hw, so_n h hn, hk⟩ (by decide) (by decide) dX4_sum_129
    · have h := bb_f h c24
      refine lv_aload_n hx hb dX4_sum_13 rfl (lv_at hl 0 rfl) ?_
      obtain ⟨v29, S30, h31, h⟩ := bd_some h
      refine u_callV (n := 0) C w hw (hP _ _ (isn_f rfl rfl (by decide))) rfl rfl rfl (hR4 _ L _ S hw hn v29 S30 h31) gw_866 gw_863 gw_865 gs_12 gw_5 ⟨by decide, by decide, by decide +kernel⟩ rfl rfl ⟨by dsimp only; omega, by dsimp only; omega⟩ rfl hl.1 rfl (Nat.le_of_ble_eq_true rfl) dX4_sum_14 ⟨Nat.le_of_ble_eq_true rfl, Nat.le_of_ble_eq_true rfl⟩ (fun v9 u H locs hp w => ?_)
      obtain ⟨f2, rfl, rfl, hw, hn, hk1⟩ := hp
      have hk := hk.tr hk1
      generalize f2 = f at w hw hk
      refine lv_if_ne (tgt := 22) hx hb dX4_sum_17 (by decide) (fun c32 => ?_) (fun c32 => ?_)
      · have h := bb_f h c32
        refine lv_iload_n hx hb dX4_sum_22 rfl (lv_at hl 2 rfl) ?_
        refine lv_iconst (v := (-1)) hx hb dX4_sum_23 (by decide) ?_
        refine lv_icmp_eq (tgt := 32) hx hb dX4_sum_24 (by decide) (fun c33 => ?_) (fun c33 => ?_)
        · have h := bb_t h c33
          exact J32 k6 hk6 a1 a3 S30 h f H locs w hw hn hk ls (lv_sub hl [0, 1, 3] rfl)
        · have h := bb_f h c33
          refine lv_aload_n hx hb dX4_sum_27 rfl (lv_at hl 0 rfl) ?_
          refine lv_iload_n hx hb dX4_sum_28 rfl (lv_at hl 2 rfl) ?_
          obtain ⟨v34, S35, h36, h⟩ := bd_some h
          refine u_callV (n := 1) C w hw (hP _ _ (isn_f rfl rfl (by decide))) rfl rfl rfl (c_X4_emit l D K b0 sa _ L _ ad P hP S30 hw hn a2 v34 S35 h36) gw_850 gw_847 gw_848 gw_849 gw_5 ⟨by decide, by decide, by decide +kernel⟩ rfl rfl ⟨by dsimp only; omega, by dsimp only; omega⟩ rfl hl.1 rfl (Nat.le_of_ble_eq_true rfl) dX4_sum_29 ⟨Nat.le_of_ble_eq_true rfl, Nat.le_of_ble_eq_true rfl⟩ (fun v9 u H locs hp w => ?_)
          obtain ⟨f2, rfl, rfl, hw, hn, hk1⟩ := hp
          have hk := hk.tr hk1
          generalize f2 = f at w hw hk
          exact J32 k6 hk6 a1 a3 S35 h f H locs w hw hn hk ls (lv_sub hl [0, 1, 3] rfl)
      · have h := bb_t h c32
        refine lv_iconst (v := 0) hx hb dX4_sum_20 (by decide) ?_
        exact t_zret C hr hlk w (by decide) ⟨_, so_v h, rfl, so_w h hw, so_n h hn, hk⟩ (by decide) (by decide) dX4_sum_21
  dsimp only [N_X4_sum] at h
  obtain ⟨f, ef⟩ : ∃ z, z = f0 := ⟨_, rfl⟩
  rw [← ef] at w hw
  have hk : Kp ad P L f0 f := by rw [ef]; exact Kp.rf
  obtain ⟨H, eH⟩ : ∃ z, z = s.heap := ⟨_, rfl⟩
  obtain ⟨locs, el⟩ : ∃ z : List Loc, z = [] := ⟨_, rfl⟩
  rw [← eH, ← el] at w ⊢
  refine lv_iconst (v := (-1)) hx hb dX4_sum_0 (by decide) ?_
  refine lv_istore_n (lv' := [(1, .int (-1)), (0, .ref (ad 17 0))]) hx hb dX4_sum_1 rfl hl (by decide) rfl (fun ls hl => ?_)
  refine lv_iconst (v := (-1)) hx hb dX4_sum_2 (by decide) ?_
  refine lv_istore_n (lv' := [(2, .int (-1)), (1, .int (-1)), (0, .ref (ad 17 0))]) hx hb dX4_sum_3 rfl hl (by decide) rfl (fun ls hl => ?_)
  refine lv_iconst (v := 0) hx hb dX4_sum_4 (by decide) ?_
  refine lv_istore_n (lv' := [(3, .int 0), (2, .int (-1)), (1, .int (-1)), (0, .ref (ad 17 0))]) hx hb dX4_sum_5 rfl hl (by decide) rfl (fun ls hl => ?_)
  exact J6  fuel (-1) (-1) 0 S0 h f H locs w hw hn hk ls (lv_sub hl [3, 2, 1, 0] rfl)
theorem dX4_unit_0 : decode cX4_unit 0 = .ok (.aload_n 0, 1) := by decide +kernel
theorem dX4_unit_1 : decode cX4_unit 1 = .ok (.invokevirtual 54, 3) := by decide +kernel
theorem dX4_unit_4 : decode cX4_unit 4 = .ok (.istore_n 1, 1) := by decide +kernel
theorem dX4_unit_5 : decode cX4_unit 5 = .ok (.iload_n 1, 1) := by decide +kernel
theorem dX4_unit_6 : decode cX4_unit 6 = .ok (.sipush 257, 3) := by decide +kernel
theorem dX4_unit_9 : decode cX4_unit 9 = .ok (.if_icmp .ne 8, 3) := by decide +kernel
theorem dX4_unit_12 : decode cX4_unit 12 = .ok (.aload_n 0, 1) := by decide +kernel
theorem dX4_unit_13 : decode cX4_unit 13 = .ok (.invokevirtual 181, 3) := by decide +kernel
theorem dX4_unit_16 : decode cX4_unit 16 = .ok (.ireturn, 1) := by decide +kernel
theorem dX4_unit_17 : decode cX4_unit 17 = .ok (.iload_n 1, 1) := by decide +kernel
theorem dX4_unit_18 : decode cX4_unit 18 = .ok (.sipush 270, 3) := by decide +kernel
theorem dX4_unit_21 : decode cX4_unit 21 = .ok (.aload_n 0, 1) := by decide +kernel
theorem dX4_unit_22 : decode cX4_unit 22 = .ok (.getfield 40, 3) := by decide +kernel
theorem dX4_unit_25 : decode cX4_unit 25 = .ok (.ifCond .eq 9, 3) := by decide +kernel
theorem dX4_unit_28 : decode cX4_unit 28 = .ok (.sipush 276, 3) := by decide +kernel
theorem dX4_unit_31 : decode cX4_unit 31 = .ok (.goto 6, 3) := by decide +kernel
theorem dX4_unit_34 : decode cX4_unit 34 = .ok (.sipush 275, 3) := by decide +kernel
theorem dX4_unit_37 : decode cX4_unit 37 = .ok (.invokestatic 90, 3) := by decide +kernel
theorem dX4_unit_40 : decode cX4_unit 40 = .ok (.ifCond .eq 24, 3) := by decide +kernel
theorem dX4_unit_43 : decode cX4_unit 43 = .ok (.aload_n 0, 1) := by decide +kernel
theorem dX4_unit_44 : decode cX4_unit 44 = .ok (.sipush 1000, 3) := by decide +kernel
theorem dX4_unit_47 : decode cX4_unit 47 = .ok (.iload_n 1, 1) := by decide +kernel
theorem dX4_unit_48 : decode cX4_unit 48 = .ok (.iadd, 1) := by decide +kernel
theorem dX4_unit_49 : decode cX4_unit 49 = .ok (.invokevirtual 159, 3) := by decide +kernel
theorem dX4_unit_52 : decode cX4_unit 52 = .ok (.aload_n 0, 1) := by decide +kernel
theorem dX4_unit_53 : decode cX4_unit 53 = .ok (.dup, 1) := by decide +kernel
theorem dX4_unit_54 : decode cX4_unit 54 = .ok (.getfield 25, 3) := by decide +kernel
theorem dX4_unit_57 : decode cX4_unit 57 = .ok (.iconst 1, 1) := by decide +kernel
theorem dX4_unit_58 : decode cX4_unit 58 = .ok (.iadd, 1) := by decide +kernel
theorem dX4_unit_59 : decode cX4_unit 59 = .ok (.putfield 25, 3) := by decide +kernel
theorem dX4_unit_62 : decode cX4_unit 62 = .ok (.iconst 1, 1) := by decide +kernel
theorem dX4_unit_63 : decode cX4_unit 63 = .ok (.ireturn, 1) := by decide +kernel
theorem dX4_unit_64 : decode cX4_unit 64 = .ok (.iload_n 1, 1) := by decide +kernel
theorem dX4_unit_65 : decode cX4_unit 65 = .ok (.bipush 40, 2) := by decide +kernel
theorem dX4_unit_67 : decode cX4_unit 67 = .ok (.if_icmp .ne 34, 3) := by decide +kernel
theorem dX4_unit_70 : decode cX4_unit 70 = .ok (.aload_n 0, 1) := by decide +kernel
theorem dX4_unit_71 : decode cX4_unit 71 = .ok (.bipush 40, 2) := by decide +kernel
theorem dX4_unit_73 : decode cX4_unit 73 = .ok (.invokevirtual 169, 3) := by decide +kernel
theorem dX4_unit_76 : decode cX4_unit 76 = .ok (.ifCond .eq 23, 3) := by decide +kernel
theorem dX4_unit_79 : decode cX4_unit 79 = .ok (.aload_n 0, 1) := by decide +kernel
theorem dX4_unit_80 : decode cX4_unit 80 = .ok (.invokevirtual 156, 3) := by decide +kernel
theorem dX4_unit_83 : decode cX4_unit 83 = .ok (.ifCond .eq 16, 3) := by decide +kernel
theorem dX4_unit_86 : decode cX4_unit 86 = .ok (.aload_n 0, 1) := by decide +kernel
theorem dX4_unit_87 : decode cX4_unit 87 = .ok (.bipush 41, 2) := by decide +kernel
theorem dX4_unit_89 : decode cX4_unit 89 = .ok (.invokevirtual 172, 3) := by decide +kernel
theorem dX4_unit_92 : decode cX4_unit 92 = .ok (.ifCond .eq 7, 3) := by decide +kernel
theorem dX4_unit_95 : decode cX4_unit 95 = .ok (.iconst 1, 1) := by decide +kernel
theorem dX4_unit_96 : decode cX4_unit 96 = .ok (.goto 4, 3) := by decide +kernel
theorem dX4_unit_99 : decode cX4_unit 99 = .ok (.iconst 0, 1) := by decide +kernel
theorem dX4_unit_100 : decode cX4_unit 100 = .ok (.ireturn, 1) := by decide +kernel
theorem dX4_unit_101 : decode cX4_unit 101 = .ok (.iload_n 1, 1) := by decide +kernel
theorem dX4_unit_102 : decode cX4_unit 102 = .ok (.sipush 267, 3) := by decide +kernel
theorem dX4_unit_105 : decode cX4_unit 105 = .ok (.if_icmp .eq 10, 3) := by decide +kernel
theorem dX4_unit_108 : decode cX4_unit 108 = .ok (.iload_n 1, 1) := by decide +kernel
theorem dX4_unit_109 : decode cX4_unit 109 = .ok (.sipush 268, 3) := by decide +kernel
theorem dX4_unit_112 : decode cX4_unit 112 = .ok (.if_icmp .ne 24, 3) := by decide +kernel
theorem dX4_unit_115 : decode cX4_unit 115 = .ok (.aload_n 0, 1) := by decide +kernel
theorem dX4_unit_116 : decode cX4_unit 116 = .ok (.iload_n 1, 1) := by decide +kernel
theorem dX4_unit_117 : decode cX4_unit 117 = .ok (.sipush 267, 3) := by decide +kernel
theorem dX4_unit_120 : decode cX4_unit 120 = .ok (.if_icmp .ne 9, 3) := by decide +kernel
theorem dX4_unit_123 : decode cX4_unit 123 = .ok (.sipush 2004, 3) := by decide +kernel
theorem dX4_unit_126 : decode cX4_unit 126 = .ok (.goto 6, 3) := by decide +kernel
theorem dX4_unit_129 : decode cX4_unit 129 = .ok (.sipush 2005, 3) := by decide +kernel
theorem dX4_unit_132 : decode cX4_unit 132 = .ok (.invokevirtual 184, 3) := by decide +kernel
theorem dX4_unit_135 : decode cX4_unit 135 = .ok (.ireturn, 1) := by decide +kernel
theorem dX4_unit_136 : decode cX4_unit 136 = .ok (.aload_n 0, 1) := by decide +kernel
theorem dX4_unit_137 : decode cX4_unit 137 = .ok (.iconst 1, 1) := by decide +kernel
theorem dX4_unit_138 : decode cX4_unit 138 = .ok (.invokevirtual 69, 3) := by decide +kernel
theorem dX4_unit_141 : decode cX4_unit 141 = .ok (.ireturn, 1) := by decide +kernel
noncomputable def B_X4_unit_132 (R : Nat → Int32 → fS → Option (Int32 × fS)) (t0 : Int32) (S : fS) : Option (Int32 × fS) := bd (R 5 t0 S) (fun v1 S2 => gd (v1 = 0 ∨ v1 = 1) (some (v1, S2)))
noncomputable def B_X4_unit_115 (R : Nat → Int32 → fS → Option (Int32 × fS)) (a1 : Int32) (S : fS) : Option (Int32 × fS) := bb (a1 = (267 : Int32)) (B_X4_unit_132 R  2004 S) (B_X4_unit_132 R  2005 S)
noncomputable def B_X4_unit_37 (R : Nat → Int32 → fS → Option (Int32 × fS)) (a1 : Int32) (t0 : Int32) (t1 : Int32) (t2 : Int32) (S : fS) : Option (Int32 × fS) := bd (F_X6_within t2 t1 t0 S) (fun v6 S7 => bb (v6 = (0 : Int32)) (bb (a1 = (40 : Int32)) (bd (F_X4_opened 40 S7) (fun v17 S18 => bb (v17 = (0 : Int32)) (some (0, S18)) (bd (R 3 0 S18) (fun v21 S22 => bb (v21 = (0 : Int32)) (some (0, S22)) (bd (F_X4_closed 41 S22) (fun v25 S26 => bb (v25 = (0 : Int32)) (some (0, S26)) (some (1, S26)))))))) (bb (a1 = (267 : Int32)) (B_X4_unit_115 R  a1 S7) (bb (a1 = (268 : Int32)) (B_X4_unit_115 R  a1 S7) (bd (F_X4_fail 1 S7) (fun v13 S14 => gd (v13 = 0 ∨ v13 = 1) (some (v13, S14))))))) (iv ((1000 : Int32) + a1) (fun x29 => bd (F_X4_emit x29 S7) (fun v30 S31 => iv (ge S31 17 0 4) (fun x33 => iv (x33 + (1 : Int32)) (fun x34 => sv (pu S31 17 0 4 x34) (fun S35 => some (1, S35))))))))
noncomputable def N_X4_unit (R : Nat → Int32 → fS → Option (Int32 × fS))  (S0 : fS) : Option (Int32 × fS) := bd (F_X4_here  S0) (fun v36 S37 => bb (v36 = (257 : Int32)) (bd (F_X4_number  S37) (fun v42 S43 => gd (v42 = 0 ∨ v42 = 1) (some (v42, S43)))) (iv (ge S37 17 0 9) (fun x40 => bb (x40 = (0 : Int32)) (B_X4_unit_37 R  v36 275 270 v36 S37) (B_X4_unit_37 R  v36 276 270 v36 S37))))
set_option maxHeartbeats 4000000 in
set_option maxRecDepth 100000 in
theorem n_X4_unit (l : Launch) (D : va_G) (K : Nat → ClassId) (b0 : Nat) (sa : sT) (ad : Nat → Nat → Nat) {n : Nat × Nat} (P : Nat → Nat → Prop) (hP : ∀ a i : Nat, isn n a i → P a i) (R : Nat → Int32 → fS → Option (Int32 × fS)) (d : Nat) (hR0 : ∀ (sz : Nat) (L : List Nat) (f0 : Nat → va_E) (S0 : fS) (hw : PW K ad P S0 L f0) (hn : S0.2.2.1 = n) (v : Int32) (S1 : fS) (h : R 0 0 S0 = some (v, S1)), Met l yX4_condition (.code yX4_condition cX4_condition 4 (some .boolean) :: gt) { frames := 4 + d, cells := 0, slots := 0, locals := 62 + 40 * d } (va_Pc [.ref (ad 17 0)] (hPre D K b0 sa sz L f0)) (hQ D K b0 (fun v9 u9 => ∃ f2 : Nat → va_E, v9 = some (.int v) ∧ u9 = lU L f2 ∧ PW K ad P S1 L f2 ∧ S1.2.2.1 = n ∧ Kp ad P L f0 f2)) 0 0 (fun q => b0 ≤ q)) (hR1 : ∀ (sz : Nat) (L : List Nat) (f0 : Nat → va_E) (S0 : fS) (hw : PW K ad P S0 L f0) (hn : S0.2.2.1 = n) (v : Int32) (S1 : fS) (h : R 1 0 S0 = some (v, S1)), Met l yX4_claim (.code yX4_claim cX4_claim 2 (some .boolean) :: gt) { frames := 4 + d, cells := 0, slots := 0, locals := 62 + 40 * d } (va_Pc [.ref (ad 17 0)] (hPre D K b0 sa sz L f0)) (hQ D K b0 (fun v9 u9 => ∃ f2 : Nat → va_E, v9 = some (.int v) ∧ u9 = lU L f2 ∧ PW K ad P S1 L f2 ∧ S1.2.2.1 = n ∧ Kp ad P L f0 f2)) 0 0 (fun q => b0 ≤ q)) (hR2 : ∀ (sz : Nat) (L : List Nat) (f0 : Nat → va_E) (S0 : fS) (hw : PW K ad P S0 L f0) (hn : S0.2.2.1 = n) (v : Int32) (S1 : fS) (h : R 2 0 S0 = some (v, S1)), Met l yX4_denial (.code yX4_denial cX4_denial 1 (some .boolean) :: gt) { frames := 4 + d, cells := 0, slots := 0, locals := 62 + 40 * d } (va_Pc [.ref (ad 17 0)] (hPre D K b0 sa sz L f0)) (hQ D K b0 (fun v9 u9 => ∃ f2 : Nat → va_E, v9 = some (.int v) ∧ u9 = lU L f2 ∧ PW K ad P S1 L f2 ∧ S1.2.2.1 = n ∧ Kp ad P L f0 f2)) 0 0 (fun q => b0 ≤ q)) (hR3 : ∀ (sz : Nat) (L : List Nat) (f0 : Nat → va_E) (S0 : fS) (hw : PW K ad P S0 L f0) (hn : S0.2.2.1 = n) (v : Int32) (S1 : fS) (h : R 3 0 S0 = some (v, S1)), Met l yX4_sum (.code yX4_sum cX4_sum 4 (some .boolean) :: gt) { frames := 4 + d, cells := 0, slots := 0, locals := 62 + 40 * d } (va_Pc [.ref (ad 17 0)] (hPre D K b0 sa sz L f0)) (hQ D K b0 (fun v9 u9 => ∃ f2 : Nat → va_E, v9 = some (.int v) ∧ u9 = lU L f2 ∧ PW K ad P S1 L f2 ∧ S1.2.2.1 = n ∧ Kp ad P L f0 f2)) 0 0 (fun q => b0 ≤ q)) (hR4 : ∀ (sz : Nat) (L : List Nat) (f0 : Nat → va_E) (S0 : fS) (hw : PW K ad P S0 L f0) (hn : S0.2.2.1 = n) (v : Int32) (S1 : fS) (h : R 4 0 S0 = some (v, S1)), Met l yX4_unit (.code yX4_unit cX4_unit 2 (some .boolean) :: gt) { frames := 4 + d, cells := 0, slots := 0, locals := 62 + 40 * d } (va_Pc [.ref (ad 17 0)] (hPre D K b0 sa sz L f0)) (hQ D K b0 (fun v9 u9 => ∃ f2 : Nat → va_E, v9 = some (.int v) ∧ u9 = lU L f2 ∧ PW K ad P S1 L f2 ∧ S1.2.2.1 = n ∧ Kp ad P L f0 f2)) 0 0 (fun q => b0 ≤ q)) (hR5 : ∀ (sz : Nat) (L : List Nat) (f0 : Nat → va_E) (S0 : fS) (hw : PW K ad P S0 L f0) (hn : S0.2.2.1 = n) (p1 : Int32) (v : Int32) (S1 : fS) (h : R 5 p1 S0 = some (v, S1)), Met l yX4_choice (.code yX4_choice cX4_choice 2 (some .boolean) :: gt) { frames := 4 + d, cells := 0, slots := 0, locals := 62 + 40 * d } (va_Pc [.ref (ad 17 0), .int p1] (hPre D K b0 sa sz L f0)) (hQ D K b0 (fun v9 u9 => ∃ f2 : Nat → va_E, v9 = some (.int v) ∧ u9 = lU L f2 ∧ PW K ad P S1 L f2 ∧ S1.2.2.1 = n ∧ Kp ad P L f0 f2)) 0 0 (fun q => b0 ≤ q)) (sz : Nat) (L : List Nat) (f0 : Nat → va_E) (S0 : fS) (hw : PW K ad P S0 L f0) (hn : S0.2.2.1 = n)  (v : Int32) (S1 : fS) (h : N_X4_unit R  S0 = some (v, S1)) : Met l yX4_unit (.code yX4_unit cX4_unit 2 (some .boolean) :: gt) { frames := 4 + (d + 1), cells := 0, slots := 0, locals := 62 + 40 * (d + 1) } (va_Pc [.ref (ad 17 0)] (hPre D K b0 sa sz L f0)) (hQ D K b0 (fun v9 u9 => ∃ f2 : Nat → va_E, v9 = some (.int v) ∧ u9 = lU L f2 ∧ PW K ad P S1 L f2 ∧ S1.2.2.1 = n ∧ Kp ad P L f0 f2)) 0 0 (fun q => b0 ≤ q) := by
  refine t_of (own := RX4) (by decide) rfl ?_ (Nat.le_of_ble_eq_true rfl)
  intro p e s m below meth c ls C w hsz hr hlk hnm hl
  have hx := C.1
  have hb := C.2.1
  have hl : lv_has ls 2 [(0, .ref (ad 17 0))] := hl
  have J132 : ∀ (t0 : Int32) (S : fS), B_X4_unit_132 R  t0 S = some (v, S1) → Gw D K b0 sa ad P n L f0 p l e { frames := 4 + (d + 1), cells := 0, slots := 0, locals := 62 + 40 * (d + 1) } s m [.ref (ad 17 0)].toArray below meth c 2 (MQ below (hQ D K b0 (fun v9 u9 => ∃ f2 : Nat → va_E, v9 = some (.int v) ∧ u9 = lU L f2 ∧ PW K ad P S1 L f2 ∧ S1.2.2.1 = n ∧ Kp ad P L f0 f2)) [.ref (ad 17 0)].toArray s 0 0 (fun q => b0 ≤ q)) 0 0 132 [] [.int t0, .ref (ad 17 0)] S := by
    intro t0 S h
    dsimp only [B_X4_unit_132] at h
    intro f H locs w hw hn hk ls hl
    obtain ⟨v1, S2, h3, h⟩ := bd_some h
    refine u_callV (n := 1) C w hw (hP _ _ (isn_f rfl rfl (by decide))) rfl rfl rfl (hR5 _ L _ S hw hn t0 v1 S2 h3) gw_874 gw_871 gw_873 gs_13 gw_5 ⟨by decide, by decide, by decide +kernel⟩ rfl rfl ⟨by dsimp only; omega, by dsimp only; omega⟩ rfl hl.1 rfl (Nat.le_of_ble_eq_true rfl) dX4_unit_132 ⟨Nat.le_of_ble_eq_true rfl, Nat.le_of_ble_eq_true rfl⟩ (fun v9 u H locs hp w => ?_)
    obtain ⟨f2, rfl, rfl, hw, hn, hk1⟩ := hp
    have hk := hk.tr hk1
    generalize f2 = f at w hw hk
    obtain ⟨g4, h⟩ := gd_some h
    exact t_zret C hr hlk w (narb g4) ⟨_, so_v h, rfl, so_w h hw, so_n h hn, hk⟩ (by decide) (by decide) dX4_unit_135
  have J115 : ∀ (a1 : Int32) (S : fS), B_X4_unit_115 R  a1 S = some (v, S1) → Gw D K b0 sa ad P n L f0 p l e { frames := 4 + (d + 1), cells := 0, slots := 0, locals := 62 + 40 * (d + 1) } s m [.ref (ad 17 0)].toArray below meth c 2 (MQ below (hQ D K b0 (fun v9 u9 => ∃ f2 : Nat → va_E, v9 = some (.int v) ∧ u9 = lU L f2 ∧ PW K ad P S1 L f2 ∧ S1.2.2.1 = n ∧ Kp ad P L f0 f2)) [.ref (ad 17 0)].toArray s 0 0 (fun q => b0 ≤ q)) 0 0 115 [(0, .ref (ad 17 0)), (1, .int a1)] [] S := by
    intro a1 S h
    dsimp only [B_X4_unit_115] at h
    intro f H locs w hw hn hk ls hl
    refine lv_aload_n hx hb dX4_unit_115 rfl (lv_at hl 0 rfl) ?_
    refine lv_iload_n hx hb dX4_unit_116 rfl (lv_at hl 1 rfl) ?_
    refine lv_sipush (v := 267) hx hb dX4_unit_117 (by decide) ?_
    refine lv_icmp_ne (tgt := 129) hx hb dX4_unit_120 (by decide) (fun c5 => ?_) (fun c5 => ?_)
    · have h := bb_f h c5
      refine lv_sipush (v := 2005) hx hb dX4_unit_129 (by decide) ?_
      exact J132  2005 S h f H locs w hw hn hk ls (lv_sub hl [] rfl)
    · have h := bb_t h c5
      refine lv_sipush (v := 2004) hx hb dX4_unit_123 (by decide) ?_
      refine lv_goto (tgt := 132) hx hb dX4_unit_126 (by decide) ?_
      exact J132  2004 S h f H locs w hw hn hk ls (lv_sub hl [] rfl)
  have J37 : ∀ (a1 : Int32) (t0 : Int32) (t1 : Int32) (t2 : Int32) (S : fS), B_X4_unit_37 R  a1 t0 t1 t2 S = some (v, S1) → Gw D K b0 sa ad P n L f0 p l e { frames := 4 + (d + 1), cells := 0, slots := 0, locals := 62 + 40 * (d + 1) } s m [.ref (ad 17 0)].toArray below meth c 2 (MQ below (hQ D K b0 (fun v9 u9 => ∃ f2 : Nat → va_E, v9 = some (.int v) ∧ u9 = lU L f2 ∧ PW K ad P S1 L f2 ∧ S1.2.2.1 = n ∧ Kp ad P L f0 f2)) [.ref (ad 17 0)].toArray s 0 0 (fun q => b0 ≤ q)) 0 0 37 [(0, .ref (ad 17 0)), (1, .int a1)] [.int t0, .int t1, .int t2] S := by
    intro a1 t0 t1 t2 S h
    dsimp only [B_X4_unit_37] at h
    intro f H locs w hw hn hk ls hl
    obtain ⟨v6, S7, h8, h⟩ := bd_some h
    refine t_callSN (host := RX6) (n := 3) C w (c_X6_within l D K b0 sa _ L _ ad P hP S hw hn t2 t1 t0 v6 S7 h8) gw_376 (List.mem_of_getElem? (i := 7) rfl) gw_375 gw_1 ⟨by decide, by decide, by decide +kernel⟩ rfl rfl ⟨by dsimp only; omega, by dsimp only; omega⟩ rfl hl.1 rfl (Nat.le_of_ble_eq_true rfl) dX4_unit_37 ⟨Nat.le_of_ble_eq_true rfl, Nat.le_of_ble_eq_true rfl⟩ (fun v9 u H locs hp w => ?_)
    obtain ⟨f2, rfl, rfl, hw, hn, hk1⟩ := hp
    have hk := hk.tr hk1
    generalize f2 = f at w hw hk
    refine lv_if_eq (tgt := 64) hx hb dX4_unit_40 (by decide) (fun c9 => ?_) (fun c9 => ?_)
    · have h := bb_t h c9
      refine lv_iload_n hx hb dX4_unit_64 rfl (lv_at hl 1 rfl) ?_
      refine lv_bipush (v := 40) hx hb dX4_unit_65 (by decide) ?_
      refine lv_icmp_ne (tgt := 101) hx hb dX4_unit_67 (by decide) (fun c10 => ?_) (fun c10 => ?_)
      · have h := bb_f h c10
        refine lv_iload_n hx hb dX4_unit_101 rfl (lv_at hl 1 rfl) ?_
        refine lv_sipush (v := 267) hx hb dX4_unit_102 (by decide) ?_
        refine lv_icmp_eq (tgt := 115) hx hb dX4_unit_105 (by decide) (fun c11 => ?_) (fun c11 => ?_)
        · have h := bb_t h c11
          exact J115  a1 S7 h f H locs w hw hn hk ls (lv_sub hl [0, 1] rfl)
        · have h := bb_f h c11
          refine lv_iload_n hx hb dX4_unit_108 rfl (lv_at hl 1 rfl) ?_
          refine lv_sipush (v := 268) hx hb dX4_unit_109 (by decide) ?_
          refine lv_icmp_ne (tgt := 136) hx hb dX4_unit_112 (by decide) (fun c12 => ?_) (fun c12 => ?_)
          · have h := bb_f h c12
            refine lv_aload_n hx hb dX4_unit_136 rfl (lv_at hl 0 rfl) ?_
            refine lv_iconst (v := 1) hx hb dX4_unit_137 (by decide) ?_
            obtain ⟨v13, S14, h15, h⟩ := bd_some h
            refine u_callV (n := 1) C w hw (hP _ _ (isn_f rfl rfl (by decide))) rfl rfl rfl (c_X4_fail l D K b0 sa _ L _ ad P hP S7 hw hn 1 v13 S14 h15) gw_846 gw_843 gw_844 gw_845 gw_5 ⟨by decide, by decide, by decide +kernel⟩ rfl rfl ⟨by dsimp only; omega, by dsimp only; omega⟩ rfl hl.1 rfl (Nat.le_of_ble_eq_true rfl) dX4_unit_138 ⟨Nat.le_of_ble_eq_true rfl, Nat.le_of_ble_eq_true rfl⟩ (fun v9 u H locs hp w => ?_)
            obtain ⟨f2, rfl, rfl, hw, hn, hk1⟩ := hp
            have hk := hk.tr hk1
            generalize f2 = f at w hw hk
            obtain ⟨g16, h⟩ := gd_some h
            exact t_zret C hr hlk w (narb g16) ⟨_, so_v h, rfl, so_w h hw, so_n h hn, hk⟩ (by decide) (by decide) dX4_unit_141
          · have h := bb_t h c12
            exact J115  a1 S7 h f H locs w hw hn hk ls (lv_sub hl [0, 1] rfl)
      · have h := bb_t h c10
        refine lv_aload_n hx hb dX4_unit_70 rfl (lv_at hl 0 rfl) ?_
        refine lv_bipush (v := 40) hx hb dX4_unit_71 (by decide) ?_
        obtain ⟨v17, S18, h19, h⟩ := bd_some h
        refine u_callV (n := 1) C w hw (hP _ _ (isn_f rfl rfl (by decide))) rfl rfl rfl (c_X4_opened l D K b0 sa _ L _ ad P hP S7 hw hn 40 v17 S18 h19) gw_842 gw_839 gw_840 gw_841 gw_5 ⟨by decide, by decide, by decide +kernel⟩ rfl rfl ⟨by dsimp only; omega, by dsimp only; omega⟩ rfl hl.1 rfl (Nat.le_of_ble_eq_true rfl) dX4_unit_73 ⟨Nat.le_of_ble_eq_true rfl, Nat.le_of_ble_eq_true rfl⟩ (fun v9 u H locs hp w => ?_)
        obtain ⟨f2, rfl, rfl, hw, hn, hk1⟩ := hp
        have hk := hk.tr hk1
        generalize f2 = f at w hw hk
        refine lv_if_eq (tgt := 99) hx hb dX4_unit_76 (by decide) (fun c20 => ?_) (fun c20 => ?_)
        · have h := bb_t h c20
          refine lv_iconst (v := 0) hx hb dX4_unit_99 (by decide) ?_
          exact t_zret C hr hlk w (by decide) ⟨_, so_v h, rfl, so_w h hw, so_n h hn, hk⟩ (by decide) (by decide) dX4_unit_100
        · have h := bb_f h c20
          refine lv_aload_n hx hb dX4_unit_79 rfl (lv_at hl 0 rfl) ?_
          obtain ⟨v21, S22, h23, h⟩ := bd_some h
          refine u_callV (n := 0) C w hw (hP _ _ (isn_f rfl rfl (by decide))) rfl rfl rfl (hR3 _ L _ S18 hw hn v21 S22 h23) gw_862 gw_859 gw_861 gs_11 gw_5 ⟨by decide, by decide, by decide +kernel⟩ rfl rfl ⟨by dsimp only; omega, by dsimp only; omega⟩ rfl hl.1 rfl (Nat.le_of_ble_eq_true rfl) dX4_unit_80 ⟨Nat.le_of_ble_eq_true rfl, Nat.le_of_ble_eq_true rfl⟩ (fun v9 u H locs hp w => ?_)
          obtain ⟨f2, rfl, rfl, hw, hn, hk1⟩ := hp
          have hk := hk.tr hk1
          generalize f2 = f at w hw hk
          refine lv_if_eq (tgt := 99) hx hb dX4_unit_83 (by decide) (fun c24 => ?_) (fun c24 => ?_)
          · have h := bb_t h c24
            refine lv_iconst (v := 0) hx hb dX4_unit_99 (by decide) ?_
            exact t_zret C hr hlk w (by decide) ⟨_, so_v h, rfl, so_w h hw, so_n h hn, hk⟩ (by decide) (by decide) dX4_unit_100
          · have h := bb_f h c24
            refine lv_aload_n hx hb dX4_unit_86 rfl (lv_at hl 0 rfl) ?_
            refine lv_bipush (v := 41) hx hb dX4_unit_87 (by decide) ?_
            obtain ⟨v25, S26, h27, h⟩ := bd_some h
            refine u_callV (n := 1) C w hw (hP _ _ (isn_f rfl rfl (by decide))) rfl rfl rfl (c_X4_closed l D K b0 sa _ L _ ad P hP S22 hw hn 41 v25 S26 h27) gw_854 gw_851 gw_852 gw_853 gw_5 ⟨by decide, by decide, by decide +kernel⟩ rfl rfl ⟨by dsimp only; omega, by dsimp only; omega⟩ rfl hl.1 rfl (Nat.le_of_ble_eq_true rfl) dX4_unit_89 ⟨Nat.le_of_ble_eq_true rfl, Nat.le_of_ble_eq_true rfl⟩ (fun v9 u H locs hp w => ?_)
            obtain ⟨f2, rfl, rfl, hw, hn, hk1⟩ := hp
            have hk := hk.tr hk1
            generalize f2 = f at w hw hk
            refine lv_if_eq (tgt := 99) hx hb dX4_unit_92 (by decide) (fun c28 => ?_) (fun c28 => ?_)
            · have h := bb_t h c28
              refine lv_iconst (v := 0) hx hb dX4_unit_99 (by decide) ?_
              exact t_zret C hr hlk w (by decide) ⟨_, so_v h, rfl, so_w h hw, so_n h hn, hk⟩ (by decide) (by decide) dX4_unit_100
            · have h := bb_f h c28
              refine lv_iconst (v := 1) hx hb dX4_unit_95 (by decide) ?_
              refine lv_goto (tgt := 100) hx hb dX4_unit_96 (by decide) ?_
              exact t_zret C hr hlk w (by decide) ⟨_, so_v h, rfl, so_w h hw, so_n h hn, hk⟩ (by decide) (by decide) dX4_unit_100
    · have h := bb_f h c9
      refine lv_aload_n hx hb dX4_unit_43 rfl (lv_at hl 0 rfl) ?_
      refine lv_sipush (v := 1000) hx hb dX4_unit_44 (by decide) ?_
      refine lv_iload_n hx hb dX4_unit_47 rfl (lv_at hl 1 rfl) ?_
      refine lv_iadd hx hb dX4_unit_48 ?_
      refine u_iv h (fun x29 h => ?_)
      obtain ⟨v30, S31, h32, h⟩ := bd_some h
      refine u_callV (n := 1) C w hw (hP _ _ (isn_f rfl rfl (by decide))) rfl rfl rfl (c_X4_emit l D K b0 sa _ L _ ad P hP S7 hw hn x29 v30 S31 h32) gw_850 gw_847 gw_848 gw_849 gw_5 ⟨by decide, by decide, by decide +kernel⟩ rfl rfl ⟨by dsimp only; omega, by dsimp only; omega⟩ rfl hl.1 rfl (Nat.le_of_ble_eq_true rfl) dX4_unit_49 ⟨Nat.le_of_ble_eq_true rfl, Nat.le_of_ble_eq_true rfl⟩ (fun v9 u H locs hp w => ?_)
      obtain ⟨f2, rfl, rfl, hw, hn, hk1⟩ := hp
      have hk := hk.tr hk1
      generalize f2 = f at w hw hk
      refine lv_aload_n hx hb dX4_unit_52 rfl (lv_at hl 0 rfl) ?_
      refine lv_dup hx hb dX4_unit_53 rfl ?_
      refine u_geti C w hw (hP _ _ (isn_f rfl rfl (by decide))) rfl (N := 12) rfl rfl cin_4 4 (by decide) rfl gw_162 dX4_unit_54 ?_
      refine u_iv h (fun x33 h => ?_)
      refine lv_iconst (v := 1) hx hb dX4_unit_57 (by decide) ?_
      refine lv_iadd hx hb dX4_unit_58 ?_
      refine u_iv h (fun x34 h => ?_)
      refine u_puti C w hw (hP _ _ (isn_f rfl rfl (by decide))) rfl (N := 12) rfl rfl cin_4 tyX4 tyX4_ok nmX4 4 (by decide) rfl rfl rfl rfl gw_162 dX4_unit_59 (fun f H locs w hw hk1 => ?_)
      have hk := hk.tr hk1
      refine u_sv h hw hn (fun S35 h hw hn => ?_)
      refine lv_iconst (v := 1) hx hb dX4_unit_62 (by decide) ?_
      exact t_zret C hr hlk w (by decide) ⟨_, so_v h, rfl, so_w h hw, so_n h hn, hk⟩ (by decide) (by decide) dX4_unit_63
  dsimp only [N_X4_unit] at h
  obtain ⟨f, ef⟩ : ∃ z, z = f0 := ⟨_, rfl⟩
  rw [← ef] at w hw
  have hk : Kp ad P L f0 f := by rw [ef]; exact Kp.rf
  obtain ⟨H, eH⟩ : ∃ z, z = s.heap := ⟨_, rfl⟩
  obtain ⟨locs, el⟩ : ∃ z : List Loc, z = [] := ⟨_, rfl⟩
  rw [← eH, ← el] at w ⊢
  refine lv_aload_n hx hb dX4_unit_0 rfl (lv_at hl 0 rfl) ?_
  obtain ⟨v36, S37, h38, h⟩ := bd_some h
  refine u_callV (n := 0) C w hw (hP _ _ (isn_f rfl rfl (by decide))) rfl rfl rfl (c_X4_here l D K b0 sa _ L _ ad P hP S0 hw hn  v36 S37 h38) gw_834 gw_831 gw_832 gw_833 gw_5 ⟨by decide, by decide, by decide +kernel⟩ rfl rfl ⟨by dsimp only; omega, by dsimp only; omega⟩ rfl hl.1 rfl (Nat.le_of_ble_eq_true rfl) dX4_unit_1 ⟨Nat.le_of_ble_eq_true rfl, Nat.le_of_ble_eq_true rfl⟩ (fun v9 u H locs hp w => ?_)
  obtain ⟨f2, rfl, rfl, hw, hn, hk1⟩ := hp
  have hk := hk.tr hk1
  generalize f2 = f at w hw hk
  refine lv_istore_n (lv' := [(1, .int v36), (0, .ref (ad 17 0))]) hx hb dX4_unit_4 rfl hl (by decide) rfl (fun ls hl => ?_)
  refine lv_iload_n hx hb dX4_unit_5 rfl (lv_at hl 0 rfl) ?_
  refine lv_sipush (v := 257) hx hb dX4_unit_6 (by decide) ?_
  refine lv_icmp_ne (tgt := 17) hx hb dX4_unit_9 (by decide) (fun c39 => ?_) (fun c39 => ?_)
  · have h := bb_f h c39
    refine lv_iload_n hx hb dX4_unit_17 rfl (lv_at hl 0 rfl) ?_
    refine lv_sipush (v := 270) hx hb dX4_unit_18 (by decide) ?_
    refine lv_aload_n hx hb dX4_unit_21 rfl (lv_at hl 1 rfl) ?_
    refine u_geti C w hw (hP _ _ (isn_f rfl rfl (by decide))) rfl (N := 12) rfl rfl cin_4 9 (by decide) rfl gw_167 dX4_unit_22 ?_
    refine u_iv h (fun x40 h => ?_)
    refine lv_if_eq (tgt := 34) hx hb dX4_unit_25 (by decide) (fun c41 => ?_) (fun c41 => ?_)
    · have h := bb_t h c41
      refine lv_sipush (v := 275) hx hb dX4_unit_34 (by decide) ?_
      exact J37  v36 275 270 v36 S37 h f H locs w hw hn hk ls (lv_sub hl [1, 0] rfl)
    · have h := bb_f h c41
      refine lv_sipush (v := 276) hx hb dX4_unit_28 (by decide) ?_
      refine lv_goto (tgt := 37) hx hb dX4_unit_31 (by decide) ?_
      exact J37  v36 276 270 v36 S37 h f H locs w hw hn hk ls (lv_sub hl [1, 0] rfl)
  · have h := bb_t h c39
    refine lv_aload_n hx hb dX4_unit_12 rfl (lv_at hl 1 rfl) ?_
    obtain ⟨v42, S43, h44, h⟩ := bd_some h
    refine u_callV (n := 0) C w hw (hP _ _ (isn_f rfl rfl (by decide))) rfl rfl rfl (c_X4_number l D K b0 sa _ L _ ad P hP S37 hw hn  v42 S43 h44) gw_870 gw_867 gw_868 gw_869 gw_5 ⟨by decide, by decide, by decide +kernel⟩ rfl rfl ⟨by dsimp only; omega, by dsimp only; omega⟩ rfl hl.1 rfl (Nat.le_of_ble_eq_true rfl) dX4_unit_13 ⟨Nat.le_of_ble_eq_true rfl, Nat.le_of_ble_eq_true rfl⟩ (fun v9 u H locs hp w => ?_)
    obtain ⟨f2, rfl, rfl, hw, hn, hk1⟩ := hp
    have hk := hk.tr hk1
    generalize f2 = f at w hw hk
    obtain ⟨g45, h⟩ := gd_some h
    exact t_zret C hr hlk w (narb g45) ⟨_, so_v h, rfl, so_w h hw, so_n h hn, hk⟩ (by decide) (by decide) dX4_unit_16
theorem dX4_choice_0 : decode cX4_choice 0 = .ok (.aload_n 0, 1) := by decide +kernel
theorem dX4_choice_1 : decode cX4_choice 1 = .ok (.dup, 1) := by decide +kernel
theorem dX4_choice_2 : decode cX4_choice 2 = .ok (.getfield 25, 3) := by decide +kernel
theorem dX4_choice_5 : decode cX4_choice 5 = .ok (.iconst 1, 1) := by decide +kernel
theorem dX4_choice_6 : decode cX4_choice 6 = .ok (.iadd, 1) := by decide +kernel
theorem dX4_choice_7 : decode cX4_choice 7 = .ok (.putfield 25, 3) := by decide +kernel
theorem dX4_choice_10 : decode cX4_choice 10 = .ok (.aload_n 0, 1) := by decide +kernel
theorem dX4_choice_11 : decode cX4_choice 11 = .ok (.bipush 40, 2) := by decide +kernel
theorem dX4_choice_13 : decode cX4_choice 13 = .ok (.invokevirtual 169, 3) := by decide +kernel
theorem dX4_choice_16 : decode cX4_choice 16 = .ok (.ifCond .eq 10, 3) := by decide +kernel
theorem dX4_choice_19 : decode cX4_choice 19 = .ok (.aload_n 0, 1) := by decide +kernel
theorem dX4_choice_20 : decode cX4_choice 20 = .ok (.invokevirtual 156, 3) := by decide +kernel
theorem dX4_choice_23 : decode cX4_choice 23 = .ok (.ifCond .ne 5, 3) := by decide +kernel
theorem dX4_choice_26 : decode cX4_choice 26 = .ok (.iconst 0, 1) := by decide +kernel
theorem dX4_choice_27 : decode cX4_choice 27 = .ok (.ireturn, 1) := by decide +kernel
theorem dX4_choice_28 : decode cX4_choice 28 = .ok (.aload_n 0, 1) := by decide +kernel
theorem dX4_choice_29 : decode cX4_choice 29 = .ok (.bipush 44, 2) := by decide +kernel
theorem dX4_choice_31 : decode cX4_choice 31 = .ok (.invokevirtual 66, 3) := by decide +kernel
theorem dX4_choice_34 : decode cX4_choice 34 = .ok (.ifCond .ne 9, 3) := by decide +kernel
theorem dX4_choice_37 : decode cX4_choice 37 = .ok (.aload_n 0, 1) := by decide +kernel
theorem dX4_choice_38 : decode cX4_choice 38 = .ok (.iconst 1, 1) := by decide +kernel
theorem dX4_choice_39 : decode cX4_choice 39 = .ok (.invokevirtual 69, 3) := by decide +kernel
theorem dX4_choice_42 : decode cX4_choice 42 = .ok (.ireturn, 1) := by decide +kernel
theorem dX4_choice_43 : decode cX4_choice 43 = .ok (.aload_n 0, 1) := by decide +kernel
theorem dX4_choice_44 : decode cX4_choice 44 = .ok (.invokevirtual 156, 3) := by decide +kernel
theorem dX4_choice_47 : decode cX4_choice 47 = .ok (.ifCond .eq 12, 3) := by decide +kernel
theorem dX4_choice_50 : decode cX4_choice 50 = .ok (.aload_n 0, 1) := by decide +kernel
theorem dX4_choice_51 : decode cX4_choice 51 = .ok (.bipush 41, 2) := by decide +kernel
theorem dX4_choice_53 : decode cX4_choice 53 = .ok (.invokevirtual 172, 3) := by decide +kernel
theorem dX4_choice_56 : decode cX4_choice 56 = .ok (.ifCond .ne 5, 3) := by decide +kernel
theorem dX4_choice_59 : decode cX4_choice 59 = .ok (.iconst 0, 1) := by decide +kernel
theorem dX4_choice_60 : decode cX4_choice 60 = .ok (.ireturn, 1) := by decide +kernel
theorem dX4_choice_61 : decode cX4_choice 61 = .ok (.aload_n 0, 1) := by decide +kernel
theorem dX4_choice_62 : decode cX4_choice 62 = .ok (.iload_n 1, 1) := by decide +kernel
theorem dX4_choice_63 : decode cX4_choice 63 = .ok (.invokevirtual 159, 3) := by decide +kernel
theorem dX4_choice_66 : decode cX4_choice 66 = .ok (.iconst 1, 1) := by decide +kernel
theorem dX4_choice_67 : decode cX4_choice 67 = .ok (.ireturn, 1) := by decide +kernel
noncomputable def N_X4_choice (R : Nat → Int32 → fS → Option (Int32 × fS)) (p1 : Int32) (S0 : fS) : Option (Int32 × fS) := iv (ge S0 17 0 4) (fun x1 => iv (x1 + (1 : Int32)) (fun x2 => sv (pu S0 17 0 4 x2) (fun S3 => bd (F_X4_opened 40 S3) (fun v4 S5 => bb (v4 = (0 : Int32)) (some (0, S5)) (bd (R 3 0 S5) (fun v8 S9 => bb (v8 = (0 : Int32)) (some (0, S9)) (bd (F_X4_passed 44 S9) (fun v12 S13 => bb (v12 = (0 : Int32)) (bd (F_X4_fail 1 S13) (fun v27 S28 => gd (v27 = 0 ∨ v27 = 1) (some (v27, S28)))) (bd (R 3 0 S13) (fun v16 S17 => bb (v16 = (0 : Int32)) (some (0, S17)) (bd (F_X4_closed 41 S17) (fun v20 S21 => bb (v20 = (0 : Int32)) (some (0, S21)) (bd (F_X4_emit p1 S21) (fun v24 S25 => some (1, S25)))))))))))))))
set_option maxHeartbeats 4000000 in
set_option maxRecDepth 100000 in
theorem n_X4_choice (l : Launch) (D : va_G) (K : Nat → ClassId) (b0 : Nat) (sa : sT) (ad : Nat → Nat → Nat) {n : Nat × Nat} (P : Nat → Nat → Prop) (hP : ∀ a i : Nat, isn n a i → P a i) (R : Nat → Int32 → fS → Option (Int32 × fS)) (d : Nat) (hR0 : ∀ (sz : Nat) (L : List Nat) (f0 : Nat → va_E) (S0 : fS) (hw : PW K ad P S0 L f0) (hn : S0.2.2.1 = n) (v : Int32) (S1 : fS) (h : R 0 0 S0 = some (v, S1)), Met l yX4_condition (.code yX4_condition cX4_condition 4 (some .boolean) :: gt) { frames := 4 + d, cells := 0, slots := 0, locals := 62 + 40 * d } (va_Pc [.ref (ad 17 0)] (hPre D K b0 sa sz L f0)) (hQ D K b0 (fun v9 u9 => ∃ f2 : Nat → va_E, v9 = some (.int v) ∧ u9 = lU L f2 ∧ PW K ad P S1 L f2 ∧ S1.2.2.1 = n ∧ Kp ad P L f0 f2)) 0 0 (fun q => b0 ≤ q)) (hR1 : ∀ (sz : Nat) (L : List Nat) (f0 : Nat → va_E) (S0 : fS) (hw : PW K ad P S0 L f0) (hn : S0.2.2.1 = n) (v : Int32) (S1 : fS) (h : R 1 0 S0 = some (v, S1)), Met l yX4_claim (.code yX4_claim cX4_claim 2 (some .boolean) :: gt) { frames := 4 + d, cells := 0, slots := 0, locals := 62 + 40 * d } (va_Pc [.ref (ad 17 0)] (hPre D K b0 sa sz L f0)) (hQ D K b0 (fun v9 u9 => ∃ f2 : Nat → va_E, v9 = some (.int v) ∧ u9 = lU L f2 ∧ PW K ad P S1 L f2 ∧ S1.2.2.1 = n ∧ Kp ad P L f0 f2)) 0 0 (fun q => b0 ≤ q)) (hR2 : ∀ (sz : Nat) (L : List Nat) (f0 : Nat → va_E) (S0 : fS) (hw : PW K ad P S0 L f0) (hn : S0.2.2.1 = n) (v : Int32) (S1 : fS) (h : R 2 0 S0 = some (v, S1)), Met l yX4_denial (.code yX4_denial cX4_denial 1 (some .boolean) :: gt) { frames := 4 + d, cells := 0, slots := 0, locals := 62 + 40 * d } (va_Pc [.ref (ad 17 0)] (hPre D K b0 sa sz L f0)) (hQ D K b0 (fun v9 u9 => ∃ f2 : Nat → va_E, v9 = some (.int v) ∧ u9 = lU L f2 ∧ PW K ad P S1 L f2 ∧ S1.2.2.1 = n ∧ Kp ad P L f0 f2)) 0 0 (fun q => b0 ≤ q)) (hR3 : ∀ (sz : Nat) (L : List Nat) (f0 : Nat → va_E) (S0 : fS) (hw : PW K ad P S0 L f0) (hn : S0.2.2.1 = n) (v : Int32) (S1 : fS) (h : R 3 0 S0 = some (v, S1)), Met l yX4_sum (.code yX4_sum cX4_sum 4 (some .boolean) :: gt) { frames := 4 + d, cells := 0, slots := 0, locals := 62 + 40 * d } (va_Pc [.ref (ad 17 0)] (hPre D K b0 sa sz L f0)) (hQ D K b0 (fun v9 u9 => ∃ f2 : Nat → va_E, v9 = some (.int v) ∧ u9 = lU L f2 ∧ PW K ad P S1 L f2 ∧ S1.2.2.1 = n ∧ Kp ad P L f0 f2)) 0 0 (fun q => b0 ≤ q)) (hR4 : ∀ (sz : Nat) (L : List Nat) (f0 : Nat → va_E) (S0 : fS) (hw : PW K ad P S0 L f0) (hn : S0.2.2.1 = n) (v : Int32) (S1 : fS) (h : R 4 0 S0 = some (v, S1)), Met l yX4_unit (.code yX4_unit cX4_unit 2 (some .boolean) :: gt) { frames := 4 + d, cells := 0, slots := 0, locals := 62 + 40 * d } (va_Pc [.ref (ad 17 0)] (hPre D K b0 sa sz L f0)) (hQ D K b0 (fun v9 u9 => ∃ f2 : Nat → va_E, v9 = some (.int v) ∧ u9 = lU L f2 ∧ PW K ad P S1 L f2 ∧ S1.2.2.1 = n ∧ Kp ad P L f0 f2)) 0 0 (fun q => b0 ≤ q)) (hR5 : ∀ (sz : Nat) (L : List Nat) (f0 : Nat → va_E) (S0 : fS) (hw : PW K ad P S0 L f0) (hn : S0.2.2.1 = n) (p1 : Int32) (v : Int32) (S1 : fS) (h : R 5 p1 S0 = some (v, S1)), Met l yX4_choice (.code yX4_choice cX4_choice 2 (some .boolean) :: gt) { frames := 4 + d, cells := 0, slots := 0, locals := 62 + 40 * d } (va_Pc [.ref (ad 17 0), .int p1] (hPre D K b0 sa sz L f0)) (hQ D K b0 (fun v9 u9 => ∃ f2 : Nat → va_E, v9 = some (.int v) ∧ u9 = lU L f2 ∧ PW K ad P S1 L f2 ∧ S1.2.2.1 = n ∧ Kp ad P L f0 f2)) 0 0 (fun q => b0 ≤ q)) (sz : Nat) (L : List Nat) (f0 : Nat → va_E) (S0 : fS) (hw : PW K ad P S0 L f0) (hn : S0.2.2.1 = n) (p1 : Int32) (v : Int32) (S1 : fS) (h : N_X4_choice R p1 S0 = some (v, S1)) : Met l yX4_choice (.code yX4_choice cX4_choice 2 (some .boolean) :: gt) { frames := 4 + (d + 1), cells := 0, slots := 0, locals := 62 + 40 * (d + 1) } (va_Pc [.ref (ad 17 0), .int p1] (hPre D K b0 sa sz L f0)) (hQ D K b0 (fun v9 u9 => ∃ f2 : Nat → va_E, v9 = some (.int v) ∧ u9 = lU L f2 ∧ PW K ad P S1 L f2 ∧ S1.2.2.1 = n ∧ Kp ad P L f0 f2)) 0 0 (fun q => b0 ≤ q) := by
  refine t_of (own := RX4) (by decide) rfl ?_ (Nat.le_of_ble_eq_true rfl)
  intro p e s m below meth c ls C w hsz hr hlk hnm hl
  have hx := C.1
  have hb := C.2.1
  have hl : lv_has ls 2 [(0, .ref (ad 17 0)), (1, .int p1)] := hl
  dsimp only [N_X4_choice] at h
  obtain ⟨f, ef⟩ : ∃ z, z = f0 := ⟨_, rfl⟩
  rw [← ef] at w hw
  have hk : Kp ad P L f0 f := by rw [ef]; exact Kp.rf
  obtain ⟨H, eH⟩ : ∃ z, z = s.heap := ⟨_, rfl⟩
  obtain ⟨locs, el⟩ : ∃ z : List Loc, z = [] := ⟨_, rfl⟩
  rw [← eH, ← el] at w ⊢
  refine lv_aload_n hx hb dX4_choice_0 rfl (lv_at hl 0 rfl) ?_
  refine lv_dup hx hb dX4_choice_1 rfl ?_
  refine u_geti C w hw (hP _ _ (isn_f rfl rfl (by decide))) rfl (N := 12) rfl rfl cin_4 4 (by decide) rfl gw_162 dX4_choice_2 ?_
  refine u_iv h (fun x1 h => ?_)
  refine lv_iconst (v := 1) hx hb dX4_choice_5 (by decide) ?_
  refine lv_iadd hx hb dX4_choice_6 ?_
  refine u_iv h (fun x2 h => ?_)
  refine u_puti C w hw (hP _ _ (isn_f rfl rfl (by decide))) rfl (N := 12) rfl rfl cin_4 tyX4 tyX4_ok nmX4 4 (by decide) rfl rfl rfl rfl gw_162 dX4_choice_7 (fun f H locs w hw hk1 => ?_)
  have hk := hk.tr hk1
  refine u_sv h hw hn (fun S3 h hw hn => ?_)
  refine lv_aload_n hx hb dX4_choice_10 rfl (lv_at hl 0 rfl) ?_
  refine lv_bipush (v := 40) hx hb dX4_choice_11 (by decide) ?_
  obtain ⟨v4, S5, h6, h⟩ := bd_some h
  refine u_callV (n := 1) C w hw (hP _ _ (isn_f rfl rfl (by decide))) rfl rfl rfl (c_X4_opened l D K b0 sa _ L _ ad P hP S3 hw hn 40 v4 S5 h6) gw_842 gw_839 gw_840 gw_841 gw_5 ⟨by decide, by decide, by decide +kernel⟩ rfl rfl ⟨by dsimp only; omega, by dsimp only; omega⟩ rfl hl.1 rfl (Nat.le_of_ble_eq_true rfl) dX4_choice_13 ⟨Nat.le_of_ble_eq_true rfl, Nat.le_of_ble_eq_true rfl⟩ (fun v9 u H locs hp w => ?_)
  obtain ⟨f2, rfl, rfl, hw, hn, hk1⟩ := hp
  have hk := hk.tr hk1
  generalize f2 = f at w hw hk
  refine lv_if_eq (tgt := 26) hx hb dX4_choice_16 (by decide) (fun c7 => ?_) (fun c7 => ?_)
  · have h := bb_t h c7
    refine lv_iconst (v := 0) hx hb dX4_choice_26 (by decide) ?_
    exact t_zret C hr hlk w (by decide) ⟨_, so_v h, rfl, so_w h hw, so_n h hn, hk⟩ (by decide) (by decide) dX4_choice_27
  · have h := bb_f h c7
    refine lv_aload_n hx hb dX4_choice_19 rfl (lv_at hl 0 rfl) ?_
    obtain ⟨v8, S9, h10, h⟩ := bd_some h
    refine u_callV (n := 0) C w hw (hP _ _ (isn_f rfl rfl (by decide))) rfl rfl rfl (hR3 _ L _ S5 hw hn v8 S9 h10) gw_862 gw_859 gw_861 gs_11 gw_5 ⟨by decide, by decide, by decide +kernel⟩ rfl rfl ⟨by dsimp only; omega, by dsimp only; omega⟩ rfl hl.1 rfl (Nat.le_of_ble_eq_true rfl) dX4_choice_20 ⟨Nat.le_of_ble_eq_true rfl, Nat.le_of_ble_eq_true rfl⟩ (fun v9 u H locs hp w => ?_)
    obtain ⟨f2, rfl, rfl, hw, hn, hk1⟩ := hp
    have hk := hk.tr hk1
    generalize f2 = f at w hw hk
    refine lv_if_ne (tgt := 28) hx hb dX4_choice_23 (by decide) (fun c11 => ?_) (fun c11 => ?_)
    · have h := bb_f h c11
      refine lv_aload_n hx hb dX4_choice_28 rfl (lv_at hl 0 rfl) ?_
      refine lv_bipush (v := 44) hx hb dX4_choice_29 (by decide) ?_
      obtain ⟨v12, S13, h14, h⟩ := bd_some h
      refine u_callV (n := 1) C w hw (hP _ _ (isn_f rfl rfl (by decide))) rfl rfl rfl (c_X4_passed l D K b0 sa _ L _ ad P hP S9 hw hn 44 v12 S13 h14) gw_858 gw_855 gw_856 gw_857 gw_5 ⟨by decide, by decide, by decide +kernel⟩ rfl rfl ⟨by dsimp only; omega, by dsimp only; omega⟩ rfl hl.1 rfl (Nat.le_of_ble_eq_true rfl) dX4_choice_31 ⟨Nat.le_of_ble_eq_true rfl, Nat.le_of_ble_eq_true rfl⟩ (fun v9 u H locs hp w => ?_)
      obtain ⟨f2, rfl, rfl, hw, hn, hk1⟩ := hp
      have hk := hk.tr hk1
      generalize f2 = f at w hw hk
      refine lv_if_ne (tgt := 43) hx hb dX4_choice_34 (by decide) (fun c15 => ?_) (fun c15 => ?_)
      · have h := bb_f h c15
        refine lv_aload_n hx hb dX4_choice_43 rfl (lv_at hl 0 rfl) ?_
        obtain ⟨v16, S17, h18, h⟩ := bd_some h
        refine u_callV (n := 0) C w hw (hP _ _ (isn_f rfl rfl (by decide))) rfl rfl rfl (hR3 _ L _ S13 hw hn v16 S17 h18) gw_862 gw_859 gw_861 gs_11 gw_5 ⟨by decide, by decide, by decide +kernel⟩ rfl rfl ⟨by dsimp only; omega, by dsimp only; omega⟩ rfl hl.1 rfl (Nat.le_of_ble_eq_true rfl) dX4_choice_44 ⟨Nat.le_of_ble_eq_true rfl, Nat.le_of_ble_eq_true rfl⟩ (fun v9 u H locs hp w => ?_)
        obtain ⟨f2, rfl, rfl, hw, hn, hk1⟩ := hp
        have hk := hk.tr hk1
        generalize f2 = f at w hw hk
        refine lv_if_eq (tgt := 59) hx hb dX4_choice_47 (by decide) (fun c19 => ?_) (fun c19 => ?_)
        · have h := bb_t h c19
          refine lv_iconst (v := 0) hx hb dX4_choice_59 (by decide) ?_
          exact t_zret C hr hlk w (by decide) ⟨_, so_v h, rfl, so_w h hw, so_n h hn, hk⟩ (by decide) (by decide) dX4_choice_60
        · have h := bb_f h c19
          refine lv_aload_n hx hb dX4_choice_50 rfl (lv_at hl 0 rfl) ?_
          refine lv_bipush (v := 41) hx hb dX4_choice_51 (by decide) ?_
          obtain ⟨v20, S21, h22, h⟩ := bd_some h
          refine u_callV (n := 1) C w hw (hP _ _ (isn_f rfl rfl (by decide))) rfl rfl rfl (c_X4_closed l D K b0 sa _ L _ ad P hP S17 hw hn 41 v20 S21 h22) gw_854 gw_851 gw_852 gw_853 gw_5 ⟨by decide, by decide, by decide +kernel⟩ rfl rfl ⟨by dsimp only; omega, by dsimp only; omega⟩ rfl hl.1 rfl (Nat.le_of_ble_eq_true rfl) dX4_choice_53 ⟨Nat.le_of_ble_eq_true rfl, Nat.le_of_ble_eq_true rfl⟩ (fun v9 u H locs hp w => ?_)
          obtain ⟨f2, rfl, rfl, hw, hn, hk1⟩ := hp
          have hk := hk.tr hk1
          generalize f2 = f at w hw hk
          refine lv_if_ne (tgt := 61) hx hb dX4_choice_56 (by decide) (fun c23 => ?_) (fun c23 => ?_)
          · have h := bb_f h c23
            refine lv_aload_n hx hb dX4_choice_61 rfl (lv_at hl 0 rfl) ?_
            refine lv_iload_n hx hb dX4_choice_62 rfl (lv_at hl 1 rfl) ?_
            obtain ⟨v24, S25, h26, h⟩ := bd_some h
            refine u_callV (n := 1) C w hw (hP _ _ (isn_f rfl rfl (by decide))) rfl rfl rfl (c_X4_emit l D K b0 sa _ L _ ad P hP S21 hw hn p1 v24 S25 h26) gw_850 gw_847 gw_848 gw_849 gw_5 ⟨by decide, by decide, by decide +kernel⟩ rfl rfl ⟨by dsimp only; omega, by dsimp only; omega⟩ rfl hl.1 rfl (Nat.le_of_ble_eq_true rfl) dX4_choice_63 ⟨Nat.le_of_ble_eq_true rfl, Nat.le_of_ble_eq_true rfl⟩ (fun v9 u H locs hp w => ?_)
            obtain ⟨f2, rfl, rfl, hw, hn, hk1⟩ := hp
            have hk := hk.tr hk1
            generalize f2 = f at w hw hk
            refine lv_iconst (v := 1) hx hb dX4_choice_66 (by decide) ?_
            exact t_zret C hr hlk w (by decide) ⟨_, so_v h, rfl, so_w h hw, so_n h hn, hk⟩ (by decide) (by decide) dX4_choice_67
          · have h := bb_t h c23
            refine lv_iconst (v := 0) hx hb dX4_choice_59 (by decide) ?_
            exact t_zret C hr hlk w (by decide) ⟨_, so_v h, rfl, so_w h hw, so_n h hn, hk⟩ (by decide) (by decide) dX4_choice_60
      · have h := bb_t h c15
        refine lv_aload_n hx hb dX4_choice_37 rfl (lv_at hl 0 rfl) ?_
        refine lv_iconst (v := 1) hx hb dX4_choice_38 (by decide) ?_
        obtain ⟨v27, S28, h29, h⟩ := bd_some h
        refine u_callV (n := 1) C w hw (hP _ _ (isn_f rfl rfl (by decide))) rfl rfl rfl (c_X4_fail l D K b0 sa _ L _ ad P hP S13 hw hn 1 v27 S28 h29) gw_846 gw_843 gw_844 gw_845 gw_5 ⟨by decide, by decide, by decide +kernel⟩ rfl rfl ⟨by dsimp only; omega, by dsimp only; omega⟩ rfl hl.1 rfl (Nat.le_of_ble_eq_true rfl) dX4_choice_39 ⟨Nat.le_of_ble_eq_true rfl, Nat.le_of_ble_eq_true rfl⟩ (fun v9 u H locs hp w => ?_)
        obtain ⟨f2, rfl, rfl, hw, hn, hk1⟩ := hp
        have hk := hk.tr hk1
        generalize f2 = f at w hw hk
        obtain ⟨g30, h⟩ := gd_some h
        exact t_zret C hr hlk w (narb g30) ⟨_, so_v h, rfl, so_w h hw, so_n h hn, hk⟩ (by decide) (by decide) dX4_choice_42
    · have h := bb_t h c11
      refine lv_iconst (v := 0) hx hb dX4_choice_26 (by decide) ?_
      exact t_zret C hr hlk w (by decide) ⟨_, so_v h, rfl, so_w h hw, so_n h hn, hk⟩ (by decide) (by decide) dX4_choice_27
noncomputable def R_X4r : Nat → Nat → Int32 → fS → Option (Int32 × fS)
  | 0 => fun _ _ _ => none
  | d + 1 => fun j q S => match j with
    | 0 => N_X4_condition (R_X4r d) S
    | 1 => N_X4_claim (R_X4r d) S
    | 2 => N_X4_denial (R_X4r d) S
    | 3 => N_X4_sum (R_X4r d) S
    | 4 => N_X4_unit (R_X4r d) S
    | 5 => N_X4_choice (R_X4r d) q S
    | _ => none
set_option maxHeartbeats 4000000 in
set_option maxRecDepth 100000 in
theorem r_X4r (l : Launch) (D : va_G) (K : Nat → ClassId) (b0 : Nat) (sa : sT) (ad : Nat → Nat → Nat) {n : Nat × Nat} (P : Nat → Nat → Prop) (hP : ∀ a i : Nat, isn n a i → P a i) (d : Nat) : (∀ (sz : Nat) (L : List Nat) (f0 : Nat → va_E) (S0 : fS) (hw : PW K ad P S0 L f0) (hn : S0.2.2.1 = n) (v : Int32) (S1 : fS) (h : R_X4r d 0 0 S0 = some (v, S1)), Met l yX4_condition (.code yX4_condition cX4_condition 4 (some .boolean) :: gt) { frames := 4 + d, cells := 0, slots := 0, locals := 62 + 40 * d } (va_Pc [.ref (ad 17 0)] (hPre D K b0 sa sz L f0)) (hQ D K b0 (fun v9 u9 => ∃ f2 : Nat → va_E, v9 = some (.int v) ∧ u9 = lU L f2 ∧ PW K ad P S1 L f2 ∧ S1.2.2.1 = n ∧ Kp ad P L f0 f2)) 0 0 (fun q => b0 ≤ q)) ∧ (∀ (sz : Nat) (L : List Nat) (f0 : Nat → va_E) (S0 : fS) (hw : PW K ad P S0 L f0) (hn : S0.2.2.1 = n) (v : Int32) (S1 : fS) (h : R_X4r d 1 0 S0 = some (v, S1)), Met l yX4_claim (.code yX4_claim cX4_claim 2 (some .boolean) :: gt) { frames := 4 + d, cells := 0, slots := 0, locals := 62 + 40 * d } (va_Pc [.ref (ad 17 0)] (hPre D K b0 sa sz L f0)) (hQ D K b0 (fun v9 u9 => ∃ f2 : Nat → va_E, v9 = some (.int v) ∧ u9 = lU L f2 ∧ PW K ad P S1 L f2 ∧ S1.2.2.1 = n ∧ Kp ad P L f0 f2)) 0 0 (fun q => b0 ≤ q)) ∧ (∀ (sz : Nat) (L : List Nat) (f0 : Nat → va_E) (S0 : fS) (hw : PW K ad P S0 L f0) (hn : S0.2.2.1 = n) (v : Int32) (S1 : fS) (h : R_X4r d 2 0 S0 = some (v, S1)), Met l yX4_denial (.code yX4_denial cX4_denial 1 (some .boolean) :: gt) { frames := 4 + d, cells := 0, slots := 0, locals := 62 + 40 * d } (va_Pc [.ref (ad 17 0)] (hPre D K b0 sa sz L f0)) (hQ D K b0 (fun v9 u9 => ∃ f2 : Nat → va_E, v9 = some (.int v) ∧ u9 = lU L f2 ∧ PW K ad P S1 L f2 ∧ S1.2.2.1 = n ∧ Kp ad P L f0 f2)) 0 0 (fun q => b0 ≤ q)) ∧ (∀ (sz : Nat) (L : List Nat) (f0 : Nat → va_E) (S0 : fS) (hw : PW K ad P S0 L f0) (hn : S0.2.2.1 = n) (v : Int32) (S1 : fS) (h : R_X4r d 3 0 S0 = some (v, S1)), Met l yX4_sum (.code yX4_sum cX4_sum 4 (some .boolean) :: gt) { frames := 4 + d, cells := 0, slots := 0, locals := 62 + 40 * d } (va_Pc [.ref (ad 17 0)] (hPre D K b0 sa sz L f0)) (hQ D K b0 (fun v9 u9 => ∃ f2 : Nat → va_E, v9 = some (.int v) ∧ u9 = lU L f2 ∧ PW K ad P S1 L f2 ∧ S1.2.2.1 = n ∧ Kp ad P L f0 f2)) 0 0 (fun q => b0 ≤ q)) ∧ (∀ (sz : Nat) (L : List Nat) (f0 : Nat → va_E) (S0 : fS) (hw : PW K ad P S0 L f0) (hn : S0.2.2.1 = n) (v : Int32) (S1 : fS) (h : R_X4r d 4 0 S0 = some (v, S1)), Met l yX4_unit (.code yX4_unit cX4_unit 2 (some .boolean) :: gt) { frames := 4 + d, cells := 0, slots := 0, locals := 62 + 40 * d } (va_Pc [.ref (ad 17 0)] (hPre D K b0 sa sz L f0)) (hQ D K b0 (fun v9 u9 => ∃ f2 : Nat → va_E, v9 = some (.int v) ∧ u9 = lU L f2 ∧ PW K ad P S1 L f2 ∧ S1.2.2.1 = n ∧ Kp ad P L f0 f2)) 0 0 (fun q => b0 ≤ q)) ∧ (∀ (sz : Nat) (L : List Nat) (f0 : Nat → va_E) (S0 : fS) (hw : PW K ad P S0 L f0) (hn : S0.2.2.1 = n) (p1 : Int32) (v : Int32) (S1 : fS) (h : R_X4r d 5 p1 S0 = some (v, S1)), Met l yX4_choice (.code yX4_choice cX4_choice 2 (some .boolean) :: gt) { frames := 4 + d, cells := 0, slots := 0, locals := 62 + 40 * d } (va_Pc [.ref (ad 17 0), .int p1] (hPre D K b0 sa sz L f0)) (hQ D K b0 (fun v9 u9 => ∃ f2 : Nat → va_E, v9 = some (.int v) ∧ u9 = lU L f2 ∧ PW K ad P S1 L f2 ∧ S1.2.2.1 = n ∧ Kp ad P L f0 f2)) 0 0 (fun q => b0 ≤ q)) := by
  induction d with
  | zero => exact ⟨fun sz L f0 S0 hw hn v S1 h => (by cases h), fun sz L f0 S0 hw hn v S1 h => (by cases h), fun sz L f0 S0 hw hn v S1 h => (by cases h), fun sz L f0 S0 hw hn v S1 h => (by cases h), fun sz L f0 S0 hw hn v S1 h => (by cases h), fun sz L f0 S0 hw hn p1 v S1 h => (by cases h)⟩
  | succ d ih => exact ⟨fun sz L f0 S0 hw hn v S1 h => n_X4_condition l D K b0 sa ad P hP (R_X4r d) d ih.1 ih.2.1 ih.2.2.1 ih.2.2.2.1 ih.2.2.2.2.1 ih.2.2.2.2.2 sz L f0 S0 hw hn v S1 h, fun sz L f0 S0 hw hn v S1 h => n_X4_claim l D K b0 sa ad P hP (R_X4r d) d ih.1 ih.2.1 ih.2.2.1 ih.2.2.2.1 ih.2.2.2.2.1 ih.2.2.2.2.2 sz L f0 S0 hw hn v S1 h, fun sz L f0 S0 hw hn v S1 h => n_X4_denial l D K b0 sa ad P hP (R_X4r d) d ih.1 ih.2.1 ih.2.2.1 ih.2.2.2.1 ih.2.2.2.2.1 ih.2.2.2.2.2 sz L f0 S0 hw hn v S1 h, fun sz L f0 S0 hw hn v S1 h => n_X4_sum l D K b0 sa ad P hP (R_X4r d) d ih.1 ih.2.1 ih.2.2.1 ih.2.2.2.1 ih.2.2.2.2.1 ih.2.2.2.2.2 sz L f0 S0 hw hn v S1 h, fun sz L f0 S0 hw hn v S1 h => n_X4_unit l D K b0 sa ad P hP (R_X4r d) d ih.1 ih.2.1 ih.2.2.1 ih.2.2.2.1 ih.2.2.2.2.1 ih.2.2.2.2.2 sz L f0 S0 hw hn v S1 h, fun sz L f0 S0 hw hn p1 v S1 h => n_X4_choice l D K b0 sa ad P hP (R_X4r d) d ih.1 ih.2.1 ih.2.2.1 ih.2.2.2.1 ih.2.2.2.2.1 ih.2.2.2.2.2 sz L f0 S0 hw hn p1 v S1 h⟩
noncomputable def F_X4_condition (S0 : fS) : Option (Int32 × fS) := R_X4r 64 0 0 S0
theorem c_X4_condition (l : Launch) (D : va_G) (K : Nat → ClassId) (b0 : Nat) (sa : sT) (sz : Nat) (L : List Nat) (f0 : Nat → va_E) (ad : Nat → Nat → Nat) (P : Nat → Nat → Prop) {n : Nat × Nat} (hP : ∀ a i : Nat, isn n a i → P a i) (S0 : fS) (hw : PW K ad P S0 L f0) (hn : S0.2.2.1 = n) (v : Int32) (S1 : fS) (h : F_X4_condition S0 = some (v, S1)) : Met l yX4_condition (.code yX4_condition cX4_condition 4 (some .boolean) :: gt) { frames := 68, cells := 0, slots := 0, locals := 2622 } (va_Pc [.ref (ad 17 0)] (hPre D K b0 sa sz L f0)) (hQ D K b0 (fun v9 u9 => ∃ f2 : Nat → va_E, v9 = some (.int v) ∧ u9 = lU L f2 ∧ PW K ad P S1 L f2 ∧ S1.2.2.1 = n ∧ Kp ad P L f0 f2)) 0 0 (fun q => b0 ≤ q) := (r_X4r l D K b0 sa ad P hP 64).1 sz L f0 S0 hw hn v S1 h
noncomputable def F_X4_claim (S0 : fS) : Option (Int32 × fS) := R_X4r 64 1 0 S0
theorem c_X4_claim (l : Launch) (D : va_G) (K : Nat → ClassId) (b0 : Nat) (sa : sT) (sz : Nat) (L : List Nat) (f0 : Nat → va_E) (ad : Nat → Nat → Nat) (P : Nat → Nat → Prop) {n : Nat × Nat} (hP : ∀ a i : Nat, isn n a i → P a i) (S0 : fS) (hw : PW K ad P S0 L f0) (hn : S0.2.2.1 = n) (v : Int32) (S1 : fS) (h : F_X4_claim S0 = some (v, S1)) : Met l yX4_claim (.code yX4_claim cX4_claim 2 (some .boolean) :: gt) { frames := 68, cells := 0, slots := 0, locals := 2622 } (va_Pc [.ref (ad 17 0)] (hPre D K b0 sa sz L f0)) (hQ D K b0 (fun v9 u9 => ∃ f2 : Nat → va_E, v9 = some (.int v) ∧ u9 = lU L f2 ∧ PW K ad P S1 L f2 ∧ S1.2.2.1 = n ∧ Kp ad P L f0 f2)) 0 0 (fun q => b0 ≤ q) := (r_X4r l D K b0 sa ad P hP 64).2.1 sz L f0 S0 hw hn v S1 h
noncomputable def F_X4_denial (S0 : fS) : Option (Int32 × fS) := R_X4r 64 2 0 S0
theorem c_X4_denial (l : Launch) (D : va_G) (K : Nat → ClassId) (b0 : Nat) (sa : sT) (sz : Nat) (L : List Nat) (f0 : Nat → va_E) (ad : Nat → Nat → Nat) (P : Nat → Nat → Prop) {n : Nat × Nat} (hP : ∀ a i : Nat, isn n a i → P a i) (S0 : fS) (hw : PW K ad P S0 L f0) (hn : S0.2.2.1 = n) (v : Int32) (S1 : fS) (h : F_X4_denial S0 = some (v, S1)) : Met l yX4_denial (.code yX4_denial cX4_denial 1 (some .boolean) :: gt) { frames := 68, cells := 0, slots := 0, locals := 2622 } (va_Pc [.ref (ad 17 0)] (hPre D K b0 sa sz L f0)) (hQ D K b0 (fun v9 u9 => ∃ f2 : Nat → va_E, v9 = some (.int v) ∧ u9 = lU L f2 ∧ PW K ad P S1 L f2 ∧ S1.2.2.1 = n ∧ Kp ad P L f0 f2)) 0 0 (fun q => b0 ≤ q) := (r_X4r l D K b0 sa ad P hP 64).2.2.1 sz L f0 S0 hw hn v S1 h
noncomputable def F_X4_sum (S0 : fS) : Option (Int32 × fS) := R_X4r 64 3 0 S0
theorem c_X4_sum (l : Launch) (D : va_G) (K : Nat → ClassId) (b0 : Nat) (sa : sT) (sz : Nat) (L : List Nat) (f0 : Nat → va_E) (ad : Nat → Nat → Nat) (P : Nat → Nat → Prop) {n : Nat × Nat} (hP : ∀ a i : Nat, isn n a i → P a i) (S0 : fS) (hw : PW K ad P S0 L f0) (hn : S0.2.2.1 = n) (v : Int32) (S1 : fS) (h : F_X4_sum S0 = some (v, S1)) : Met l yX4_sum (.code yX4_sum cX4_sum 4 (some .boolean) :: gt) { frames := 68, cells := 0, slots := 0, locals := 2622 } (va_Pc [.ref (ad 17 0)] (hPre D K b0 sa sz L f0)) (hQ D K b0 (fun v9 u9 => ∃ f2 : Nat → va_E, v9 = some (.int v) ∧ u9 = lU L f2 ∧ PW K ad P S1 L f2 ∧ S1.2.2.1 = n ∧ Kp ad P L f0 f2)) 0 0 (fun q => b0 ≤ q) := (r_X4r l D K b0 sa ad P hP 64).2.2.2.1 sz L f0 S0 hw hn v S1 h
noncomputable def F_X4_unit (S0 : fS) : Option (Int32 × fS) := R_X4r 64 4 0 S0
theorem c_X4_unit (l : Launch) (D : va_G) (K : Nat → ClassId) (b0 : Nat) (sa : sT) (sz : Nat) (L : List Nat) (f0 : Nat → va_E) (ad : Nat → Nat → Nat) (P : Nat → Nat → Prop) {n : Nat × Nat} (hP : ∀ a i : Nat, isn n a i → P a i) (S0 : fS) (hw : PW K ad P S0 L f0) (hn : S0.2.2.1 = n) (v : Int32) (S1 : fS) (h : F_X4_unit S0 = some (v, S1)) : Met l yX4_unit (.code yX4_unit cX4_unit 2 (some .boolean) :: gt) { frames := 68, cells := 0, slots := 0, locals := 2622 } (va_Pc [.ref (ad 17 0)] (hPre D K b0 sa sz L f0)) (hQ D K b0 (fun v9 u9 => ∃ f2 : Nat → va_E, v9 = some (.int v) ∧ u9 = lU L f2 ∧ PW K ad P S1 L f2 ∧ S1.2.2.1 = n ∧ Kp ad P L f0 f2)) 0 0 (fun q => b0 ≤ q) := (r_X4r l D K b0 sa ad P hP 64).2.2.2.2.1 sz L f0 S0 hw hn v S1 h
noncomputable def F_X4_choice (p1 : Int32) (S0 : fS) : Option (Int32 × fS) := R_X4r 64 5 p1 S0
theorem c_X4_choice (l : Launch) (D : va_G) (K : Nat → ClassId) (b0 : Nat) (sa : sT) (sz : Nat) (L : List Nat) (f0 : Nat → va_E) (ad : Nat → Nat → Nat) (P : Nat → Nat → Prop) {n : Nat × Nat} (hP : ∀ a i : Nat, isn n a i → P a i) (S0 : fS) (hw : PW K ad P S0 L f0) (hn : S0.2.2.1 = n) (p1 : Int32) (v : Int32) (S1 : fS) (h : F_X4_choice p1 S0 = some (v, S1)) : Met l yX4_choice (.code yX4_choice cX4_choice 2 (some .boolean) :: gt) { frames := 68, cells := 0, slots := 0, locals := 2622 } (va_Pc [.ref (ad 17 0), .int p1] (hPre D K b0 sa sz L f0)) (hQ D K b0 (fun v9 u9 => ∃ f2 : Nat → va_E, v9 = some (.int v) ∧ u9 = lU L f2 ∧ PW K ad P S1 L f2 ∧ S1.2.2.1 = n ∧ Kp ad P L f0 f2)) 0 0 (fun q => b0 ≤ q) := (r_X4r l D K b0 sa ad P hP 64).2.2.2.2.2 sz L f0 S0 hw hn p1 v S1 h
