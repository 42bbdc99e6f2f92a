theorem dX5_lookBeside_0 : decode cX5_lookBeside 0 = .ok (.iload_n 2, 1) := by decide +kernel
theorem dX5_lookBeside_1 : decode cX5_lookBeside 1 = .ok (.bipush 8, 2) := by decide +kernel
theorem dX5_lookBeside_3 : decode cX5_lookBeside 3 = .ok (.irem, 1) := by decide +kernel
theorem dX5_lookBeside_4 : decode cX5_lookBeside 4 = .ok (.getstatic 116, 3) := by decide +kernel
theorem dX5_lookBeside_7 : decode cX5_lookBeside 7 = .ok (.iload_n 3, 1) := by decide +kernel
theorem dX5_lookBeside_8 : decode cX5_lookBeside 8 = .ok (.iaload, 1) := by decide +kernel
theorem dX5_lookBeside_9 : decode cX5_lookBeside 9 = .ok (.iadd, 1) := by decide +kernel
theorem dX5_lookBeside_10 : decode cX5_lookBeside 10 = .ok (.istore 5, 2) := by decide +kernel
theorem dX5_lookBeside_12 : decode cX5_lookBeside 12 = .ok (.iload_n 2, 1) := by decide +kernel
theorem dX5_lookBeside_13 : decode cX5_lookBeside 13 = .ok (.bipush 8, 2) := by decide +kernel
theorem dX5_lookBeside_15 : decode cX5_lookBeside 15 = .ok (.idiv, 1) := by decide +kernel
theorem dX5_lookBeside_16 : decode cX5_lookBeside 16 = .ok (.getstatic 119, 3) := by decide +kernel
theorem dX5_lookBeside_19 : decode cX5_lookBeside 19 = .ok (.iload_n 3, 1) := by decide +kernel
theorem dX5_lookBeside_20 : decode cX5_lookBeside 20 = .ok (.iaload, 1) := by decide +kernel
theorem dX5_lookBeside_21 : decode cX5_lookBeside 21 = .ok (.iadd, 1) := by decide +kernel
theorem dX5_lookBeside_22 : decode cX5_lookBeside 22 = .ok (.istore 6, 2) := by decide +kernel
theorem dX5_lookBeside_24 : decode cX5_lookBeside 24 = .ok (.iload 5, 2) := by decide +kernel
theorem dX5_lookBeside_26 : decode cX5_lookBeside 26 = .ok (.iconst 0, 1) := by decide +kernel
theorem dX5_lookBeside_27 : decode cX5_lookBeside 27 = .ok (.bipush 7, 2) := by decide +kernel
theorem dX5_lookBeside_29 : decode cX5_lookBeside 29 = .ok (.invokestatic 80, 3) := by decide +kernel
theorem dX5_lookBeside_32 : decode cX5_lookBeside 32 = .ok (.ifCond .eq 14, 3) := by decide +kernel
theorem dX5_lookBeside_35 : decode cX5_lookBeside 35 = .ok (.iload 6, 2) := by decide +kernel
theorem dX5_lookBeside_37 : decode cX5_lookBeside 37 = .ok (.iconst 0, 1) := by decide +kernel
theorem dX5_lookBeside_38 : decode cX5_lookBeside 38 = .ok (.bipush 7, 2) := by decide +kernel
theorem dX5_lookBeside_40 : decode cX5_lookBeside 40 = .ok (.invokestatic 80, 3) := by decide +kernel
theorem dX5_lookBeside_43 : decode cX5_lookBeside 43 = .ok (.ifCond .ne 4, 3) := by decide +kernel
theorem dX5_lookBeside_46 : decode cX5_lookBeside 46 = .ok (.return_, 1) := by decide +kernel
theorem dX5_lookBeside_47 : decode cX5_lookBeside 47 = .ok (.aload_n 1, 1) := by decide +kernel
theorem dX5_lookBeside_48 : decode cX5_lookBeside 48 = .ok (.getfield 88, 3) := by decide +kernel
theorem dX5_lookBeside_51 : decode cX5_lookBeside 51 = .ok (.bipush 8, 2) := by decide +kernel
theorem dX5_lookBeside_53 : decode cX5_lookBeside 53 = .ok (.iload 6, 2) := by decide +kernel
theorem dX5_lookBeside_55 : decode cX5_lookBeside 55 = .ok (.imul, 1) := by decide +kernel
theorem dX5_lookBeside_56 : decode cX5_lookBeside 56 = .ok (.iload 5, 2) := by decide +kernel
theorem dX5_lookBeside_58 : decode cX5_lookBeside 58 = .ok (.iadd, 1) := by decide +kernel
theorem dX5_lookBeside_59 : decode cX5_lookBeside 59 = .ok (.iaload, 1) := by decide +kernel
theorem dX5_lookBeside_60 : decode cX5_lookBeside 60 = .ok (.istore 7, 2) := by decide +kernel
theorem dX5_lookBeside_62 : decode cX5_lookBeside 62 = .ok (.aload_n 1, 1) := by decide +kernel
theorem dX5_lookBeside_63 : decode cX5_lookBeside 63 = .ok (.iload 7, 2) := by decide +kernel
theorem dX5_lookBeside_65 : decode cX5_lookBeside 65 = .ok (.invokevirtual 93, 3) := by decide +kernel
theorem dX5_lookBeside_68 : decode cX5_lookBeside 68 = .ok (.ifCond .eq 22, 3) := by decide +kernel
theorem dX5_lookBeside_71 : decode cX5_lookBeside 71 = .ok (.aload_n 1, 1) := by decide +kernel
theorem dX5_lookBeside_72 : decode cX5_lookBeside 72 = .ok (.getfield 109, 3) := by decide +kernel
theorem dX5_lookBeside_75 : decode cX5_lookBeside 75 = .ok (.iload 7, 2) := by decide +kernel
theorem dX5_lookBeside_77 : decode cX5_lookBeside 77 = .ok (.iaload, 1) := by decide +kernel
theorem dX5_lookBeside_78 : decode cX5_lookBeside 78 = .ok (.iload 4, 2) := by decide +kernel
theorem dX5_lookBeside_80 : decode cX5_lookBeside 80 = .ok (.if_icmp .ne 10, 3) := by decide +kernel
theorem dX5_lookBeside_83 : decode cX5_lookBeside 83 = .ok (.aload_n 0, 1) := by decide +kernel
theorem dX5_lookBeside_84 : decode cX5_lookBeside 84 = .ok (.aload_n 1, 1) := by decide +kernel
theorem dX5_lookBeside_85 : decode cX5_lookBeside 85 = .ok (.iload 7, 2) := by decide +kernel
theorem dX5_lookBeside_87 : decode cX5_lookBeside 87 = .ok (.invokevirtual 105, 3) := by decide +kernel
theorem dX5_lookBeside_90 : decode cX5_lookBeside 90 = .ok (.return_, 1) := by decide +kernel
noncomputable def F_X5_lookBeside (r0 : Nat) (r1 : Nat) (p2 : Int32) (p3 : Int32) (p4 : Int32) (S0 : fS) : Option (Int32 × fS) := iv (p2 - p2 / (8 : Int32) * (8 : Int32)) (fun x1 => gd (ib p3 4) (iv (([1, 0, -1, 0] : List Int32).getD (p3 : Int32).toNatClampNeg 0) (fun x3 => iv (x1 + x3) (fun x4 => iv (p2 / (8 : Int32)) (fun x5 => gd (ib p3 4) (iv (([0, 1, 0, -1] : List Int32).getD (p3 : Int32).toNatClampNeg 0) (fun x7 => iv (x5 + x7) (fun x8 => bd (F_X6_within x4 0 7 S0) (fun v9 S10 => bb (v9 = (0 : Int32)) (some (0, S10)) (bd (F_X6_within x8 0 7 S10) (fun v13 S14 => bb (v13 = (0 : Int32)) (some (0, S14)) (iv ((8 : Int32) * x8) (fun x17 => iv (x17 + x4) (fun x18 => gd (ib x18 64) (iv (ge S14 10 r1 (x18 : Int32).toNatClampNeg) (fun x20 => bd (F_X2_known r1 x20 S14) (fun v21 S22 => bb (v21 = (0 : Int32)) (some (0, S22)) (gd (ib x20 24) (iv (ge S22 4 r1 (x20 : Int32).toNatClampNeg) (fun x26 => bb (x26 = p4) (bd (F_X5_take r0 r1 x20 S22) (fun v28 S29 => some (0, S29))) (some (0, S22))))))))))))))))))))))
set_option maxHeartbeats 4000000 in
set_option maxRecDepth 100000 in
theorem c_X5_lookBeside (l : Launch) (D : va_G) (K : Nat → ClassId) (b0 : Nat) (sa : sT) (sz : Nat) (L : List Nat) (f0 : Nat → va_E) (ad : Nat → Nat → Nat) (P : Nat → Nat → Prop) {n : Nat × Nat} (hP : ∀ a i : Nat, isn n a i → P a i) (S0 : fS) (hw : PW K ad P S0 L f0) (hn : S0.2.2.1 = n) (r0 : Nat) (hr0 : r0 < n.1) (r1 : Nat) (hr1 : r1 < 5) (p2 : Int32) (p3 : Int32) (p4 : Int32) (v : Int32) (S1 : fS) (h : F_X5_lookBeside r0 r1 p2 p3 p4 S0 = some (v, S1)) : Met l yX5_lookBeside (.code yX5_lookBeside cX5_lookBeside 8 none :: gt) { frames := 2, cells := 0, slots := 0, locals := 43 } (va_Pc [.ref (ad 25 r0), .ref (ad 2 r1), .int p2, .int p3, .int p4] (hPre D K b0 sa sz L f0)) (hQ D K b0 (fun v9 u9 => ∃ f2 : Nat → va_E, v9 = none ∧ u9 = lU L f2 ∧ PW K ad P S1 L f2 ∧ S1.2.2.1 = n ∧ Kp ad P L f0 f2)) 0 0 (fun q => b0 ≤ q) := by
  refine t_of (own := RX5) (by decide) rfl ?_ (Nat.le_of_ble_eq_true rfl)
  intro p e s m below meth c ls C w hsz hr hlk hnm hl
  have hx := C.1
  have hb := C.2.1
  have hl : lv_has ls 8 [(0, .ref (ad 25 r0)), (1, .ref (ad 2 r1)), (2, .int p2), (3, .int p3), (4, .int p4)] := hl
  obtain ⟨⟨ax, ay, ⟨hzx, htx⟩, hzy, hty⟩, -⟩ := w.2.2.2.2.2.2.2.2.2.2.2
  dsimp only [F_X5_lookBeside] at h
  obtain ⟨f, ef⟩ : ∃ z, z = f0 := ⟨_, rfl⟩
  rw [← ef] at w hw
  have hk : Kp ad P L f0 f := by rw [ef]; exact Kp.rf
  obtain ⟨H, eH⟩ : ∃ z, z = s.heap := ⟨_, rfl⟩
  obtain ⟨locs, el⟩ : ∃ z : List Loc, z = [] := ⟨_, rfl⟩
  rw [← eH, ← el] at w ⊢
  refine lv_iload_n hx hb dX5_lookBeside_0 rfl (lv_at hl 2 rfl) ?_
  refine lv_bipush (v := 8) hx hb dX5_lookBeside_1 (by decide) ?_
  refine lv_irem hx hb dX5_lookBeside_3 (by decide) ?_
  refine u_iv h (fun x1 h => ?_)
  refine va_getsN (A := fun q => b0 ≤ q) (C := RX6) hx hb hzx w.2.2.2.2.1 C.2.2.2.1 (va_Nw.use rfl (w.2.2.2.2.2.1.1 _ (List.mem_of_getElem? (i := 8) rfl))) (fun _ h => h) dX5_lookBeside_4 ?_
  refine lv_iload_n hx hb dX5_lookBeside_7 rfl (lv_at hl 3 rfl) ?_
  obtain ⟨g2, h⟩ := gd_some h
  refine va_ti (A := fun q => b0 ≤ q) hx hb htx w.2.2.2.2.1 (vp_in_iff.mpr g2) (v := .int (([1, 0, -1, 0] : List Int32).getD (p3 : Int32).toNatClampNeg 0)) rfl dX5_lookBeside_8 ?_
  refine u_iv h (fun x3 h => ?_)
  refine lv_iadd hx hb dX5_lookBeside_9 ?_
  refine u_iv h (fun x4 h => ?_)
  refine lv_istore (lv' := [(5, .int x4), (0, .ref (ad 25 r0)), (1, .ref (ad 2 r1)), (2, .int p2), (3, .int p3), (4, .int p4)]) hx hb dX5_lookBeside_10 hl (by decide) rfl (fun ls hl => ?_)
  refine lv_iload_n hx hb dX5_lookBeside_12 rfl (lv_at hl 3 rfl) ?_
  refine lv_bipush (v := 8) hx hb dX5_lookBeside_13 (by decide) ?_
  refine lv_idiv hx hb dX5_lookBeside_15 (by decide) ?_
  refine u_iv h (fun x5 h => ?_)
  refine va_getsN (A := fun q => b0 ≤ q) (C := RX6) hx hb hzy w.2.2.2.2.1 C.2.2.2.1 (va_Nw.use rfl (w.2.2.2.2.2.1.1 _ (List.mem_of_getElem? (i := 9) rfl))) (fun _ h => h) dX5_lookBeside_16 ?_
  refine lv_iload_n hx hb dX5_lookBeside_19 rfl (lv_at hl 4 rfl) ?_
  obtain ⟨g6, h⟩ := gd_some h
  refine va_ti (A := fun q => b0 ≤ q) hx hb hty w.2.2.2.2.1 (vp_in_iff.mpr g6) (v := .int (([0, 1, 0, -1] : List Int32).getD (p3 : Int32).toNatClampNeg 0)) rfl dX5_lookBeside_20 ?_
  refine u_iv h (fun x7 h => ?_)
  refine lv_iadd hx hb dX5_lookBeside_21 ?_
  refine u_iv h (fun x8 h => ?_)
  refine lv_istore (lv' := [(6, .int x8), (5, .int x4), (0, .ref (ad 25 r0)), (1, .ref (ad 2 r1)), (2, .int p2), (3, .int p3), (4, .int p4)]) hx hb dX5_lookBeside_22 hl (by decide) rfl (fun ls hl => ?_)
  refine lv_iload hx hb dX5_lookBeside_24 (lv_at hl 1 rfl) ?_
  refine lv_iconst (v := 0) hx hb dX5_lookBeside_26 (by decide) ?_
  refine lv_bipush (v := 7) hx hb dX5_lookBeside_27 (by decide) ?_
  obtain ⟨v9, S10, h11, h⟩ := bd_some h
  refine t_callSN (host := RX6) (n := 3) C w (c_X6_within l D K b0 sa _ L _ ad P hP S0 hw hn x4 0 7 v9 S10 h11) gw_376 (List.mem_of_getElem? (i := 4) rfl) gw_375 gw_1 ⟨by decide, by decide, by decide +kernel⟩ rfl rfl ⟨by decide, by decide⟩ rfl hl.1 rfl (Nat.le_of_ble_eq_true rfl) dX5_lookBeside_29 ⟨Nat.le_of_ble_eq_true rfl, Nat.le_of_ble_eq_true rfl⟩ (fun v9 u H locs hp w => ?_)
  obtain ⟨f2, rfl, rfl, hw, hn, hk1⟩ := hp
  have hk := hk.tr hk1
  generalize f2 = f at w hw hk
  refine lv_if_eq (tgt := 46) hx hb dX5_lookBeside_32 (by decide) (fun c12 => ?_) (fun c12 => ?_)
  · have h := bb_t h c12
    exact t_vret C hr hlk w ⟨_, rfl, rfl, so_w h hw, so_n h hn, hk⟩ (by decide) (by decide) dX5_lookBeside_46
  · have h := bb_f h c12
    refine lv_iload hx hb dX5_lookBeside_35 (lv_at hl 0 rfl) ?_
    refine lv_iconst (v := 0) hx hb dX5_lookBeside_37 (by decide) ?_
    refine lv_bipush (v := 7) hx hb dX5_lookBeside_38 (by decide) ?_
    obtain ⟨v13, S14, h15, h⟩ := bd_some h
    refine t_callSN (host := RX6) (n := 3) C w (c_X6_within l D K b0 sa _ L _ ad P hP S10 hw hn x8 0 7 v13 S14 h15) gw_376 (List.mem_of_getElem? (i := 4) rfl) gw_375 gw_1 ⟨by decide, by decide, by decide +kernel⟩ rfl rfl ⟨by decide, by decide⟩ rfl hl.1 rfl (Nat.le_of_ble_eq_true rfl) dX5_lookBeside_40 ⟨Nat.le_of_ble_eq_true rfl, Nat.le_of_ble_eq_true rfl⟩ (fun v9 u H locs hp w => ?_)
    obtain ⟨f2, rfl, rfl, hw, hn, hk1⟩ := hp
    have hk := hk.tr hk1
    generalize f2 = f at w hw hk
    refine lv_if_ne (tgt := 47) hx hb dX5_lookBeside_43 (by decide) (fun c16 => ?_) (fun c16 => ?_)
    · have h := bb_f h c16
      refine lv_aload_n hx hb dX5_lookBeside_47 rfl (lv_at hl 3 rfl) ?_
      refine u_getr C w hw (hP _ _ (isn_f rfl rfl hr1)) rfl (N := 9) rfl rfl cin_2 8 (by decide) (by decide) (a2 := 10) (i2 := r1) rfl gw_64 dX5_lookBeside_48 ?_
      refine lv_bipush (v := 8) hx hb dX5_lookBeside_51 (by decide) ?_
      refine lv_iload hx hb dX5_lookBeside_53 (lv_at hl 0 rfl) ?_
      refine lv_imul hx hb dX5_lookBeside_55 ?_
      refine u_iv h (fun x17 h => ?_)
      refine lv_iload hx hb dX5_lookBeside_56 (lv_at hl 1 rfl) ?_
      refine lv_iadd hx hb dX5_lookBeside_58 ?_
      refine u_iv h (fun x18 h => ?_)
      obtain ⟨g19, h⟩ := gd_some h
      refine u_iald C w hw (hP _ _ (isn_f rfl rfl hr1)) rfl rfl (n := 64) rfl (vp_in_iff.mpr g19) dX5_lookBeside_59 ?_
      refine u_iv h (fun x20 h => ?_)
      refine lv_istore (lv' := [(7, .int x20), (6, .int x8), (5, .int x4), (0, .ref (ad 25 r0)), (1, .ref (ad 2 r1)), (2, .int p2), (3, .int p3), (4, .int p4)]) hx hb dX5_lookBeside_60 hl (by decide) rfl (fun ls hl => ?_)
      refine lv_aload_n hx hb dX5_lookBeside_62 rfl (lv_at hl 4 rfl) ?_
      refine lv_iload hx hb dX5_lookBeside_63 (lv_at hl 0 rfl) ?_
      obtain ⟨v21, S22, h23, h⟩ := bd_some h
      refine u_callV (n := 1) C w hw (hP _ _ (isn_f rfl rfl hr1)) rfl rfl rfl (c_X2_known l D K b0 sa _ L _ ad P hP S14 hw hn r1 hr1 x20 v21 S22 h23) gw_434 gw_431 gw_432 gw_433 gw_3 ⟨by decide, by decide, by decide +kernel⟩ rfl rfl ⟨by decide, by decide⟩ rfl hl.1 rfl (Nat.le_of_ble_eq_true rfl) dX5_lookBeside_65 ⟨Nat.le_of_ble_eq_true rfl, Nat.le_of_ble_eq_true rfl⟩ (fun v9 u H locs hp w => ?_)
      obtain ⟨f2, rfl, rfl, hw, hn, hk1⟩ := hp
      have hk := hk.tr hk1
      generalize f2 = f at w hw hk
      refine lv_if_eq (tgt := 90) hx hb dX5_lookBeside_68 (by decide) (fun c24 => ?_) (fun c24 => ?_)
      · have h := bb_t h c24
        exact t_vret C hr hlk w ⟨_, rfl, rfl, so_w h hw, so_n h hn, hk⟩ (by decide) (by decide) dX5_lookBeside_90
      · have h := bb_f h c24
        refine lv_aload_n hx hb dX5_lookBeside_71 rfl (lv_at hl 4 rfl) ?_
        refine u_getr C w hw (hP _ _ (isn_f rfl rfl hr1)) rfl (N := 9) rfl rfl cin_2 2 (by decide) (by decide) (a2 := 4) (i2 := r1) rfl gw_52 dX5_lookBeside_72 ?_
        refine lv_iload hx hb dX5_lookBeside_75 (lv_at hl 0 rfl) ?_
        obtain ⟨g25, h⟩ := gd_some h
        refine u_iald C w hw (hP _ _ (isn_f rfl rfl hr1)) rfl rfl (n := 24) rfl (vp_in_iff.mpr g25) dX5_lookBeside_77 ?_
        refine u_iv h (fun x26 h => ?_)
        refine lv_iload hx hb dX5_lookBeside_78 (lv_at hl 7 rfl) ?_
        refine lv_icmp_ne (tgt := 90) hx hb dX5_lookBeside_80 (by decide) (fun c27 => ?_) (fun c27 => ?_)
        · have h := bb_f h c27
          exact t_vret C hr hlk w ⟨_, rfl, rfl, so_w h hw, so_n h hn, hk⟩ (by decide) (by decide) dX5_lookBeside_90
        · have h := bb_t h c27
          refine lv_aload_n hx hb dX5_lookBeside_83 rfl (lv_at hl 3 rfl) ?_
          refine lv_aload_n hx hb dX5_lookBeside_84 rfl (lv_at hl 4 rfl) ?_
          refine lv_iload hx hb dX5_lookBeside_85 (lv_at hl 0 rfl) ?_
          obtain ⟨v28, S29, h30, h⟩ := bd_some h
          refine u_callV (n := 2) C w hw (hP _ _ (isn_t25 hr0)) rfl rfl rfl (c_X5_take l D K b0 sa _ L _ ad P hP S22 hw hn r0 hr0 r1 hr1 x20 v28 S29 h30) gw_451 gw_448 gw_449 gw_450 gw_7 ⟨by decide, by decide, by decide +kernel⟩ rfl rfl ⟨by decide, by decide⟩ rfl hl.1 rfl (Nat.le_of_ble_eq_true rfl) dX5_lookBeside_87 ⟨Nat.le_of_ble_eq_true rfl, Nat.le_of_ble_eq_true rfl⟩ (fun v9 u H locs hp w => ?_)
          obtain ⟨f2, rfl, rfl, hw, hn, hk1⟩ := hp
          have hk := hk.tr hk1
          generalize f2 = f at w hw hk
          exact t_vret C hr hlk w ⟨_, rfl, rfl, so_w h hw, so_n h hn, hk⟩ (by decide) (by decide) dX5_lookBeside_90
    · have h := bb_t h c16
      exact t_vret C hr hlk w ⟨_, rfl, rfl, so_w h hw, so_n h hn, hk⟩ (by decide) (by decide) dX5_lookBeside_46
theorem dX5_look_0 : decode cX5_look 0 = .ok (.aload_n 0, 1) := by decide +kernel
theorem dX5_look_1 : decode cX5_look 1 = .ok (.iload_n 2, 1) := by decide +kernel
theorem dX5_look_2 : decode cX5_look 2 = .ok (.putfield 9, 3) := by decide +kernel
theorem dX5_look_5 : decode cX5_look 5 = .ok (.aload_n 0, 1) := by decide +kernel
theorem dX5_look_6 : decode cX5_look 6 = .ok (.aload_n 1, 1) := by decide +kernel
theorem dX5_look_7 : decode cX5_look 7 = .ok (.getfield 76, 3) := by decide +kernel
theorem dX5_look_10 : decode cX5_look 10 = .ok (.putfield 42, 3) := by decide +kernel
theorem dX5_look_13 : decode cX5_look 13 = .ok (.aload_n 0, 1) := by decide +kernel
theorem dX5_look_14 : decode cX5_look 14 = .ok (.iconst 0, 1) := by decide +kernel
theorem dX5_look_15 : decode cX5_look 15 = .ok (.putfield 15, 3) := by decide +kernel
theorem dX5_look_18 : decode cX5_look 18 = .ok (.aload_n 0, 1) := by decide +kernel
theorem dX5_look_19 : decode cX5_look 19 = .ok (.iconst (-1), 1) := by decide +kernel
theorem dX5_look_20 : decode cX5_look 20 = .ok (.putfield 18, 3) := by decide +kernel
theorem dX5_look_23 : decode cX5_look 23 = .ok (.aload_n 0, 1) := by decide +kernel
theorem dX5_look_24 : decode cX5_look 24 = .ok (.iconst 0, 1) := by decide +kernel
theorem dX5_look_25 : decode cX5_look 25 = .ok (.putfield 61, 3) := by decide +kernel
theorem dX5_look_28 : decode cX5_look 28 = .ok (.aload_n 0, 1) := by decide +kernel
theorem dX5_look_29 : decode cX5_look 29 = .ok (.iconst 0, 1) := by decide +kernel
theorem dX5_look_30 : decode cX5_look 30 = .ok (.putfield 54, 3) := by decide +kernel
theorem dX5_look_33 : decode cX5_look 33 = .ok (.iload_n 2, 1) := by decide +kernel
theorem dX5_look_34 : decode cX5_look 34 = .ok (.aload_n 1, 1) := by decide +kernel
theorem dX5_look_35 : decode cX5_look 35 = .ok (.getfield 76, 3) := by decide +kernel
theorem dX5_look_38 : decode cX5_look 38 = .ok (.if_icmp .eq 23, 3) := by decide +kernel
theorem dX5_look_41 : decode cX5_look 41 = .ok (.iload_n 2, 1) := by decide +kernel
theorem dX5_look_42 : decode cX5_look 42 = .ok (.bipush 8, 2) := by decide +kernel
theorem dX5_look_44 : decode cX5_look 44 = .ok (.irem, 1) := by decide +kernel
theorem dX5_look_45 : decode cX5_look 45 = .ok (.iload_n 2, 1) := by decide +kernel
theorem dX5_look_46 : decode cX5_look 46 = .ok (.bipush 8, 2) := by decide +kernel
theorem dX5_look_48 : decode cX5_look 48 = .ok (.idiv, 1) := by decide +kernel
theorem dX5_look_49 : decode cX5_look 49 = .ok (.iadd, 1) := by decide +kernel
theorem dX5_look_50 : decode cX5_look 50 = .ok (.aload_n 1, 1) := by decide +kernel
theorem dX5_look_51 : decode cX5_look 51 = .ok (.getfield 77, 3) := by decide +kernel
theorem dX5_look_54 : decode cX5_look 54 = .ok (.if_icmp .gt 7, 3) := by decide +kernel
theorem dX5_look_57 : decode cX5_look 57 = .ok (.iconst 1, 1) := by decide +kernel
theorem dX5_look_58 : decode cX5_look 58 = .ok (.goto 4, 3) := by decide +kernel
theorem dX5_look_61 : decode cX5_look 61 = .ok (.iconst 0, 1) := by decide +kernel
theorem dX5_look_62 : decode cX5_look 62 = .ok (.istore_n 3, 1) := by decide +kernel
theorem dX5_look_63 : decode cX5_look 63 = .ok (.iload_n 3, 1) := by decide +kernel
theorem dX5_look_64 : decode cX5_look 64 = .ok (.ifCond .eq 25, 3) := by decide +kernel
theorem dX5_look_67 : decode cX5_look 67 = .ok (.iload_n 2, 1) := by decide +kernel
theorem dX5_look_68 : decode cX5_look 68 = .ok (.iconst 0, 1) := by decide +kernel
theorem dX5_look_69 : decode cX5_look 69 = .ok (.bipush 63, 2) := by decide +kernel
theorem dX5_look_71 : decode cX5_look 71 = .ok (.invokestatic 80, 3) := by decide +kernel
theorem dX5_look_74 : decode cX5_look 74 = .ok (.ifCond .eq 15, 3) := by decide +kernel
theorem dX5_look_77 : decode cX5_look 77 = .ok (.aload_n 1, 1) := by decide +kernel
theorem dX5_look_78 : decode cX5_look 78 = .ok (.getfield 84, 3) := by decide +kernel
theorem dX5_look_81 : decode cX5_look 81 = .ok (.getfield 88, 3) := by decide +kernel
theorem dX5_look_84 : decode cX5_look 84 = .ok (.iload_n 2, 1) := by decide +kernel
theorem dX5_look_85 : decode cX5_look 85 = .ok (.iaload, 1) := by decide +kernel
theorem dX5_look_86 : decode cX5_look 86 = .ok (.goto 4, 3) := by decide +kernel
theorem dX5_look_89 : decode cX5_look 89 = .ok (.iconst (-1), 1) := by decide +kernel
theorem dX5_look_90 : decode cX5_look 90 = .ok (.istore 4, 2) := by decide +kernel
theorem dX5_look_92 : decode cX5_look 92 = .ok (.aload_n 1, 1) := by decide +kernel
theorem dX5_look_93 : decode cX5_look 93 = .ok (.getfield 84, 3) := by decide +kernel
theorem dX5_look_96 : decode cX5_look 96 = .ok (.iload 4, 2) := by decide +kernel
theorem dX5_look_98 : decode cX5_look 98 = .ok (.invokevirtual 93, 3) := by decide +kernel
theorem dX5_look_101 : decode cX5_look 101 = .ok (.ifCond .ne 4, 3) := by decide +kernel
theorem dX5_look_104 : decode cX5_look 104 = .ok (.return_, 1) := by decide +kernel
theorem dX5_look_105 : decode cX5_look 105 = .ok (.aload_n 0, 1) := by decide +kernel
theorem dX5_look_106 : decode cX5_look 106 = .ok (.bipush 6, 2) := by decide +kernel
theorem dX5_look_108 : decode cX5_look 108 = .ok (.putfield 15, 3) := by decide +kernel
theorem dX5_look_111 : decode cX5_look 111 = .ok (.aload_n 0, 1) := by decide +kernel
theorem dX5_look_112 : decode cX5_look 112 = .ok (.aload_n 1, 1) := by decide +kernel
theorem dX5_look_113 : decode cX5_look 113 = .ok (.getfield 84, 3) := by decide +kernel
theorem dX5_look_116 : decode cX5_look 116 = .ok (.iload 4, 2) := by decide +kernel
theorem dX5_look_118 : decode cX5_look 118 = .ok (.invokevirtual 97, 3) := by decide +kernel
theorem dX5_look_121 : decode cX5_look 121 = .ok (.invokevirtual 101, 3) := by decide +kernel
theorem dX5_look_124 : decode cX5_look 124 = .ok (.aload_n 0, 1) := by decide +kernel
theorem dX5_look_125 : decode cX5_look 125 = .ok (.aload_n 1, 1) := by decide +kernel
theorem dX5_look_126 : decode cX5_look 126 = .ok (.getfield 84, 3) := by decide +kernel
theorem dX5_look_129 : decode cX5_look 129 = .ok (.iload 4, 2) := by decide +kernel
theorem dX5_look_131 : decode cX5_look 131 = .ok (.invokevirtual 105, 3) := by decide +kernel
theorem dX5_look_134 : decode cX5_look 134 = .ok (.aload_n 1, 1) := by decide +kernel
theorem dX5_look_135 : decode cX5_look 135 = .ok (.getfield 84, 3) := by decide +kernel
theorem dX5_look_138 : decode cX5_look 138 = .ok (.getfield 109, 3) := by decide +kernel
theorem dX5_look_141 : decode cX5_look 141 = .ok (.iload 4, 2) := by decide +kernel
theorem dX5_look_143 : decode cX5_look 143 = .ok (.iaload, 1) := by decide +kernel
theorem dX5_look_144 : decode cX5_look 144 = .ok (.istore 5, 2) := by decide +kernel
theorem dX5_look_146 : decode cX5_look 146 = .ok (.iconst 0, 1) := by decide +kernel
theorem dX5_look_147 : decode cX5_look 147 = .ok (.istore 6, 2) := by decide +kernel
theorem dX5_look_149 : decode cX5_look 149 = .ok (.iload 5, 2) := by decide +kernel
theorem dX5_look_151 : decode cX5_look 151 = .ok (.ifCond .eq 28, 3) := by decide +kernel
theorem dX5_look_154 : decode cX5_look 154 = .ok (.iload 6, 2) := by decide +kernel
theorem dX5_look_156 : decode cX5_look 156 = .ok (.iconst 4, 1) := by decide +kernel
theorem dX5_look_157 : decode cX5_look 157 = .ok (.if_icmp .ge 22, 3) := by decide +kernel
theorem dX5_look_160 : decode cX5_look 160 = .ok (.aload_n 0, 1) := by decide +kernel
theorem dX5_look_161 : decode cX5_look 161 = .ok (.aload_n 1, 1) := by decide +kernel
theorem dX5_look_162 : decode cX5_look 162 = .ok (.getfield 84, 3) := by decide +kernel
theorem dX5_look_165 : decode cX5_look 165 = .ok (.iload_n 2, 1) := by decide +kernel
theorem dX5_look_166 : decode cX5_look 166 = .ok (.iload 6, 2) := by decide +kernel
theorem dX5_look_168 : decode cX5_look 168 = .ok (.iload 5, 2) := by decide +kernel
theorem dX5_look_170 : decode cX5_look 170 = .ok (.invokevirtual 112, 3) := by decide +kernel
theorem dX5_look_173 : decode cX5_look 173 = .ok (.iinc 6 1, 3) := by decide +kernel
theorem dX5_look_176 : decode cX5_look 176 = .ok (.goto (-27), 3) := by decide +kernel
theorem dX5_look_179 : decode cX5_look 179 = .ok (.return_, 1) := by decide +kernel
noncomputable def B_X5_look_149 (r0 : Nat) (r1 : Nat) (k149 : (Int32 × Int32 × Int32) → fS → Option (Int32 × fS)) : (Int32 × Int32 × Int32) → fS → Option (Int32 × fS) := fun ⟨a2, a5, a6⟩ S => bb (a5 = (0 : Int32)) (some (0, S)) (bb ((4 : Int32) ≤ a6) (some (0, S)) (bd (F_X5_lookBeside r0 r1 a2 a6 a5 S) (fun v3 S4 => iv (a6 + Int32.ofInt 1) (fun x6 => k149 (a2, a5, x6) S4))))
noncomputable def B_X5_look_90 (r0 : Nat) (r1 : Nat) (a2 : Int32) (t0 : Int32) (S : fS) : Option (Int32 × fS) := bd (F_X2_known r1 t0 S) (fun v7 S8 => bb (v7 = (0 : Int32)) (some (0, S8)) (sv (pu S8 25 r0 1 6) (fun S11 => bd (F_X2_levelOf r1 t0 S11) (fun v12 S13 => bd (F_X5_measure r0 v12 S13) (fun v15 S16 => bd (F_X5_take r0 r1 t0 S16) (fun v18 S19 => gd (ib t0 24) (iv (ge S19 4 r1 (t0 : Int32).toNatClampNeg) (fun x22 => lp (B_X5_look_149 r0 r1 ) fuel (a2, x22, 0) S19))))))))
noncomputable def B_X5_look_89 (r0 : Nat) (r1 : Nat) (a2 : Int32) (S : fS) : Option (Int32 × fS) := B_X5_look_90 r0 r1  a2 (-1) S
noncomputable def B_X5_look_62 (r0 : Nat) (r1 : Nat) (a2 : Int32) (t0 : Int32) (S : fS) : Option (Int32 × fS) := bb (t0 = (0 : Int32)) (B_X5_look_89 r0 r1  a2 S) (bd (F_X6_within a2 0 63 S) (fun v24 S25 => bb (v24 = (0 : Int32)) (B_X5_look_89 r0 r1  a2 S25) (gd (ib a2 64) (iv (ge S25 10 r1 (a2 : Int32).toNatClampNeg) (fun x29 => B_X5_look_90 r0 r1  a2 x29 S25)))))
noncomputable def B_X5_look_61 (r0 : Nat) (r1 : Nat) (a2 : Int32) (S : fS) : Option (Int32 × fS) := B_X5_look_62 r0 r1  a2 0 S
noncomputable def F_X5_look (r0 : Nat) (r1 : Nat) (p2 : Int32) (S0 : fS) : Option (Int32 × fS) := sv (pu S0 25 r0 0 p2) (fun S30 => iv (ge S30 1 r1 1) (fun x31 => sv (pu S30 25 r0 10 x31) (fun S32 => sv (pu S32 25 r0 1 0) (fun S33 => sv (pu S33 25 r0 2 (-1)) (fun S34 => sv (pu S34 25 r0 16 0) (fun S35 => sv (pu S35 25 r0 14 0) (fun S36 => iv (ge S36 1 r1 1) (fun x37 => bb (p2 = x37) (B_X5_look_61 r0 r1  p2 S36) (iv (p2 - p2 / (8 : Int32) * (8 : Int32)) (fun x39 => iv (p2 / (8 : Int32)) (fun x40 => iv (x39 + x40) (fun x41 => iv (ge S36 1 r1 2) (fun x42 => bb (x42 < x41) (B_X5_look_61 r0 r1  p2 S36) (B_X5_look_62 r0 r1  p2 1 S36))))))))))))))
set_option maxHeartbeats 4000000 in
set_option maxRecDepth 100000 in
theorem c_X5_look (l : Launch) (D : va_G) (K : Nat → ClassId) (b0 : Nat) (sa : sT) (sz : Nat) (L : List Nat) (f0 : Nat → va_E) (ad : Nat → Nat → Nat) (P : Nat → Nat → Prop) {n : Nat × Nat} (hP : ∀ a i : Nat, isn n a i → P a i) (S0 : fS) (hw : PW K ad P S0 L f0) (hn : S0.2.2.1 = n) (r0 : Nat) (hr0 : r0 < n.1) (r1 : Nat) (hr1 : r1 < 5) (p2 : Int32) (v : Int32) (S1 : fS) (h : F_X5_look r0 r1 p2 S0 = some (v, S1)) : Met l yX5_look (.code yX5_look cX5_look 7 none :: gt) { frames := 3, cells := 0, slots := 0, locals := 70 } (va_Pc [.ref (ad 25 r0), .ref (ad 1 r1), .int p2] (hPre D K b0 sa sz L f0)) (hQ D K b0 (fun v9 u9 => ∃ f2 : Nat → va_E, v9 = none ∧ u9 = lU L f2 ∧ PW K ad P S1 L f2 ∧ S1.2.2.1 = n ∧ Kp ad P L f0 f2)) 0 0 (fun q => b0 ≤ q) := by
  refine t_of (own := RX5) (by decide) rfl ?_ (Nat.le_of_ble_eq_true rfl)
  intro p e s m below meth c ls C w hsz hr hlk hnm hl
  have hx := C.1
  have hb := C.2.1
  have hl : lv_has ls 7 [(0, .ref (ad 25 r0)), (1, .ref (ad 1 r1)), (2, .int p2)] := hl
  have J149 : ∀ (fu : Nat) (a2 : Int32) (a5 : Int32) (a6 : Int32) (S : fS), lp (B_X5_look_149 r0 r1 ) fu (a2, a5, a6) S = some (v, S1) → Gw D K b0 sa ad P n L f0 p l e { frames := 3, cells := 0, slots := 0, locals := 70 } s m [.ref (ad 25 r0), .ref (ad 1 r1), .int p2].toArray below meth c 7 (MQ below (hQ D K b0 (fun v9 u9 => ∃ f2 : Nat → va_E, v9 = none ∧ u9 = lU L f2 ∧ PW K ad P S1 L f2 ∧ S1.2.2.1 = n ∧ Kp ad P L f0 f2)) [.ref (ad 25 r0), .ref (ad 1 r1), .int p2].toArray s 0 0 (fun q => b0 ≤ q)) 0 0 149 [(0, .ref (ad 25 r0)), (1, .ref (ad 1 r1)), (2, .int a2), (5, .int a5), (6, .int a6)] [] S := by
    intro fu a2 a5 a6 S h
    refine lp_some (G := (fun q S => Gw D K b0 sa ad P n L f0 p l e { frames := 3, cells := 0, slots := 0, locals := 70 } s m [.ref (ad 25 r0), .ref (ad 1 r1), .int p2].toArray below meth c 7 (MQ below (hQ D K b0 (fun v9 u9 => ∃ f2 : Nat → va_E, v9 = none ∧ u9 = lU L f2 ∧ PW K ad P S1 L f2 ∧ S1.2.2.1 = n ∧ Kp ad P L f0 f2)) [.ref (ad 25 r0), .ref (ad 1 r1), .int p2].toArray s 0 0 (fun q => b0 ≤ q)) 0 0 149 [(0, .ref (ad 25 r0)), (1, .ref (ad 1 r1)), (2, .int q.1), (5, .int q.2.1), (6, .int q.2.2)] [] S)) (fun k149 hk149 q S h => ?_) fu (a2, a5, a6) S h
    obtain ⟨a2, a5, a6⟩ := q
    have hk149 : ∀ (a2 : Int32) (a5 : Int32) (a6 : Int32) (S : fS), k149 (a2, a5, a6) S = some (v, S1) → Gw D K b0 sa ad P n L f0 p l e { frames := 3, cells := 0, slots := 0, locals := 70 } s m [.ref (ad 25 r0), .ref (ad 1 r1), .int p2].toArray below meth c 7 (MQ below (hQ D K b0 (fun v9 u9 => ∃ f2 : Nat → va_E, v9 = none ∧ u9 = lU L f2 ∧ PW K ad P S1 L f2 ∧ S1.2.2.1 = n ∧ Kp ad P L f0 f2)) [.ref (ad 25 r0), .ref (ad 1 r1), .int p2].toArray s 0 0 (fun q => b0 ≤ q)) 0 0 149 [(0, .ref (ad 25 r0)), (1, .ref (ad 1 r1)), (2, .int a2), (5, .int a5), (6, .int a6)] [] S := fun a2 a5 a6 S h => hk149 (a2, a5, a6) S h
    dsimp only [B_X5_look_149] at h
    intro f H locs w hw hn hk ls hl
    refine lv_iload hx hb dX5_look_149 (lv_at hl 3 rfl) ?_
    refine lv_if_eq (tgt := 179) hx hb dX5_look_151 (by decide) (fun c1 => ?_) (fun c1 => ?_)
    · have h := bb_t h c1
      exact t_vret C hr hlk w ⟨_, rfl, rfl, so_w h hw, so_n h hn, hk⟩ (by decide) (by decide) dX5_look_179
    · have h := bb_f h c1
      refine lv_iload hx hb dX5_look_154 (lv_at hl 4 rfl) ?_
      refine lv_iconst (v := 4) hx hb dX5_look_156 (by decide) ?_
      refine lv_icmp_ge (tgt := 179) hx hb dX5_look_157 (by decide) (fun c2 => ?_) (fun c2 => ?_)
      · have h := bb_t h c2
        exact t_vret C hr hlk w ⟨_, rfl, rfl, so_w h hw, so_n h hn, hk⟩ (by decide) (by decide) dX5_look_179
      · have h := bb_f h c2
        refine lv_aload_n hx hb dX5_look_160 rfl (lv_at hl 0 rfl) ?_
        refine lv_aload_n hx hb dX5_look_161 rfl (lv_at hl 1 rfl) ?_
        refine u_getr C w hw (hP _ _ (isn_f rfl rfl hr1)) rfl (N := 13) rfl rfl cin_0 0 (by decide) (by decide) (a2 := 2) (i2 := r1) rfl gw_90 dX5_look_162 ?_
        refine lv_iload_n hx hb dX5_look_165 rfl (lv_at hl 2 rfl) ?_
        refine lv_iload hx hb dX5_look_166 (lv_at hl 4 rfl) ?_
        refine lv_iload hx hb dX5_look_168 (lv_at hl 3 rfl) ?_
        obtain ⟨v3, S4, h5, h⟩ := bd_some h
        refine u_callV (n := 4) C w hw (hP _ _ (isn_t25 hr0)) rfl rfl rfl (c_X5_lookBeside l D K b0 sa _ L _ ad P hP S hw hn r0 hr0 r1 hr1 a2 a6 a5 v3 S4 h5) gw_455 gw_452 gw_453 gw_454 gw_7 ⟨by decide, by decide, by decide +kernel⟩ rfl rfl ⟨by decide, by decide⟩ rfl hl.1 rfl (Nat.le_of_ble_eq_true rfl) dX5_look_170 ⟨Nat.le_of_ble_eq_true rfl, Nat.le_of_ble_eq_true rfl⟩ (fun v9 u H locs hp w => ?_)
        obtain ⟨f2, rfl, rfl, hw, hn, hk1⟩ := hp
        have hk := hk.tr hk1
        generalize f2 = f at w hw hk
        obtain ⟨x6, ex6, h⟩ := iv_some h
        refine lv_iinc (v := x6) (lv' := [(6, .int x6), (0, .ref (ad 25 r0)), (1, .ref (ad 1 r1)), (2, .int a2), (5, .int a5)]) hx hb dX5_look_173 hl (k := 4) rfl ex6.symm (by decide) rfl (fun ls hl => ?_)
        refine lv_goto (tgt := 149) hx hb dX5_look_176 (by decide) ?_
        exact hk149 a2 a5 x6 S4 h f H locs w hw hn hk ls (lv_sub hl [1, 2, 3, 4, 0] rfl)
  have J90 : ∀ (a2 : Int32) (t0 : Int32) (S : fS), B_X5_look_90 r0 r1  a2 t0 S = some (v, S1) → Gw D K b0 sa ad P n L f0 p l e { frames := 3, cells := 0, slots := 0, locals := 70 } s m [.ref (ad 25 r0), .ref (ad 1 r1), .int p2].toArray below meth c 7 (MQ below (hQ D K b0 (fun v9 u9 => ∃ f2 : Nat → va_E, v9 = none ∧ u9 = lU L f2 ∧ PW K ad P S1 L f2 ∧ S1.2.2.1 = n ∧ Kp ad P L f0 f2)) [.ref (ad 25 r0), .ref (ad 1 r1), .int p2].toArray s 0 0 (fun q => b0 ≤ q)) 0 0 90 [(0, .ref (ad 25 r0)), (1, .ref (ad 1 r1)), (2, .int a2)] [.int t0] S := by
    intro a2 t0 S h
    dsimp only [B_X5_look_90] at h
    intro f H locs w hw hn hk ls hl
    refine lv_istore (lv' := [(4, .int t0), (0, .ref (ad 25 r0)), (1, .ref (ad 1 r1)), (2, .int a2)]) hx hb dX5_look_90 hl (by decide) rfl (fun ls hl => ?_)
    refine lv_aload_n hx hb dX5_look_92 rfl (lv_at hl 2 rfl) ?_
    refine u_getr C w hw (hP _ _ (isn_f rfl rfl hr1)) rfl (N := 13) rfl rfl cin_0 0 (by decide) (by decide) (a2 := 2) (i2 := r1) rfl gw_90 dX5_look_93 ?_
    refine lv_iload hx hb dX5_look_96 (lv_at hl 0 rfl) ?_
    obtain ⟨v7, S8, h9, h⟩ := bd_some h
    refine u_callV (n := 1) C w hw (hP _ _ (isn_f rfl rfl hr1)) rfl rfl rfl (c_X2_known l D K b0 sa _ L _ ad P hP S hw hn r1 hr1 t0 v7 S8 h9) gw_434 gw_431 gw_432 gw_433 gw_3 ⟨by decide, by decide, by decide +kernel⟩ rfl rfl ⟨by decide, by decide⟩ rfl hl.1 rfl (Nat.le_of_ble_eq_true rfl) dX5_look_98 ⟨Nat.le_of_ble_eq_true rfl, Nat.le_of_ble_eq_true rfl⟩ (fun v9 u H locs hp w => ?_)
    obtain ⟨f2, rfl, rfl, hw, hn, hk1⟩ := hp
    have hk := hk.tr hk1
    generalize f2 = f at w hw hk
    refine lv_if_ne (tgt := 105) hx hb dX5_look_101 (by decide) (fun c10 => ?_) (fun c10 => ?_)
    · have h := bb_f h c10
      refine lv_aload_n hx hb dX5_look_105 rfl (lv_at hl 1 rfl) ?_
      refine lv_bipush (v := 6) hx hb dX5_look_106 (by decide) ?_
      refine u_puti C w hw (hP _ _ (isn_t25 hr0)) rfl (N := 17) rfl rfl cin_5 tyX5 tyX5_ok nmX5 1 (by decide) rfl rfl rfl rfl gw_220 dX5_look_108 (fun f H locs w hw hk1 => ?_)
      have hk := hk.tr hk1
      refine u_sv h hw hn (fun S11 h hw hn => ?_)
      refine lv_aload_n hx hb dX5_look_111 rfl (lv_at hl 1 rfl) ?_
      refine lv_aload_n hx hb dX5_look_112 rfl (lv_at hl 2 rfl) ?_
      refine u_getr C w hw (hP _ _ (isn_f rfl rfl hr1)) rfl (N := 13) rfl rfl cin_0 0 (by decide) (by decide) (a2 := 2) (i2 := r1) rfl gw_90 dX5_look_113 ?_
      refine lv_iload hx hb dX5_look_116 (lv_at hl 0 rfl) ?_
      obtain ⟨v12, S13, h14, h⟩ := bd_some h
      refine u_callV (n := 1) C w hw (hP _ _ (isn_f rfl rfl hr1)) rfl rfl rfl (c_X2_levelOf l D K b0 sa _ L _ ad P hP S11 hw hn r1 hr1 t0 v12 S13 h14) gw_438 gw_435 gw_436 gw_437 gw_3 ⟨by decide, by decide, by decide +kernel⟩ rfl rfl ⟨by decide, by decide⟩ rfl hl.1 rfl (Nat.le_of_ble_eq_true rfl) dX5_look_118 ⟨Nat.le_of_ble_eq_true rfl, Nat.le_of_ble_eq_true rfl⟩ (fun v9 u H locs hp w => ?_)
      obtain ⟨f2, rfl, rfl, hw, hn, hk1⟩ := hp
      have hk := hk.tr hk1
      generalize f2 = f at w hw hk
      obtain ⟨v15, S16, h17, h⟩ := bd_some h
      refine u_callV (n := 1) C w hw (hP _ _ (isn_t25 hr0)) rfl rfl rfl (c_X5_measure l D K b0 sa _ L _ ad P hP S13 hw hn r0 hr0 v12 v15 S16 h17) gw_443 gw_440 gw_441 gw_442 gw_7 ⟨by decide, by decide, by decide +kernel⟩ rfl rfl ⟨by decide, by decide⟩ rfl hl.1 rfl (Nat.le_of_ble_eq_true rfl) dX5_look_121 ⟨Nat.le_of_ble_eq_true rfl, Nat.le_of_ble_eq_true rfl⟩ (fun v9 u H locs hp w => ?_)
      obtain ⟨f2, rfl, rfl, hw, hn, hk1⟩ := hp
      have hk := hk.tr hk1
      generalize f2 = f at w hw hk
      refine lv_aload_n hx hb dX5_look_124 rfl (lv_at hl 1 rfl) ?_
      refine lv_aload_n hx hb dX5_look_125 rfl (lv_at hl 2 rfl) ?_
      refine u_getr C w hw (hP _ _ (isn_f rfl rfl hr1)) rfl (N := 13) rfl rfl cin_0 0 (by decide) (by decide) (a2 := 2) (i2 := r1) rfl gw_90 dX5_look_126 ?_
      refine lv_iload hx hb dX5_look_129 (lv_at hl 0 rfl) ?_
      obtain ⟨v18, S19, h20, h⟩ := bd_some h
      refine u_callV (n := 2) C w hw (hP _ _ (isn_t25 hr0)) rfl rfl rfl (c_X5_take l D K b0 sa _ L _ ad P hP S16 hw hn r0 hr0 r1 hr1 t0 v18 S19 h20) gw_451 gw_448 gw_449 gw_450 gw_7 ⟨by decide, by decide, by decide +kernel⟩ rfl rfl ⟨by decide, by decide⟩ rfl hl.1 rfl (Nat.le_of_ble_eq_true rfl) dX5_look_131 ⟨Nat.le_of_ble_eq_true rfl, Nat.le_of_ble_eq_true rfl⟩ (fun v9 u H locs hp w => ?_)
      obtain ⟨f2, rfl, rfl, hw, hn, hk1⟩ := hp
      have hk := hk.tr hk1
      generalize f2 = f at w hw hk
      refine lv_aload_n hx hb dX5_look_134 rfl (lv_at hl 2 rfl) ?_
      refine u_getr C w hw (hP _ _ (isn_f rfl rfl hr1)) rfl (N := 13) rfl rfl cin_0 0 (by decide) (by decide) (a2 := 2) (i2 := r1) rfl gw_90 dX5_look_135 ?_
      refine u_getr C w hw (hP _ _ (isn_f rfl rfl hr1)) rfl (N := 9) rfl rfl cin_2 2 (by decide) (by decide) (a2 := 4) (i2 := r1) rfl gw_52 dX5_look_138 ?_
      refine lv_iload hx hb dX5_look_141 (lv_at hl 0 rfl) ?_
      obtain ⟨g21, h⟩ := gd_some h
      refine u_iald C w hw (hP _ _ (isn_f rfl rfl hr1)) rfl rfl (n := 24) rfl (vp_in_iff.mpr g21) dX5_look_143 ?_
      refine u_iv h (fun x22 h => ?_)
      refine lv_istore (lv' := [(5, .int x22), (4, .int t0), (0, .ref (ad 25 r0)), (1, .ref (ad 1 r1)), (2, .int a2)]) hx hb dX5_look_144 hl (by decide) rfl (fun ls hl => ?_)
      refine lv_iconst (v := 0) hx hb dX5_look_146 (by decide) ?_
      refine lv_istore (lv' := [(6, .int 0), (5, .int x22), (4, .int t0), (0, .ref (ad 25 r0)), (1, .ref (ad 1 r1)), (2, .int a2)]) hx hb dX5_look_147 hl (by decide) rfl (fun ls hl => ?_)
      exact J149  fuel a2 x22 0 S19 h f H locs w hw hn hk ls (lv_sub hl [3, 4, 5, 1, 0] rfl)
    · have h := bb_t h c10
      exact t_vret C hr hlk w ⟨_, rfl, rfl, so_w h hw, so_n h hn, hk⟩ (by decide) (by decide) dX5_look_104
  have J89 : ∀ (a2 : Int32) (S : fS), B_X5_look_89 r0 r1  a2 S = some (v, S1) → Gw D K b0 sa ad P n L f0 p l e { frames := 3, cells := 0, slots := 0, locals := 70 } s m [.ref (ad 25 r0), .ref (ad 1 r1), .int p2].toArray below meth c 7 (MQ below (hQ D K b0 (fun v9 u9 => ∃ f2 : Nat → va_E, v9 = none ∧ u9 = lU L f2 ∧ PW K ad P S1 L f2 ∧ S1.2.2.1 = n ∧ Kp ad P L f0 f2)) [.ref (ad 25 r0), .ref (ad 1 r1), .int p2].toArray s 0 0 (fun q => b0 ≤ q)) 0 0 89 [(0, .ref (ad 25 r0)), (1, .ref (ad 1 r1)), (2, .int a2)] [] S := by
    intro a2 S h
    dsimp only [B_X5_look_89] at h
    intro f H locs w hw hn hk ls hl
    refine lv_iconst (v := (-1)) hx hb dX5_look_89 (by decide) ?_
    exact J90  a2 (-1) S h f H locs w hw hn hk ls (lv_sub hl [0, 1, 2] rfl)
  have J62 : ∀ (a2 : Int32) (t0 : Int32) (S : fS), B_X5_look_62 r0 r1  a2 t0 S = some (v, S1) → Gw D K b0 sa ad P n L f0 p l e { frames := 3, cells := 0, slots := 0, locals := 70 } s m [.ref (ad 25 r0), .ref (ad 1 r1), .int p2].toArray below meth c 7 (MQ below (hQ D K b0 (fun v9 u9 => ∃ f2 : Nat → va_E, v9 = none ∧ u9 = lU L f2 ∧ PW K ad P S1 L f2 ∧ S1.2.2.1 = n ∧ Kp ad P L f0 f2)) [.ref (ad 25 r0), .ref (ad 1 r1), .int p2].toArray s 0 0 (fun q => b0 ≤ q)) 0 0 62 [(0, .ref (ad 25 r0)), (1, .ref (ad 1 r1)), (2, .int a2)] [.int t0] S := by
    intro a2 t0 S h
    dsimp only [B_X5_look_62] at h
    intro f H locs w hw hn hk ls hl
    refine lv_istore_n (lv' := [(3, .int t0), (0, .ref (ad 25 r0)), (1, .ref (ad 1 r1)), (2, .int a2)]) hx hb dX5_look_62 rfl hl (by decide) rfl (fun ls hl => ?_)
    refine lv_iload_n hx hb dX5_look_63 rfl (lv_at hl 0 rfl) ?_
    refine lv_if_eq (tgt := 89) hx hb dX5_look_64 (by decide) (fun c23 => ?_) (fun c23 => ?_)
    · have h := bb_t h c23
      exact J89  a2 S h f H locs w hw hn hk ls (lv_sub hl [1, 2, 3] rfl)
    · have h := bb_f h c23
      refine lv_iload_n hx hb dX5_look_67 rfl (lv_at hl 3 rfl) ?_
      refine lv_iconst (v := 0) hx hb dX5_look_68 (by decide) ?_
      refine lv_bipush (v := 63) hx hb dX5_look_69 (by decide) ?_
      obtain ⟨v24, S25, h26, h⟩ := bd_some h
      refine t_callSN (host := RX6) (n := 3) C w (c_X6_within l D K b0 sa _ L _ ad P hP S hw hn a2 0 63 v24 S25 h26) gw_376 (List.mem_of_getElem? (i := 4) rfl) gw_375 gw_1 ⟨by decide, by decide, by decide +kernel⟩ rfl rfl ⟨by decide, by decide⟩ rfl hl.1 rfl (Nat.le_of_ble_eq_true rfl) dX5_look_71 ⟨Nat.le_of_ble_eq_true rfl, Nat.le_of_ble_eq_true rfl⟩ (fun v9 u H locs hp w => ?_)
      obtain ⟨f2, rfl, rfl, hw, hn, hk1⟩ := hp
      have hk := hk.tr hk1
      generalize f2 = f at w hw hk
      refine lv_if_eq (tgt := 89) hx hb dX5_look_74 (by decide) (fun c27 => ?_) (fun c27 => ?_)
      · have h := bb_t h c27
        exact J89  a2 S25 h f H locs w hw hn hk ls (lv_sub hl [1, 2, 3] rfl)
      · have h := bb_f h c27
        refine lv_aload_n hx hb dX5_look_77 rfl (lv_at hl 2 rfl) ?_
        refine u_getr C w hw (hP _ _ (isn_f rfl rfl hr1)) rfl (N := 13) rfl rfl cin_0 0 (by decide) (by decide) (a2 := 2) (i2 := r1) rfl gw_90 dX5_look_78 ?_
        refine u_getr C w hw (hP _ _ (isn_f rfl rfl hr1)) rfl (N := 9) rfl rfl cin_2 8 (by decide) (by decide) (a2 := 10) (i2 := r1) rfl gw_64 dX5_look_81 ?_
        refine lv_iload_n hx hb dX5_look_84 rfl (lv_at hl 3 rfl) ?_
        obtain ⟨g28, h⟩ := gd_some h
        refine u_iald C w hw (hP _ _ (isn_f rfl rfl hr1)) rfl rfl (n := 64) rfl (vp_in_iff.mpr g28) dX5_look_85 ?_
        refine u_iv h (fun x29 h => ?_)
        refine lv_goto (tgt := 90) hx hb dX5_look_86 (by decide) ?_
        exact J90  a2 x29 S25 h f H locs w hw hn hk ls (lv_sub hl [1, 2, 3] rfl)
  have J61 : ∀ (a2 : Int32) (S : fS), B_X5_look_61 r0 r1  a2 S = some (v, S1) → Gw D K b0 sa ad P n L f0 p l e { frames := 3, cells := 0, slots := 0, locals := 70 } s m [.ref (ad 25 r0), .ref (ad 1 r1), .int p2].toArray below meth c 7 (MQ below (hQ D K b0 (fun v9 u9 => ∃ f2 : Nat → va_E, v9 = none ∧ u9 = lU L f2 ∧ PW K ad P S1 L f2 ∧ S1.2.2.1 = n ∧ Kp ad P L f0 f2)) [.ref (ad 25 r0), .ref (ad 1 r1), .int p2].toArray s 0 0 (fun q => b0 ≤ q)) 0 0 61 [(0, .ref (ad 25 r0)), (1, .ref (ad 1 r1)), (2, .int a2)] [] S := by
    intro a2 S h
    dsimp only [B_X5_look_61] at h
    intro f H locs w hw hn hk ls hl
    refine lv_iconst (v := 0) hx hb dX5_look_61 (by decide) ?_
    exact J62  a2 0 S h f H locs w hw hn hk ls (lv_sub hl [0, 1, 2] rfl)
  dsimp only [F_X5_look] at h
  obtain ⟨f, ef⟩ : ∃ z, z = f0 := ⟨_, rfl⟩
  rw [← ef] at w hw
  have hk : Kp ad P L f0 f := by rw [ef]; exact Kp.rf
  obtain ⟨H, eH⟩ : ∃ z, z = s.heap := ⟨_, rfl⟩
  obtain ⟨locs, el⟩ : ∃ z : List Loc, z = [] := ⟨_, rfl⟩
  rw [← eH, ← el] at w ⊢
  refine lv_aload_n hx hb dX5_look_0 rfl (lv_at hl 0 rfl) ?_
  refine lv_iload_n hx hb dX5_look_1 rfl (lv_at hl 2 rfl) ?_
  refine u_puti C w hw (hP _ _ (isn_t25 hr0)) rfl (N := 17) rfl rfl cin_5 tyX5 tyX5_ok nmX5 0 (by decide) rfl rfl rfl rfl gw_219 dX5_look_2 (fun f H locs w hw hk1 => ?_)
  have hk := hk.tr hk1
  refine u_sv h hw hn (fun S30 h hw hn => ?_)
  refine lv_aload_n hx hb dX5_look_5 rfl (lv_at hl 0 rfl) ?_
  refine lv_aload_n hx hb dX5_look_6 rfl (lv_at hl 1 rfl) ?_
  refine u_geti C w hw (hP _ _ (isn_f rfl rfl hr1)) rfl (N := 13) rfl rfl cin_0 1 (by decide) rfl gw_93 dX5_look_7 ?_
  refine u_iv h (fun x31 h => ?_)
  refine u_puti C w hw (hP _ _ (isn_t25 hr0)) rfl (N := 17) rfl rfl cin_5 tyX5 tyX5_ok nmX5 10 (by decide) rfl rfl rfl rfl gw_243 dX5_look_10 (fun f H locs w hw hk1 => ?_)
  have hk := hk.tr hk1
  refine u_sv h hw hn (fun S32 h hw hn => ?_)
  refine lv_aload_n hx hb dX5_look_13 rfl (lv_at hl 0 rfl) ?_
  refine lv_iconst (v := 0) hx hb dX5_look_14 (by decide) ?_
  refine u_puti C w hw (hP _ _ (isn_t25 hr0)) rfl (N := 17) rfl rfl cin_5 tyX5 tyX5_ok nmX5 1 (by decide) rfl rfl rfl rfl gw_220 dX5_look_15 (fun f H locs w hw hk1 => ?_)
  have hk := hk.tr hk1
  refine u_sv h hw hn (fun S33 h hw hn => ?_)
  refine lv_aload_n hx hb dX5_look_18 rfl (lv_at hl 0 rfl) ?_
  refine lv_iconst (v := (-1)) hx hb dX5_look_19 (by decide) ?_
  refine u_puti C w hw (hP _ _ (isn_t25 hr0)) rfl (N := 17) rfl rfl cin_5 tyX5 tyX5_ok nmX5 2 (by decide) rfl rfl rfl rfl gw_223 dX5_look_20 (fun f H locs w hw hk1 => ?_)
  have hk := hk.tr hk1
  refine u_sv h hw hn (fun S34 h hw hn => ?_)
  refine lv_aload_n hx hb dX5_look_23 rfl (lv_at hl 0 rfl) ?_
  refine lv_iconst (v := 0) hx hb dX5_look_24 (by decide) ?_
  refine u_puti C w hw (hP _ _ (isn_t25 hr0)) rfl (N := 17) rfl rfl cin_5 tyX5 tyX5_ok nmX5 16 (by decide) rfl rfl rfl rfl gw_249 dX5_look_25 (fun f H locs w hw hk1 => ?_)
  have hk := hk.tr hk1
  refine u_sv h hw hn (fun S35 h hw hn => ?_)
  refine lv_aload_n hx hb dX5_look_28 rfl (lv_at hl 0 rfl) ?_
  refine lv_iconst (v := 0) hx hb dX5_look_29 (by decide) ?_
  refine u_puti C w hw (hP _ _ (isn_t25 hr0)) rfl (N := 17) rfl rfl cin_5 tyX5 tyX5_ok nmX5 14 (by decide) rfl rfl rfl rfl gw_247 dX5_look_30 (fun f H locs w hw hk1 => ?_)
  have hk := hk.tr hk1
  refine u_sv h hw hn (fun S36 h hw hn => ?_)
  refine lv_iload_n hx hb dX5_look_33 rfl (lv_at hl 2 rfl) ?_
  refine lv_aload_n hx hb dX5_look_34 rfl (lv_at hl 1 rfl) ?_
  refine u_geti C w hw (hP _ _ (isn_f rfl rfl hr1)) rfl (N := 13) rfl rfl cin_0 1 (by decide) rfl gw_93 dX5_look_35 ?_
  refine u_iv h (fun x37 h => ?_)
  refine lv_icmp_eq (tgt := 61) hx hb dX5_look_38 (by decide) (fun c38 => ?_) (fun c38 => ?_)
  · have h := bb_t h c38
    exact J61  p2 S36 h f H locs w hw hn hk ls (lv_sub hl [0, 1, 2] rfl)
  · have h := bb_f h c38
    refine lv_iload_n hx hb dX5_look_41 rfl (lv_at hl 2 rfl) ?_
    refine lv_bipush (v := 8) hx hb dX5_look_42 (by decide) ?_
    refine lv_irem hx hb dX5_look_44 (by decide) ?_
    refine u_iv h (fun x39 h => ?_)
    refine lv_iload_n hx hb dX5_look_45 rfl (lv_at hl 2 rfl) ?_
    refine lv_bipush (v := 8) hx hb dX5_look_46 (by decide) ?_
    refine lv_idiv hx hb dX5_look_48 (by decide) ?_
    refine u_iv h (fun x40 h => ?_)
    refine lv_iadd hx hb dX5_look_49 ?_
    refine u_iv h (fun x41 h => ?_)
    refine lv_aload_n hx hb dX5_look_50 rfl (lv_at hl 1 rfl) ?_
    refine u_geti C w hw (hP _ _ (isn_f rfl rfl hr1)) rfl (N := 13) rfl rfl cin_0 2 (by decide) rfl gw_95 dX5_look_51 ?_
    refine u_iv h (fun x42 h => ?_)
    refine lv_icmp_gt (tgt := 61) hx hb dX5_look_54 (by decide) (fun c43 => ?_) (fun c43 => ?_)
    · have h := bb_t h c43
      exact J61  p2 S36 h f H locs w hw hn hk ls (lv_sub hl [0, 1, 2] rfl)
    · have h := bb_f h c43
      refine lv_iconst (v := 1) hx hb dX5_look_57 (by decide) ?_
      refine lv_goto (tgt := 62) hx hb dX5_look_58 (by decide) ?_
      exact J62  p2 1 S36 h f H locs w hw hn hk ls (lv_sub hl [0, 1, 2] rfl)
theorem dX6_pays_0 : decode cX6_pays 0 = .ok (.aload_n 0, 1) := by decide +kernel
theorem dX6_pays_1 : decode cX6_pays 1 = .ok (.getfield 75, 3) := by decide +kernel
theorem dX6_pays_4 : decode cX6_pays 4 = .ok (.aload_n 1, 1) := by decide +kernel
theorem dX6_pays_5 : decode cX6_pays 5 = .ok (.iload_n 2, 1) := by decide +kernel
theorem dX6_pays_6 : decode cX6_pays 6 = .ok (.invokevirtual 234, 3) := by decide +kernel
theorem dX6_pays_9 : decode cX6_pays 9 = .ok (.aload_n 0, 1) := by decide +kernel
theorem dX6_pays_10 : decode cX6_pays 10 = .ok (.getfield 75, 3) := by decide +kernel
theorem dX6_pays_13 : decode cX6_pays 13 = .ok (.aload_n 0, 1) := by decide +kernel
theorem dX6_pays_14 : decode cX6_pays 14 = .ok (.getfield 75, 3) := by decide +kernel
theorem dX6_pays_17 : decode cX6_pays 17 = .ok (.iload_n 3, 1) := by decide +kernel
theorem dX6_pays_18 : decode cX6_pays 18 = .ok (.iload 4, 2) := by decide +kernel
theorem dX6_pays_20 : decode cX6_pays 20 = .ok (.invokevirtual 238, 3) := by decide +kernel
theorem dX6_pays_23 : decode cX6_pays 23 = .ok (.invokevirtual 241, 3) := by decide +kernel
theorem dX6_pays_26 : decode cX6_pays 26 = .ok (.iconst 5, 1) := by decide +kernel
theorem dX6_pays_27 : decode cX6_pays 27 = .ok (.if_icmp .ne 7, 3) := by decide +kernel
theorem dX6_pays_30 : decode cX6_pays 30 = .ok (.iconst 1, 1) := by decide +kernel
theorem dX6_pays_31 : decode cX6_pays 31 = .ok (.goto 4, 3) := by decide +kernel
theorem dX6_pays_34 : decode cX6_pays 34 = .ok (.iconst 0, 1) := by decide +kernel
theorem dX6_pays_35 : decode cX6_pays 35 = .ok (.ireturn, 1) := by decide +kernel
noncomputable def F_X6_pays (r1 : Nat) (p2 : Int32) (p3 : Int32) (p4 : Int32) (S0 : fS) : Option (Int32 × fS) := bd (F_X5_look 0 r1 p2 S0) (fun v1 S2 => bd (F_X5_failingStep 0 p3 p4 S2) (fun v4 S5 => bd (F_X5_outcomeAt 0 v4 S5) (fun v7 S8 => bb (v7 = (5 : Int32)) (some (1, S8)) (some (0, S8)))))
set_option maxHeartbeats 4000000 in
set_option maxRecDepth 100000 in
theorem c_X6_pays (l : Launch) (D : va_G) (K : Nat → ClassId) (b0 : Nat) (sa : sT) (sz : Nat) (L : List Nat) (f0 : Nat → va_E) (ad : Nat → Nat → Nat) (P : Nat → Nat → Prop) {n : Nat × Nat} (hP : ∀ a i : Nat, isn n a i → P a i) (S0 : fS) (hw : PW K ad P S0 L f0) (hn : S0.2.2.1 = n) (hprobe : 0 < n.1) (r1 : Nat) (hr1 : r1 < 5) (p2 : Int32) (p3 : Int32) (p4 : Int32) (v : Int32) (S1 : fS) (h : F_X6_pays r1 p2 p3 p4 S0 = some (v, S1)) : Met l yX6_pays (.code yX6_pays cX6_pays 5 (some .boolean) :: gt) { frames := 4, cells := 0, slots := 0, locals := 96 } (va_Pc [.ref (ad 0 0), .ref (ad 1 r1), .int p2, .int p3, .int p4] (hPre D K b0 sa sz L f0)) (hQ D K b0 (fun v9 u9 => ∃ f2 : Nat → va_E, v9 = some (.int v) ∧ u9 = lU L f2 ∧ PW K ad P S1 L f2 ∧ S1.2.2.1 = n ∧ Kp ad P L f0 f2)) 0 0 (fun q => b0 ≤ q) := by
  refine t_of (own := RX6) (by decide) rfl ?_ (Nat.le_of_ble_eq_true rfl)
  intro p e s m below meth c ls C w hsz hr hlk hnm hl
  have hx := C.1
  have hb := C.2.1
  have hl : lv_has ls 5 [(0, .ref (ad 0 0)), (1, .ref (ad 1 r1)), (2, .int p2), (3, .int p3), (4, .int p4)] := hl
  dsimp only [F_X6_pays] at h
  obtain ⟨f, ef⟩ : ∃ z, z = f0 := ⟨_, rfl⟩
  rw [← ef] at w hw
  have hk : Kp ad P L f0 f := by rw [ef]; exact Kp.rf
  obtain ⟨H, eH⟩ : ∃ z, z = s.heap := ⟨_, rfl⟩
  obtain ⟨locs, el⟩ : ∃ z : List Loc, z = [] := ⟨_, rfl⟩
  rw [← eH, ← el] at w ⊢
  refine lv_aload_n hx hb dX6_pays_0 rfl (lv_at hl 0 rfl) ?_
  refine u_getr C w hw (hP _ _ (isn_f rfl rfl (by decide))) rfl (N := 18) rfl rfl cin_6 15 (by decide) (by decide) (a2 := 25) (i2 := 0) rfl gw_302 dX6_pays_1 ?_
  refine lv_aload_n hx hb dX6_pays_4 rfl (lv_at hl 1 rfl) ?_
  refine lv_iload_n hx hb dX6_pays_5 rfl (lv_at hl 2 rfl) ?_
  obtain ⟨v1, S2, h3, h⟩ := bd_some h
  refine u_callV (n := 2) C w hw (hP _ _ (isn_t25 hprobe)) rfl rfl rfl (c_X5_look l D K b0 sa _ L _ ad P hP S0 hw hn 0 hprobe r1 hr1 p2 v1 S2 h3) gw_429 gw_426 gw_427 gw_428 gw_7 ⟨by decide, by decide, by decide +kernel⟩ rfl rfl ⟨by decide, by decide⟩ rfl hl.1 rfl (Nat.le_of_ble_eq_true rfl) dX6_pays_6 ⟨Nat.le_of_ble_eq_true rfl, Nat.le_of_ble_eq_true rfl⟩ (fun v9 u H locs hp w => ?_)
  obtain ⟨f2, rfl, rfl, hw, hn, hk1⟩ := hp
  have hk := hk.tr hk1
  generalize f2 = f at w hw hk
  refine lv_aload_n hx hb dX6_pays_9 rfl (lv_at hl 0 rfl) ?_
  refine u_getr C w hw (hP _ _ (isn_f rfl rfl (by decide))) rfl (N := 18) rfl rfl cin_6 15 (by decide) (by decide) (a2 := 25) (i2 := 0) rfl gw_302 dX6_pays_10 ?_
  refine lv_aload_n hx hb dX6_pays_13 rfl (lv_at hl 0 rfl) ?_
  refine u_getr C w hw (hP _ _ (isn_f rfl rfl (by decide))) rfl (N := 18) rfl rfl cin_6 15 (by decide) (by decide) (a2 := 25) (i2 := 0) rfl gw_302 dX6_pays_14 ?_
  refine lv_iload_n hx hb dX6_pays_17 rfl (lv_at hl 3 rfl) ?_
  refine lv_iload hx hb dX6_pays_18 (lv_at hl 4 rfl) ?_
  obtain ⟨v4, S5, h6, h⟩ := bd_some h
  refine u_callV (n := 2) C w hw (hP _ _ (isn_t25 hprobe)) rfl rfl rfl (c_X5_failingStep l D K b0 sa _ L _ ad P hP S2 hw hn 0 hprobe p3 p4 v4 S5 h6) gw_467 gw_464 gw_465 gw_466 gw_7 ⟨by decide, by decide, by decide +kernel⟩ rfl rfl ⟨by decide, by decide⟩ rfl hl.1 rfl (Nat.le_of_ble_eq_true rfl) dX6_pays_20 ⟨Nat.le_of_ble_eq_true rfl, Nat.le_of_ble_eq_true rfl⟩ (fun v9 u H locs hp w => ?_)
  obtain ⟨f2, rfl, rfl, hw, hn, hk1⟩ := hp
  have hk := hk.tr hk1
  generalize f2 = f at w hw hk
  obtain ⟨v7, S8, h9, h⟩ := bd_some h
  refine u_callV (n := 1) C w hw (hP _ _ (isn_t25 hprobe)) rfl rfl rfl (c_X5_outcomeAt l D K b0 sa _ L _ ad P hP S5 hw hn 0 hprobe v4 v7 S8 h9) gw_471 gw_468 gw_469 gw_470 gw_7 ⟨by decide, by decide, by decide +kernel⟩ rfl rfl ⟨by decide, by decide⟩ rfl hl.1 rfl (Nat.le_of_ble_eq_true rfl) dX6_pays_23 ⟨Nat.le_of_ble_eq_true rfl, Nat.le_of_ble_eq_true rfl⟩ (fun v9 u H locs hp w => ?_)
  obtain ⟨f2, rfl, rfl, hw, hn, hk1⟩ := hp
  have hk := hk.tr hk1
  generalize f2 = f at w hw hk
  refine lv_iconst (v := 5) hx hb dX6_pays_26 (by decide) ?_
  refine lv_icmp_ne (tgt := 34) hx hb dX6_pays_27 (by decide) (fun c10 => ?_) (fun c10 => ?_)
  · have h := bb_f h c10
    refine lv_iconst (v := 0) hx hb dX6_pays_34 (by decide) ?_
    exact t_zret C hr hlk w (by decide) ⟨_, so_v h, rfl, so_w h hw, so_n h hn, hk⟩ (by decide) (by decide) dX6_pays_35
  · have h := bb_t h c10
    refine lv_iconst (v := 1) hx hb dX6_pays_30 (by decide) ?_
    refine lv_goto (tgt := 35) hx hb dX6_pays_31 (by decide) ?_
    exact t_zret C hr hlk w (by decide) ⟨_, so_v h, rfl, so_w h hw, so_n h hn, hk⟩ (by decide) (by decide) dX6_pays_35
theorem dX6_cellsPaying_0 : decode cX6_cellsPaying 0 = .ok (.iconst 0, 1) := by decide +kernel
theorem dX6_cellsPaying_1 : decode cX6_cellsPaying 1 = .ok (.istore_n 3, 1) := by decide +kernel
theorem dX6_cellsPaying_2 : decode cX6_cellsPaying 2 = .ok (.iconst 0, 1) := by decide +kernel
theorem dX6_cellsPaying_3 : decode cX6_cellsPaying 3 = .ok (.istore 4, 2) := by decide +kernel
theorem dX6_cellsPaying_5 : decode cX6_cellsPaying 5 = .ok (.iload 4, 2) := by decide +kernel
theorem dX6_cellsPaying_7 : decode cX6_cellsPaying 7 = .ok (.bipush 64, 2) := by decide +kernel
theorem dX6_cellsPaying_9 : decode cX6_cellsPaying 9 = .ok (.if_icmp .ge 32, 3) := by decide +kernel
theorem dX6_cellsPaying_12 : decode cX6_cellsPaying 12 = .ok (.iload_n 3, 1) := by decide +kernel
theorem dX6_cellsPaying_13 : decode cX6_cellsPaying 13 = .ok (.aload_n 0, 1) := by decide +kernel
theorem dX6_cellsPaying_14 : decode cX6_cellsPaying 14 = .ok (.aload_n 0, 1) := by decide +kernel
theorem dX6_cellsPaying_15 : decode cX6_cellsPaying 15 = .ok (.getfield 10, 3) := by decide +kernel
theorem dX6_cellsPaying_18 : decode cX6_cellsPaying 18 = .ok (.iload 4, 2) := by decide +kernel
theorem dX6_cellsPaying_20 : decode cX6_cellsPaying 20 = .ok (.iload_n 1, 1) := by decide +kernel
theorem dX6_cellsPaying_21 : decode cX6_cellsPaying 21 = .ok (.iload_n 2, 1) := by decide +kernel
theorem dX6_cellsPaying_22 : decode cX6_cellsPaying 22 = .ok (.invokevirtual 230, 3) := by decide +kernel
theorem dX6_cellsPaying_25 : decode cX6_cellsPaying 25 = .ok (.ifCond .eq 7, 3) := by decide +kernel
theorem dX6_cellsPaying_28 : decode cX6_cellsPaying 28 = .ok (.iconst 1, 1) := by decide +kernel
theorem dX6_cellsPaying_29 : decode cX6_cellsPaying 29 = .ok (.goto 4, 3) := by decide +kernel
theorem dX6_cellsPaying_32 : decode cX6_cellsPaying 32 = .ok (.iconst 0, 1) := by decide +kernel
theorem dX6_cellsPaying_33 : decode cX6_cellsPaying 33 = .ok (.iadd, 1) := by decide +kernel
theorem dX6_cellsPaying_34 : decode cX6_cellsPaying 34 = .ok (.istore_n 3, 1) := by decide +kernel
theorem dX6_cellsPaying_35 : decode cX6_cellsPaying 35 = .ok (.iinc 4 1, 3) := by decide +kernel
theorem dX6_cellsPaying_38 : decode cX6_cellsPaying 38 = .ok (.goto (-33), 3) := by decide +kernel
theorem dX6_cellsPaying_41 : decode cX6_cellsPaying 41 = .ok (.iload_n 3, 1) := by decide +kernel
theorem dX6_cellsPaying_42 : decode cX6_cellsPaying 42 = .ok (.ireturn, 1) := by decide +kernel
noncomputable def B_X6_cellsPaying_33 (k5 : (Int32 × Int32 × Int32 × Int32) → fS → Option (Int32 × fS)) (a1 : Int32) (a2 : Int32) (a4 : Int32) (t0 : Int32) (t1 : Int32) (S : fS) : Option (Int32 × fS) := iv (t1 + t0) (fun x1 => iv (a4 + Int32.ofInt 1) (fun x2 => k5 (a1, a2, x1, x2) S))
noncomputable def B_X6_cellsPaying_5 (k5 : (Int32 × Int32 × Int32 × Int32) → fS → Option (Int32 × fS)) : (Int32 × Int32 × Int32 × Int32) → fS → Option (Int32 × fS) := fun ⟨a1, a2, a3, a4⟩ S => bb ((64 : Int32) ≤ a4) (some (a3, S)) (bd (F_X6_pays 0 a4 a1 a2 S) (fun v4 S5 => bb (v4 = (0 : Int32)) (B_X6_cellsPaying_33 k5 a1 a2 a4 0 a3 S5) (B_X6_cellsPaying_33 k5 a1 a2 a4 1 a3 S5)))
noncomputable def F_X6_cellsPaying (p1 : Int32) (p2 : Int32) (S0 : fS) : Option (Int32 × fS) := lp (B_X6_cellsPaying_5 ) fuel (p1, p2, 0, 0) S0
set_option maxHeartbeats 4000000 in
set_option maxRecDepth 100000 in
theorem c_X6_cellsPaying (l : Launch) (D : va_G) (K : Nat → ClassId) (b0 : Nat) (sa : sT) (sz : Nat) (L : List Nat) (f0 : Nat → va_E) (ad : Nat → Nat → Nat) (P : Nat → Nat → Prop) {n : Nat × Nat} (hP : ∀ a i : Nat, isn n a i → P a i) (S0 : fS) (hw : PW K ad P S0 L f0) (hn : S0.2.2.1 = n) (hprobe : 0 < n.1) (p1 : Int32) (p2 : Int32) (v : Int32) (S1 : fS) (h : F_X6_cellsPaying p1 p2 S0 = some (v, S1)) : Met l yX6_cellsPaying (.code yX6_cellsPaying cX6_cellsPaying 5 (some .int) :: gt) { frames := 5, cells := 0, slots := 0, locals := 120 } (va_Pc [.ref (ad 0 0), .int p1, .int p2] (hPre D K b0 sa sz L f0)) (hQ D K b0 (fun v9 u9 => ∃ f2 : Nat → va_E, v9 = some (.int v) ∧ u9 = lU L f2 ∧ PW K ad P S1 L f2 ∧ S1.2.2.1 = n ∧ Kp ad P L f0 f2)) 0 0 (fun q => b0 ≤ q) := by
  refine t_of (own := RX6) (by decide) rfl ?_ (Nat.le_of_ble_eq_true rfl)
  intro p e s m below meth c ls C w hsz hr hlk hnm hl
  have hx := C.1
  have hb := C.2.1
  have hl : lv_has ls 5 [(0, .ref (ad 0 0)), (1, .int p1), (2, .int p2)] := hl
  have J33 : ∀ (k5 : (Int32 × Int32 × Int32 × Int32) → fS → Option (Int32 × fS)) (hk5 : ∀ (a1 : Int32) (a2 : Int32) (a3 : Int32) (a4 : Int32) (S : fS), k5 (a1, a2, a3, a4) S = some (v, S1) → Gw D K b0 sa ad P n L f0 p l e { frames := 5, cells := 0, slots := 0, locals := 120 } s m [.ref (ad 0 0), .int p1, .int p2].toArray below meth c 5 (MQ below (hQ D K b0 (fun v9 u9 => ∃ f2 : Nat → va_E, v9 = some (.int v) ∧ u9 = lU L f2 ∧ PW K ad P S1 L f2 ∧ S1.2.2.1 = n ∧ Kp ad P L f0 f2)) [.ref (ad 0 0), .int p1, .int p2].toArray s 0 0 (fun q => b0 ≤ q)) 0 0 5 [(0, .ref (ad 0 0)), (1, .int a1), (2, .int a2), (3, .int a3), (4, .int a4)] [] S) (a1 : Int32) (a2 : Int32) (a4 : Int32) (t0 : Int32) (t1 : Int32) (S : fS), B_X6_cellsPaying_33 k5 a1 a2 a4 t0 t1 S = some (v, S1) → Gw D K b0 sa ad P n L f0 p l e { frames := 5, cells := 0, slots := 0, locals := 120 } s m [.ref (ad 0 0), .int p1, .int p2].toArray below meth c 5 (MQ below (hQ D K b0 (fun v9 u9 => ∃ f2 : Nat → va_E, v9 = some (.int v) ∧ u9 = lU L f2 ∧ PW K ad P S1 L f2 ∧ S1.2.2.1 = n ∧ Kp ad P L f0 f2)) [.ref (ad 0 0), .int p1, .int p2].toArray s 0 0 (fun q => b0 ≤ q)) 0 0 33 [(0, .ref (ad 0 0)), (1, .int a1), (2, .int a2), (4, .int a4)] [.int t0, .int t1] S := by
    intro k5 hk5 a1 a2 a4 t0 t1 S h
    dsimp only [B_X6_cellsPaying_33] at h
    intro f H locs w hw hn hk ls hl
    refine lv_iadd hx hb dX6_cellsPaying_33 ?_
    refine u_iv h (fun x1 h => ?_)
    refine lv_istore_n (lv' := [(3, .int x1), (0, .ref (ad 0 0)), (1, .int a1), (2, .int a2), (4, .int a4)]) hx hb dX6_cellsPaying_34 rfl hl (by decide) rfl (fun ls hl => ?_)
    obtain ⟨x2, ex2, h⟩ := iv_some h
    refine lv_iinc (v := x2) (lv' := [(4, .int x2), (3, .int x1), (0, .ref (ad 0 0)), (1, .int a1), (2, .int a2)]) hx hb dX6_cellsPaying_35 hl (k := 4) rfl ex2.symm (by decide) rfl (fun ls hl => ?_)
    refine lv_goto (tgt := 5) hx hb dX6_cellsPaying_38 (by decide) ?_
    exact hk5 a1 a2 x1 x2 S h f H locs w hw hn hk ls (lv_sub hl [2, 3, 4, 1, 0] rfl)
  have J5 : ∀ (fu : Nat) (a1 : Int32) (a2 : Int32) (a3 : Int32) (a4 : Int32) (S : fS), lp (B_X6_cellsPaying_5 ) fu (a1, a2, a3, a4) S = some (v, S1) → Gw D K b0 sa ad P n L f0 p l e { frames := 5, cells := 0, slots := 0, locals := 120 } s m [.ref (ad 0 0), .int p1, .int p2].toArray below meth c 5 (MQ below (hQ D K b0 (fun v9 u9 => ∃ f2 : Nat → va_E, v9 = some (.int v) ∧ u9 = lU L f2 ∧ PW K ad P S1 L f2 ∧ S1.2.2.1 = n ∧ Kp ad P L f0 f2)) [.ref (ad 0 0), .int p1, .int p2].toArray s 0 0 (fun q => b0 ≤ q)) 0 0 5 [(0, .ref (ad 0 0)), (1, .int a1), (2, .int a2), (3, .int a3), (4, .int a4)] [] S := by
    intro fu a1 a2 a3 a4 S h
    refine lp_some (G := (fun q S => Gw D K b0 sa ad P n L f0 p l e { frames := 5, cells := 0, slots := 0, locals := 120 } s m [.ref (ad 0 0), .int p1, .int p2].toArray below meth c 5 (MQ below (hQ D K b0 (fun v9 u9 => ∃ f2 : Nat → va_E, v9 = some (.int v) ∧ u9 = lU L f2 ∧ PW K ad P S1 L f2 ∧ S1.2.2.1 = n ∧ Kp ad P L f0 f2)) [.ref (ad 0 0), .int p1, .int p2].toArray s 0 0 (fun q => b0 ≤ q)) 0 0 5 [(0, .ref (ad 0 0)), (1, .int q.1), (2, .int q.2.1), (3, .int q.2.2.1), (4, .int q.2.2.2)] [] S)) (fun k5 hk5 q S h => ?_) fu (a1, a2, a3, a4) S h
    obtain ⟨a1, a2, a3, a4⟩ := q
    have hk5 : ∀ (a1 : Int32) (a2 : Int32) (a3 : Int32) (a4 : Int32) (S : fS), k5 (a1, a2, a3, a4) S = some (v, S1) → Gw D K b0 sa ad P n L f0 p l e { frames := 5, cells := 0, slots := 0, locals := 120 } s m [.ref (ad 0 0), .int p1, .int p2].toArray below meth c 5 (MQ below (hQ D K b0 (fun v9 u9 => ∃ f2 : Nat → va_E, v9 = some (.int v) ∧ u9 = lU L f2 ∧ PW K ad P S1 L f2 ∧ S1.2.2.1 = n ∧ Kp ad P L f0 f2)) [.ref (ad 0 0), .int p1, .int p2].toArray s 0 0 (fun q => b0 ≤ q)) 0 0 5 [(0, .ref (ad 0 0)), (1, .int a1), (2, .int a2), (3, .int a3), (4, .int a4)] [] S := fun a1 a2 a3 a4 S h => hk5 (a1, a2, a3, a4) S h
    dsimp only [B_X6_cellsPaying_5] at h
    intro f H locs w hw hn hk ls hl
    refine lv_iload hx hb dX6_cellsPaying_5 (lv_at hl 4 rfl) ?_
    refine lv_bipush (v := 64) hx hb dX6_cellsPaying_7 (by decide) ?_
    refine lv_icmp_ge (tgt := 41) hx hb dX6_cellsPaying_9 (by decide) (fun c3 => ?_) (fun c3 => ?_)
    · have h := bb_t h c3
      refine lv_iload_n hx hb dX6_cellsPaying_41 rfl (lv_at hl 3 rfl) ?_
      exact t_iret C hr hlk w ⟨_, so_v h, rfl, so_w h hw, so_n h hn, hk⟩ (by decide) (by decide) dX6_cellsPaying_42
    · have h := bb_f h c3
      refine lv_iload_n hx hb dX6_cellsPaying_12 rfl (lv_at hl 3 rfl) ?_
      refine lv_aload_n hx hb dX6_cellsPaying_13 rfl (lv_at hl 0 rfl) ?_
      refine lv_aload_n hx hb dX6_cellsPaying_14 rfl (lv_at hl 0 rfl) ?_
      refine u_getr C w hw (hP _ _ (isn_f rfl rfl (by decide))) rfl (N := 18) rfl rfl cin_6 0 (by decide) (by decide) (a2 := 1) (i2 := 0) rfl gw_287 dX6_cellsPaying_15 ?_
      refine lv_iload hx hb dX6_cellsPaying_18 (lv_at hl 4 rfl) ?_
      refine lv_iload_n hx hb dX6_cellsPaying_20 rfl (lv_at hl 1 rfl) ?_
      refine lv_iload_n hx hb dX6_cellsPaying_21 rfl (lv_at hl 2 rfl) ?_
      obtain ⟨v4, S5, h6, h⟩ := bd_some h
      refine u_callV (n := 4) C w hw (hP _ _ (isn_f rfl rfl (by decide))) rfl rfl rfl (c_X6_pays l D K b0 sa _ L _ ad P hP S hw hn hprobe 0 (by decide) a4 a1 a2 v4 S5 h6) gw_1027 gw_1024 gw_1026 gs_17 gw_1 ⟨by decide, by decide, by decide +kernel⟩ rfl rfl ⟨by decide, by decide⟩ rfl hl.1 rfl (Nat.le_of_ble_eq_true rfl) dX6_cellsPaying_22 ⟨Nat.le_of_ble_eq_true rfl, Nat.le_of_ble_eq_true rfl⟩ (fun v9 u H locs hp w => ?_)
      obtain ⟨f2, rfl, rfl, hw, hn, hk1⟩ := hp
      have hk := hk.tr hk1
      generalize f2 = f at w hw hk
      refine lv_if_eq (tgt := 32) hx hb dX6_cellsPaying_25 (by decide) (fun c7 => ?_) (fun c7 => ?_)
      · have h := bb_t h c7
        refine lv_iconst (v := 0) hx hb dX6_cellsPaying_32 (by decide) ?_
        exact J33 k5 hk5 a1 a2 a4 0 a3 S5 h f H locs w hw hn hk ls (lv_sub hl [0, 1, 2, 4] rfl)
      · have h := bb_f h c7
        refine lv_iconst (v := 1) hx hb dX6_cellsPaying_28 (by decide) ?_
        refine lv_goto (tgt := 33) hx hb dX6_cellsPaying_29 (by decide) ?_
        exact J33 k5 hk5 a1 a2 a4 1 a3 S5 h f H locs w hw hn hk ls (lv_sub hl [0, 1, 2, 4] rfl)
  dsimp only [F_X6_cellsPaying] at h
  obtain ⟨f, ef⟩ : ∃ z, z = f0 := ⟨_, rfl⟩
  rw [← ef] at w hw
  have hk : Kp ad P L f0 f := by rw [ef]; exact Kp.rf
  obtain ⟨H, eH⟩ : ∃ z, z = s.heap := ⟨_, rfl⟩
  obtain ⟨locs, el⟩ : ∃ z : List Loc, z = [] := ⟨_, rfl⟩
  rw [← eH, ← el] at w ⊢
  refine lv_iconst (v := 0) hx hb dX6_cellsPaying_0 (by decide) ?_
  refine lv_istore_n (lv' := [(3, .int 0), (0, .ref (ad 0 0)), (1, .int p1), (2, .int p2)]) hx hb dX6_cellsPaying_1 rfl hl (by decide) rfl (fun ls hl => ?_)
  refine lv_iconst (v := 0) hx hb dX6_cellsPaying_2 (by decide) ?_
  refine lv_istore (lv' := [(4, .int 0), (3, .int 0), (0, .ref (ad 0 0)), (1, .int p1), (2, .int p2)]) hx hb dX6_cellsPaying_3 hl (by decide) rfl (fun ls hl => ?_)
  exact J5  fuel p1 p2 0 0 S0 h f H locs w hw hn hk ls (lv_sub hl [2, 3, 4, 1, 0] rfl)
theorem dX6_fair_0 : decode cX6_fair 0 = .ok (.iload_n 1, 1) := by decide +kernel
theorem dX6_fair_1 : decode cX6_fair 1 = .ok (.iconst 0, 1) := by decide +kernel
theorem dX6_fair_2 : decode cX6_fair 2 = .ok (.bipush 64, 2) := by decide +kernel
theorem dX6_fair_4 : decode cX6_fair 4 = .ok (.invokestatic 92, 3) := by decide +kernel
theorem dX6_fair_7 : decode cX6_fair 7 = .ok (.invokestatic 96, 3) := by decide +kernel
theorem dX6_fair_10 : decode cX6_fair 10 = .ok (.bipush 8, 2) := by decide +kernel
theorem dX6_fair_12 : decode cX6_fair 12 = .ok (.istore_n 2, 1) := by decide +kernel
theorem dX6_fair_13 : decode cX6_fair 13 = .ok (.iload_n 2, 1) := by decide +kernel
theorem dX6_fair_14 : decode cX6_fair 14 = .ok (.ifCond .lt 41, 3) := by decide +kernel
theorem dX6_fair_17 : decode cX6_fair 17 = .ok (.bipush 10, 2) := by decide +kernel
theorem dX6_fair_19 : decode cX6_fair 19 = .ok (.istore_n 3, 1) := by decide +kernel
theorem dX6_fair_20 : decode cX6_fair 20 = .ok (.iload_n 3, 1) := by decide +kernel
theorem dX6_fair_21 : decode cX6_fair 21 = .ok (.bipush 90, 2) := by decide +kernel
theorem dX6_fair_23 : decode cX6_fair 23 = .ok (.if_icmp .gt 26, 3) := by decide +kernel
theorem dX6_fair_26 : decode cX6_fair 26 = .ok (.aload_n 0, 1) := by decide +kernel
theorem dX6_fair_27 : decode cX6_fair 27 = .ok (.iload_n 3, 1) := by decide +kernel
theorem dX6_fair_28 : decode cX6_fair 28 = .ok (.iload_n 2, 1) := by decide +kernel
theorem dX6_fair_29 : decode cX6_fair 29 = .ok (.invokevirtual 306, 3) := by decide +kernel
theorem dX6_fair_32 : decode cX6_fair 32 = .ok (.iload_n 1, 1) := by decide +kernel
theorem dX6_fair_33 : decode cX6_fair 33 = .ok (.if_icmp .lt 10, 3) := by decide +kernel
theorem dX6_fair_36 : decode cX6_fair 36 = .ok (.bipush 100, 2) := by decide +kernel
theorem dX6_fair_38 : decode cX6_fair 38 = .ok (.iload_n 3, 1) := by decide +kernel
theorem dX6_fair_39 : decode cX6_fair 39 = .ok (.imul, 1) := by decide +kernel
theorem dX6_fair_40 : decode cX6_fair 40 = .ok (.iload_n 2, 1) := by decide +kernel
theorem dX6_fair_41 : decode cX6_fair 41 = .ok (.iadd, 1) := by decide +kernel
theorem dX6_fair_42 : decode cX6_fair 42 = .ok (.ireturn, 1) := by decide +kernel
theorem dX6_fair_43 : decode cX6_fair 43 = .ok (.iinc 3 10, 3) := by decide +kernel
theorem dX6_fair_46 : decode cX6_fair 46 = .ok (.goto (-26), 3) := by decide +kernel
theorem dX6_fair_49 : decode cX6_fair 49 = .ok (.iinc 2 (-2), 3) := by decide +kernel
theorem dX6_fair_52 : decode cX6_fair 52 = .ok (.goto (-39), 3) := by decide +kernel
theorem dX6_fair_55 : decode cX6_fair 55 = .ok (.iconst (-1), 1) := by decide +kernel
theorem dX6_fair_56 : decode cX6_fair 56 = .ok (.ireturn, 1) := by decide +kernel
noncomputable def B_X6_fair_20 (k13 : (Int32 × Int32) → fS → Option ((Nat × Int32) × fS)) (k20 : (Int32 × Int32 × Int32) → fS → Option ((Nat × Int32) × fS)) : (Int32 × Int32 × Int32) → fS → Option ((Nat × Int32) × fS) := fun ⟨a1, a2, a3⟩ S => bb ((90 : Int32) < a3) (iv (a2 + Int32.ofInt (-2)) (fun x2 => k13 (a1, x2) S)) (bd (F_X6_cellsPaying a3 a2 S) (fun v3 S4 => bb (v3 < a1) (iv (a3 + Int32.ofInt 10) (fun x7 => k20 (a1, a2, x7) S4)) (iv ((100 : Int32) * a3) (fun x8 => iv (x8 + a2) (fun x9 => some ((0, x9), S4))))))
noncomputable def B_X6_fair_13 (k13 : (Int32 × Int32) → fS → Option ((Nat × Int32) × fS)) : (Int32 × Int32) → fS → Option ((Nat × Int32) × fS) := fun ⟨a1, a2⟩ S => bb (a2 < (0 : Int32)) (some ((0, (-1)), S)) (lp (B_X6_fair_20 k13) fuel (a1, a2, 10) S)
noncomputable def F_X6_fair (p1 : Int32) (S0 : fS) : Option ((Nat × Int32) × fS) := bd (F_X6_within p1 0 64 S0) (fun v11 S12 => bx (F_X6_need v11 S12) (fun v14 S15 => lp (B_X6_fair_13 ) fuel (p1, 8) S15))
set_option maxHeartbeats 4000000 in
set_option maxRecDepth 100000 in
theorem c_X6_fair (l : Launch) (hls : l.stackTraces = false) (D : va_G) (K : Nat → ClassId) (b0 : Nat) (sa : sT) (sz : Nat) (L : List Nat) (f0 : Nat → va_E) (ad : Nat → Nat → Nat) (P : Nat → Nat → Prop) {n : Nat × Nat} (hP : ∀ a i : Nat, isn n a i → P a i) (S0 : fS) (hw : PW K ad P S0 L f0) (hn : S0.2.2.1 = n) (hprobe : 0 < n.1) (p1 : Int32) (ec : Nat) (v : Int32) (S1 : fS) (h : F_X6_fair p1 S0 = some ((ec, v), S1)) : vx_Met l yX6_fair (.code yX6_fair cX6_fair 4 (some .int) :: gt) { frames := 7, cells := 1, slots := 6, locals := 144 } (va_Pc [.ref (ad 0 0), .int p1] (hPre D K b0 sa sz L f0)) (hQ D K b0 (fun v9 u9 => ec = 0 ∧ v9 = some (.int v) ∧ ∃ f2 : Nat → va_E, u9 = lU L f2 ∧ PW K ad P S1 L f2 ∧ S1.2.2.1 = n ∧ Kp ad P L f0 f2)) (hX D K b0 (fun E u9 => (ec ≠ 0 ∧ E = exn ec) ∧ ∃ f2 : Nat → va_E, u9 = lU L f2 ∧ PW K ad P S1 L f2 ∧ S1.2.2.1 = n ∧ Kp ad P L f0 f2)) 1 6 (fun q => b0 ≤ q) := by
  refine t_xof (own := RX6) (by decide) rfl ?_ (Nat.le_of_ble_eq_true rfl)
  intro p e s m below meth c ls C w hsz hr hlk htb hl
  have hx := C.1
  have hb := C.2.1
  have hl : lv_has ls 4 [(0, .ref (ad 0 0)), (1, .int p1)] := hl
  have J20 : ∀ (k13 : (Int32 × Int32) → fS → Option ((Nat × Int32) × fS)) (hk13 : ∀ (a1 : Int32) (a2 : Int32) (S : fS), k13 (a1, a2) S = some ((ec, v), S1) → Gw D K b0 sa ad P n L f0 p l e { frames := 7, cells := 1, slots := 6, locals := 144 } s m [.ref (ad 0 0), .int p1].toArray below meth c 4 (vx_MQ below (hQ D K b0 (fun v9 u9 => ec = 0 ∧ v9 = some (.int v) ∧ ∃ f2 : Nat → va_E, u9 = lU L f2 ∧ PW K ad P S1 L f2 ∧ S1.2.2.1 = n ∧ Kp ad P L f0 f2)) (hX D K b0 (fun E u9 => (ec ≠ 0 ∧ E = exn ec) ∧ ∃ f2 : Nat → va_E, u9 = lU L f2 ∧ PW K ad P S1 L f2 ∧ S1.2.2.1 = n ∧ Kp ad P L f0 f2)) [.ref (ad 0 0), .int p1].toArray s 1 6 (fun q => b0 ≤ q)) 1 6 13 [(0, .ref (ad 0 0)), (1, .int a1), (2, .int a2)] [] S) (fu : Nat) (a1 : Int32) (a2 : Int32) (a3 : Int32) (S : fS), lp (B_X6_fair_20 k13) fu (a1, a2, a3) S = some ((ec, v), S1) → Gw D K b0 sa ad P n L f0 p l e { frames := 7, cells := 1, slots := 6, locals := 144 } s m [.ref (ad 0 0), .int p1].toArray below meth c 4 (vx_MQ below (hQ D K b0 (fun v9 u9 => ec = 0 ∧ v9 = some (.int v) ∧ ∃ f2 : Nat → va_E, u9 = lU L f2 ∧ PW K ad P S1 L f2 ∧ S1.2.2.1 = n ∧ Kp ad P L f0 f2)) (hX D K b0 (fun E u9 => (ec ≠ 0 ∧ E = exn ec) ∧ ∃ f2 : Nat → va_E, u9 = lU L f2 ∧ PW K ad P S1 L f2 ∧ S1.2.2.1 = n ∧ Kp ad P L f0 f2)) [.ref (ad 0 0), .int p1].toArray s 1 6 (fun q => b0 ≤ q)) 1 6 20 [(0, .ref (ad 0 0)), (1, .int a1), (2, .int a2), (3, .int a3)] [] S := by
    intro k13 hk13 fu a1 a2 a3 S h
    refine lp_some (G := (fun q S => Gw D K b0 sa ad P n L f0 p l e { frames := 7, cells := 1, slots := 6, locals := 144 } s m [.ref (ad 0 0), .int p1].toArray below meth c 4 (vx_MQ below (hQ D K b0 (fun v9 u9 => ec = 0 ∧ v9 = some (.int v) ∧ ∃ f2 : Nat → va_E, u9 = lU L f2 ∧ PW K ad P S1 L f2 ∧ S1.2.2.1 = n ∧ Kp ad P L f0 f2)) (hX D K b0 (fun E u9 => (ec ≠ 0 ∧ E = exn ec) ∧ ∃ f2 : Nat → va_E, u9 = lU L f2 ∧ PW K ad P S1 L f2 ∧ S1.2.2.1 = n ∧ Kp ad P L f0 f2)) [.ref (ad 0 0), .int p1].toArray s 1 6 (fun q => b0 ≤ q)) 1 6 20 [(0, .ref (ad 0 0)), (1, .int q.1), (2, .int q.2.1), (3, .int q.2.2)] [] S)) (fun k20 hk20 q S h => ?_) fu (a1, a2, a3) S h
    obtain ⟨a1, a2, a3⟩ := q
    have hk20 : ∀ (a1 : Int32) (a2 : Int32) (a3 : Int32) (S : fS), k20 (a1, a2, a3) S = some ((ec, v), S1) → Gw D K b0 sa ad P n L f0 p l e { frames := 7, cells := 1, slots := 6, locals := 144 } s m [.ref (ad 0 0), .int p1].toArray below meth c 4 (vx_MQ below (hQ D K b0 (fun v9 u9 => ec = 0 ∧ v9 = some (.int v) ∧ ∃ f2 : Nat → va_E, u9 = lU L f2 ∧ PW K ad P S1 L f2 ∧ S1.2.2.1 = n ∧ Kp ad P L f0 f2)) (hX D K b0 (fun E u9 => (ec ≠ 0 ∧ E = exn ec) ∧ ∃ f2 : Nat → va_E, u9 = lU L f2 ∧ PW K ad P S1 L f2 ∧ S1.2.2.1 = n ∧ Kp ad P L f0 f2)) [.ref (ad 0 0), .int p1].toArray s 1 6 (fun q => b0 ≤ q)) 1 6 20 [(0, .ref (ad 0 0)), (1, .int a1), (2, .int a2), (3, .int a3)] [] S := fun a1 a2 a3 S h => hk20 (a1, a2, a3) S h
    dsimp only [B_X6_fair_20] at h
    intro f H locs w hw hn hk ls hl
    refine lv_iload_n hx hb dX6_fair_20 rfl (lv_at hl 3 rfl) ?_
    refine lv_bipush (v := 90) hx hb dX6_fair_21 (by decide) ?_
    refine lv_icmp_gt (tgt := 49) hx hb dX6_fair_23 (by decide) (fun c1 => ?_) (fun c1 => ?_)
    · have h := bb_t h c1
      obtain ⟨x2, ex2, h⟩ := iv_some h
      refine lv_iinc (v := x2) (lv' := [(2, .int x2), (0, .ref (ad 0 0)), (1, .int a1), (3, .int a3)]) hx hb dX6_fair_49 hl (k := 2) rfl ex2.symm (by decide) rfl (fun ls hl => ?_)
      refine lv_goto (tgt := 13) hx hb dX6_fair_52 (by decide) ?_
      exact hk13 a1 x2 S h f H locs w hw hn hk ls (lv_sub hl [1, 2, 0] rfl)
    · have h := bb_f h c1
      refine lv_aload_n hx hb dX6_fair_26 rfl (lv_at hl 0 rfl) ?_
      refine lv_iload_n hx hb dX6_fair_27 rfl (lv_at hl 3 rfl) ?_
      refine lv_iload_n hx hb dX6_fair_28 rfl (lv_at hl 2 rfl) ?_
      obtain ⟨v3, S4, h5, h⟩ := bd_some h
      refine u_callV (n := 2) C w hw (hP _ _ (isn_f rfl rfl (by decide))) rfl rfl rfl (c_X6_cellsPaying l D K b0 sa _ L _ ad P hP S hw hn hprobe a3 a2 v3 S4 h5) gw_1147 gw_1144 gw_1146 gs_21 gw_1 ⟨by decide, by decide, by decide +kernel⟩ rfl rfl ⟨by decide, by decide⟩ rfl hl.1 rfl (Nat.le_of_ble_eq_true rfl) dX6_fair_29 ⟨Nat.le_of_ble_eq_true rfl, Nat.le_of_ble_eq_true rfl⟩ (fun v9 u H locs hp w => ?_)
      obtain ⟨f2, rfl, rfl, hw, hn, hk1⟩ := hp
      have hk := hk.tr hk1
      generalize f2 = f at w hw hk
      refine lv_iload_n hx hb dX6_fair_32 rfl (lv_at hl 1 rfl) ?_
      refine lv_icmp_lt (tgt := 43) hx hb dX6_fair_33 (by decide) (fun c6 => ?_) (fun c6 => ?_)
      · have h := bb_t h c6
        obtain ⟨x7, ex7, h⟩ := iv_some h
        refine lv_iinc (v := x7) (lv' := [(3, .int x7), (0, .ref (ad 0 0)), (1, .int a1), (2, .int a2)]) hx hb dX6_fair_43 hl (k := 3) rfl ex7.symm (by decide) rfl (fun ls hl => ?_)
        refine lv_goto (tgt := 20) hx hb dX6_fair_46 (by decide) ?_
        exact hk20 a1 a2 x7 S4 h f H locs w hw hn hk ls (lv_sub hl [1, 2, 3, 0] rfl)
      · have h := bb_f h c6
        refine lv_bipush (v := 100) hx hb dX6_fair_36 (by decide) ?_
        refine lv_iload_n hx hb dX6_fair_38 rfl (lv_at hl 3 rfl) ?_
        refine lv_imul hx hb dX6_fair_39 ?_
        refine u_iv h (fun x8 h => ?_)
        refine lv_iload_n hx hb dX6_fair_40 rfl (lv_at hl 2 rfl) ?_
        refine lv_iadd hx hb dX6_fair_41 ?_
        refine u_iv h (fun x9 h => ?_)
        refine vx_ret ?_
        exact t_iret C hr hlk w ⟨sx_e h, sx_v h, _, rfl, sx_w h hw, sx_n h hn, hk⟩ (by decide) (by decide) dX6_fair_42
  have J13 : ∀ (fu : Nat) (a1 : Int32) (a2 : Int32) (S : fS), lp (B_X6_fair_13 ) fu (a1, a2) S = some ((ec, v), S1) → Gw D K b0 sa ad P n L f0 p l e { frames := 7, cells := 1, slots := 6, locals := 144 } s m [.ref (ad 0 0), .int p1].toArray below meth c 4 (vx_MQ below (hQ D K b0 (fun v9 u9 => ec = 0 ∧ v9 = some (.int v) ∧ ∃ f2 : Nat → va_E, u9 = lU L f2 ∧ PW K ad P S1 L f2 ∧ S1.2.2.1 = n ∧ Kp ad P L f0 f2)) (hX D K b0 (fun E u9 => (ec ≠ 0 ∧ E = exn ec) ∧ ∃ f2 : Nat → va_E, u9 = lU L f2 ∧ PW K ad P S1 L f2 ∧ S1.2.2.1 = n ∧ Kp ad P L f0 f2)) [.ref (ad 0 0), .int p1].toArray s 1 6 (fun q => b0 ≤ q)) 1 6 13 [(0, .ref (ad 0 0)), (1, .int a1), (2, .int a2)] [] S := by
    intro fu a1 a2 S h
    refine lp_some (G := (fun q S => Gw D K b0 sa ad P n L f0 p l e { frames := 7, cells := 1, slots := 6, locals := 144 } s m [.ref (ad 0 0), .int p1].toArray below meth c 4 (vx_MQ below (hQ D K b0 (fun v9 u9 => ec = 0 ∧ v9 = some (.int v) ∧ ∃ f2 : Nat → va_E, u9 = lU L f2 ∧ PW K ad P S1 L f2 ∧ S1.2.2.1 = n ∧ Kp ad P L f0 f2)) (hX D K b0 (fun E u9 => (ec ≠ 0 ∧ E = exn ec) ∧ ∃ f2 : Nat → va_E, u9 = lU L f2 ∧ PW K ad P S1 L f2 ∧ S1.2.2.1 = n ∧ Kp ad P L f0 f2)) [.ref (ad 0 0), .int p1].toArray s 1 6 (fun q => b0 ≤ q)) 1 6 13 [(0, .ref (ad 0 0)), (1, .int q.1), (2, .int q.2)] [] S)) (fun k13 hk13 q S h => ?_) fu (a1, a2) S h
    obtain ⟨a1, a2⟩ := q
    have hk13 : ∀ (a1 : Int32) (a2 : Int32) (S : fS), k13 (a1, a2) S = some ((ec, v), S1) → Gw D K b0 sa ad P n L f0 p l e { frames := 7, cells := 1, slots := 6, locals := 144 } s m [.ref (ad 0 0), .int p1].toArray below meth c 4 (vx_MQ below (hQ D K b0 (fun v9 u9 => ec = 0 ∧ v9 = some (.int v) ∧ ∃ f2 : Nat → va_E, u9 = lU L f2 ∧ PW K ad P S1 L f2 ∧ S1.2.2.1 = n ∧ Kp ad P L f0 f2)) (hX D K b0 (fun E u9 => (ec ≠ 0 ∧ E = exn ec) ∧ ∃ f2 : Nat → va_E, u9 = lU L f2 ∧ PW K ad P S1 L f2 ∧ S1.2.2.1 = n ∧ Kp ad P L f0 f2)) [.ref (ad 0 0), .int p1].toArray s 1 6 (fun q => b0 ≤ q)) 1 6 13 [(0, .ref (ad 0 0)), (1, .int a1), (2, .int a2)] [] S := fun a1 a2 S h => hk13 (a1, a2) S h
    dsimp only [B_X6_fair_13] at h
    intro f H locs w hw hn hk ls hl
    refine lv_iload_n hx hb dX6_fair_13 rfl (lv_at hl 2 rfl) ?_
    refine lv_if_lt (tgt := 55) hx hb dX6_fair_14 (by decide) (fun c10 => ?_) (fun c10 => ?_)
    · have h := bb_t h c10
      refine lv_iconst (v := (-1)) hx hb dX6_fair_55 (by decide) ?_
      refine vx_ret ?_
      exact t_iret C hr hlk w ⟨sx_e h, sx_v h, _, rfl, sx_w h hw, sx_n h hn, hk⟩ (by decide) (by decide) dX6_fair_56
    · have h := bb_f h c10
      refine lv_bipush (v := 10) hx hb dX6_fair_17 (by decide) ?_
      refine lv_istore_n (lv' := [(3, .int 10), (0, .ref (ad 0 0)), (1, .int a1), (2, .int a2)]) hx hb dX6_fair_19 rfl hl (by decide) rfl (fun ls hl => ?_)
      exact J20 k13 hk13 fuel a1 a2 10 S h f H locs w hw hn hk ls (lv_sub hl [1, 2, 3, 0] rfl)
  dsimp only [F_X6_fair] at h
  obtain ⟨f, ef⟩ : ∃ z, z = f0 := ⟨_, rfl⟩
  rw [← ef] at w hw
  have hk : Kp ad P L f0 f := by rw [ef]; exact Kp.rf
  obtain ⟨H, eH⟩ : ∃ z, z = s.heap := ⟨_, rfl⟩
  obtain ⟨locs, el⟩ : ∃ z : List Loc, z = [] := ⟨_, rfl⟩
  rw [← eH, ← el] at w ⊢
  refine lv_iload_n hx hb dX6_fair_0 rfl (lv_at hl 1 rfl) ?_
  refine lv_iconst (v := 0) hx hb dX6_fair_1 (by decide) ?_
  refine lv_bipush (v := 64) hx hb dX6_fair_2 (by decide) ?_
  obtain ⟨v11, S12, h13, h⟩ := bd_some h
  refine t_callS (n := 3) C w (c_X6_within l D K b0 sa _ L _ ad P hP S0 hw hn p1 0 64 v11 S12 h13) gw_376 gw_374 gw_375 gw_1 ⟨by decide, by decide, by decide +kernel⟩ rfl rfl ⟨by decide, by decide⟩ rfl hl.1 rfl (Nat.le_of_ble_eq_true rfl) dX6_fair_4 ⟨Nat.le_of_ble_eq_true rfl, Nat.le_of_ble_eq_true rfl⟩ (fun v9 u H locs hp w => ?_)
  obtain ⟨f2, rfl, rfl, hw, hn, hk1⟩ := hp
  have hk := hk.tr hk1
  generalize f2 = f at w hw hk
  rcases bx_some h with ⟨v14, S15, h16, h⟩ | ⟨e17, v14, S15, h16, h⟩
  rotate_left
  · refine t_xcallS (n := 1) C w (c_X6_need l hls D K b0 sa _ L _ ad P hP S12 hw hn v11 (e17 + 1) v14 S15 h16) gw_625 gw_623 gw_624 gw_1 ⟨by decide, by decide, by decide +kernel⟩ rfl rfl ⟨by decide, by decide⟩ rfl hl.1 rfl (Nat.le_of_ble_eq_true rfl) dX6_fair_7 ⟨Nat.le_of_ble_eq_true rfl, Nat.le_of_ble_eq_true rfl⟩ (fun E ce q9 u H locs hp w hcell hv0 hcl => ?_) (fun v9 u H locs hp w => absurd hp.1 (Nat.succ_ne_zero _))
    obtain ⟨⟨he, hE⟩, f2, rfl, hw, hn, hk1⟩ := hp
    exact t_xout w htb hlk hcell hv0 hcl ⟨sz_e h he hE, _, rfl, sz_w h hw, sz_n h hn, hk.tr hk1⟩ (by decide) (by decide)
  refine t_xcallS (n := 1) C w (c_X6_need l hls D K b0 sa _ L _ ad P hP S12 hw hn v11 0 v14 S15 h16) gw_625 gw_623 gw_624 gw_1 ⟨by decide, by decide, by decide +kernel⟩ rfl rfl ⟨by decide, by decide⟩ rfl hl.1 rfl (Nat.le_of_ble_eq_true rfl) dX6_fair_7 ⟨Nat.le_of_ble_eq_true rfl, Nat.le_of_ble_eq_true rfl⟩ (fun E ce q9 u H locs hp w hcell hv0 hcl => absurd rfl hp.1.1) (fun v9 u H locs hp w => ?_)
  obtain ⟨-, rfl, f2, rfl, hw, hn, hk1⟩ := hp
  have hk := hk.tr hk1
  generalize f2 = f at w hw hk
  refine lv_bipush (v := 8) hx hb dX6_fair_10 (by decide) ?_
  refine lv_istore_n (lv' := [(2, .int 8), (0, .ref (ad 0 0)), (1, .int p1)]) hx hb dX6_fair_12 rfl hl (by decide) rfl (fun ls hl => ?_)
  exact J13  fuel p1 8 S15 h f H locs w hw hn hk ls (lv_sub hl [1, 2, 0] rfl)
