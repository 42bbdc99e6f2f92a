theorem dX6_force_0 : decode cX6_force 0 = .ok (.iload_n 1, 1) := by decide +kernel
theorem dX6_force_1 : decode cX6_force 1 = .ok (.iconst (-1), 1) := by decide +kernel
theorem dX6_force_2 : decode cX6_force 2 = .ok (.aload_n 0, 1) := by decide +kernel
theorem dX6_force_3 : decode cX6_force 3 = .ok (.getfield 33, 3) := by decide +kernel
theorem dX6_force_6 : decode cX6_force 6 = .ok (.iconst 1, 1) := by decide +kernel
theorem dX6_force_7 : decode cX6_force 7 = .ok (.isub, 1) := by decide +kernel
theorem dX6_force_8 : decode cX6_force 8 = .ok (.invokestatic 92, 3) := by decide +kernel
theorem dX6_force_11 : decode cX6_force 11 = .ok (.invokestatic 96, 3) := by decide +kernel
theorem dX6_force_14 : decode cX6_force 14 = .ok (.aload_n 0, 1) := by decide +kernel
theorem dX6_force_15 : decode cX6_force 15 = .ok (.getfield 10, 3) := by decide +kernel
theorem dX6_force_18 : decode cX6_force 18 = .ok (.getfield 175, 3) := by decide +kernel
theorem dX6_force_21 : decode cX6_force 21 = .ok (.istore_n 2, 1) := by decide +kernel
theorem dX6_force_22 : decode cX6_force 22 = .ok (.aload_n 0, 1) := by decide +kernel
theorem dX6_force_23 : decode cX6_force 23 = .ok (.getfield 10, 3) := by decide +kernel
theorem dX6_force_26 : decode cX6_force 26 = .ok (.iload_n 1, 1) := by decide +kernel
theorem dX6_force_27 : decode cX6_force 27 = .ok (.putfield 175, 3) := by decide +kernel
theorem dX6_force_30 : decode cX6_force 30 = .ok (.iload_n 2, 1) := by decide +kernel
theorem dX6_force_31 : decode cX6_force 31 = .ok (.ireturn, 1) := by decide +kernel
noncomputable def F_X6_force (p1 : Int32) (S0 : fS) : Option ((Nat × Int32) × fS) := iv (ge S0 0 0 5) (fun x1 => iv (x1 - (1 : Int32)) (fun x2 => bd (F_X6_within p1 (-1) x2 S0) (fun v3 S4 => bx (F_X6_need v3 S4) (fun v6 S7 => iv (ge S7 1 0 6) (fun x10 => sv (pu S7 1 0 6 p1) (fun S11 => some ((0, x10), S11)))))))
set_option maxHeartbeats 4000000 in
set_option maxRecDepth 100000 in
theorem c_X6_force (l : Launch) (hls : l.stackTraces = false) (D : va_G) (K : Nat → ClassId) (b0 : Nat) (sa : sT) (sz : Nat) (L : List Nat) (f0 : Nat → va_E) (ad : Nat → Nat → Nat) (P : Nat → Nat → Prop) {n : Nat × Nat} (hP : ∀ a i : Nat, isn n a i → P a i) (S0 : fS) (hw : PW K ad P S0 L f0) (hn : S0.2.2.1 = n) (p1 : Int32) (ec : Nat) (v : Int32) (S1 : fS) (h : F_X6_force p1 S0 = some ((ec, v), S1)) : vx_Met l yX6_force (.code yX6_force cX6_force 3 (some .int) :: gt) { frames := 7, cells := 1, slots := 6, locals := 102 } (va_Pc [.ref (ad 0 0), .int p1] (hPre D K b0 sa sz L f0)) (hQ D K b0 (fun v9 u9 => ec = 0 ∧ v9 = some (.int v) ∧ ∃ f2 : Nat → va_E, u9 = lU L f2 ∧ PW K ad P S1 L f2 ∧ S1.2.2.1 = n ∧ Kp ad P L f0 f2)) (hX D K b0 (fun E u9 => (ec ≠ 0 ∧ E = exn ec) ∧ ∃ f2 : Nat → va_E, u9 = lU L f2 ∧ PW K ad P S1 L f2 ∧ S1.2.2.1 = n ∧ Kp ad P L f0 f2)) 1 6 (fun q => b0 ≤ q) := by
  refine t_xof (own := RX6) (by decide) rfl ?_ (Nat.le_of_ble_eq_true rfl)
  intro p e s m below meth c ls C w hsz hr hlk htb hl
  have hx := C.1
  have hb := C.2.1
  have hl : lv_has ls 3 [(0, .ref (ad 0 0)), (1, .int p1)] := hl
  dsimp only [F_X6_force] at h
  obtain ⟨f, ef⟩ : ∃ z, z = f0 := ⟨_, rfl⟩
  rw [← ef] at w hw
  have hk : Kp ad P L f0 f := by rw [ef]; exact Kp.rf
  obtain ⟨H, eH⟩ : ∃ z, z = s.heap := ⟨_, rfl⟩
  obtain ⟨locs, el⟩ : ∃ z : List Loc, z = [] := ⟨_, rfl⟩
  rw [← eH, ← el] at w ⊢
  refine lv_iload_n hx hb dX6_force_0 rfl (lv_at hl 1 rfl) ?_
  refine lv_iconst (v := (-1)) hx hb dX6_force_1 (by decide) ?_
  refine lv_aload_n hx hb dX6_force_2 rfl (lv_at hl 0 rfl) ?_
  refine u_geti C w hw (hP _ _ (isn_f rfl rfl (by decide))) rfl (N := 18) rfl rfl cin_6 5 (by decide) rfl gw_292 dX6_force_3 ?_
  refine u_iv h (fun x1 h => ?_)
  refine lv_iconst (v := 1) hx hb dX6_force_6 (by decide) ?_
  refine lv_isub hx hb dX6_force_7 ?_
  refine u_iv h (fun x2 h => ?_)
  obtain ⟨v3, S4, h5, h⟩ := bd_some h
  refine t_callS (n := 3) C w (c_X6_within l D K b0 sa _ L _ ad P hP S0 hw hn p1 (-1) x2 v3 S4 h5) gw_376 gw_374 gw_375 gw_1 ⟨by decide, by decide, by decide +kernel⟩ rfl rfl ⟨by decide, by decide⟩ rfl hl.1 rfl (Nat.le_of_ble_eq_true rfl) dX6_force_8 ⟨Nat.le_of_ble_eq_true rfl, Nat.le_of_ble_eq_true rfl⟩ (fun v9 u H locs hp w => ?_)
  obtain ⟨f2, rfl, rfl, hw, hn, hk1⟩ := hp
  have hk := hk.tr hk1
  generalize f2 = f at w hw hk
  rcases bx_some h with ⟨v6, S7, h8, h⟩ | ⟨e9, v6, S7, h8, h⟩
  rotate_left
  · refine t_xcallS (n := 1) C w (c_X6_need l hls D K b0 sa _ L _ ad P hP S4 hw hn v3 (e9 + 1) v6 S7 h8) gw_625 gw_623 gw_624 gw_1 ⟨by decide, by decide, by decide +kernel⟩ rfl rfl ⟨by decide, by decide⟩ rfl hl.1 rfl (Nat.le_of_ble_eq_true rfl) dX6_force_11 ⟨Nat.le_of_ble_eq_true rfl, Nat.le_of_ble_eq_true rfl⟩ (fun E ce q9 u H locs hp w hcell hv0 hcl => ?_) (fun v9 u H locs hp w => absurd hp.1 (Nat.succ_ne_zero _))
    obtain ⟨⟨he, hE⟩, f2, rfl, hw, hn, hk1⟩ := hp
    exact t_xout w htb hlk hcell hv0 hcl ⟨sz_e h he hE, _, rfl, sz_w h hw, sz_n h hn, hk.tr hk1⟩ (by decide) (by decide)
  refine t_xcallS (n := 1) C w (c_X6_need l hls D K b0 sa _ L _ ad P hP S4 hw hn v3 0 v6 S7 h8) gw_625 gw_623 gw_624 gw_1 ⟨by decide, by decide, by decide +kernel⟩ rfl rfl ⟨by decide, by decide⟩ rfl hl.1 rfl (Nat.le_of_ble_eq_true rfl) dX6_force_11 ⟨Nat.le_of_ble_eq_true rfl, Nat.le_of_ble_eq_true rfl⟩ (fun E ce q9 u H locs hp w hcell hv0 hcl => absurd rfl hp.1.1) (fun v9 u H locs hp w => ?_)
  obtain ⟨-, rfl, f2, rfl, hw, hn, hk1⟩ := hp
  have hk := hk.tr hk1
  generalize f2 = f at w hw hk
  refine lv_aload_n hx hb dX6_force_14 rfl (lv_at hl 0 rfl) ?_
  refine u_getr C w hw (hP _ _ (isn_f rfl rfl (by decide))) rfl (N := 18) rfl rfl cin_6 0 (by decide) (by decide) (a2 := 1) (i2 := 0) rfl gw_287 dX6_force_15 ?_
  refine u_geti C w hw (hP _ _ (isn_f rfl rfl (by decide))) rfl (N := 13) rfl rfl cin_0 6 (by decide) rfl gw_106 dX6_force_18 ?_
  refine u_iv h (fun x10 h => ?_)
  refine lv_istore_n (lv' := [(2, .int x10), (0, .ref (ad 0 0)), (1, .int p1)]) hx hb dX6_force_21 rfl hl (by decide) rfl (fun ls hl => ?_)
  refine lv_aload_n hx hb dX6_force_22 rfl (lv_at hl 1 rfl) ?_
  refine u_getr C w hw (hP _ _ (isn_f rfl rfl (by decide))) rfl (N := 18) rfl rfl cin_6 0 (by decide) (by decide) (a2 := 1) (i2 := 0) rfl gw_287 dX6_force_23 ?_
  refine lv_iload_n hx hb dX6_force_26 rfl (lv_at hl 2 rfl) ?_
  refine u_puti C w hw (hP _ _ (isn_f rfl rfl (by decide))) rfl (N := 13) rfl rfl cin_0 tyX0 tyX0_ok nmX0 6 (by decide) rfl rfl rfl rfl gw_106 dX6_force_27 (fun f H locs w hw hk1 => ?_)
  have hk := hk.tr hk1
  refine u_sv h hw hn (fun S11 h hw hn => ?_)
  refine lv_iload_n hx hb dX6_force_30 rfl (lv_at hl 0 rfl) ?_
  refine vx_ret ?_
  exact t_iret C hr hlk w ⟨sx_e h, sx_v h, _, rfl, sx_w h hw, sx_n h hn, hk⟩ (by decide) (by decide) dX6_force_31
theorem dX6_hand_0 : decode cX6_hand 0 = .ok (.iload_n 1, 1) := by decide +kernel
theorem dX6_hand_1 : decode cX6_hand 1 = .ok (.iconst 1, 1) := by decide +kernel
theorem dX6_hand_2 : decode cX6_hand 2 = .ok (.ldc 212, 2) := by decide +kernel
theorem dX6_hand_4 : decode cX6_hand 4 = .ok (.invokestatic 92, 3) := by decide +kernel
theorem dX6_hand_7 : decode cX6_hand 7 = .ok (.invokestatic 96, 3) := by decide +kernel
theorem dX6_hand_10 : decode cX6_hand 10 = .ok (.aload_n 0, 1) := by decide +kernel
theorem dX6_hand_11 : decode cX6_hand 11 = .ok (.getfield 46, 3) := by decide +kernel
theorem dX6_hand_14 : decode cX6_hand 14 = .ok (.bipush 6, 2) := by decide +kernel
theorem dX6_hand_16 : decode cX6_hand 16 = .ok (.if_icmp .lt 5, 3) := by decide +kernel
theorem dX6_hand_19 : decode cX6_hand 19 = .ok (.iconst (-1), 1) := by decide +kernel
theorem dX6_hand_20 : decode cX6_hand 20 = .ok (.ireturn, 1) := by decide +kernel
theorem dX6_hand_21 : decode cX6_hand 21 = .ok (.aload_n 0, 1) := by decide +kernel
theorem dX6_hand_22 : decode cX6_hand 22 = .ok (.getfield 42, 3) := by decide +kernel
theorem dX6_hand_25 : decode cX6_hand 25 = .ok (.aload_n 0, 1) := by decide +kernel
theorem dX6_hand_26 : decode cX6_hand 26 = .ok (.getfield 46, 3) := by decide +kernel
theorem dX6_hand_29 : decode cX6_hand 29 = .ok (.iload_n 1, 1) := by decide +kernel
theorem dX6_hand_30 : decode cX6_hand 30 = .ok (.iastore, 1) := by decide +kernel
theorem dX6_hand_31 : decode cX6_hand 31 = .ok (.aload_n 0, 1) := by decide +kernel
theorem dX6_hand_32 : decode cX6_hand 32 = .ok (.dup, 1) := by decide +kernel
theorem dX6_hand_33 : decode cX6_hand 33 = .ok (.getfield 46, 3) := by decide +kernel
theorem dX6_hand_36 : decode cX6_hand 36 = .ok (.iconst 1, 1) := by decide +kernel
theorem dX6_hand_37 : decode cX6_hand 37 = .ok (.iadd, 1) := by decide +kernel
theorem dX6_hand_38 : decode cX6_hand 38 = .ok (.putfield 46, 3) := by decide +kernel
theorem dX6_hand_41 : decode cX6_hand 41 = .ok (.aload_n 0, 1) := by decide +kernel
theorem dX6_hand_42 : decode cX6_hand 42 = .ok (.getfield 46, 3) := by decide +kernel
theorem dX6_hand_45 : decode cX6_hand 45 = .ok (.iconst 1, 1) := by decide +kernel
theorem dX6_hand_46 : decode cX6_hand 46 = .ok (.isub, 1) := by decide +kernel
theorem dX6_hand_47 : decode cX6_hand 47 = .ok (.ireturn, 1) := by decide +kernel
noncomputable def F_X6_hand (p1 : Int32) (S0 : fS) : Option ((Nat × Int32) × fS) := bd (F_X6_within p1 1 134217727 S0) (fun v1 S2 => bx (F_X6_need v1 S2) (fun v4 S5 => iv (ge S5 0 0 9) (fun x8 => bb (x8 < (6 : Int32)) (iv (ge S5 0 0 9) (fun x10 => gd (ib x10 6) (sv (pu S5 15 0 (x10 : Int32).toNatClampNeg p1) (fun S12 => iv (ge S12 0 0 9) (fun x13 => iv (x13 + (1 : Int32)) (fun x14 => sv (pu S12 0 0 9 x14) (fun S15 => iv (ge S15 0 0 9) (fun x16 => iv (x16 - (1 : Int32)) (fun x17 => some ((0, x17), S15)))))))))) (some ((0, (-1)), S5)))))
set_option maxHeartbeats 4000000 in
set_option maxRecDepth 100000 in
theorem c_X6_hand (l : Launch) (hls : l.stackTraces = false) (D : va_G) (K : Nat → ClassId) (b0 : Nat) (sa : sT) (sz : Nat) (L : List Nat) (f0 : Nat → va_E) (ad : Nat → Nat → Nat) (P : Nat → Nat → Prop) {n : Nat × Nat} (hP : ∀ a i : Nat, isn n a i → P a i) (S0 : fS) (hw : PW K ad P S0 L f0) (hn : S0.2.2.1 = n) (p1 : Int32) (ec : Nat) (v : Int32) (S1 : fS) (h : F_X6_hand p1 S0 = some ((ec, v), S1)) : vx_Met l yX6_hand (.code yX6_hand cX6_hand 2 (some .int) :: gt) { frames := 7, cells := 1, slots := 6, locals := 102 } (va_Pc [.ref (ad 0 0), .int p1] (hPre D K b0 sa sz L f0)) (hQ D K b0 (fun v9 u9 => ec = 0 ∧ v9 = some (.int v) ∧ ∃ f2 : Nat → va_E, u9 = lU L f2 ∧ PW K ad P S1 L f2 ∧ S1.2.2.1 = n ∧ Kp ad P L f0 f2)) (hX D K b0 (fun E u9 => (ec ≠ 0 ∧ E = exn ec) ∧ ∃ f2 : Nat → va_E, u9 = lU L f2 ∧ PW K ad P S1 L f2 ∧ S1.2.2.1 = n ∧ Kp ad P L f0 f2)) 1 6 (fun q => b0 ≤ q) := by
  refine t_xof (own := RX6) (by decide) rfl ?_ (Nat.le_of_ble_eq_true rfl)
  intro p e s m below meth c ls C w hsz hr hlk htb hl
  have hx := C.1
  have hb := C.2.1
  have hl : lv_has ls 2 [(0, .ref (ad 0 0)), (1, .int p1)] := hl
  dsimp only [F_X6_hand] at h
  obtain ⟨f, ef⟩ : ∃ z, z = f0 := ⟨_, rfl⟩
  rw [← ef] at w hw
  have hk : Kp ad P L f0 f := by rw [ef]; exact Kp.rf
  obtain ⟨H, eH⟩ : ∃ z, z = s.heap := ⟨_, rfl⟩
  obtain ⟨locs, el⟩ : ∃ z : List Loc, z = [] := ⟨_, rfl⟩
  rw [← eH, ← el] at w ⊢
  refine lv_iload_n hx hb dX6_hand_0 rfl (lv_at hl 1 rfl) ?_
  refine lv_iconst (v := 1) hx hb dX6_hand_1 (by decide) ?_
  refine lv_ldc hx hb C.2.2.2.1 (C.2.2.2.2 _ gw_998) dX6_hand_2 ?_
  obtain ⟨v1, S2, h3, h⟩ := bd_some h
  refine t_callS (n := 3) C w (c_X6_within l D K b0 sa _ L _ ad P hP S0 hw hn p1 1 134217727 v1 S2 h3) gw_376 gw_374 gw_375 gw_1 ⟨by decide, by decide, by decide +kernel⟩ rfl rfl ⟨by decide, by decide⟩ rfl hl.1 rfl (Nat.le_of_ble_eq_true rfl) dX6_hand_4 ⟨Nat.le_of_ble_eq_true rfl, Nat.le_of_ble_eq_true rfl⟩ (fun v9 u H locs hp w => ?_)
  obtain ⟨f2, rfl, rfl, hw, hn, hk1⟩ := hp
  have hk := hk.tr hk1
  generalize f2 = f at w hw hk
  rcases bx_some h with ⟨v4, S5, h6, h⟩ | ⟨e7, v4, S5, h6, h⟩
  rotate_left
  · refine t_xcallS (n := 1) C w (c_X6_need l hls D K b0 sa _ L _ ad P hP S2 hw hn v1 (e7 + 1) v4 S5 h6) gw_625 gw_623 gw_624 gw_1 ⟨by decide, by decide, by decide +kernel⟩ rfl rfl ⟨by decide, by decide⟩ rfl hl.1 rfl (Nat.le_of_ble_eq_true rfl) dX6_hand_7 ⟨Nat.le_of_ble_eq_true rfl, Nat.le_of_ble_eq_true rfl⟩ (fun E ce q9 u H locs hp w hcell hv0 hcl => ?_) (fun v9 u H locs hp w => absurd hp.1 (Nat.succ_ne_zero _))
    obtain ⟨⟨he, hE⟩, f2, rfl, hw, hn, hk1⟩ := hp
    exact t_xout w htb hlk hcell hv0 hcl ⟨sz_e h he hE, _, rfl, sz_w h hw, sz_n h hn, hk.tr hk1⟩ (by decide) (by decide)
  refine t_xcallS (n := 1) C w (c_X6_need l hls D K b0 sa _ L _ ad P hP S2 hw hn v1 0 v4 S5 h6) gw_625 gw_623 gw_624 gw_1 ⟨by decide, by decide, by decide +kernel⟩ rfl rfl ⟨by decide, by decide⟩ rfl hl.1 rfl (Nat.le_of_ble_eq_true rfl) dX6_hand_7 ⟨Nat.le_of_ble_eq_true rfl, Nat.le_of_ble_eq_true rfl⟩ (fun E ce q9 u H locs hp w hcell hv0 hcl => absurd rfl hp.1.1) (fun v9 u H locs hp w => ?_)
  obtain ⟨-, rfl, f2, rfl, hw, hn, hk1⟩ := hp
  have hk := hk.tr hk1
  generalize f2 = f at w hw hk
  refine lv_aload_n hx hb dX6_hand_10 rfl (lv_at hl 0 rfl) ?_
  refine u_geti C w hw (hP _ _ (isn_f rfl rfl (by decide))) rfl (N := 18) rfl rfl cin_6 9 (by decide) rfl gw_296 dX6_hand_11 ?_
  refine u_iv h (fun x8 h => ?_)
  refine lv_bipush (v := 6) hx hb dX6_hand_14 (by decide) ?_
  refine lv_icmp_lt (tgt := 21) hx hb dX6_hand_16 (by decide) (fun c9 => ?_) (fun c9 => ?_)
  · have h := bb_t h c9
    refine lv_aload_n hx hb dX6_hand_21 rfl (lv_at hl 0 rfl) ?_
    refine u_getr C w hw (hP _ _ (isn_f rfl rfl (by decide))) rfl (N := 18) rfl rfl cin_6 8 (by decide) (by decide) (a2 := 15) (i2 := 0) rfl gw_295 dX6_hand_22 ?_
    refine lv_aload_n hx hb dX6_hand_25 rfl (lv_at hl 0 rfl) ?_
    refine u_geti C w hw (hP _ _ (isn_f rfl rfl (by decide))) rfl (N := 18) rfl rfl cin_6 9 (by decide) rfl gw_296 dX6_hand_26 ?_
    refine u_iv h (fun x10 h => ?_)
    refine lv_iload_n hx hb dX6_hand_29 rfl (lv_at hl 1 rfl) ?_
    obtain ⟨g11, h⟩ := gd_some h
    refine u_iast C w hw (hP _ _ (isn_f rfl rfl (by decide))) rfl rfl (n := 6) rfl (vp_in_iff.mpr g11) dX6_hand_30 (fun f H locs w hw hk1 => ?_)
    have hk := hk.tr hk1
    refine u_sv h hw hn (fun S12 h hw hn => ?_)
    refine lv_aload_n hx hb dX6_hand_31 rfl (lv_at hl 0 rfl) ?_
    refine lv_dup hx hb dX6_hand_32 rfl ?_
    refine u_geti C w hw (hP _ _ (isn_f rfl rfl (by decide))) rfl (N := 18) rfl rfl cin_6 9 (by decide) rfl gw_296 dX6_hand_33 ?_
    refine u_iv h (fun x13 h => ?_)
    refine lv_iconst (v := 1) hx hb dX6_hand_36 (by decide) ?_
    refine lv_iadd hx hb dX6_hand_37 ?_
    refine u_iv h (fun x14 h => ?_)
    refine u_puti C w hw (hP _ _ (isn_f rfl rfl (by decide))) rfl (N := 18) rfl rfl cin_6 tyX6 tyX6_ok nmX6 9 (by decide) rfl rfl rfl rfl gw_296 dX6_hand_38 (fun f H locs w hw hk1 => ?_)
    have hk := hk.tr hk1
    refine u_sv h hw hn (fun S15 h hw hn => ?_)
    refine lv_aload_n hx hb dX6_hand_41 rfl (lv_at hl 0 rfl) ?_
    refine u_geti C w hw (hP _ _ (isn_f rfl rfl (by decide))) rfl (N := 18) rfl rfl cin_6 9 (by decide) rfl gw_296 dX6_hand_42 ?_
    refine u_iv h (fun x16 h => ?_)
    refine lv_iconst (v := 1) hx hb dX6_hand_45 (by decide) ?_
    refine lv_isub hx hb dX6_hand_46 ?_
    refine u_iv h (fun x17 h => ?_)
    refine vx_ret ?_
    exact t_iret C hr hlk w ⟨sx_e h, sx_v h, _, rfl, sx_w h hw, sx_n h hn, hk⟩ (by decide) (by decide) dX6_hand_47
  · have h := bb_f h c9
    refine lv_iconst (v := (-1)) hx hb dX6_hand_19 (by decide) ?_
    refine vx_ret ?_
    exact t_iret C hr hlk w ⟨sx_e h, sx_v h, _, rfl, sx_w h hw, sx_n h hn, hk⟩ (by decide) (by decide) dX6_hand_20
theorem dX6_weights_0 : decode cX6_weights 0 = .ok (.iload_n 1, 1) := by decide +kernel
theorem dX6_weights_1 : decode cX6_weights 1 = .ok (.aload_n 0, 1) := by decide +kernel
theorem dX6_weights_2 : decode cX6_weights 2 = .ok (.getfield 46, 3) := by decide +kernel
theorem dX6_weights_5 : decode cX6_weights 5 = .ok (.invokestatic 113, 3) := by decide +kernel
theorem dX6_weights_8 : decode cX6_weights 8 = .ok (.aload_n 0, 1) := by decide +kernel
theorem dX6_weights_9 : decode cX6_weights 9 = .ok (.getfield 42, 3) := by decide +kernel
theorem dX6_weights_12 : decode cX6_weights 12 = .ok (.iload_n 1, 1) := by decide +kernel
theorem dX6_weights_13 : decode cX6_weights 13 = .ok (.iaload, 1) := by decide +kernel
theorem dX6_weights_14 : decode cX6_weights 14 = .ok (.invokestatic 213, 3) := by decide +kernel
theorem dX6_weights_17 : decode cX6_weights 17 = .ok (.ireturn, 1) := by decide +kernel
noncomputable def F_X6_weights (p1 : Int32) (S0 : fS) : Option ((Nat × Int32) × fS) := iv (ge S0 0 0 9) (fun x1 => bx (F_X6_needElement p1 x1 S0) (fun v2 S3 => gd (ib p1 6) (iv (ge S3 15 0 (p1 : Int32).toNatClampNeg) (fun x7 => bd (F_X6_allWeights x7 S3) (fun v8 S9 => some ((0, v8), S9))))))
set_option maxHeartbeats 4000000 in
set_option maxRecDepth 100000 in
theorem c_X6_weights (l : Launch) (hls : l.stackTraces = false) (D : va_G) (K : Nat → ClassId) (b0 : Nat) (sa : sT) (sz : Nat) (L : List Nat) (f0 : Nat → va_E) (ad : Nat → Nat → Nat) (P : Nat → Nat → Prop) {n : Nat × Nat} (hP : ∀ a i : Nat, isn n a i → P a i) (S0 : fS) (hw : PW K ad P S0 L f0) (hn : S0.2.2.1 = n) (p1 : Int32) (ec : Nat) (v : Int32) (S1 : fS) (h : F_X6_weights p1 S0 = some ((ec, v), S1)) : vx_Met l yX6_weights (.code yX6_weights cX6_weights 2 (some .int) :: gt) { frames := 7, cells := 1, slots := 6, locals := 103 } (va_Pc [.ref (ad 0 0), .int p1] (hPre D K b0 sa sz L f0)) (hQ D K b0 (fun v9 u9 => ec = 0 ∧ v9 = some (.int v) ∧ ∃ f2 : Nat → va_E, u9 = lU L f2 ∧ PW K ad P S1 L f2 ∧ S1.2.2.1 = n ∧ Kp ad P L f0 f2)) (hX D K b0 (fun E u9 => (ec ≠ 0 ∧ E = exn ec) ∧ ∃ f2 : Nat → va_E, u9 = lU L f2 ∧ PW K ad P S1 L f2 ∧ S1.2.2.1 = n ∧ Kp ad P L f0 f2)) 1 6 (fun q => b0 ≤ q) := by
  refine t_xof (own := RX6) (by decide) rfl ?_ (Nat.le_of_ble_eq_true rfl)
  intro p e s m below meth c ls C w hsz hr hlk htb hl
  have hx := C.1
  have hb := C.2.1
  have hl : lv_has ls 2 [(0, .ref (ad 0 0)), (1, .int p1)] := hl
  dsimp only [F_X6_weights] at h
  obtain ⟨f, ef⟩ : ∃ z, z = f0 := ⟨_, rfl⟩
  rw [← ef] at w hw
  have hk : Kp ad P L f0 f := by rw [ef]; exact Kp.rf
  obtain ⟨H, eH⟩ : ∃ z, z = s.heap := ⟨_, rfl⟩
  obtain ⟨locs, el⟩ : ∃ z : List Loc, z = [] := ⟨_, rfl⟩
  rw [← eH, ← el] at w ⊢
  refine lv_iload_n hx hb dX6_weights_0 rfl (lv_at hl 1 rfl) ?_
  refine lv_aload_n hx hb dX6_weights_1 rfl (lv_at hl 0 rfl) ?_
  refine u_geti C w hw (hP _ _ (isn_f rfl rfl (by decide))) rfl (N := 18) rfl rfl cin_6 9 (by decide) rfl gw_296 dX6_weights_2 ?_
  refine u_iv h (fun x1 h => ?_)
  rcases bx_some h with ⟨v2, S3, h4, h⟩ | ⟨e5, v2, S3, h4, h⟩
  rotate_left
  · refine t_xcallS (n := 2) C w (c_X6_needElement l hls D K b0 sa _ L _ ad P hP S0 hw hn p1 x1 (e5 + 1) v2 S3 h4) gw_656 gw_654 gw_655 gw_1 ⟨by decide, by decide, by decide +kernel⟩ rfl rfl ⟨by decide, by decide⟩ rfl hl.1 rfl (Nat.le_of_ble_eq_true rfl) dX6_weights_5 ⟨Nat.le_of_ble_eq_true rfl, Nat.le_of_ble_eq_true rfl⟩ (fun E ce q9 u H locs hp w hcell hv0 hcl => ?_) (fun v9 u H locs hp w => absurd hp.1 (Nat.succ_ne_zero _))
    obtain ⟨⟨he, hE⟩, f2, rfl, hw, hn, hk1⟩ := hp
    exact t_xout w htb hlk hcell hv0 hcl ⟨sz_e h he hE, _, rfl, sz_w h hw, sz_n h hn, hk.tr hk1⟩ (by decide) (by decide)
  refine t_xcallS (n := 2) C w (c_X6_needElement l hls D K b0 sa _ L _ ad P hP S0 hw hn p1 x1 0 v2 S3 h4) gw_656 gw_654 gw_655 gw_1 ⟨by decide, by decide, by decide +kernel⟩ rfl rfl ⟨by decide, by decide⟩ rfl hl.1 rfl (Nat.le_of_ble_eq_true rfl) dX6_weights_5 ⟨Nat.le_of_ble_eq_true rfl, Nat.le_of_ble_eq_true rfl⟩ (fun E ce q9 u H locs hp w hcell hv0 hcl => absurd rfl hp.1.1) (fun v9 u H locs hp w => ?_)
  obtain ⟨-, rfl, f2, rfl, hw, hn, hk1⟩ := hp
  have hk := hk.tr hk1
  generalize f2 = f at w hw hk
  refine lv_aload_n hx hb dX6_weights_8 rfl (lv_at hl 0 rfl) ?_
  refine u_getr C w hw (hP _ _ (isn_f rfl rfl (by decide))) rfl (N := 18) rfl rfl cin_6 8 (by decide) (by decide) (a2 := 15) (i2 := 0) rfl gw_295 dX6_weights_9 ?_
  refine lv_iload_n hx hb dX6_weights_12 rfl (lv_at hl 1 rfl) ?_
  obtain ⟨g6, h⟩ := gd_some h
  refine u_iald C w hw (hP _ _ (isn_f rfl rfl (by decide))) rfl rfl (n := 6) rfl (vp_in_iff.mpr g6) dX6_weights_13 ?_
  refine u_iv h (fun x7 h => ?_)
  obtain ⟨v8, S9, h10, h⟩ := bd_some h
  refine t_callS (n := 1) C w (c_X6_allWeights l D K b0 sa _ L _ ad P hP S3 hw hn x7 v8 S9 h10) gw_1008 gw_1006 gw_1007 gw_1 ⟨by decide, by decide, by decide +kernel⟩ rfl rfl ⟨by decide, by decide⟩ rfl hl.1 rfl (Nat.le_of_ble_eq_true rfl) dX6_weights_14 ⟨Nat.le_of_ble_eq_true rfl, Nat.le_of_ble_eq_true rfl⟩ (fun v9 u H locs hp w => ?_)
  obtain ⟨f2, rfl, rfl, hw, hn, hk1⟩ := hp
  have hk := hk.tr hk1
  generalize f2 = f at w hw hk
  refine vx_ret ?_
  exact t_iret C hr hlk w ⟨sx_e h, sx_v h, _, rfl, sx_w h hw, sx_n h hn, hk⟩ (by decide) (by decide) dX6_weights_17
theorem dX6_settle_0 : decode cX6_settle 0 = .ok (.iload_n 1, 1) := by decide +kernel
theorem dX6_settle_1 : decode cX6_settle 1 = .ok (.aload_n 0, 1) := by decide +kernel
theorem dX6_settle_2 : decode cX6_settle 2 = .ok (.getfield 46, 3) := by decide +kernel
theorem dX6_settle_5 : decode cX6_settle 5 = .ok (.invokestatic 113, 3) := by decide +kernel
theorem dX6_settle_8 : decode cX6_settle 8 = .ok (.iload_n 2, 1) := by decide +kernel
theorem dX6_settle_9 : decode cX6_settle 9 = .ok (.invokestatic 85, 3) := by decide +kernel
theorem dX6_settle_12 : decode cX6_settle 12 = .ok (.iload_n 3, 1) := by decide +kernel
theorem dX6_settle_13 : decode cX6_settle 13 = .ok (.iconst 0, 1) := by decide +kernel
theorem dX6_settle_14 : decode cX6_settle 14 = .ok (.sipush 9999, 3) := by decide +kernel
theorem dX6_settle_17 : decode cX6_settle 17 = .ok (.invokestatic 92, 3) := by decide +kernel
theorem dX6_settle_20 : decode cX6_settle 20 = .ok (.invokestatic 96, 3) := by decide +kernel
theorem dX6_settle_23 : decode cX6_settle 23 = .ok (.aload_n 0, 1) := by decide +kernel
theorem dX6_settle_24 : decode cX6_settle 24 = .ok (.getfield 42, 3) := by decide +kernel
theorem dX6_settle_27 : decode cX6_settle 27 = .ok (.iload_n 1, 1) := by decide +kernel
theorem dX6_settle_28 : decode cX6_settle 28 = .ok (.iaload, 1) := by decide +kernel
theorem dX6_settle_29 : decode cX6_settle 29 = .ok (.iload_n 2, 1) := by decide +kernel
theorem dX6_settle_30 : decode cX6_settle 30 = .ok (.invokestatic 275, 3) := by decide +kernel
theorem dX6_settle_33 : decode cX6_settle 33 = .ok (.istore 4, 2) := by decide +kernel
theorem dX6_settle_35 : decode cX6_settle 35 = .ok (.aload_n 0, 1) := by decide +kernel
theorem dX6_settle_36 : decode cX6_settle 36 = .ok (.getfield 10, 3) := by decide +kernel
theorem dX6_settle_39 : decode cX6_settle 39 = .ok (.getfield 100, 3) := by decide +kernel
theorem dX6_settle_42 : decode cX6_settle 42 = .ok (.getfield 139, 3) := by decide +kernel
theorem dX6_settle_45 : decode cX6_settle 45 = .ok (.iload_n 2, 1) := by decide +kernel
theorem dX6_settle_46 : decode cX6_settle 46 = .ok (.iaload, 1) := by decide +kernel
theorem dX6_settle_47 : decode cX6_settle 47 = .ok (.istore 5, 2) := by decide +kernel
theorem dX6_settle_49 : decode cX6_settle 49 = .ok (.iload 4, 2) := by decide +kernel
theorem dX6_settle_51 : decode cX6_settle 51 = .ok (.ifCond .eq 9, 3) := by decide +kernel
theorem dX6_settle_54 : decode cX6_settle 54 = .ok (.iload 5, 2) := by decide +kernel
theorem dX6_settle_56 : decode cX6_settle 56 = .ok (.iconst (-1), 1) := by decide +kernel
theorem dX6_settle_57 : decode cX6_settle 57 = .ok (.if_icmp .ne 5, 3) := by decide +kernel
theorem dX6_settle_60 : decode cX6_settle 60 = .ok (.iconst (-1), 1) := by decide +kernel
theorem dX6_settle_61 : decode cX6_settle 61 = .ok (.ireturn, 1) := by decide +kernel
theorem dX6_settle_62 : decode cX6_settle 62 = .ok (.aload_n 0, 1) := by decide +kernel
theorem dX6_settle_63 : decode cX6_settle 63 = .ok (.getfield 10, 3) := by decide +kernel
theorem dX6_settle_66 : decode cX6_settle 66 = .ok (.getfield 100, 3) := by decide +kernel
theorem dX6_settle_69 : decode cX6_settle 69 = .ok (.iload 5, 2) := by decide +kernel
theorem dX6_settle_71 : decode cX6_settle 71 = .ok (.invokevirtual 278, 3) := by decide +kernel
theorem dX6_settle_74 : decode cX6_settle 74 = .ok (.iload_n 3, 1) := by decide +kernel
theorem dX6_settle_75 : decode cX6_settle 75 = .ok (.iadd, 1) := by decide +kernel
theorem dX6_settle_76 : decode cX6_settle 76 = .ok (.iload 4, 2) := by decide +kernel
theorem dX6_settle_78 : decode cX6_settle 78 = .ok (.imul, 1) := by decide +kernel
theorem dX6_settle_79 : decode cX6_settle 79 = .ok (.istore 6, 2) := by decide +kernel
theorem dX6_settle_81 : decode cX6_settle 81 = .ok (.iconst 1, 1) := by decide +kernel
theorem dX6_settle_82 : decode cX6_settle 82 = .ok (.istore 7, 2) := by decide +kernel
theorem dX6_settle_84 : decode cX6_settle 84 = .ok (.iload 7, 2) := by decide +kernel
theorem dX6_settle_86 : decode cX6_settle 86 = .ok (.sipush 200, 3) := by decide +kernel
theorem dX6_settle_89 : decode cX6_settle 89 = .ok (.if_icmp .gt 42, 3) := by decide +kernel
theorem dX6_settle_92 : decode cX6_settle 92 = .ok (.aload_n 0, 1) := by decide +kernel
theorem dX6_settle_93 : decode cX6_settle 93 = .ok (.getfield 10, 3) := by decide +kernel
theorem dX6_settle_96 : decode cX6_settle 96 = .ok (.getfield 145, 3) := by decide +kernel
theorem dX6_settle_99 : decode cX6_settle 99 = .ok (.iload 7, 2) := by decide +kernel
theorem dX6_settle_101 : decode cX6_settle 101 = .ok (.iconst 1, 1) := by decide +kernel
theorem dX6_settle_102 : decode cX6_settle 102 = .ok (.isub, 1) := by decide +kernel
theorem dX6_settle_103 : decode cX6_settle 103 = .ok (.iload 4, 2) := by decide +kernel
theorem dX6_settle_105 : decode cX6_settle 105 = .ok (.imul, 1) := by decide +kernel
theorem dX6_settle_106 : decode cX6_settle 106 = .ok (.aload_n 0, 1) := by decide +kernel
theorem dX6_settle_107 : decode cX6_settle 107 = .ok (.getfield 42, 3) := by decide +kernel
theorem dX6_settle_110 : decode cX6_settle 110 = .ok (.iload_n 1, 1) := by decide +kernel
theorem dX6_settle_111 : decode cX6_settle 111 = .ok (.iaload, 1) := by decide +kernel
theorem dX6_settle_112 : decode cX6_settle 112 = .ok (.invokestatic 213, 3) := by decide +kernel
theorem dX6_settle_115 : decode cX6_settle 115 = .ok (.iadd, 1) := by decide +kernel
theorem dX6_settle_116 : decode cX6_settle 116 = .ok (.imul, 1) := by decide +kernel
theorem dX6_settle_117 : decode cX6_settle 117 = .ok (.iload 6, 2) := by decide +kernel
theorem dX6_settle_119 : decode cX6_settle 119 = .ok (.if_icmp .lt 6, 3) := by decide +kernel
theorem dX6_settle_122 : decode cX6_settle 122 = .ok (.iload 7, 2) := by decide +kernel
theorem dX6_settle_124 : decode cX6_settle 124 = .ok (.ireturn, 1) := by decide +kernel
theorem dX6_settle_125 : decode cX6_settle 125 = .ok (.iinc 7 1, 3) := by decide +kernel
theorem dX6_settle_128 : decode cX6_settle 128 = .ok (.goto (-44), 3) := by decide +kernel
theorem dX6_settle_131 : decode cX6_settle 131 = .ok (.iconst (-1), 1) := by decide +kernel
theorem dX6_settle_132 : decode cX6_settle 132 = .ok (.ireturn, 1) := by decide +kernel
noncomputable def B_X6_settle_84 (k84 : (Int32 × Int32 × Int32 × Int32) → fS → Option ((Nat × Int32) × fS)) : (Int32 × Int32 × Int32 × Int32) → fS → Option ((Nat × Int32) × fS) := fun ⟨a1, a4, a6, a7⟩ S => bb ((200 : Int32) < a7) (some ((0, (-1)), S)) (iv (ge S 1 0 3) (fun x2 => iv (a7 - (1 : Int32)) (fun x3 => iv (x3 * a4) (fun x4 => gd (ib a1 6) (iv (ge S 15 0 (a1 : Int32).toNatClampNeg) (fun x6 => bd (F_X6_allWeights x6 S) (fun v7 S8 => iv (x4 + v7) (fun x10 => iv (x2 * x10) (fun x11 => bb (x11 < a6) (iv (a7 + Int32.ofInt 1) (fun x13 => k84 (a1, a4, a6, x13) S8)) (some ((0, a7), S8)))))))))))
noncomputable def F_X6_settle (p1 : Int32) (p2 : Int32) (p3 : Int32) (S0 : fS) : Option ((Nat × Int32) × fS) := iv (ge S0 0 0 9) (fun x14 => bx (F_X6_needElement p1 x14 S0) (fun v15 S16 => bx (F_X6_needCell p2 S16) (fun v19 S20 => bd (F_X6_within p3 0 9999 S20) (fun v23 S24 => bx (F_X6_need v23 S24) (fun v26 S27 => gd (ib p1 6) (iv (ge S27 15 0 (p1 : Int32).toNatClampNeg) (fun x31 => bd (F_X6_weightsReaching x31 p2 S27) (fun v32 S33 => gd (ib p2 64) (iv (ge S33 10 0 (p2 : Int32).toNatClampNeg) (fun x36 => bb (v32 = (0 : Int32)) (some ((0, (-1)), S33)) (bb (x36 = ((-1) : Int32)) (some ((0, (-1)), S33)) (bd (F_X2_valueOf 0 x36 S33) (fun v39 S40 => iv (v39 + p3) (fun x42 => iv (x42 * v32) (fun x43 => lp (B_X6_settle_84 ) fuel (p1, v32, x43, 1) S40)))))))))))))))
set_option maxHeartbeats 4000000 in
set_option maxRecDepth 100000 in
theorem c_X6_settle (l : Launch) (hls : l.stackTraces = false) (D : va_G) (K : Nat → ClassId) (b0 : Nat) (sa : sT) (sz : Nat) (L : List Nat) (f0 : Nat → va_E) (ad : Nat → Nat → Nat) (P : Nat → Nat → Prop) {n : Nat × Nat} (hP : ∀ a i : Nat, isn n a i → P a i) (S0 : fS) (hw : PW K ad P S0 L f0) (hn : S0.2.2.1 = n) (p1 : Int32) (p2 : Int32) (p3 : Int32) (ec : Nat) (v : Int32) (S1 : fS) (h : F_X6_settle p1 p2 p3 S0 = some ((ec, v), S1)) : vx_Met l yX6_settle (.code yX6_settle cX6_settle 8 (some .int) :: gt) { frames := 7, cells := 3, slots := 18, locals := 103 } (va_Pc [.ref (ad 0 0), .int p1, .int p2, .int p3] (hPre D K b0 sa sz L f0)) (hQ D K b0 (fun v9 u9 => ec = 0 ∧ v9 = some (.int v) ∧ ∃ f2 : Nat → va_E, u9 = lU L f2 ∧ PW K ad P S1 L f2 ∧ S1.2.2.1 = n ∧ Kp ad P L f0 f2)) (hX D K b0 (fun E u9 => (ec ≠ 0 ∧ E = exn ec) ∧ ∃ f2 : Nat → va_E, u9 = lU L f2 ∧ PW K ad P S1 L f2 ∧ S1.2.2.1 = n ∧ Kp ad P L f0 f2)) 3 18 (fun q => b0 ≤ q) := by
  refine t_xof (own := RX6) (by decide) rfl ?_ (Nat.le_of_ble_eq_true rfl)
  intro p e s m below meth c ls C w hsz hr hlk htb hl
  have hx := C.1
  have hb := C.2.1
  have hl : lv_has ls 8 [(0, .ref (ad 0 0)), (1, .int p1), (2, .int p2), (3, .int p3)] := hl
  have J84 : ∀ (fu : Nat) (a1 : Int32) (a4 : Int32) (a6 : Int32) (a7 : Int32) (S : fS), lp (B_X6_settle_84 ) fu (a1, a4, a6, a7) S = some ((ec, v), S1) → Gw D K b0 sa ad P n L f0 p l e { frames := 7, cells := 3, slots := 18, locals := 103 } s m [.ref (ad 0 0), .int p1, .int p2, .int p3].toArray below meth c 8 (vx_MQ below (hQ D K b0 (fun v9 u9 => ec = 0 ∧ v9 = some (.int v) ∧ ∃ f2 : Nat → va_E, u9 = lU L f2 ∧ PW K ad P S1 L f2 ∧ S1.2.2.1 = n ∧ Kp ad P L f0 f2)) (hX D K b0 (fun E u9 => (ec ≠ 0 ∧ E = exn ec) ∧ ∃ f2 : Nat → va_E, u9 = lU L f2 ∧ PW K ad P S1 L f2 ∧ S1.2.2.1 = n ∧ Kp ad P L f0 f2)) [.ref (ad 0 0), .int p1, .int p2, .int p3].toArray s 3 18 (fun q => b0 ≤ q)) 3 18 84 [(0, .ref (ad 0 0)), (1, .int a1), (4, .int a4), (6, .int a6), (7, .int a7)] [] S := by
    intro fu a1 a4 a6 a7 S h
    refine lp_some (G := (fun q S => Gw D K b0 sa ad P n L f0 p l e { frames := 7, cells := 3, slots := 18, locals := 103 } s m [.ref (ad 0 0), .int p1, .int p2, .int p3].toArray below meth c 8 (vx_MQ below (hQ D K b0 (fun v9 u9 => ec = 0 ∧ v9 = some (.int v) ∧ ∃ f2 : Nat → va_E, u9 = lU L f2 ∧ PW K ad P S1 L f2 ∧ S1.2.2.1 = n ∧ Kp ad P L f0 f2)) (hX D K b0 (fun E u9 => (ec ≠ 0 ∧ E = exn ec) ∧ ∃ f2 : Nat → va_E, u9 = lU L f2 ∧ PW K ad P S1 L f2 ∧ S1.2.2.1 = n ∧ Kp ad P L f0 f2)) [.ref (ad 0 0), .int p1, .int p2, .int p3].toArray s 3 18 (fun q => b0 ≤ q)) 3 18 84 [(0, .ref (ad 0 0)), (1, .int q.1), (4, .int q.2.1), (6, .int q.2.2.1), (7, .int q.2.2.2)] [] S)) (fun k84 hk84 q S h => ?_) fu (a1, a4, a6, a7) S h
    obtain ⟨a1, a4, a6, a7⟩ := q
    have hk84 : ∀ (a1 : Int32) (a4 : Int32) (a6 : Int32) (a7 : Int32) (S : fS), k84 (a1, a4, a6, a7) S = some ((ec, v), S1) → Gw D K b0 sa ad P n L f0 p l e { frames := 7, cells := 3, slots := 18, locals := 103 } s m [.ref (ad 0 0), .int p1, .int p2, .int p3].toArray below meth c 8 (vx_MQ below (hQ D K b0 (fun v9 u9 => ec = 0 ∧ v9 = some (.int v) ∧ ∃ f2 : Nat → va_E, u9 = lU L f2 ∧ PW K ad P S1 L f2 ∧ S1.2.2.1 = n ∧ Kp ad P L f0 f2)) (hX D K b0 (fun E u9 => (ec ≠ 0 ∧ E = exn ec) ∧ ∃ f2 : Nat → va_E, u9 = lU L f2 ∧ PW K ad P S1 L f2 ∧ S1.2.2.1 = n ∧ Kp ad P L f0 f2)) [.ref (ad 0 0), .int p1, .int p2, .int p3].toArray s 3 18 (fun q => b0 ≤ q)) 3 18 84 [(0, .ref (ad 0 0)), (1, .int a1), (4, .int a4), (6, .int a6), (7, .int a7)] [] S := fun a1 a4 a6 a7 S h => hk84 (a1, a4, a6, a7) S h
    dsimp only [B_X6_settle_84] at h
    intro f H locs w hw hn hk ls hl
    refine lv_iload hx hb dX6_settle_84 (lv_at hl 4 rfl) ?_
    refine lv_sipush (v := 200) hx hb dX6_settle_86 (by decide) ?_
    refine lv_icmp_gt (tgt := 131) hx hb dX6_settle_89 (by decide) (fun c1 => ?_) (fun c1 => ?_)
    · have h := bb_t h c1
      refine lv_iconst (v := (-1)) hx hb dX6_settle_131 (by decide) ?_
      refine vx_ret ?_
      exact t_iret C hr hlk w ⟨sx_e h, sx_v h, _, rfl, sx_w h hw, sx_n h hn, hk⟩ (by decide) (by decide) dX6_settle_132
    · have h := bb_f h c1
      refine lv_aload_n hx hb dX6_settle_92 rfl (lv_at hl 0 rfl) ?_
      refine u_getr C w hw (hP _ _ (isn_f rfl rfl (by decide))) rfl (N := 18) rfl rfl cin_6 0 (by decide) (by decide) (a2 := 1) (i2 := 0) rfl gw_287 dX6_settle_93 ?_
      refine u_geti C w hw (hP _ _ (isn_f rfl rfl (by decide))) rfl (N := 13) rfl rfl cin_0 3 (by decide) rfl gw_99 dX6_settle_96 ?_
      refine u_iv h (fun x2 h => ?_)
      refine lv_iload hx hb dX6_settle_99 (lv_at hl 4 rfl) ?_
      refine lv_iconst (v := 1) hx hb dX6_settle_101 (by decide) ?_
      refine lv_isub hx hb dX6_settle_102 ?_
      refine u_iv h (fun x3 h => ?_)
      refine lv_iload hx hb dX6_settle_103 (lv_at hl 2 rfl) ?_
      refine lv_imul hx hb dX6_settle_105 ?_
      refine u_iv h (fun x4 h => ?_)
      refine lv_aload_n hx hb dX6_settle_106 rfl (lv_at hl 0 rfl) ?_
      refine u_getr C w hw (hP _ _ (isn_f rfl rfl (by decide))) rfl (N := 18) rfl rfl cin_6 8 (by decide) (by decide) (a2 := 15) (i2 := 0) rfl gw_295 dX6_settle_107 ?_
      refine lv_iload_n hx hb dX6_settle_110 rfl (lv_at hl 1 rfl) ?_
      obtain ⟨g5, h⟩ := gd_some h
      refine u_iald C w hw (hP _ _ (isn_f rfl rfl (by decide))) rfl rfl (n := 6) rfl (vp_in_iff.mpr g5) dX6_settle_111 ?_
      refine u_iv h (fun x6 h => ?_)
      obtain ⟨v7, S8, h9, h⟩ := bd_some h
      refine t_callS (n := 1) C w (c_X6_allWeights l D K b0 sa _ L _ ad P hP S hw hn x6 v7 S8 h9) gw_1008 gw_1006 gw_1007 gw_1 ⟨by decide, by decide, by decide +kernel⟩ rfl rfl ⟨by decide, by decide⟩ rfl hl.1 rfl (Nat.le_of_ble_eq_true rfl) dX6_settle_112 ⟨Nat.le_of_ble_eq_true rfl, Nat.le_of_ble_eq_true rfl⟩ (fun v9 u H locs hp w => ?_)
      obtain ⟨f2, rfl, rfl, hw, hn, hk1⟩ := hp
      have hk := hk.tr hk1
      generalize f2 = f at w hw hk
      refine lv_iadd hx hb dX6_settle_115 ?_
      refine u_iv h (fun x10 h => ?_)
      refine lv_imul hx hb dX6_settle_116 ?_
      refine u_iv h (fun x11 h => ?_)
      refine lv_iload hx hb dX6_settle_117 (lv_at hl 3 rfl) ?_
      refine lv_icmp_lt (tgt := 125) hx hb dX6_settle_119 (by decide) (fun c12 => ?_) (fun c12 => ?_)
      · have h := bb_t h c12
        obtain ⟨x13, ex13, h⟩ := iv_some h
        refine lv_iinc (v := x13) (lv' := [(7, .int x13), (0, .ref (ad 0 0)), (1, .int a1), (4, .int a4), (6, .int a6)]) hx hb dX6_settle_125 hl (k := 4) rfl ex13.symm (by decide) rfl (fun ls hl => ?_)
        refine lv_goto (tgt := 84) hx hb dX6_settle_128 (by decide) ?_
        exact hk84 a1 a4 a6 x13 S8 h f H locs w hw hn hk ls (lv_sub hl [1, 2, 3, 4, 0] rfl)
      · have h := bb_f h c12
        refine lv_iload hx hb dX6_settle_122 (lv_at hl 4 rfl) ?_
        refine vx_ret ?_
        exact t_iret C hr hlk w ⟨sx_e h, sx_v h, _, rfl, sx_w h hw, sx_n h hn, hk⟩ (by decide) (by decide) dX6_settle_124
  dsimp only [F_X6_settle] at h
  obtain ⟨f, ef⟩ : ∃ z, z = f0 := ⟨_, rfl⟩
  rw [← ef] at w hw
  have hk : Kp ad P L f0 f := by rw [ef]; exact Kp.rf
  obtain ⟨H, eH⟩ : ∃ z, z = s.heap := ⟨_, rfl⟩
  obtain ⟨locs, el⟩ : ∃ z : List Loc, z = [] := ⟨_, rfl⟩
  rw [← eH, ← el] at w ⊢
  refine lv_iload_n hx hb dX6_settle_0 rfl (lv_at hl 1 rfl) ?_
  refine lv_aload_n hx hb dX6_settle_1 rfl (lv_at hl 0 rfl) ?_
  refine u_geti C w hw (hP _ _ (isn_f rfl rfl (by decide))) rfl (N := 18) rfl rfl cin_6 9 (by decide) rfl gw_296 dX6_settle_2 ?_
  refine u_iv h (fun x14 h => ?_)
  rcases bx_some h with ⟨v15, S16, h17, h⟩ | ⟨e18, v15, S16, h17, h⟩
  rotate_left
  · refine t_xcallS (n := 2) C w (c_X6_needElement l hls D K b0 sa _ L _ ad P hP S0 hw hn p1 x14 (e18 + 1) v15 S16 h17) gw_656 gw_654 gw_655 gw_1 ⟨by decide, by decide, by decide +kernel⟩ rfl rfl ⟨by decide, by decide⟩ rfl hl.1 rfl (Nat.le_of_ble_eq_true rfl) dX6_settle_5 ⟨Nat.le_of_ble_eq_true rfl, Nat.le_of_ble_eq_true rfl⟩ (fun E ce q9 u H locs hp w hcell hv0 hcl => ?_) (fun v9 u H locs hp w => absurd hp.1 (Nat.succ_ne_zero _))
    obtain ⟨⟨he, hE⟩, f2, rfl, hw, hn, hk1⟩ := hp
    exact t_xout w htb hlk hcell hv0 hcl ⟨sz_e h he hE, _, rfl, sz_w h hw, sz_n h hn, hk.tr hk1⟩ (by decide) (by decide)
  refine t_xcallS (n := 2) C w (c_X6_needElement l hls D K b0 sa _ L _ ad P hP S0 hw hn p1 x14 0 v15 S16 h17) gw_656 gw_654 gw_655 gw_1 ⟨by decide, by decide, by decide +kernel⟩ rfl rfl ⟨by decide, by decide⟩ rfl hl.1 rfl (Nat.le_of_ble_eq_true rfl) dX6_settle_5 ⟨Nat.le_of_ble_eq_true rfl, Nat.le_of_ble_eq_true rfl⟩ (fun E ce q9 u H locs hp w hcell hv0 hcl => absurd rfl hp.1.1) (fun v9 u H locs hp w => ?_)
  obtain ⟨-, rfl, f2, rfl, hw, hn, hk1⟩ := hp
  have hk := hk.tr hk1
  generalize f2 = f at w hw hk
  refine lv_iload_n hx hb dX6_settle_8 rfl (lv_at hl 2 rfl) ?_
  rcases bx_some h with ⟨v19, S20, h21, h⟩ | ⟨e22, v19, S20, h21, h⟩
  rotate_left
  · refine t_xcallS (n := 1) C w (c_X6_needCell l hls D K b0 sa _ L _ ad P hP S16 hw hn p2 (e22 + 1) v19 S20 h21) gw_554 gw_552 gw_553 gw_1 ⟨by decide, by decide, by decide +kernel⟩ rfl rfl ⟨by decide, by decide⟩ rfl hl.1 rfl (Nat.le_of_ble_eq_true rfl) dX6_settle_9 ⟨Nat.le_of_ble_eq_true rfl, Nat.le_of_ble_eq_true rfl⟩ (fun E ce q9 u H locs hp w hcell hv0 hcl => ?_) (fun v9 u H locs hp w => absurd hp.1 (Nat.succ_ne_zero _))
    obtain ⟨⟨he, hE⟩, f2, rfl, hw, hn, hk1⟩ := hp
    exact t_xout w htb hlk hcell hv0 hcl ⟨sz_e h he hE, _, rfl, sz_w h hw, sz_n h hn, hk.tr hk1⟩ (by decide) (by decide)
  refine t_xcallS (n := 1) C w (c_X6_needCell l hls D K b0 sa _ L _ ad P hP S16 hw hn p2 0 v19 S20 h21) gw_554 gw_552 gw_553 gw_1 ⟨by decide, by decide, by decide +kernel⟩ rfl rfl ⟨by decide, by decide⟩ rfl hl.1 rfl (Nat.le_of_ble_eq_true rfl) dX6_settle_9 ⟨Nat.le_of_ble_eq_true rfl, Nat.le_of_ble_eq_true rfl⟩ (fun E ce q9 u H locs hp w hcell hv0 hcl => absurd rfl hp.1.1) (fun v9 u H locs hp w => ?_)
  obtain ⟨-, rfl, f2, rfl, hw, hn, hk1⟩ := hp
  have hk := hk.tr hk1
  generalize f2 = f at w hw hk
  refine lv_iload_n hx hb dX6_settle_12 rfl (lv_at hl 3 rfl) ?_
  refine lv_iconst (v := 0) hx hb dX6_settle_13 (by decide) ?_
  refine lv_sipush (v := 9999) hx hb dX6_settle_14 (by decide) ?_
  obtain ⟨v23, S24, h25, h⟩ := bd_some h
  refine t_callS (n := 3) C w (c_X6_within l D K b0 sa _ L _ ad P hP S20 hw hn p3 0 9999 v23 S24 h25) gw_376 gw_374 gw_375 gw_1 ⟨by decide, by decide, by decide +kernel⟩ rfl rfl ⟨by decide, by decide⟩ rfl hl.1 rfl (Nat.le_of_ble_eq_true rfl) dX6_settle_17 ⟨Nat.le_of_ble_eq_true rfl, Nat.le_of_ble_eq_true rfl⟩ (fun v9 u H locs hp w => ?_)
  obtain ⟨f2, rfl, rfl, hw, hn, hk1⟩ := hp
  have hk := hk.tr hk1
  generalize f2 = f at w hw hk
  rcases bx_some h with ⟨v26, S27, h28, h⟩ | ⟨e29, v26, S27, h28, h⟩
  rotate_left
  · refine t_xcallS (n := 1) C w (c_X6_need l hls D K b0 sa _ L _ ad P hP S24 hw hn v23 (e29 + 1) v26 S27 h28) gw_625 gw_623 gw_624 gw_1 ⟨by decide, by decide, by decide +kernel⟩ rfl rfl ⟨by decide, by decide⟩ rfl hl.1 rfl (Nat.le_of_ble_eq_true rfl) dX6_settle_20 ⟨Nat.le_of_ble_eq_true rfl, Nat.le_of_ble_eq_true rfl⟩ (fun E ce q9 u H locs hp w hcell hv0 hcl => ?_) (fun v9 u H locs hp w => absurd hp.1 (Nat.succ_ne_zero _))
    obtain ⟨⟨he, hE⟩, f2, rfl, hw, hn, hk1⟩ := hp
    exact t_xout w htb hlk hcell hv0 hcl ⟨sz_e h he hE, _, rfl, sz_w h hw, sz_n h hn, hk.tr hk1⟩ (by decide) (by decide)
  refine t_xcallS (n := 1) C w (c_X6_need l hls D K b0 sa _ L _ ad P hP S24 hw hn v23 0 v26 S27 h28) gw_625 gw_623 gw_624 gw_1 ⟨by decide, by decide, by decide +kernel⟩ rfl rfl ⟨by decide, by decide⟩ rfl hl.1 rfl (Nat.le_of_ble_eq_true rfl) dX6_settle_20 ⟨Nat.le_of_ble_eq_true rfl, Nat.le_of_ble_eq_true rfl⟩ (fun E ce q9 u H locs hp w hcell hv0 hcl => absurd rfl hp.1.1) (fun v9 u H locs hp w => ?_)
  obtain ⟨-, rfl, f2, rfl, hw, hn, hk1⟩ := hp
  have hk := hk.tr hk1
  generalize f2 = f at w hw hk
  refine lv_aload_n hx hb dX6_settle_23 rfl (lv_at hl 0 rfl) ?_
  refine u_getr C w hw (hP _ _ (isn_f rfl rfl (by decide))) rfl (N := 18) rfl rfl cin_6 8 (by decide) (by decide) (a2 := 15) (i2 := 0) rfl gw_295 dX6_settle_24 ?_
  refine lv_iload_n hx hb dX6_settle_27 rfl (lv_at hl 1 rfl) ?_
  obtain ⟨g30, h⟩ := gd_some h
  refine u_iald C w hw (hP _ _ (isn_f rfl rfl (by decide))) rfl rfl (n := 6) rfl (vp_in_iff.mpr g30) dX6_settle_28 ?_
  refine u_iv h (fun x31 h => ?_)
  refine lv_iload_n hx hb dX6_settle_29 rfl (lv_at hl 2 rfl) ?_
  obtain ⟨v32, S33, h34, h⟩ := bd_some h
  refine t_callS (n := 2) C w (c_X6_weightsReaching l D K b0 sa _ L _ ad P hP S27 hw hn x31 p2 v32 S33 h34) gw_1092 gw_1090 gw_1091 gw_1 ⟨by decide, by decide, by decide +kernel⟩ rfl rfl ⟨by decide, by decide⟩ rfl hl.1 rfl (Nat.le_of_ble_eq_true rfl) dX6_settle_30 ⟨Nat.le_of_ble_eq_true rfl, Nat.le_of_ble_eq_true rfl⟩ (fun v9 u H locs hp w => ?_)
  obtain ⟨f2, rfl, rfl, hw, hn, hk1⟩ := hp
  have hk := hk.tr hk1
  generalize f2 = f at w hw hk
  refine lv_istore (lv' := [(4, .int v32), (0, .ref (ad 0 0)), (1, .int p1), (2, .int p2), (3, .int p3)]) hx hb dX6_settle_33 hl (by decide) rfl (fun ls hl => ?_)
  refine lv_aload_n hx hb dX6_settle_35 rfl (lv_at hl 1 rfl) ?_
  refine u_getr C w hw (hP _ _ (isn_f rfl rfl (by decide))) rfl (N := 18) rfl rfl cin_6 0 (by decide) (by decide) (a2 := 1) (i2 := 0) rfl gw_287 dX6_settle_36 ?_
  refine u_getr C w hw (hP _ _ (isn_f rfl rfl (by decide))) rfl (N := 13) rfl rfl cin_0 0 (by decide) (by decide) (a2 := 2) (i2 := 0) rfl gw_89 dX6_settle_39 ?_
  refine u_getr C w hw (hP _ _ (isn_f rfl rfl (by decide))) rfl (N := 9) rfl rfl cin_2 8 (by decide) (by decide) (a2 := 10) (i2 := 0) rfl gw_65 dX6_settle_42 ?_
  refine lv_iload_n hx hb dX6_settle_45 rfl (lv_at hl 3 rfl) ?_
  obtain ⟨g35, h⟩ := gd_some h
  refine u_iald C w hw (hP _ _ (isn_f rfl rfl (by decide))) rfl rfl (n := 64) rfl (vp_in_iff.mpr g35) dX6_settle_46 ?_
  refine u_iv h (fun x36 h => ?_)
  refine lv_istore (lv' := [(5, .int x36), (4, .int v32), (0, .ref (ad 0 0)), (1, .int p1), (2, .int p2), (3, .int p3)]) hx hb dX6_settle_47 hl (by decide) rfl (fun ls hl => ?_)
  refine lv_iload hx hb dX6_settle_49 (lv_at hl 1 rfl) ?_
  refine lv_if_eq (tgt := 60) hx hb dX6_settle_51 (by decide) (fun c37 => ?_) (fun c37 => ?_)
  · have h := bb_t h c37
    refine lv_iconst (v := (-1)) hx hb dX6_settle_60 (by decide) ?_
    refine vx_ret ?_
    exact t_iret C hr hlk w ⟨sx_e h, sx_v h, _, rfl, sx_w h hw, sx_n h hn, hk⟩ (by decide) (by decide) dX6_settle_61
  · have h := bb_f h c37
    refine lv_iload hx hb dX6_settle_54 (lv_at hl 0 rfl) ?_
    refine lv_iconst (v := (-1)) hx hb dX6_settle_56 (by decide) ?_
    refine lv_icmp_ne (tgt := 62) hx hb dX6_settle_57 (by decide) (fun c38 => ?_) (fun c38 => ?_)
    · have h := bb_f h c38
      refine lv_aload_n hx hb dX6_settle_62 rfl (lv_at hl 2 rfl) ?_
      refine u_getr C w hw (hP _ _ (isn_f rfl rfl (by decide))) rfl (N := 18) rfl rfl cin_6 0 (by decide) (by decide) (a2 := 1) (i2 := 0) rfl gw_287 dX6_settle_63 ?_
      refine u_getr C w hw (hP _ _ (isn_f rfl rfl (by decide))) rfl (N := 13) rfl rfl cin_0 0 (by decide) (by decide) (a2 := 2) (i2 := 0) rfl gw_89 dX6_settle_66 ?_
      refine lv_iload hx hb dX6_settle_69 (lv_at hl 0 rfl) ?_
      obtain ⟨v39, S40, h41, h⟩ := bd_some h
      refine u_callV (n := 1) C w hw (hP _ _ (isn_f rfl rfl (by decide))) rfl rfl rfl (c_X2_valueOf l D K b0 sa _ L _ ad P hP S33 hw hn 0 (by decide) x36 v39 S40 h41) gw_974 gw_1093 gw_972 gw_973 gw_3 ⟨by decide, by decide, by decide +kernel⟩ rfl rfl ⟨by decide, by decide⟩ rfl hl.1 rfl (Nat.le_of_ble_eq_true rfl) dX6_settle_71 ⟨Nat.le_of_ble_eq_true rfl, Nat.le_of_ble_eq_true rfl⟩ (fun v9 u H locs hp w => ?_)
      obtain ⟨f2, rfl, rfl, hw, hn, hk1⟩ := hp
      have hk := hk.tr hk1
      generalize f2 = f at w hw hk
      refine lv_iload_n hx hb dX6_settle_74 rfl (lv_at hl 5 rfl) ?_
      refine lv_iadd hx hb dX6_settle_75 ?_
      refine u_iv h (fun x42 h => ?_)
      refine lv_iload hx hb dX6_settle_76 (lv_at hl 1 rfl) ?_
      refine lv_imul hx hb dX6_settle_78 ?_
      refine u_iv h (fun x43 h => ?_)
      refine lv_istore (lv' := [(6, .int x43), (5, .int x36), (4, .int v32), (0, .ref (ad 0 0)), (1, .int p1), (2, .int p2), (3, .int p3)]) hx hb dX6_settle_79 hl (by decide) rfl (fun ls hl => ?_)
      refine lv_iconst (v := 1) hx hb dX6_settle_81 (by decide) ?_
      refine lv_istore (lv' := [(7, .int 1), (6, .int x43), (5, .int x36), (4, .int v32), (0, .ref (ad 0 0)), (1, .int p1), (2, .int p2), (3, .int p3)]) hx hb dX6_settle_82 hl (by decide) rfl (fun ls hl => ?_)
      exact J84  fuel p1 v32 x43 1 S40 h f H locs w hw hn hk ls (lv_sub hl [4, 5, 3, 1, 0] rfl)
    · have h := bb_t h c38
      refine lv_iconst (v := (-1)) hx hb dX6_settle_60 (by decide) ?_
      refine vx_ret ?_
      exact t_iret C hr hlk w ⟨sx_e h, sx_v h, _, rfl, sx_w h hw, sx_n h hn, hk⟩ (by decide) (by decide) dX6_settle_61
